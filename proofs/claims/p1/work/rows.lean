section
-- ===== PART A: goes FIRST, ahead of the names: the tables' words, and 'selects' of the private methods out of them =====
/-- a private method of a class that the tables say can be made, by its rows of tables_1 -/
def lw_okq (q : MethodName × Nat) : Prop := (q.1.cls ≠ "java/lang/invoke/MethodHandle" ∧ q.1.cls ≠ "java/lang/invoke/VarHandle") ∧ Cond.instantiable q.1.cls q.2 ∈ tables_1 ∧ Cond.privateMethod q.1 ∈ tables_1 ∧ Cond.instanceMethod q.1 ∈ tables_1
theorem lw_p0 : lw_okq (⟨"PackWeeks", "beginPack", "()V"⟩, 14) := ⟨⟨by decide +kernel, by decide +kernel⟩, List.mem_of_getElem? (i := 22) (by decide +kernel), List.mem_of_getElem? (i := 419) (by decide +kernel), List.mem_of_getElem? (i := 420) (by decide +kernel)⟩
theorem lw_p1 : lw_okq (⟨"PackWeeks$Tape", "cutToken", "(I)I"⟩, 9) := ⟨⟨by decide +kernel, by decide +kernel⟩, List.mem_of_getElem? (i := 30) (by decide +kernel), List.mem_of_getElem? (i := 504) (by decide +kernel), List.mem_of_getElem? (i := 505) (by decide +kernel)⟩
theorem lw_p2 : lw_okq (⟨"PackWeeks$Tape", "cutWord", "(I)I"⟩, 9) := ⟨⟨by decide +kernel, by decide +kernel⟩, List.mem_of_getElem? (i := 30) (by decide +kernel), List.mem_of_getElem? (i := 511) (by decide +kernel), List.mem_of_getElem? (i := 512) (by decide +kernel)⟩
theorem lw_p3 : lw_okq (⟨"PackWeeks$Tape", "addToken", "(IIJ)V"⟩, 9) := ⟨⟨by decide +kernel, by decide +kernel⟩, List.mem_of_getElem? (i := 30) (by decide +kernel), List.mem_of_getElem? (i := 516) (by decide +kernel), List.mem_of_getElem? (i := 517) (by decide +kernel)⟩
theorem lw_p4 : lw_okq (⟨"PackWeeks$Tape", "cutNumber", "(I)I"⟩, 9) := ⟨⟨by decide +kernel, by decide +kernel⟩, List.mem_of_getElem? (i := 30) (by decide +kernel), List.mem_of_getElem? (i := 528) (by decide +kernel), List.mem_of_getElem? (i := 529) (by decide +kernel)⟩
theorem lw_p5 : lw_okq (⟨"PackWeeks$Reader", "packLine", "(LPackWeeks$Word;)V"⟩, 8) := ⟨⟨by decide +kernel, by decide +kernel⟩, List.mem_of_getElem? (i := 71) (by decide +kernel), List.mem_of_getElem? (i := 582) (by decide +kernel), List.mem_of_getElem? (i := 583) (by decide +kernel)⟩
theorem lw_p6 : lw_okq (⟨"PackWeeks$Reader", "driftLine", "()V"⟩, 8) := ⟨⟨by decide +kernel, by decide +kernel⟩, List.mem_of_getElem? (i := 71) (by decide +kernel), List.mem_of_getElem? (i := 588) (by decide +kernel), List.mem_of_getElem? (i := 589) (by decide +kernel)⟩
theorem lw_p7 : lw_okq (⟨"PackWeeks$Reader", "thingLine", "()V"⟩, 8) := ⟨⟨by decide +kernel, by decide +kernel⟩, List.mem_of_getElem? (i := 71) (by decide +kernel), List.mem_of_getElem? (i := 600) (by decide +kernel), List.mem_of_getElem? (i := 601) (by decide +kernel)⟩
theorem lw_p8 : lw_okq (⟨"PackWeeks$Reader", "startRow", "(LPackWeeks$Rows;)V"⟩, 8) := ⟨⟨by decide +kernel, by decide +kernel⟩, List.mem_of_getElem? (i := 71) (by decide +kernel), List.mem_of_getElem? (i := 604) (by decide +kernel), List.mem_of_getElem? (i := 605) (by decide +kernel)⟩
theorem lw_p9 : lw_okq (⟨"PackWeeks$Reader", "newName", "()J"⟩, 8) := ⟨⟨by decide +kernel, by decide +kernel⟩, List.mem_of_getElem? (i := 71) (by decide +kernel), List.mem_of_getElem? (i := 613) (by decide +kernel), List.mem_of_getElem? (i := 614) (by decide +kernel)⟩
theorem lw_p10 : lw_okq (⟨"PackWeeks$Reader", "endRow", "(LPackWeeks$Rows;JIIII)V"⟩, 8) := ⟨⟨by decide +kernel, by decide +kernel⟩, List.mem_of_getElem? (i := 71) (by decide +kernel), List.mem_of_getElem? (i := 631) (by decide +kernel), List.mem_of_getElem? (i := 632) (by decide +kernel)⟩
theorem lw_p11 : lw_okq (⟨"PackWeeks$Reader", "leadLine", "()V"⟩, 8) := ⟨⟨by decide +kernel, by decide +kernel⟩, List.mem_of_getElem? (i := 71) (by decide +kernel), List.mem_of_getElem? (i := 642) (by decide +kernel), List.mem_of_getElem? (i := 643) (by decide +kernel)⟩
theorem lw_p12 : lw_okq (⟨"PackWeeks$Reader", "crewLine", "()V"⟩, 8) := ⟨⟨by decide +kernel, by decide +kernel⟩, List.mem_of_getElem? (i := 71) (by decide +kernel), List.mem_of_getElem? (i := 661) (by decide +kernel), List.mem_of_getElem? (i := 662) (by decide +kernel)⟩
theorem lw_p13 : lw_okq (⟨"PackWeeks$Reader", "paceLine", "()V"⟩, 8) := ⟨⟨by decide +kernel, by decide +kernel⟩, List.mem_of_getElem? (i := 71) (by decide +kernel), List.mem_of_getElem? (i := 679) (by decide +kernel), List.mem_of_getElem? (i := 680) (by decide +kernel)⟩
theorem lw_p14 : lw_okq (⟨"PackWeeks$Reader", "gapLine", "()V"⟩, 8) := ⟨⟨by decide +kernel, by decide +kernel⟩, List.mem_of_getElem? (i := 71) (by decide +kernel), List.mem_of_getElem? (i := 685) (by decide +kernel), List.mem_of_getElem? (i := 686) (by decide +kernel)⟩
theorem lw_p15 : lw_okq (⟨"PackWeeks$Reader", "signLine", "()V"⟩, 8) := ⟨⟨by decide +kernel, by decide +kernel⟩, List.mem_of_getElem? (i := 71) (by decide +kernel), List.mem_of_getElem? (i := 695) (by decide +kernel), List.mem_of_getElem? (i := 696) (by decide +kernel)⟩
def lw_privs_1 : List (MethodName × Nat) := [(⟨"PackWeeks", "beginPack", "()V"⟩, 14), (⟨"PackWeeks$Tape", "cutToken", "(I)I"⟩, 9), (⟨"PackWeeks$Tape", "cutWord", "(I)I"⟩, 9), (⟨"PackWeeks$Tape", "addToken", "(IIJ)V"⟩, 9), (⟨"PackWeeks$Tape", "cutNumber", "(I)I"⟩, 9), (⟨"PackWeeks$Reader", "packLine", "(LPackWeeks$Word;)V"⟩, 8), (⟨"PackWeeks$Reader", "driftLine", "()V"⟩, 8), (⟨"PackWeeks$Reader", "thingLine", "()V"⟩, 8), (⟨"PackWeeks$Reader", "startRow", "(LPackWeeks$Rows;)V"⟩, 8), (⟨"PackWeeks$Reader", "newName", "()J"⟩, 8), (⟨"PackWeeks$Reader", "endRow", "(LPackWeeks$Rows;JIIII)V"⟩, 8), (⟨"PackWeeks$Reader", "leadLine", "()V"⟩, 8), (⟨"PackWeeks$Reader", "crewLine", "()V"⟩, 8), (⟨"PackWeeks$Reader", "paceLine", "()V"⟩, 8), (⟨"PackWeeks$Reader", "gapLine", "()V"⟩, 8), (⟨"PackWeeks$Reader", "signLine", "()V"⟩, 8)]
theorem lw_r1 : ∀ q ∈ lw_privs_1, lw_okq q := List.forall_mem_cons.mpr ⟨lw_p0, List.forall_mem_cons.mpr ⟨lw_p1, List.forall_mem_cons.mpr ⟨lw_p2, List.forall_mem_cons.mpr ⟨lw_p3, List.forall_mem_cons.mpr ⟨lw_p4, List.forall_mem_cons.mpr ⟨lw_p5, List.forall_mem_cons.mpr ⟨lw_p6, List.forall_mem_cons.mpr ⟨lw_p7, List.forall_mem_cons.mpr ⟨lw_p8, List.forall_mem_cons.mpr ⟨lw_p9, List.forall_mem_cons.mpr ⟨lw_p10, List.forall_mem_cons.mpr ⟨lw_p11, List.forall_mem_cons.mpr ⟨lw_p12, List.forall_mem_cons.mpr ⟨lw_p13, List.forall_mem_cons.mpr ⟨lw_p14, List.forall_mem_cons.mpr ⟨lw_p15, fun _ h => absurd h List.not_mem_nil⟩⟩⟩⟩⟩⟩⟩⟩⟩⟩⟩⟩⟩⟩⟩⟩
theorem lw_p16 : lw_okq (⟨"PackWeeks$Reader", "loadLine", "()V"⟩, 8) := ⟨⟨by decide +kernel, by decide +kernel⟩, List.mem_of_getElem? (i := 71) (by decide +kernel), List.mem_of_getElem? (i := 703) (by decide +kernel), List.mem_of_getElem? (i := 704) (by decide +kernel)⟩
theorem lw_p17 : lw_okq (⟨"PackWeeks$Reader", "lawLine", "(LPackWeeks$Word;LPackWeeks$Law;Z)Z"⟩, 8) := ⟨⟨by decide +kernel, by decide +kernel⟩, List.mem_of_getElem? (i := 71) (by decide +kernel), List.mem_of_getElem? (i := 713) (by decide +kernel), List.mem_of_getElem? (i := 714) (by decide +kernel)⟩
theorem lw_p18 : lw_okq (⟨"PackWeeks$Reader", "readLevel", "(II)V"⟩, 8) := ⟨⟨by decide +kernel, by decide +kernel⟩, List.mem_of_getElem? (i := 71) (by decide +kernel), List.mem_of_getElem? (i := 718) (by decide +kernel), List.mem_of_getElem? (i := 719) (by decide +kernel)⟩
theorem lw_p19 : lw_okq (⟨"PackWeeks$Reader", "readPart", "(I)V"⟩, 8) := ⟨⟨by decide +kernel, by decide +kernel⟩, List.mem_of_getElem? (i := 71) (by decide +kernel), List.mem_of_getElem? (i := 722) (by decide +kernel), List.mem_of_getElem? (i := 723) (by decide +kernel)⟩
theorem lw_p20 : lw_okq (⟨"PackWeeks$Reader", "beginsPart", "()Z"⟩, 8) := ⟨⟨by decide +kernel, by decide +kernel⟩, List.mem_of_getElem? (i := 71) (by decide +kernel), List.mem_of_getElem? (i := 726) (by decide +kernel), List.mem_of_getElem? (i := 727) (by decide +kernel)⟩
theorem lw_p21 : lw_okq (⟨"PackWeeks$Reader", "isFact", "(LPackWeeks$Word;)Z"⟩, 8) := ⟨⟨by decide +kernel, by decide +kernel⟩, List.mem_of_getElem? (i := 71) (by decide +kernel), List.mem_of_getElem? (i := 734) (by decide +kernel), List.mem_of_getElem? (i := 735) (by decide +kernel)⟩
theorem lw_p22 : lw_okq (⟨"PackWeeks$Reader", "addFact", "(LPackWeeks$Word;)V"⟩, 8) := ⟨⟨by decide +kernel, by decide +kernel⟩, List.mem_of_getElem? (i := 71) (by decide +kernel), List.mem_of_getElem? (i := 749) (by decide +kernel), List.mem_of_getElem? (i := 750) (by decide +kernel)⟩
theorem lw_p23 : lw_okq (⟨"PackWeeks$Reader", "operatorHere", "(I)I"⟩, 8) := ⟨⟨by decide +kernel, by decide +kernel⟩, List.mem_of_getElem? (i := 71) (by decide +kernel), List.mem_of_getElem? (i := 753) (by decide +kernel), List.mem_of_getElem? (i := 754) (by decide +kernel)⟩
theorem lw_p24 : lw_okq (⟨"PackWeeks$Reader", "weekLine", "(LPackWeeks$Word;LPackWeeks$Rows;)V"⟩, 8) := ⟨⟨by decide +kernel, by decide +kernel⟩, List.mem_of_getElem? (i := 71) (by decide +kernel), List.mem_of_getElem? (i := 773) (by decide +kernel), List.mem_of_getElem? (i := 774) (by decide +kernel)⟩
theorem lw_p25 : lw_okq (⟨"PackWeeks$Reader", "crewHere", "()I"⟩, 8) := ⟨⟨by decide +kernel, by decide +kernel⟩, List.mem_of_getElem? (i := 71) (by decide +kernel), List.mem_of_getElem? (i := 779) (by decide +kernel), List.mem_of_getElem? (i := 780) (by decide +kernel)⟩
theorem lw_p26 : lw_okq (⟨"PackWeeks", "byHand", "(III)I"⟩, 14) := ⟨⟨by decide +kernel, by decide +kernel⟩, List.mem_of_getElem? (i := 22) (by decide +kernel), List.mem_of_getElem? (i := 814) (by decide +kernel), List.mem_of_getElem? (i := 815) (by decide +kernel)⟩
theorem lw_p27 : lw_okq (⟨"PackWeeks", "act", "(LPackWeeks$Stand;III)I"⟩, 14) := ⟨⟨by decide +kernel, by decide +kernel⟩, List.mem_of_getElem? (i := 22) (by decide +kernel), List.mem_of_getElem? (i := 822) (by decide +kernel), List.mem_of_getElem? (i := 823) (by decide +kernel)⟩
theorem lw_p28 : lw_okq (⟨"PackWeeks", "areTwoThings", "(II)Z"⟩, 14) := ⟨⟨by decide +kernel, by decide +kernel⟩, List.mem_of_getElem? (i := 22) (by decide +kernel), List.mem_of_getElem? (i := 923) (by decide +kernel), List.mem_of_getElem? (i := 924) (by decide +kernel)⟩
theorem lw_p29 : lw_okq (⟨"PackWeeks", "soonest", "(IIII)I"⟩, 14) := ⟨⟨by decide +kernel, by decide +kernel⟩, List.mem_of_getElem? (i := 22) (by decide +kernel), List.mem_of_getElem? (i := 931) (by decide +kernel), List.mem_of_getElem? (i := 932) (by decide +kernel)⟩
theorem lw_p30 : lw_okq (⟨"PackWeeks$Sights", "firstStep", "(I)I"⟩, 5) := ⟨⟨by decide +kernel, by decide +kernel⟩, List.mem_of_getElem? (i := 160) (by decide +kernel), List.mem_of_getElem? (i := 960) (by decide +kernel), List.mem_of_getElem? (i := 961) (by decide +kernel)⟩
theorem lw_p31 : lw_okq (⟨"PackWeeks$Sights", "agrees", "(LPackWeeks$Pack;II)Z"⟩, 5) := ⟨⟨by decide +kernel, by decide +kernel⟩, List.mem_of_getElem? (i := 160) (by decide +kernel), List.mem_of_getElem? (i := 970) (by decide +kernel), List.mem_of_getElem? (i := 971) (by decide +kernel)⟩
def lw_privs_2 : List (MethodName × Nat) := [(⟨"PackWeeks$Reader", "loadLine", "()V"⟩, 8), (⟨"PackWeeks$Reader", "lawLine", "(LPackWeeks$Word;LPackWeeks$Law;Z)Z"⟩, 8), (⟨"PackWeeks$Reader", "readLevel", "(II)V"⟩, 8), (⟨"PackWeeks$Reader", "readPart", "(I)V"⟩, 8), (⟨"PackWeeks$Reader", "beginsPart", "()Z"⟩, 8), (⟨"PackWeeks$Reader", "isFact", "(LPackWeeks$Word;)Z"⟩, 8), (⟨"PackWeeks$Reader", "addFact", "(LPackWeeks$Word;)V"⟩, 8), (⟨"PackWeeks$Reader", "operatorHere", "(I)I"⟩, 8), (⟨"PackWeeks$Reader", "weekLine", "(LPackWeeks$Word;LPackWeeks$Rows;)V"⟩, 8), (⟨"PackWeeks$Reader", "crewHere", "()I"⟩, 8), (⟨"PackWeeks", "byHand", "(III)I"⟩, 14), (⟨"PackWeeks", "act", "(LPackWeeks$Stand;III)I"⟩, 14), (⟨"PackWeeks", "areTwoThings", "(II)Z"⟩, 14), (⟨"PackWeeks", "soonest", "(IIII)I"⟩, 14), (⟨"PackWeeks$Sights", "firstStep", "(I)I"⟩, 5), (⟨"PackWeeks$Sights", "agrees", "(LPackWeeks$Pack;II)Z"⟩, 5)]
theorem lw_r2 : ∀ q ∈ lw_privs_2, lw_okq q := List.forall_mem_cons.mpr ⟨lw_p16, List.forall_mem_cons.mpr ⟨lw_p17, List.forall_mem_cons.mpr ⟨lw_p18, List.forall_mem_cons.mpr ⟨lw_p19, List.forall_mem_cons.mpr ⟨lw_p20, List.forall_mem_cons.mpr ⟨lw_p21, List.forall_mem_cons.mpr ⟨lw_p22, List.forall_mem_cons.mpr ⟨lw_p23, List.forall_mem_cons.mpr ⟨lw_p24, List.forall_mem_cons.mpr ⟨lw_p25, List.forall_mem_cons.mpr ⟨lw_p26, List.forall_mem_cons.mpr ⟨lw_p27, List.forall_mem_cons.mpr ⟨lw_p28, List.forall_mem_cons.mpr ⟨lw_p29, List.forall_mem_cons.mpr ⟨lw_p30, List.forall_mem_cons.mpr ⟨lw_p31, fun _ h => absurd h List.not_mem_nil⟩⟩⟩⟩⟩⟩⟩⟩⟩⟩⟩⟩⟩⟩⟩⟩
theorem lw_p32 : lw_okq (⟨"PackWeeks$Sights", "mostAlike", "(LPackWeeks$Pack;JII)I"⟩, 5) := ⟨⟨by decide +kernel, by decide +kernel⟩, List.mem_of_getElem? (i := 160) (by decide +kernel), List.mem_of_getElem? (i := 1001) (by decide +kernel), List.mem_of_getElem? (i := 1002) (by decide +kernel)⟩
theorem lw_p33 : lw_okq (⟨"PackWeeks$Reckoner", "fillGapDay", "(LPackWeeks$Rows;II)V"⟩, 11) := ⟨⟨by decide +kernel, by decide +kernel⟩, List.mem_of_getElem? (i := 183) (by decide +kernel), List.mem_of_getElem? (i := 1023) (by decide +kernel), List.mem_of_getElem? (i := 1024) (by decide +kernel)⟩
theorem lw_p34 : lw_okq (⟨"PackWeeks$Reckoner", "openChance", "(LPackWeeks$Rows;III)I"⟩, 11) := ⟨⟨by decide +kernel, by decide +kernel⟩, List.mem_of_getElem? (i := 183) (by decide +kernel), List.mem_of_getElem? (i := 1031) (by decide +kernel), List.mem_of_getElem? (i := 1032) (by decide +kernel)⟩
theorem lw_p35 : lw_okq (⟨"PackWeeks$Reckoner", "fillLook", "(II)I"⟩, 11) := ⟨⟨by decide +kernel, by decide +kernel⟩, List.mem_of_getElem? (i := 183) (by decide +kernel), List.mem_of_getElem? (i := 1056) (by decide +kernel), List.mem_of_getElem? (i := 1057) (by decide +kernel)⟩
theorem lw_p36 : lw_okq (⟨"PackWeeks$Reckoner", "orderSigns", "(LPackWeeks$Rows;)V"⟩, 11) := ⟨⟨by decide +kernel, by decide +kernel⟩, List.mem_of_getElem? (i := 183) (by decide +kernel), List.mem_of_getElem? (i := 1073) (by decide +kernel), List.mem_of_getElem? (i := 1074) (by decide +kernel)⟩
theorem lw_p37 : lw_okq (⟨"PackWeeks$Reckoner", "growLeaves", "(LPackWeeks$Rows;I)V"⟩, 11) := ⟨⟨by decide +kernel, by decide +kernel⟩, List.mem_of_getElem? (i := 183) (by decide +kernel), List.mem_of_getElem? (i := 1077) (by decide +kernel), List.mem_of_getElem? (i := 1078) (by decide +kernel)⟩
theorem lw_p38 : lw_okq (⟨"PackWeeks$Reckoner", "weighLeaves", "(LPackWeeks$Rows;[I)V"⟩, 11) := ⟨⟨by decide +kernel, by decide +kernel⟩, List.mem_of_getElem? (i := 183) (by decide +kernel), List.mem_of_getElem? (i := 1081) (by decide +kernel), List.mem_of_getElem? (i := 1082) (by decide +kernel)⟩
theorem lw_p39 : lw_okq (⟨"PackWeeks$Reckoner", "isShorter", "([II)Z"⟩, 11) := ⟨⟨by decide +kernel, by decide +kernel⟩, List.mem_of_getElem? (i := 183) (by decide +kernel), List.mem_of_getElem? (i := 1085) (by decide +kernel), List.mem_of_getElem? (i := 1086) (by decide +kernel)⟩
theorem lw_p40 : lw_okq (⟨"PackWeeks$Reckoner", "partLeaf", "(II)V"⟩, 11) := ⟨⟨by decide +kernel, by decide +kernel⟩, List.mem_of_getElem? (i := 183) (by decide +kernel), List.mem_of_getElem? (i := 1089) (by decide +kernel), List.mem_of_getElem? (i := 1090) (by decide +kernel)⟩
theorem lw_p41 : lw_okq (⟨"PackWeeks$Reckoner", "fillLoad", "(LPackWeeks$Rows;I)V"⟩, 11) := ⟨⟨by decide +kernel, by decide +kernel⟩, List.mem_of_getElem? (i := 183) (by decide +kernel), List.mem_of_getElem? (i := 1108) (by decide +kernel), List.mem_of_getElem? (i := 1109) (by decide +kernel)⟩
theorem lw_p42 : lw_okq (⟨"PackWeeks$Reckoner", "loadMean", "(LPackWeeks$Rows;III)I"⟩, 11) := ⟨⟨by decide +kernel, by decide +kernel⟩, List.mem_of_getElem? (i := 183) (by decide +kernel), List.mem_of_getElem? (i := 1112) (by decide +kernel), List.mem_of_getElem? (i := 1113) (by decide +kernel)⟩
theorem lw_p43 : lw_okq (⟨"PackWeeks$Stand", "isInhabited", "(LPackWeeks$Pack;I)Z"⟩, 7) := ⟨⟨by decide +kernel, by decide +kernel⟩, List.mem_of_getElem? (i := 102) (by decide +kernel), List.mem_of_getElem? (i := 1140) (by decide +kernel), List.mem_of_getElem? (i := 1141) (by decide +kernel)⟩
theorem lw_p44 : lw_okq (⟨"java/lang/Throwable", "fillInStackTrace", "(I)Ljava/lang/Throwable;"⟩, 6) := ⟨⟨by decide +kernel, by decide +kernel⟩, List.mem_of_getElem? (i := 1204) (by decide +kernel), List.mem_of_getElem? (i := 1202) (by decide +kernel), List.mem_of_getElem? (i := 1203) (by decide +kernel)⟩
theorem lw_p45 : lw_okq (⟨"PackWeeksModel", "lay", "(J)V"⟩, 41) := ⟨⟨by decide +kernel, by decide +kernel⟩, List.mem_of_getElem? (i := 1263) (by decide +kernel), List.mem_of_getElem? (i := 1261) (by decide +kernel), List.mem_of_getElem? (i := 1262) (by decide +kernel)⟩
theorem lw_p46 : lw_okq (⟨"PackWeeksModel", "standsAsAlways", "(I)V"⟩, 41) := ⟨⟨by decide +kernel, by decide +kernel⟩, List.mem_of_getElem? (i := 1263) (by decide +kernel), List.mem_of_getElem? (i := 1313) (by decide +kernel), List.mem_of_getElem? (i := 1314) (by decide +kernel)⟩
theorem lw_p47 : lw_okq (⟨"PackWeeksModel", "begins", "()V"⟩, 41) := ⟨⟨by decide +kernel, by decide +kernel⟩, List.mem_of_getElem? (i := 1263) (by decide +kernel), List.mem_of_getElem? (i := 1317) (by decide +kernel), List.mem_of_getElem? (i := 1318) (by decide +kernel)⟩
def lw_privs_3 : List (MethodName × Nat) := [(⟨"PackWeeks$Sights", "mostAlike", "(LPackWeeks$Pack;JII)I"⟩, 5), (⟨"PackWeeks$Reckoner", "fillGapDay", "(LPackWeeks$Rows;II)V"⟩, 11), (⟨"PackWeeks$Reckoner", "openChance", "(LPackWeeks$Rows;III)I"⟩, 11), (⟨"PackWeeks$Reckoner", "fillLook", "(II)I"⟩, 11), (⟨"PackWeeks$Reckoner", "orderSigns", "(LPackWeeks$Rows;)V"⟩, 11), (⟨"PackWeeks$Reckoner", "growLeaves", "(LPackWeeks$Rows;I)V"⟩, 11), (⟨"PackWeeks$Reckoner", "weighLeaves", "(LPackWeeks$Rows;[I)V"⟩, 11), (⟨"PackWeeks$Reckoner", "isShorter", "([II)Z"⟩, 11), (⟨"PackWeeks$Reckoner", "partLeaf", "(II)V"⟩, 11), (⟨"PackWeeks$Reckoner", "fillLoad", "(LPackWeeks$Rows;I)V"⟩, 11), (⟨"PackWeeks$Reckoner", "loadMean", "(LPackWeeks$Rows;III)I"⟩, 11), (⟨"PackWeeks$Stand", "isInhabited", "(LPackWeeks$Pack;I)Z"⟩, 7), (⟨"java/lang/Throwable", "fillInStackTrace", "(I)Ljava/lang/Throwable;"⟩, 6), (⟨"PackWeeksModel", "lay", "(J)V"⟩, 41), (⟨"PackWeeksModel", "standsAsAlways", "(I)V"⟩, 41), (⟨"PackWeeksModel", "begins", "()V"⟩, 41)]
theorem lw_r3 : ∀ q ∈ lw_privs_3, lw_okq q := List.forall_mem_cons.mpr ⟨lw_p32, List.forall_mem_cons.mpr ⟨lw_p33, List.forall_mem_cons.mpr ⟨lw_p34, List.forall_mem_cons.mpr ⟨lw_p35, List.forall_mem_cons.mpr ⟨lw_p36, List.forall_mem_cons.mpr ⟨lw_p37, List.forall_mem_cons.mpr ⟨lw_p38, List.forall_mem_cons.mpr ⟨lw_p39, List.forall_mem_cons.mpr ⟨lw_p40, List.forall_mem_cons.mpr ⟨lw_p41, List.forall_mem_cons.mpr ⟨lw_p42, List.forall_mem_cons.mpr ⟨lw_p43, List.forall_mem_cons.mpr ⟨lw_p44, List.forall_mem_cons.mpr ⟨lw_p45, List.forall_mem_cons.mpr ⟨lw_p46, List.forall_mem_cons.mpr ⟨lw_p47, fun _ h => absurd h List.not_mem_nil⟩⟩⟩⟩⟩⟩⟩⟩⟩⟩⟩⟩⟩⟩⟩⟩
theorem lw_p48 : lw_okq (⟨"PackWeeksModel", "starts", "(I)V"⟩, 41) := ⟨⟨by decide +kernel, by decide +kernel⟩, List.mem_of_getElem? (i := 1263) (by decide +kernel), List.mem_of_getElem? (i := 1321) (by decide +kernel), List.mem_of_getElem? (i := 1322) (by decide +kernel)⟩
theorem lw_p49 : lw_okq (⟨"PackWeeksModel", "crewOf", "(II)I"⟩, 41) := ⟨⟨by decide +kernel, by decide +kernel⟩, List.mem_of_getElem? (i := 1263) (by decide +kernel), List.mem_of_getElem? (i := 1325) (by decide +kernel), List.mem_of_getElem? (i := 1326) (by decide +kernel)⟩
theorem lw_p50 : lw_okq (⟨"PackWeeksModel", "cutAll", "()V"⟩, 41) := ⟨⟨by decide +kernel, by decide +kernel⟩, List.mem_of_getElem? (i := 1263) (by decide +kernel), List.mem_of_getElem? (i := 1457) (by decide +kernel), List.mem_of_getElem? (i := 1458) (by decide +kernel)⟩
theorem lw_p51 : lw_okq (⟨"PackWeeksModel", "takeWord", "(I)V"⟩, 41) := ⟨⟨by decide +kernel, by decide +kernel⟩, List.mem_of_getElem? (i := 1263) (by decide +kernel), List.mem_of_getElem? (i := 1476) (by decide +kernel), List.mem_of_getElem? (i := 1477) (by decide +kernel)⟩
theorem lw_p52 : lw_okq (⟨"PackWeeksModel", "hasWord", "(I)Z"⟩, 41) := ⟨⟨by decide +kernel, by decide +kernel⟩, List.mem_of_getElem? (i := 1263) (by decide +kernel), List.mem_of_getElem? (i := 1480) (by decide +kernel), List.mem_of_getElem? (i := 1481) (by decide +kernel)⟩
theorem lw_p53 : lw_okq (⟨"PackWeeksModel", "isWord", "(I)Z"⟩, 41) := ⟨⟨by decide +kernel, by decide +kernel⟩, List.mem_of_getElem? (i := 1263) (by decide +kernel), List.mem_of_getElem? (i := 1484) (by decide +kernel), List.mem_of_getElem? (i := 1485) (by decide +kernel)⟩
theorem lw_p54 : lw_okq (⟨"PackWeeksModel", "wrong", "(I)V"⟩, 41) := ⟨⟨by decide +kernel, by decide +kernel⟩, List.mem_of_getElem? (i := 1263) (by decide +kernel), List.mem_of_getElem? (i := 1488) (by decide +kernel), List.mem_of_getElem? (i := 1489) (by decide +kernel)⟩
theorem lw_p55 : lw_okq (⟨"PackWeeksModel", "takeNumber", "(II)I"⟩, 41) := ⟨⟨by decide +kernel, by decide +kernel⟩, List.mem_of_getElem? (i := 1263) (by decide +kernel), List.mem_of_getElem? (i := 1492) (by decide +kernel), List.mem_of_getElem? (i := 1493) (by decide +kernel)⟩
theorem lw_p56 : lw_okq (⟨"PackWeeksModel", "takeSign", "(I)V"⟩, 41) := ⟨⟨by decide +kernel, by decide +kernel⟩, List.mem_of_getElem? (i := 1263) (by decide +kernel), List.mem_of_getElem? (i := 1496) (by decide +kernel), List.mem_of_getElem? (i := 1497) (by decide +kernel)⟩
theorem lw_p57 : lw_okq (⟨"PackWeeksModel", "isSign", "(I)Z"⟩, 41) := ⟨⟨by decide +kernel, by decide +kernel⟩, List.mem_of_getElem? (i := 1263) (by decide +kernel), List.mem_of_getElem? (i := 1500) (by decide +kernel), List.mem_of_getElem? (i := 1501) (by decide +kernel)⟩
theorem lw_p58 : lw_okq (⟨"PackWeeksModel", "readLine", "()V"⟩, 41) := ⟨⟨by decide +kernel, by decide +kernel⟩, List.mem_of_getElem? (i := 1263) (by decide +kernel), List.mem_of_getElem? (i := 1504) (by decide +kernel), List.mem_of_getElem? (i := 1505) (by decide +kernel)⟩
theorem lw_p59 : lw_okq (⟨"PackWeeksModel", "readDrift", "()V"⟩, 41) := ⟨⟨by decide +kernel, by decide +kernel⟩, List.mem_of_getElem? (i := 1263) (by decide +kernel), List.mem_of_getElem? (i := 1508) (by decide +kernel), List.mem_of_getElem? (i := 1509) (by decide +kernel)⟩
theorem lw_p60 : lw_okq (⟨"PackWeeksModel", "lastDown", "()I"⟩, 41) := ⟨⟨by decide +kernel, by decide +kernel⟩, List.mem_of_getElem? (i := 1263) (by decide +kernel), List.mem_of_getElem? (i := 1512) (by decide +kernel), List.mem_of_getElem? (i := 1513) (by decide +kernel)⟩
theorem lw_p61 : lw_okq (⟨"PackWeeksModel", "takeOne", "(II)I"⟩, 41) := ⟨⟨by decide +kernel, by decide +kernel⟩, List.mem_of_getElem? (i := 1263) (by decide +kernel), List.mem_of_getElem? (i := 1516) (by decide +kernel), List.mem_of_getElem? (i := 1517) (by decide +kernel)⟩
theorem lw_p62 : lw_okq (⟨"PackWeeksModel", "wordHere", "(II)I"⟩, 41) := ⟨⟨by decide +kernel, by decide +kernel⟩, List.mem_of_getElem? (i := 1263) (by decide +kernel), List.mem_of_getElem? (i := 1520) (by decide +kernel), List.mem_of_getElem? (i := 1521) (by decide +kernel)⟩
theorem lw_p63 : lw_okq (⟨"PackWeeksModel", "lastOver", "()I"⟩, 41) := ⟨⟨by decide +kernel, by decide +kernel⟩, List.mem_of_getElem? (i := 1263) (by decide +kernel), List.mem_of_getElem? (i := 1524) (by decide +kernel), List.mem_of_getElem? (i := 1525) (by decide +kernel)⟩
def lw_privs_4 : List (MethodName × Nat) := [(⟨"PackWeeksModel", "starts", "(I)V"⟩, 41), (⟨"PackWeeksModel", "crewOf", "(II)I"⟩, 41), (⟨"PackWeeksModel", "cutAll", "()V"⟩, 41), (⟨"PackWeeksModel", "takeWord", "(I)V"⟩, 41), (⟨"PackWeeksModel", "hasWord", "(I)Z"⟩, 41), (⟨"PackWeeksModel", "isWord", "(I)Z"⟩, 41), (⟨"PackWeeksModel", "wrong", "(I)V"⟩, 41), (⟨"PackWeeksModel", "takeNumber", "(II)I"⟩, 41), (⟨"PackWeeksModel", "takeSign", "(I)V"⟩, 41), (⟨"PackWeeksModel", "isSign", "(I)Z"⟩, 41), (⟨"PackWeeksModel", "readLine", "()V"⟩, 41), (⟨"PackWeeksModel", "readDrift", "()V"⟩, 41), (⟨"PackWeeksModel", "lastDown", "()I"⟩, 41), (⟨"PackWeeksModel", "takeOne", "(II)I"⟩, 41), (⟨"PackWeeksModel", "wordHere", "(II)I"⟩, 41), (⟨"PackWeeksModel", "lastOver", "()I"⟩, 41)]
theorem lw_r4 : ∀ q ∈ lw_privs_4, lw_okq q := List.forall_mem_cons.mpr ⟨lw_p48, List.forall_mem_cons.mpr ⟨lw_p49, List.forall_mem_cons.mpr ⟨lw_p50, List.forall_mem_cons.mpr ⟨lw_p51, List.forall_mem_cons.mpr ⟨lw_p52, List.forall_mem_cons.mpr ⟨lw_p53, List.forall_mem_cons.mpr ⟨lw_p54, List.forall_mem_cons.mpr ⟨lw_p55, List.forall_mem_cons.mpr ⟨lw_p56, List.forall_mem_cons.mpr ⟨lw_p57, List.forall_mem_cons.mpr ⟨lw_p58, List.forall_mem_cons.mpr ⟨lw_p59, List.forall_mem_cons.mpr ⟨lw_p60, List.forall_mem_cons.mpr ⟨lw_p61, List.forall_mem_cons.mpr ⟨lw_p62, List.forall_mem_cons.mpr ⟨lw_p63, fun _ h => absurd h List.not_mem_nil⟩⟩⟩⟩⟩⟩⟩⟩⟩⟩⟩⟩⟩⟩⟩⟩
theorem lw_p64 : lw_okq (⟨"PackWeeksModel", "readThing", "()V"⟩, 41) := ⟨⟨by decide +kernel, by decide +kernel⟩, List.mem_of_getElem? (i := 1263) (by decide +kernel), List.mem_of_getElem? (i := 1528) (by decide +kernel), List.mem_of_getElem? (i := 1529) (by decide +kernel)⟩
theorem lw_p65 : lw_okq (⟨"PackWeeksModel", "readName", "(I)V"⟩, 41) := ⟨⟨by decide +kernel, by decide +kernel⟩, List.mem_of_getElem? (i := 1263) (by decide +kernel), List.mem_of_getElem? (i := 1532) (by decide +kernel), List.mem_of_getElem? (i := 1533) (by decide +kernel)⟩
theorem lw_p66 : lw_okq (⟨"PackWeeksModel", "isName", "()Z"⟩, 41) := ⟨⟨by decide +kernel, by decide +kernel⟩, List.mem_of_getElem? (i := 1263) (by decide +kernel), List.mem_of_getElem? (i := 1536) (by decide +kernel), List.mem_of_getElem? (i := 1537) (by decide +kernel)⟩
theorem lw_p67 : lw_okq (⟨"PackWeeksModel", "find", "(Z)I"⟩, 41) := ⟨⟨by decide +kernel, by decide +kernel⟩, List.mem_of_getElem? (i := 1263) (by decide +kernel), List.mem_of_getElem? (i := 1540) (by decide +kernel), List.mem_of_getElem? (i := 1541) (by decide +kernel)⟩
theorem lw_p68 : lw_okq (⟨"PackWeeksModel", "readLead", "()V"⟩, 41) := ⟨⟨by decide +kernel, by decide +kernel⟩, List.mem_of_getElem? (i := 1263) (by decide +kernel), List.mem_of_getElem? (i := 1544) (by decide +kernel), List.mem_of_getElem? (i := 1545) (by decide +kernel)⟩
theorem lw_p69 : lw_okq (⟨"PackWeeksModel", "takeAfter", "(III)I"⟩, 41) := ⟨⟨by decide +kernel, by decide +kernel⟩, List.mem_of_getElem? (i := 1263) (by decide +kernel), List.mem_of_getElem? (i := 1548) (by decide +kernel), List.mem_of_getElem? (i := 1549) (by decide +kernel)⟩
theorem lw_p70 : lw_okq (⟨"PackWeeksModel", "readCrew", "()V"⟩, 41) := ⟨⟨by decide +kernel, by decide +kernel⟩, List.mem_of_getElem? (i := 1263) (by decide +kernel), List.mem_of_getElem? (i := 1552) (by decide +kernel), List.mem_of_getElem? (i := 1553) (by decide +kernel)⟩
theorem lw_p71 : lw_okq (⟨"PackWeeksModel", "readGap", "()V"⟩, 41) := ⟨⟨by decide +kernel, by decide +kernel⟩, List.mem_of_getElem? (i := 1263) (by decide +kernel), List.mem_of_getElem? (i := 1559) (by decide +kernel), List.mem_of_getElem? (i := 1560) (by decide +kernel)⟩
theorem lw_p72 : lw_okq (⟨"PackWeeksModel", "readSign", "()V"⟩, 41) := ⟨⟨by decide +kernel, by decide +kernel⟩, List.mem_of_getElem? (i := 1263) (by decide +kernel), List.mem_of_getElem? (i := 1563) (by decide +kernel), List.mem_of_getElem? (i := 1564) (by decide +kernel)⟩
theorem lw_p73 : lw_okq (⟨"PackWeeksModel", "readLoad", "()V"⟩, 41) := ⟨⟨by decide +kernel, by decide +kernel⟩, List.mem_of_getElem? (i := 1263) (by decide +kernel), List.mem_of_getElem? (i := 1567) (by decide +kernel), List.mem_of_getElem? (i := 1568) (by decide +kernel)⟩
theorem lw_p74 : lw_okq (⟨"PackWeeksModel", "readOnce", "()V"⟩, 41) := ⟨⟨by decide +kernel, by decide +kernel⟩, List.mem_of_getElem? (i := 1263) (by decide +kernel), List.mem_of_getElem? (i := 1571) (by decide +kernel), List.mem_of_getElem? (i := 1572) (by decide +kernel)⟩
theorem lw_p75 : lw_okq (⟨"PackWeeksModel", "all", "(I)V"⟩, 41) := ⟨⟨by decide +kernel, by decide +kernel⟩, List.mem_of_getElem? (i := 1263) (by decide +kernel), List.mem_of_getElem? (i := 1575) (by decide +kernel), List.mem_of_getElem? (i := 1576) (by decide +kernel)⟩
theorem lw_p76 : lw_okq (⟨"PackWeeksModel", "test", "(I)V"⟩, 41) := ⟨⟨by decide +kernel, by decide +kernel⟩, List.mem_of_getElem? (i := 1263) (by decide +kernel), List.mem_of_getElem? (i := 1579) (by decide +kernel), List.mem_of_getElem? (i := 1580) (by decide +kernel)⟩
theorem lw_p77 : lw_okq (⟨"PackWeeksModel", "sums", "(I)V"⟩, 41) := ⟨⟨by decide +kernel, by decide +kernel⟩, List.mem_of_getElem? (i := 1263) (by decide +kernel), List.mem_of_getElem? (i := 1583) (by decide +kernel), List.mem_of_getElem? (i := 1584) (by decide +kernel)⟩
theorem lw_p78 : lw_okq (⟨"PackWeeksModel", "products", "(I)V"⟩, 41) := ⟨⟨by decide +kernel, by decide +kernel⟩, List.mem_of_getElem? (i := 1263) (by decide +kernel), List.mem_of_getElem? (i := 1587) (by decide +kernel), List.mem_of_getElem? (i := 1588) (by decide +kernel)⟩
theorem lw_p79 : lw_okq (⟨"PackWeeksModel", "takePart", "(I)V"⟩, 41) := ⟨⟨by decide +kernel, by decide +kernel⟩, List.mem_of_getElem? (i := 1263) (by decide +kernel), List.mem_of_getElem? (i := 1591) (by decide +kernel), List.mem_of_getElem? (i := 1592) (by decide +kernel)⟩
def lw_privs_5 : List (MethodName × Nat) := [(⟨"PackWeeksModel", "readThing", "()V"⟩, 41), (⟨"PackWeeksModel", "readName", "(I)V"⟩, 41), (⟨"PackWeeksModel", "isName", "()Z"⟩, 41), (⟨"PackWeeksModel", "find", "(Z)I"⟩, 41), (⟨"PackWeeksModel", "readLead", "()V"⟩, 41), (⟨"PackWeeksModel", "takeAfter", "(III)I"⟩, 41), (⟨"PackWeeksModel", "readCrew", "()V"⟩, 41), (⟨"PackWeeksModel", "readGap", "()V"⟩, 41), (⟨"PackWeeksModel", "readSign", "()V"⟩, 41), (⟨"PackWeeksModel", "readLoad", "()V"⟩, 41), (⟨"PackWeeksModel", "readOnce", "()V"⟩, 41), (⟨"PackWeeksModel", "all", "(I)V"⟩, 41), (⟨"PackWeeksModel", "test", "(I)V"⟩, 41), (⟨"PackWeeksModel", "sums", "(I)V"⟩, 41), (⟨"PackWeeksModel", "products", "(I)V"⟩, 41), (⟨"PackWeeksModel", "takePart", "(I)V"⟩, 41)]
theorem lw_r5 : ∀ q ∈ lw_privs_5, lw_okq q := List.forall_mem_cons.mpr ⟨lw_p64, List.forall_mem_cons.mpr ⟨lw_p65, List.forall_mem_cons.mpr ⟨lw_p66, List.forall_mem_cons.mpr ⟨lw_p67, List.forall_mem_cons.mpr ⟨lw_p68, List.forall_mem_cons.mpr ⟨lw_p69, List.forall_mem_cons.mpr ⟨lw_p70, List.forall_mem_cons.mpr ⟨lw_p71, List.forall_mem_cons.mpr ⟨lw_p72, List.forall_mem_cons.mpr ⟨lw_p73, List.forall_mem_cons.mpr ⟨lw_p74, List.forall_mem_cons.mpr ⟨lw_p75, List.forall_mem_cons.mpr ⟨lw_p76, List.forall_mem_cons.mpr ⟨lw_p77, List.forall_mem_cons.mpr ⟨lw_p78, List.forall_mem_cons.mpr ⟨lw_p79, fun _ h => absurd h List.not_mem_nil⟩⟩⟩⟩⟩⟩⟩⟩⟩⟩⟩⟩⟩⟩⟩⟩
theorem lw_p80 : lw_okq (⟨"PackWeeksModel", "emit", "(II)V"⟩, 41) := ⟨⟨by decide +kernel, by decide +kernel⟩, List.mem_of_getElem? (i := 1263) (by decide +kernel), List.mem_of_getElem? (i := 1595) (by decide +kernel), List.mem_of_getElem? (i := 1596) (by decide +kernel)⟩
theorem lw_p81 : lw_okq (⟨"PackWeeksModel", "hasSign", "(I)Z"⟩, 41) := ⟨⟨by decide +kernel, by decide +kernel⟩, List.mem_of_getElem? (i := 1263) (by decide +kernel), List.mem_of_getElem? (i := 1599) (by decide +kernel), List.mem_of_getElem? (i := 1600) (by decide +kernel)⟩
theorem lw_p82 : lw_okq (⟨"PackWeeksModel", "readWeek", "(II)V"⟩, 41) := ⟨⟨by decide +kernel, by decide +kernel⟩, List.mem_of_getElem? (i := 1263) (by decide +kernel), List.mem_of_getElem? (i := 1607) (by decide +kernel), List.mem_of_getElem? (i := 1608) (by decide +kernel)⟩
theorem lw_p83 : lw_okq (⟨"PackWeeksModel", "takeCrew", "()I"⟩, 41) := ⟨⟨by decide +kernel, by decide +kernel⟩, List.mem_of_getElem? (i := 1263) (by decide +kernel), List.mem_of_getElem? (i := 1611) (by decide +kernel), List.mem_of_getElem? (i := 1612) (by decide +kernel)⟩
theorem lw_p84 : lw_okq (⟨"PackWeeksModel", "isPlace", "(II)Z"⟩, 41) := ⟨⟨by decide +kernel, by decide +kernel⟩, List.mem_of_getElem? (i := 1263) (by decide +kernel), List.mem_of_getElem? (i := 1619) (by decide +kernel), List.mem_of_getElem? (i := 1620) (by decide +kernel)⟩
theorem lw_p85 : lw_okq (⟨"PackWeeksModel", "isOpen", "(II)Z"⟩, 41) := ⟨⟨by decide +kernel, by decide +kernel⟩, List.mem_of_getElem? (i := 1263) (by decide +kernel), List.mem_of_getElem? (i := 1627) (by decide +kernel), List.mem_of_getElem? (i := 1628) (by decide +kernel)⟩
theorem lw_p86 : lw_okq (⟨"PackWeeksModel", "isThing", "(I)Z"⟩, 41) := ⟨⟨by decide +kernel, by decide +kernel⟩, List.mem_of_getElem? (i := 1263) (by decide +kernel), List.mem_of_getElem? (i := 1635) (by decide +kernel), List.mem_of_getElem? (i := 1636) (by decide +kernel)⟩
theorem lw_p87 : lw_okq (⟨"PackWeeksModel", "things", "()I"⟩, 41) := ⟨⟨by decide +kernel, by decide +kernel⟩, List.mem_of_getElem? (i := 1263) (by decide +kernel), List.mem_of_getElem? (i := 1639) (by decide +kernel), List.mem_of_getElem? (i := 1640) (by decide +kernel)⟩
theorem lw_p88 : lw_okq (⟨"PackWeeksModel", "kindOf", "(I)I"⟩, 41) := ⟨⟨by decide +kernel, by decide +kernel⟩, List.mem_of_getElem? (i := 1263) (by decide +kernel), List.mem_of_getElem? (i := 1643) (by decide +kernel), List.mem_of_getElem? (i := 1644) (by decide +kernel)⟩
theorem lw_p89 : lw_okq (⟨"PackWeeksModel", "crewAt", "(I)I"⟩, 41) := ⟨⟨by decide +kernel, by decide +kernel⟩, List.mem_of_getElem? (i := 1263) (by decide +kernel), List.mem_of_getElem? (i := 1647) (by decide +kernel), List.mem_of_getElem? (i := 1648) (by decide +kernel)⟩
theorem lw_p90 : lw_okq (⟨"PackWeeksModel", "crews", "()I"⟩, 41) := ⟨⟨by decide +kernel, by decide +kernel⟩, List.mem_of_getElem? (i := 1263) (by decide +kernel), List.mem_of_getElem? (i := 1651) (by decide +kernel), List.mem_of_getElem? (i := 1652) (by decide +kernel)⟩
theorem lw_p91 : lw_okq (⟨"PackWeeksModel", "isCrew", "(I)Z"⟩, 41) := ⟨⟨by decide +kernel, by decide +kernel⟩, List.mem_of_getElem? (i := 1263) (by decide +kernel), List.mem_of_getElem? (i := 1659) (by decide +kernel), List.mem_of_getElem? (i := 1660) (by decide +kernel)⟩
theorem lw_p92 : lw_okq (⟨"PackWeeksModel", "sledgeOf", "(II)I"⟩, 41) := ⟨⟨by decide +kernel, by decide +kernel⟩, List.mem_of_getElem? (i := 1263) (by decide +kernel), List.mem_of_getElem? (i := 1663) (by decide +kernel), List.mem_of_getElem? (i := 1664) (by decide +kernel)⟩
theorem lw_p93 : lw_okq (⟨"PackWeeksModel", "keeps", "()V"⟩, 41) := ⟨⟨by decide +kernel, by decide +kernel⟩, List.mem_of_getElem? (i := 1263) (by decide +kernel), List.mem_of_getElem? (i := 1671) (by decide +kernel), List.mem_of_getElem? (i := 1672) (by decide +kernel)⟩
theorem lw_p94 : lw_okq (⟨"PackWeeksModel", "copies", "(III)V"⟩, 41) := ⟨⟨by decide +kernel, by decide +kernel⟩, List.mem_of_getElem? (i := 1263) (by decide +kernel), List.mem_of_getElem? (i := 1675) (by decide +kernel), List.mem_of_getElem? (i := 1676) (by decide +kernel)⟩
theorem lw_p95 : lw_okq (⟨"PackWeeksModel", "passes", "(I)I"⟩, 41) := ⟨⟨by decide +kernel, by decide +kernel⟩, List.mem_of_getElem? (i := 1263) (by decide +kernel), List.mem_of_getElem? (i := 1679) (by decide +kernel), List.mem_of_getElem? (i := 1680) (by decide +kernel)⟩
def lw_privs_6 : List (MethodName × Nat) := [(⟨"PackWeeksModel", "emit", "(II)V"⟩, 41), (⟨"PackWeeksModel", "hasSign", "(I)Z"⟩, 41), (⟨"PackWeeksModel", "readWeek", "(II)V"⟩, 41), (⟨"PackWeeksModel", "takeCrew", "()I"⟩, 41), (⟨"PackWeeksModel", "isPlace", "(II)Z"⟩, 41), (⟨"PackWeeksModel", "isOpen", "(II)Z"⟩, 41), (⟨"PackWeeksModel", "isThing", "(I)Z"⟩, 41), (⟨"PackWeeksModel", "things", "()I"⟩, 41), (⟨"PackWeeksModel", "kindOf", "(I)I"⟩, 41), (⟨"PackWeeksModel", "crewAt", "(I)I"⟩, 41), (⟨"PackWeeksModel", "crews", "()I"⟩, 41), (⟨"PackWeeksModel", "isCrew", "(I)Z"⟩, 41), (⟨"PackWeeksModel", "sledgeOf", "(II)I"⟩, 41), (⟨"PackWeeksModel", "keeps", "()V"⟩, 41), (⟨"PackWeeksModel", "copies", "(III)V"⟩, 41), (⟨"PackWeeksModel", "passes", "(I)I"⟩, 41)]
theorem lw_r6 : ∀ q ∈ lw_privs_6, lw_okq q := List.forall_mem_cons.mpr ⟨lw_p80, List.forall_mem_cons.mpr ⟨lw_p81, List.forall_mem_cons.mpr ⟨lw_p82, List.forall_mem_cons.mpr ⟨lw_p83, List.forall_mem_cons.mpr ⟨lw_p84, List.forall_mem_cons.mpr ⟨lw_p85, List.forall_mem_cons.mpr ⟨lw_p86, List.forall_mem_cons.mpr ⟨lw_p87, List.forall_mem_cons.mpr ⟨lw_p88, List.forall_mem_cons.mpr ⟨lw_p89, List.forall_mem_cons.mpr ⟨lw_p90, List.forall_mem_cons.mpr ⟨lw_p91, List.forall_mem_cons.mpr ⟨lw_p92, List.forall_mem_cons.mpr ⟨lw_p93, List.forall_mem_cons.mpr ⟨lw_p94, List.forall_mem_cons.mpr ⟨lw_p95, fun _ h => absurd h List.not_mem_nil⟩⟩⟩⟩⟩⟩⟩⟩⟩⟩⟩⟩⟩⟩⟩⟩
theorem lw_p96 : lw_okq (⟨"PackWeeksModel", "eatsOf", "(III)I"⟩, 41) := ⟨⟨by decide +kernel, by decide +kernel⟩, List.mem_of_getElem? (i := 1263) (by decide +kernel), List.mem_of_getElem? (i := 1683) (by decide +kernel), List.mem_of_getElem? (i := 1684) (by decide +kernel)⟩
theorem lw_p97 : lw_okq (⟨"PackWeeksModel", "lawOf", "(III)I"⟩, 41) := ⟨⟨by decide +kernel, by decide +kernel⟩, List.mem_of_getElem? (i := 1263) (by decide +kernel), List.mem_of_getElem? (i := 1687) (by decide +kernel), List.mem_of_getElem? (i := 1688) (by decide +kernel)⟩
theorem lw_p98 : lw_okq (⟨"PackWeeksModel", "worthAt", "(I)I"⟩, 41) := ⟨⟨by decide +kernel, by decide +kernel⟩, List.mem_of_getElem? (i := 1263) (by decide +kernel), List.mem_of_getElem? (i := 1691) (by decide +kernel), List.mem_of_getElem? (i := 1692) (by decide +kernel)⟩
theorem lw_p99 : lw_okq (⟨"PackWeeksModel", "flowsTo", "(I)I"⟩, 41) := ⟨⟨by decide +kernel, by decide +kernel⟩, List.mem_of_getElem? (i := 1263) (by decide +kernel), List.mem_of_getElem? (i := 1698) (by decide +kernel), List.mem_of_getElem? (i := 1699) (by decide +kernel)⟩
theorem lw_p100 : lw_okq (⟨"PackWeeksModel", "onFrom", "(II)I"⟩, 41) := ⟨⟨by decide +kernel, by decide +kernel⟩, List.mem_of_getElem? (i := 1263) (by decide +kernel), List.mem_of_getElem? (i := 1702) (by decide +kernel), List.mem_of_getElem? (i := 1703) (by decide +kernel)⟩
theorem lw_p101 : lw_okq (⟨"PackWeeksModel", "mayHaul", "(III)Z"⟩, 41) := ⟨⟨by decide +kernel, by decide +kernel⟩, List.mem_of_getElem? (i := 1263) (by decide +kernel), List.mem_of_getElem? (i := 1710) (by decide +kernel), List.mem_of_getElem? (i := 1711) (by decide +kernel)⟩
theorem lw_p102 : lw_okq (⟨"PackWeeksModel", "clearsHere", "(I)V"⟩, 41) := ⟨⟨by decide +kernel, by decide +kernel⟩, List.mem_of_getElem? (i := 1263) (by decide +kernel), List.mem_of_getElem? (i := 1714) (by decide +kernel), List.mem_of_getElem? (i := 1715) (by decide +kernel)⟩
theorem lw_p103 : lw_okq (⟨"PackWeeksModel", "hauls", "(I)V"⟩, 41) := ⟨⟨by decide +kernel, by decide +kernel⟩, List.mem_of_getElem? (i := 1263) (by decide +kernel), List.mem_of_getElem? (i := 1718) (by decide +kernel), List.mem_of_getElem? (i := 1719) (by decide +kernel)⟩
theorem lw_p104 : lw_okq (⟨"PackWeeksModel", "hauledTo", "(III)V"⟩, 41) := ⟨⟨by decide +kernel, by decide +kernel⟩, List.mem_of_getElem? (i := 1263) (by decide +kernel), List.mem_of_getElem? (i := 1722) (by decide +kernel), List.mem_of_getElem? (i := 1723) (by decide +kernel)⟩
theorem lw_p105 : lw_okq (⟨"PackWeeksModel", "mayLend", "(II)Z"⟩, 41) := ⟨⟨by decide +kernel, by decide +kernel⟩, List.mem_of_getElem? (i := 1263) (by decide +kernel), List.mem_of_getElem? (i := 1730) (by decide +kernel), List.mem_of_getElem? (i := 1731) (by decide +kernel)⟩
theorem lw_p106 : lw_okq (⟨"PackWeeksModel", "lends", "(III)I"⟩, 41) := ⟨⟨by decide +kernel, by decide +kernel⟩, List.mem_of_getElem? (i := 1263) (by decide +kernel), List.mem_of_getElem? (i := 1734) (by decide +kernel), List.mem_of_getElem? (i := 1735) (by decide +kernel)⟩
theorem lw_p107 : lw_okq (⟨"PackWeeksModel", "mayHome", "(II)Z"⟩, 41) := ⟨⟨by decide +kernel, by decide +kernel⟩, List.mem_of_getElem? (i := 1263) (by decide +kernel), List.mem_of_getElem? (i := 1742) (by decide +kernel), List.mem_of_getElem? (i := 1743) (by decide +kernel)⟩
theorem lw_p108 : lw_okq (⟨"PackWeeksModel", "does", "(I)Z"⟩, 41) := ⟨⟨by decide +kernel, by decide +kernel⟩, List.mem_of_getElem? (i := 1263) (by decide +kernel), List.mem_of_getElem? (i := 1754) (by decide +kernel), List.mem_of_getElem? (i := 1755) (by decide +kernel)⟩
theorem lw_p109 : lw_okq (⟨"PackWeeksModel", "placeBehind", "(II)I"⟩, 41) := ⟨⟨by decide +kernel, by decide +kernel⟩, List.mem_of_getElem? (i := 1263) (by decide +kernel), List.mem_of_getElem? (i := 1762) (by decide +kernel), List.mem_of_getElem? (i := 1763) (by decide +kernel)⟩
theorem lw_p110 : lw_okq (⟨"PackWeeksModel", "reachOf", "(III)I"⟩, 41) := ⟨⟨by decide +kernel, by decide +kernel⟩, List.mem_of_getElem? (i := 1263) (by decide +kernel), List.mem_of_getElem? (i := 1774) (by decide +kernel), List.mem_of_getElem? (i := 1775) (by decide +kernel)⟩
theorem lw_p111 : lw_okq (⟨"PackWeeksModel", "fitsAt", "(I)Z"⟩, 41) := ⟨⟨by decide +kernel, by decide +kernel⟩, List.mem_of_getElem? (i := 1263) (by decide +kernel), List.mem_of_getElem? (i := 1790) (by decide +kernel), List.mem_of_getElem? (i := 1791) (by decide +kernel)⟩
def lw_privs_7 : List (MethodName × Nat) := [(⟨"PackWeeksModel", "eatsOf", "(III)I"⟩, 41), (⟨"PackWeeksModel", "lawOf", "(III)I"⟩, 41), (⟨"PackWeeksModel", "worthAt", "(I)I"⟩, 41), (⟨"PackWeeksModel", "flowsTo", "(I)I"⟩, 41), (⟨"PackWeeksModel", "onFrom", "(II)I"⟩, 41), (⟨"PackWeeksModel", "mayHaul", "(III)Z"⟩, 41), (⟨"PackWeeksModel", "clearsHere", "(I)V"⟩, 41), (⟨"PackWeeksModel", "hauls", "(I)V"⟩, 41), (⟨"PackWeeksModel", "hauledTo", "(III)V"⟩, 41), (⟨"PackWeeksModel", "mayLend", "(II)Z"⟩, 41), (⟨"PackWeeksModel", "lends", "(III)I"⟩, 41), (⟨"PackWeeksModel", "mayHome", "(II)Z"⟩, 41), (⟨"PackWeeksModel", "does", "(I)Z"⟩, 41), (⟨"PackWeeksModel", "placeBehind", "(II)I"⟩, 41), (⟨"PackWeeksModel", "reachOf", "(III)I"⟩, 41), (⟨"PackWeeksModel", "fitsAt", "(I)Z"⟩, 41)]
theorem lw_r7 : ∀ q ∈ lw_privs_7, lw_okq q := List.forall_mem_cons.mpr ⟨lw_p96, List.forall_mem_cons.mpr ⟨lw_p97, List.forall_mem_cons.mpr ⟨lw_p98, List.forall_mem_cons.mpr ⟨lw_p99, List.forall_mem_cons.mpr ⟨lw_p100, List.forall_mem_cons.mpr ⟨lw_p101, List.forall_mem_cons.mpr ⟨lw_p102, List.forall_mem_cons.mpr ⟨lw_p103, List.forall_mem_cons.mpr ⟨lw_p104, List.forall_mem_cons.mpr ⟨lw_p105, List.forall_mem_cons.mpr ⟨lw_p106, List.forall_mem_cons.mpr ⟨lw_p107, List.forall_mem_cons.mpr ⟨lw_p108, List.forall_mem_cons.mpr ⟨lw_p109, List.forall_mem_cons.mpr ⟨lw_p110, List.forall_mem_cons.mpr ⟨lw_p111, fun _ h => absurd h List.not_mem_nil⟩⟩⟩⟩⟩⟩⟩⟩⟩⟩⟩⟩⟩⟩⟩⟩
theorem lw_p112 : lw_okq (⟨"PackWeeksModel", "lastsWith", "(II)I"⟩, 41) := ⟨⟨by decide +kernel, by decide +kernel⟩, List.mem_of_getElem? (i := 1263) (by decide +kernel), List.mem_of_getElem? (i := 1805) (by decide +kernel), List.mem_of_getElem? (i := 1806) (by decide +kernel)⟩
theorem lw_p113 : lw_okq (⟨"PackWeeksModel", "lastsBy", "(II)I"⟩, 41) := ⟨⟨by decide +kernel, by decide +kernel⟩, List.mem_of_getElem? (i := 1263) (by decide +kernel), List.mem_of_getElem? (i := 1813) (by decide +kernel), List.mem_of_getElem? (i := 1814) (by decide +kernel)⟩
theorem lw_p114 : lw_okq (⟨"PackWeeksModel", "laysChances", "()V"⟩, 41) := ⟨⟨by decide +kernel, by decide +kernel⟩, List.mem_of_getElem? (i := 1263) (by decide +kernel), List.mem_of_getElem? (i := 1821) (by decide +kernel), List.mem_of_getElem? (i := 1822) (by decide +kernel)⟩
theorem lw_p115 : lw_okq (⟨"PackWeeksModel", "chanceAt", "(III)I"⟩, 41) := ⟨⟨by decide +kernel, by decide +kernel⟩, List.mem_of_getElem? (i := 1263) (by decide +kernel), List.mem_of_getElem? (i := 1825) (by decide +kernel), List.mem_of_getElem? (i := 1826) (by decide +kernel)⟩
theorem lw_p116 : lw_okq (⟨"PackWeeksModel", "openDay", "(III)I"⟩, 41) := ⟨⟨by decide +kernel, by decide +kernel⟩, List.mem_of_getElem? (i := 1263) (by decide +kernel), List.mem_of_getElem? (i := 1830) (by decide +kernel), List.mem_of_getElem? (i := 1831) (by decide +kernel)⟩
theorem lw_p117 : lw_okq (⟨"PackWeeksModel", "goesThrough", "(III)I"⟩, 41) := ⟨⟨by decide +kernel, by decide +kernel⟩, List.mem_of_getElem? (i := 1263) (by decide +kernel), List.mem_of_getElem? (i := 1834) (by decide +kernel), List.mem_of_getElem? (i := 1835) (by decide +kernel)⟩
theorem lw_p118 : lw_okq (⟨"PackWeeksModel", "bestLook", "(II)I"⟩, 41) := ⟨⟨by decide +kernel, by decide +kernel⟩, List.mem_of_getElem? (i := 1263) (by decide +kernel), List.mem_of_getElem? (i := 1848) (by decide +kernel), List.mem_of_getElem? (i := 1849) (by decide +kernel)⟩
theorem lw_p119 : lw_okq (⟨"PackWeeksModel", "costOf", "(III)I"⟩, 41) := ⟨⟨by decide +kernel, by decide +kernel⟩, List.mem_of_getElem? (i := 1263) (by decide +kernel), List.mem_of_getElem? (i := 1852) (by decide +kernel), List.mem_of_getElem? (i := 1853) (by decide +kernel)⟩
theorem lw_p120 : lw_okq (⟨"PackWeeksModel", "lookAt", "(I)I"⟩, 41) := ⟨⟨by decide +kernel, by decide +kernel⟩, List.mem_of_getElem? (i := 1263) (by decide +kernel), List.mem_of_getElem? (i := 1856) (by decide +kernel), List.mem_of_getElem? (i := 1857) (by decide +kernel)⟩
theorem lw_p121 : lw_okq (⟨"PackWeeksModel", "findOrder", "(I)V"⟩, 41) := ⟨⟨by decide +kernel, by decide +kernel⟩, List.mem_of_getElem? (i := 1263) (by decide +kernel), List.mem_of_getElem? (i := 1864) (by decide +kernel), List.mem_of_getElem? (i := 1865) (by decide +kernel)⟩
theorem lw_p122 : lw_okq (⟨"PackWeeksModel", "grows", "(II)V"⟩, 41) := ⟨⟨by decide +kernel, by decide +kernel⟩, List.mem_of_getElem? (i := 1263) (by decide +kernel), List.mem_of_getElem? (i := 1868) (by decide +kernel), List.mem_of_getElem? (i := 1869) (by decide +kernel)⟩
theorem lw_p123 : lw_okq (⟨"PackWeeksModel", "looksAt", "(II)V"⟩, 41) := ⟨⟨by decide +kernel, by decide +kernel⟩, List.mem_of_getElem? (i := 1263) (by decide +kernel), List.mem_of_getElem? (i := 1872) (by decide +kernel), List.mem_of_getElem? (i := 1873) (by decide +kernel)⟩
theorem lw_p124 : lw_okq (⟨"PackWeeksModel", "bestLoad", "(I)I"⟩, 41) := ⟨⟨by decide +kernel, by decide +kernel⟩, List.mem_of_getElem? (i := 1263) (by decide +kernel), List.mem_of_getElem? (i := 1880) (by decide +kernel), List.mem_of_getElem? (i := 1881) (by decide +kernel)⟩
theorem lw_p125 : lw_okq (⟨"PackWeeksModel", "carryOf", "(II)I"⟩, 41) := ⟨⟨by decide +kernel, by decide +kernel⟩, List.mem_of_getElem? (i := 1263) (by decide +kernel), List.mem_of_getElem? (i := 1884) (by decide +kernel), List.mem_of_getElem? (i := 1885) (by decide +kernel)⟩
theorem lw_p126 : lw_okq (⟨"PackWeeksModel", "draw", "(I)I"⟩, 41) := ⟨⟨by decide +kernel, by decide +kernel⟩, List.mem_of_getElem? (i := 1263) (by decide +kernel), List.mem_of_getElem? (i := 1893) (by decide +kernel), List.mem_of_getElem? (i := 1894) (by decide +kernel)⟩
theorem lw_p127 : lw_okq (⟨"PackWeeksModel", "isVisited", "(II)Z"⟩, 41) := ⟨⟨by decide +kernel, by decide +kernel⟩, List.mem_of_getElem? (i := 1263) (by decide +kernel), List.mem_of_getElem? (i := 1901) (by decide +kernel), List.mem_of_getElem? (i := 1902) (by decide +kernel)⟩
def lw_privs_8 : List (MethodName × Nat) := [(⟨"PackWeeksModel", "lastsWith", "(II)I"⟩, 41), (⟨"PackWeeksModel", "lastsBy", "(II)I"⟩, 41), (⟨"PackWeeksModel", "laysChances", "()V"⟩, 41), (⟨"PackWeeksModel", "chanceAt", "(III)I"⟩, 41), (⟨"PackWeeksModel", "openDay", "(III)I"⟩, 41), (⟨"PackWeeksModel", "goesThrough", "(III)I"⟩, 41), (⟨"PackWeeksModel", "bestLook", "(II)I"⟩, 41), (⟨"PackWeeksModel", "costOf", "(III)I"⟩, 41), (⟨"PackWeeksModel", "lookAt", "(I)I"⟩, 41), (⟨"PackWeeksModel", "findOrder", "(I)V"⟩, 41), (⟨"PackWeeksModel", "grows", "(II)V"⟩, 41), (⟨"PackWeeksModel", "looksAt", "(II)V"⟩, 41), (⟨"PackWeeksModel", "bestLoad", "(I)I"⟩, 41), (⟨"PackWeeksModel", "carryOf", "(II)I"⟩, 41), (⟨"PackWeeksModel", "draw", "(I)I"⟩, 41), (⟨"PackWeeksModel", "isVisited", "(II)Z"⟩, 41)]
theorem lw_r8 : ∀ q ∈ lw_privs_8, lw_okq q := List.forall_mem_cons.mpr ⟨lw_p112, List.forall_mem_cons.mpr ⟨lw_p113, List.forall_mem_cons.mpr ⟨lw_p114, List.forall_mem_cons.mpr ⟨lw_p115, List.forall_mem_cons.mpr ⟨lw_p116, List.forall_mem_cons.mpr ⟨lw_p117, List.forall_mem_cons.mpr ⟨lw_p118, List.forall_mem_cons.mpr ⟨lw_p119, List.forall_mem_cons.mpr ⟨lw_p120, List.forall_mem_cons.mpr ⟨lw_p121, List.forall_mem_cons.mpr ⟨lw_p122, List.forall_mem_cons.mpr ⟨lw_p123, List.forall_mem_cons.mpr ⟨lw_p124, List.forall_mem_cons.mpr ⟨lw_p125, List.forall_mem_cons.mpr ⟨lw_p126, List.forall_mem_cons.mpr ⟨lw_p127, fun _ h => absurd h List.not_mem_nil⟩⟩⟩⟩⟩⟩⟩⟩⟩⟩⟩⟩⟩⟩⟩⟩
def lw_privs : List (MethodName × Nat) := lw_privs_1 ++ (lw_privs_2 ++ (lw_privs_3 ++ (lw_privs_4 ++ (lw_privs_5 ++ (lw_privs_6 ++ (lw_privs_7 ++ (lw_privs_8)))))))
def lw_tbl : List Cond := k2_sels lw_privs ++ tables_1
theorem lw_privs_ok : ∀ q ∈ lw_privs, lw_okq q := by
  show ∀ q ∈ lw_privs_1 ++ (lw_privs_2 ++ (lw_privs_3 ++ (lw_privs_4 ++ (lw_privs_5 ++ (lw_privs_6 ++ (lw_privs_7 ++ (lw_privs_8))))))), lw_okq q
  exact List.forall_mem_append.mpr ⟨lw_r1, List.forall_mem_append.mpr ⟨lw_r2, List.forall_mem_append.mpr ⟨lw_r3, List.forall_mem_append.mpr ⟨lw_r4, List.forall_mem_append.mpr ⟨lw_r5, List.forall_mem_append.mpr ⟨lw_r6, List.forall_mem_append.mpr ⟨lw_r7, lw_r8⟩⟩⟩⟩⟩⟩⟩
end
section
/-! ===== BEGIN words of one list among another's, by their places ===== -/
theorem goodIn_r {big : List Cond} (ws : List Cond) (ps : List Nat) (hp : ws = ps.filterMap (fun i => big[i]?)) (h : ws.all goodWord = true) : GoodIn big ws := by
  intro w hw
  have h1 := List.all_eq_true.mp h w hw
  rw [hp] at hw
  obtain ⟨i, -, hi⟩ := List.mem_filterMap.mp hw
  have hm : w ∈ big := by first | exact List.mem_of_getElem? hi | exact List.getElem?_mem hi
  exact ⟨hm, good_of_word h1⟩
theorem goodIn_app {big a b : List Cond} (ha : GoodIn big a) (hb : GoodIn big b) : GoodIn big (a ++ b) := fun w h => (List.mem_append.mp h).elim (ha w) (hb w)
theorem goodIn_ca {big a b : List Cond} {c : Cond} (ha : GoodIn big (c :: a)) (hb : GoodIn big b) : GoodIn big (c :: (a ++ b)) := fun w h => (List.mem_cons.mp h).elim (fun e => ha w (List.mem_cons.mpr (Or.inl e))) (fun h => (List.mem_append.mp h).elim (fun h => ha w (List.mem_cons.mpr (Or.inr h))) (hb w))
theorem goodIn_sub {big ws : List Cond} (hm : ∀ w ∈ ws, w ∈ big) (h : ws.all goodWord = true) : GoodIn big ws := fun w hw => ⟨hm w hw, good_of_word (List.all_eq_true.mp h w hw)⟩
/-! ===== END ===== -/
/-! ===== BEGIN printed: names, fields, word lists, decode rows ===== -/
def RX0 : String := "PackWeeks$Law"
def TX0 : u_T := fun k => match k with
  | 0 => ("PackWeeks$Law", "stack", "[I", true)
  | 1 => ("PackWeeks$Law", "codes", "[I", true)
  | _ => ("PackWeeks$Law", "size", "I", false)
def tyX0 : Nat → FieldType := fun k => match k with
  | 0 => .array .int
  | 1 => .array .int
  | _ => .int
abbrev wsX00 : List Cond := u_ws RX0 TX0 3
theorem nmX0 : ∀ a, a < 3 → ∀ b, b < 3 → a ≠ b → (TX0 a).2.1 ≠ (TX0 b).2.1 := by decide +kernel
theorem tyX0_ok : ∀ k, k < 3 → parseFieldDescriptor (TX0 k).2.2.1 = some (tyX0 k) := by decide +kernel
abbrev cX0_init : ByteArray := prog_2_method_1_code
def yX0_init : MethodName := ⟨RX0, "<init>", "()V"⟩
abbrev cX0_clear : ByteArray := prog_2_method_2_code
def yX0_clear : MethodName := ⟨RX0, "clear", "()V"⟩
abbrev cX0_add : ByteArray := prog_2_method_3_code
def yX0_add : MethodName := ⟨RX0, "add", "(I)V"⟩
abbrev cX0_valueWithin : ByteArray := prog_2_method_4_code
def yX0_valueWithin : MethodName := ⟨RX0, "valueWithin", "(IIII)I"⟩
abbrev cX0_part : ByteArray := prog_2_method_5_code
def yX0_part : MethodName := ⟨RX0, "part", "(IIII)I"⟩
abbrev cX0_joined : ByteArray := prog_2_method_6_code
def yX0_joined : MethodName := ⟨RX0, "joined", "(III)I"⟩
def RX1 : String := "PackWeeks$Pack"
def TX1 : u_T := fun k => match k with
  | 0 => ("PackWeeks$Pack", "over", "I", false)
  | 1 => ("PackWeeks$Pack", "down", "I", false)
  | 2 => ("PackWeeks$Pack", "pace", "I", false)
  | 3 => ("PackWeeks$Pack", "flows", "[I", true)
  | 4 => ("PackWeeks$Pack", "next", "[I", true)
  | 5 => ("PackWeeks$Pack", "things", "LPackWeeks$Rows;", true)
  | 6 => ("PackWeeks$Pack", "leads", "LPackWeeks$Rows;", true)
  | 7 => ("PackWeeks$Pack", "crews", "LPackWeeks$Rows;", true)
  | 8 => ("PackWeeks$Pack", "gaps", "LPackWeeks$Rows;", true)
  | 9 => ("PackWeeks$Pack", "signs", "LPackWeeks$Rows;", true)
  | 10 => ("PackWeeks$Pack", "loads", "LPackWeeks$Rows;", true)
  | 11 => ("PackWeeks$Pack", "eat", "LPackWeeks$Law;", true)
  | 12 => ("PackWeeks$Pack", "look", "LPackWeeks$Law;", true)
  | 13 => ("PackWeeks$Pack", "crack", "LPackWeeks$Law;", true)
  | 14 => ("PackWeeks$Pack", "flowing", "[J", true)
  | 15 => ("PackWeeks$Pack", "jumps", "[[I", true)
  | _ => ("PackWeeks$Pack", "grid", "J", false)
def tyX1 : Nat → FieldType := fun k => match k with
  | 0 => .int
  | 1 => .int
  | 2 => .int
  | 3 => .array .int
  | 4 => .array .int
  | 5 => .object "PackWeeks$Rows"
  | 6 => .object "PackWeeks$Rows"
  | 7 => .object "PackWeeks$Rows"
  | 8 => .object "PackWeeks$Rows"
  | 9 => .object "PackWeeks$Rows"
  | 10 => .object "PackWeeks$Rows"
  | 11 => .object "PackWeeks$Law"
  | 12 => .object "PackWeeks$Law"
  | 13 => .object "PackWeeks$Law"
  | 14 => .array .long
  | 15 => .array (.array .int)
  | _ => .long
abbrev wsX10 : List Cond := u_ws RX1 TX1 17
theorem nmX1 : ∀ a, a < 17 → ∀ b, b < 17 → a ≠ b → (TX1 a).2.1 ≠ (TX1 b).2.1 := by decide +kernel
theorem tyX1_ok : ∀ k, k < 17 → parseFieldDescriptor (TX1 k).2.2.1 = some (tyX1 k) := by decide +kernel
abbrev cX1_init : ByteArray := prog_3_method_1_code
def yX1_init : MethodName := ⟨RX1, "<init>", "()V"⟩
abbrev cX1_clear : ByteArray := prog_3_method_2_code
def yX1_clear : MethodName := ⟨RX1, "clear", "()V"⟩
abbrev cX1_settle : ByteArray := prog_3_method_3_code
def yX1_settle : MethodName := ⟨RX1, "settle", "()V"⟩
abbrev cX1_isPlace : ByteArray := prog_3_method_4_code
def yX1_isPlace : MethodName := ⟨RX1, "isPlace", "(II)Z"⟩
abbrev cX1_neighbour : ByteArray := prog_3_method_5_code
def yX1_neighbour : MethodName := ⟨RX1, "neighbour", "(II)I"⟩
abbrev cX1_placeAfter : ByteArray := prog_3_method_6_code
def yX1_placeAfter : MethodName := ⟨RX1, "placeAfter", "(II)I"⟩
abbrev cX1_drifted : ByteArray := prog_3_method_7_code
def yX1_drifted : MethodName := ⟨RX1, "drifted", "(J)J"⟩
abbrev cX1_openLeads : ByteArray := prog_3_method_8_code
def yX1_openLeads : MethodName := ⟨RX1, "openLeads", "(I)J"⟩
abbrev cX1_hauledFrom : ByteArray := prog_3_method_9_code
def yX1_hauledFrom : MethodName := ⟨RX1, "hauledFrom", "(JI)J"⟩
abbrev cX1_gridPlaces : ByteArray := prog_3_method_10_code
def yX1_gridPlaces : MethodName := ⟨RX1, "gridPlaces", "()J"⟩
abbrev cX1_isTold : ByteArray := prog_3_method_11_code
def yX1_isTold : MethodName := ⟨RX1, "isTold", "(J)Z"⟩
abbrev cX1_shipNamed : ByteArray := prog_3_method_12_code
def yX1_shipNamed : MethodName := ⟨RX1, "shipNamed", "(J)I"⟩
abbrev cX1_crewOf : ByteArray := prog_3_method_13_code
def yX1_crewOf : MethodName := ⟨RX1, "crewOf", "(I)I"⟩
abbrev cX1_hasLead : ByteArray := prog_3_method_14_code
def yX1_hasLead : MethodName := ⟨RX1, "hasLead", "(I)Z"⟩
def RX2 : String := "PackWeeks$Past"
def TX2 : u_T := fun k => match k with
  | 0 => ("PackWeeks$Past", "ring", "[LPackWeeks$Stand;", true)
  | 1 => ("PackWeeks$Past", "oldest", "I", false)
  | _ => ("PackWeeks$Past", "size", "I", false)
def tyX2 : Nat → FieldType := fun k => match k with
  | 0 => .array (.object "PackWeeks$Stand")
  | 1 => .int
  | _ => .int
abbrev wsX20 : List Cond := u_ws RX2 TX2 3
theorem nmX2 : ∀ a, a < 3 → ∀ b, b < 3 → a ≠ b → (TX2 a).2.1 ≠ (TX2 b).2.1 := by decide +kernel
theorem tyX2_ok : ∀ k, k < 3 → parseFieldDescriptor (TX2 k).2.2.1 = some (tyX2 k) := by decide +kernel
abbrev cX2_init : ByteArray := prog_4_method_1_code
def yX2_init : MethodName := ⟨RX2, "<init>", "()V"⟩
abbrev cX2_clear : ByteArray := prog_4_method_2_code
def yX2_clear : MethodName := ⟨RX2, "clear", "()V"⟩
abbrev cX2_keep : ByteArray := prog_4_method_3_code
def yX2_keep : MethodName := ⟨RX2, "keep", "(LPackWeeks$Stand;)V"⟩
abbrev cX2_giveBack : ByteArray := prog_4_method_4_code
def yX2_giveBack : MethodName := ⟨RX2, "giveBack", "(LPackWeeks$Stand;)Z"⟩
def RX3 : String := "PackWeeks$Reader"
def TX3 : u_T := fun k => match k with
  | 0 => ("PackWeeks$Reader", "tape", "LPackWeeks$Tape;", true)
  | 1 => ("PackWeeks$Reader", "pack", "LPackWeeks$Pack;", false)
  | 2 => ("PackWeeks$Reader", "law", "LPackWeeks$Law;", false)
  | 3 => ("PackWeeks$Reader", "lawWord", "LPackWeeks$Word;", false)
  | 4 => ("PackWeeks$Reader", "paceTold", "Z", false)
  | 5 => ("PackWeeks$Reader", "eatTold", "Z", false)
  | 6 => ("PackWeeks$Reader", "lookTold", "Z", false)
  | _ => ("PackWeeks$Reader", "breakTold", "Z", false)
def tyX3 : Nat → FieldType := fun k => match k with
  | 0 => .object "PackWeeks$Tape"
  | 1 => .object "PackWeeks$Pack"
  | 2 => .object "PackWeeks$Law"
  | 3 => .object "PackWeeks$Word"
  | 4 => .boolean
  | 5 => .boolean
  | 6 => .boolean
  | _ => .boolean
abbrev wsX30 : List Cond := u_ws RX3 TX3 8
theorem nmX3 : ∀ a, a < 8 → ∀ b, b < 8 → a ≠ b → (TX3 a).2.1 ≠ (TX3 b).2.1 := by decide +kernel
theorem tyX3_ok : ∀ k, k < 8 → parseFieldDescriptor (TX3 k).2.2.1 = some (tyX3 k) := by decide +kernel
abbrev cX3_init : ByteArray := prog_5_method_1_code
def yX3_init : MethodName := ⟨RX3, "<init>", "(LPackWeeks$Tape;)V"⟩
abbrev cX3_readPack : ByteArray := prog_5_method_2_code
def yX3_readPack : MethodName := ⟨RX3, "readPack", "(LPackWeeks$Pack;)I"⟩
abbrev cX3_packLine : ByteArray := prog_5_method_3_code
def yX3_packLine : MethodName := ⟨RX3, "packLine", "(LPackWeeks$Word;)V"⟩
abbrev cX3_driftLine : ByteArray := prog_5_method_4_code
def yX3_driftLine : MethodName := ⟨RX3, "driftLine", "()V"⟩
abbrev cX3_thingLine : ByteArray := prog_5_method_5_code
def yX3_thingLine : MethodName := ⟨RX3, "thingLine", "()V"⟩
abbrev cX3_leadLine : ByteArray := prog_5_method_6_code
def yX3_leadLine : MethodName := ⟨RX3, "leadLine", "()V"⟩
abbrev cX3_crewLine : ByteArray := prog_5_method_7_code
def yX3_crewLine : MethodName := ⟨RX3, "crewLine", "()V"⟩
abbrev cX3_paceLine : ByteArray := prog_5_method_8_code
def yX3_paceLine : MethodName := ⟨RX3, "paceLine", "()V"⟩
abbrev cX3_gapLine : ByteArray := prog_5_method_9_code
def yX3_gapLine : MethodName := ⟨RX3, "gapLine", "()V"⟩
abbrev cX3_signLine : ByteArray := prog_5_method_10_code
def yX3_signLine : MethodName := ⟨RX3, "signLine", "()V"⟩
abbrev cX3_loadLine : ByteArray := prog_5_method_11_code
def yX3_loadLine : MethodName := ⟨RX3, "loadLine", "()V"⟩
abbrev cX3_startRow : ByteArray := prog_5_method_12_code
def yX3_startRow : MethodName := ⟨RX3, "startRow", "(LPackWeeks$Rows;)V"⟩
abbrev cX3_endRow : ByteArray := prog_5_method_13_code
def yX3_endRow : MethodName := ⟨RX3, "endRow", "(LPackWeeks$Rows;JIIII)V"⟩
abbrev cX3_newName : ByteArray := prog_5_method_14_code
def yX3_newName : MethodName := ⟨RX3, "newName", "()J"⟩
abbrev cX3_lawLine : ByteArray := prog_5_method_15_code
def yX3_lawLine : MethodName := ⟨RX3, "lawLine", "(LPackWeeks$Word;LPackWeeks$Law;Z)Z"⟩
abbrev cX3_readLevel : ByteArray := prog_5_method_16_code
def yX3_readLevel : MethodName := ⟨RX3, "readLevel", "(II)V"⟩
abbrev cX3_operatorHere : ByteArray := prog_5_method_17_code
def yX3_operatorHere : MethodName := ⟨RX3, "operatorHere", "(I)I"⟩
abbrev cX3_readPart : ByteArray := prog_5_method_18_code
def yX3_readPart : MethodName := ⟨RX3, "readPart", "(I)V"⟩
abbrev cX3_beginsPart : ByteArray := prog_5_method_19_code
def yX3_beginsPart : MethodName := ⟨RX3, "beginsPart", "()Z"⟩
abbrev cX3_isFact : ByteArray := prog_5_method_20_code
def yX3_isFact : MethodName := ⟨RX3, "isFact", "(LPackWeeks$Word;)Z"⟩
abbrev cX3_addFact : ByteArray := prog_5_method_21_code
def yX3_addFact : MethodName := ⟨RX3, "addFact", "(LPackWeeks$Word;)V"⟩
abbrev cX3_readWeeks : ByteArray := prog_5_method_22_code
def yX3_readWeeks : MethodName := ⟨RX3, "readWeeks", "(LPackWeeks$Pack;LPackWeeks$Rows;)I"⟩
abbrev cX3_weekLine : ByteArray := prog_5_method_23_code
def yX3_weekLine : MethodName := ⟨RX3, "weekLine", "(LPackWeeks$Word;LPackWeeks$Rows;)V"⟩
abbrev cX3_crewHere : ByteArray := prog_5_method_24_code
def yX3_crewHere : MethodName := ⟨RX3, "crewHere", "()I"⟩
def RX4 : String := "PackWeeks$Reckoner"
def TX4 : u_T := fun k => match k with
  | 0 => ("PackWeeks$Reckoner", "firstLook", "I", false)
  | 1 => ("PackWeeks$Reckoner", "lampTotal", "I", false)
  | 2 => ("PackWeeks$Reckoner", "firstLoad", "I", false)
  | 3 => ("PackWeeks$Reckoner", "chances", "[I", true)
  | 4 => ("PackWeeks$Reckoner", "prices", "[I", true)
  | 5 => ("PackWeeks$Reckoner", "costs", "[[I", true)
  | 6 => ("PackWeeks$Reckoner", "order", "[I", true)
  | 7 => ("PackWeeks$Reckoner", "leaves", "[[I", true)
  | 8 => ("PackWeeks$Reckoner", "lampRows", "[I", true)
  | 9 => ("PackWeeks$Reckoner", "holding", "[I", true)
  | _ => ("PackWeeks$Reckoner", "worths", "[I", true)
def tyX4 : Nat → FieldType := fun k => match k with
  | 0 => .int
  | 1 => .int
  | 2 => .int
  | 3 => .array .int
  | 4 => .array .int
  | 5 => .array (.array .int)
  | 6 => .array .int
  | 7 => .array (.array .int)
  | 8 => .array .int
  | 9 => .array .int
  | _ => .array .int
abbrev wsX40 : List Cond := u_ws RX4 TX4 11
theorem nmX4 : ∀ a, a < 11 → ∀ b, b < 11 → a ≠ b → (TX4 a).2.1 ≠ (TX4 b).2.1 := by decide +kernel
theorem tyX4_ok : ∀ k, k < 11 → parseFieldDescriptor (TX4 k).2.2.1 = some (tyX4 k) := by decide +kernel
abbrev cX4_init : ByteArray := prog_6_method_1_code
def yX4_init : MethodName := ⟨RX4, "<init>", "()V"⟩
abbrev cX4_gapIndex : ByteArray := prog_6_method_2_code
def yX4_gapIndex : MethodName := ⟨RX4, "gapIndex", "(III)I"⟩
abbrev cX4_gapChance : ByteArray := prog_6_method_3_code
def yX4_gapChance : MethodName := ⟨RX4, "gapChance", "(III)I"⟩
abbrev cX4_goingChance : ByteArray := prog_6_method_4_code
def yX4_goingChance : MethodName := ⟨RX4, "goingChance", "(LPackWeeks$Rows;III)I"⟩
abbrev cX4_openChance : ByteArray := prog_6_method_5_code
def yX4_openChance : MethodName := ⟨RX4, "openChance", "(LPackWeeks$Rows;III)I"⟩
abbrev cX4_fillGaps : ByteArray := prog_6_method_6_code
def yX4_fillGaps : MethodName := ⟨RX4, "fillGaps", "(LPackWeeks$Rows;I)V"⟩
abbrev cX4_fillGapDay : ByteArray := prog_6_method_7_code
def yX4_fillGapDay : MethodName := ⟨RX4, "fillGapDay", "(LPackWeeks$Rows;II)V"⟩
abbrev cX4_lookCost : ByteArray := prog_6_method_8_code
def yX4_lookCost : MethodName := ⟨RX4, "lookCost", "(II)I"⟩
abbrev cX4_fillLooks : ByteArray := prog_6_method_9_code
def yX4_fillLooks : MethodName := ⟨RX4, "fillLooks", "(LPackWeeks$Law;I)V"⟩
abbrev cX4_fillLook : ByteArray := prog_6_method_10_code
def yX4_fillLook : MethodName := ⟨RX4, "fillLook", "(II)I"⟩
abbrev cX4_lampRow : ByteArray := prog_6_method_11_code
def yX4_lampRow : MethodName := ⟨RX4, "lampRow", "(II)I"⟩
abbrev cX4_findLampRows : ByteArray := prog_6_method_12_code
def yX4_findLampRows : MethodName := ⟨RX4, "findLampRows", "(LPackWeeks$Rows;)V"⟩
abbrev cX4_orderSigns : ByteArray := prog_6_method_13_code
def yX4_orderSigns : MethodName := ⟨RX4, "orderSigns", "(LPackWeeks$Rows;)V"⟩
abbrev cX4_growLeaves : ByteArray := prog_6_method_14_code
def yX4_growLeaves : MethodName := ⟨RX4, "growLeaves", "(LPackWeeks$Rows;I)V"⟩
abbrev cX4_partLeaf : ByteArray := prog_6_method_15_code
def yX4_partLeaf : MethodName := ⟨RX4, "partLeaf", "(II)V"⟩
abbrev cX4_insertLeaf : ByteArray := prog_6_method_16_code
def yX4_insertLeaf : MethodName := ⟨RX4, "insertLeaf", "([III)V"⟩
abbrev cX4_weighLeaves : ByteArray := prog_6_method_17_code
def yX4_weighLeaves : MethodName := ⟨RX4, "weighLeaves", "(LPackWeeks$Rows;[I)V"⟩
abbrev cX4_isShorter : ByteArray := prog_6_method_18_code
def yX4_isShorter : MethodName := ⟨RX4, "isShorter", "([II)Z"⟩
abbrev cX4_loadWorth : ByteArray := prog_6_method_19_code
def yX4_loadWorth : MethodName := ⟨RX4, "loadWorth", "(I)I"⟩
abbrev cX4_fillLoads : ByteArray := prog_6_method_20_code
def yX4_fillLoads : MethodName := ⟨RX4, "fillLoads", "(LPackWeeks$Pack;)V"⟩
abbrev cX4_fillLoad : ByteArray := prog_6_method_21_code
def yX4_fillLoad : MethodName := ⟨RX4, "fillLoad", "(LPackWeeks$Rows;I)V"⟩
abbrev cX4_loadMean : ByteArray := prog_6_method_22_code
def yX4_loadMean : MethodName := ⟨RX4, "loadMean", "(LPackWeeks$Rows;III)I"⟩
def RX5 : String := "PackWeeks$Rows"
def TX5 : u_T := fun k => match k with
  | 0 => ("PackWeeks$Rows", "names", "[J", true)
  | 1 => ("PackWeeks$Rows", "first", "[I", true)
  | 2 => ("PackWeeks$Rows", "second", "[I", true)
  | 3 => ("PackWeeks$Rows", "third", "[I", true)
  | 4 => ("PackWeeks$Rows", "fourth", "[I", true)
  | _ => ("PackWeeks$Rows", "size", "I", false)
def tyX5 : Nat → FieldType := fun k => match k with
  | 0 => .array .long
  | 1 => .array .int
  | 2 => .array .int
  | 3 => .array .int
  | 4 => .array .int
  | _ => .int
abbrev wsX50 : List Cond := u_ws RX5 TX5 6
theorem nmX5 : ∀ a, a < 6 → ∀ b, b < 6 → a ≠ b → (TX5 a).2.1 ≠ (TX5 b).2.1 := by decide +kernel
theorem tyX5_ok : ∀ k, k < 6 → parseFieldDescriptor (TX5 k).2.2.1 = some (tyX5 k) := by decide +kernel
abbrev cX5_init : ByteArray := prog_7_method_1_code
def yX5_init : MethodName := ⟨RX5, "<init>", "(I)V"⟩
abbrev cX5_clear : ByteArray := prog_7_method_2_code
def yX5_clear : MethodName := ⟨RX5, "clear", "()V"⟩
abbrev cX5_isFull : ByteArray := prog_7_method_3_code
def yX5_isFull : MethodName := ⟨RX5, "isFull", "()Z"⟩
abbrev cX5_holds : ByteArray := prog_7_method_4_code
def yX5_holds : MethodName := ⟨RX5, "holds", "(I)Z"⟩
abbrev cX5_add : ByteArray := prog_7_method_5_code
def yX5_add : MethodName := ⟨RX5, "add", "(JIIII)V"⟩
abbrev cX5_find : ByteArray := prog_7_method_6_code
def yX5_find : MethodName := ⟨RX5, "find", "(J)I"⟩
def RX6 : String := "PackWeeks$Sights"
def TX6 : u_T := fun k => match k with
  | 0 => ("PackWeeks$Sights", "size", "I", false)
  | 1 => ("PackWeeks$Sights", "things", "[I", true)
  | 2 => ("PackWeeks$Sights", "steps", "[I", true)
  | 3 => ("PackWeeks$Sights", "bearings", "[I", true)
  | _ => ("PackWeeks$Sights", "alike", "[I", true)
def tyX6 : Nat → FieldType := fun k => match k with
  | 0 => .int
  | 1 => .array .int
  | 2 => .array .int
  | 3 => .array .int
  | _ => .array .int
abbrev wsX60 : List Cond := u_ws RX6 TX6 5
theorem nmX6 : ∀ a, a < 5 → ∀ b, b < 5 → a ≠ b → (TX6 a).2.1 ≠ (TX6 b).2.1 := by decide +kernel
theorem tyX6_ok : ∀ k, k < 5 → parseFieldDescriptor (TX6 k).2.2.1 = some (tyX6 k) := by decide +kernel
abbrev cX6_init : ByteArray := prog_8_method_1_code
def yX6_init : MethodName := ⟨RX6, "<init>", "()V"⟩
abbrev cX6_take : ByteArray := prog_8_method_2_code
def yX6_take : MethodName := ⟨RX6, "take", "(LPackWeeks$Sights;)V"⟩
abbrev cX6_note : ByteArray := prog_8_method_3_code
def yX6_note : MethodName := ⟨RX6, "note", "(III)Z"⟩
abbrev cX6_fitting : ByteArray := prog_8_method_4_code
def yX6_fitting : MethodName := ⟨RX6, "fitting", "(LPackWeeks$Pack;I)J"⟩
abbrev cX6_firstStep : ByteArray := prog_8_method_5_code
def yX6_firstStep : MethodName := ⟨RX6, "firstStep", "(I)I"⟩
abbrev cX6_agrees : ByteArray := prog_8_method_6_code
def yX6_agrees : MethodName := ⟨RX6, "agrees", "(LPackWeeks$Pack;II)Z"⟩
abbrev cX6_mostTelling : ByteArray := prog_8_method_7_code
def yX6_mostTelling : MethodName := ⟨RX6, "mostTelling", "(LPackWeeks$Pack;LPackWeeks$Stand;)I"⟩
abbrev cX6_mostAlike : ByteArray := prog_8_method_8_code
def yX6_mostAlike : MethodName := ⟨RX6, "mostAlike", "(LPackWeeks$Pack;JII)I"⟩
abbrev cX6_bearing : ByteArray := prog_8_method_9_code
def yX6_bearing : MethodName := ⟨RX6, "bearing", "(II)I"⟩
def RX7 : String := "PackWeeks$Stand"
def TX7 : u_T := fun k => match k with
  | 0 => ("PackWeeks$Stand", "step", "I", false)
  | 1 => ("PackWeeks$Stand", "places", "[I", true)
  | 2 => ("PackWeeks$Stand", "biscuit", "[I", true)
  | 3 => ("PackWeeks$Stand", "debts", "[I", true)
  | 4 => ("PackWeeks$Stand", "out", "[Z", true)
  | 5 => ("PackWeeks$Stand", "hauled", "[Z", true)
  | _ => ("PackWeeks$Stand", "sledges", "[I", true)
def tyX7 : Nat → FieldType := fun k => match k with
  | 0 => .int
  | 1 => .array .int
  | 2 => .array .int
  | 3 => .array .int
  | 4 => .array .boolean
  | 5 => .array .boolean
  | _ => .array .int
abbrev wsX70 : List Cond := u_ws RX7 TX7 7
theorem nmX7 : ∀ a, a < 7 → ∀ b, b < 7 → a ≠ b → (TX7 a).2.1 ≠ (TX7 b).2.1 := by decide +kernel
theorem tyX7_ok : ∀ k, k < 7 → parseFieldDescriptor (TX7 k).2.2.1 = some (tyX7 k) := by decide +kernel
abbrev cX7_init : ByteArray := prog_9_method_1_code
def yX7_init : MethodName := ⟨RX7, "<init>", "()V"⟩
abbrev cX7_begin : ByteArray := prog_9_method_2_code
def yX7_begin : MethodName := ⟨RX7, "begin", "(LPackWeeks$Pack;)V"⟩
abbrev cX7_take : ByteArray := prog_9_method_3_code
def yX7_take : MethodName := ⟨RX7, "take", "(LPackWeeks$Stand;)V"⟩
abbrev cX7_sledgePlace : ByteArray := prog_9_method_4_code
def yX7_sledgePlace : MethodName := ⟨RX7, "sledgePlace", "(LPackWeeks$Pack;I)I"⟩
abbrev cX7_appetite : ByteArray := prog_9_method_5_code
def yX7_appetite : MethodName := ⟨RX7, "appetite", "(LPackWeeks$Pack;II)I"⟩
abbrev cX7_biscuitOfAll : ByteArray := prog_9_method_6_code
def yX7_biscuitOfAll : MethodName := ⟨RX7, "biscuitOfAll", "(LPackWeeks$Pack;)I"⟩
abbrev cX7_hasHungryCrew : ByteArray := prog_9_method_7_code
def yX7_hasHungryCrew : MethodName := ⟨RX7, "hasHungryCrew", "(LPackWeeks$Pack;)Z"⟩
abbrev cX7_passStep : ByteArray := prog_9_method_8_code
def yX7_passStep : MethodName := ⟨RX7, "passStep", "(LPackWeeks$Pack;)I"⟩
abbrev cX7_haulSledge : ByteArray := prog_9_method_9_code
def yX7_haulSledge : MethodName := ⟨RX7, "haulSledge", "(LPackWeeks$Pack;II)Z"⟩
abbrev cX7_lendBiscuit : ByteArray := prog_9_method_10_code
def yX7_lendBiscuit : MethodName := ⟨RX7, "lendBiscuit", "(LPackWeeks$Pack;II)I"⟩
abbrev cX7_bringIn : ByteArray := prog_9_method_11_code
def yX7_bringIn : MethodName := ⟨RX7, "bringIn", "(LPackWeeks$Pack;I)Z"⟩
abbrev cX7_strayBears : ByteArray := prog_9_method_12_code
def yX7_strayBears : MethodName := ⟨RX7, "strayBears", "(LPackWeeks$Pack;J)J"⟩
abbrev cX7_bearVisits : ByteArray := prog_9_method_13_code
def yX7_bearVisits : MethodName := ⟨RX7, "bearVisits", "(LPackWeeks$Pack;)I"⟩
abbrev cX7_isInhabited : ByteArray := prog_9_method_14_code
def yX7_isInhabited : MethodName := ⟨RX7, "isInhabited", "(LPackWeeks$Pack;I)Z"⟩
def RX8 : String := "PackWeeks$Tape"
def TX8 : u_T := fun k => match k with
  | 0 => ("PackWeeks$Tape", "length", "I", false)
  | 1 => ("PackWeeks$Tape", "fault", "I", false)
  | 2 => ("PackWeeks$Tape", "signs", "[B", true)
  | 3 => ("PackWeeks$Tape", "types", "[I", true)
  | 4 => ("PackWeeks$Tape", "starts", "[I", true)
  | 5 => ("PackWeeks$Tape", "values", "[J", true)
  | 6 => ("PackWeeks$Tape", "words", "[LPackWeeks$Word;", true)
  | 7 => ("PackWeeks$Tape", "size", "I", false)
  | _ => ("PackWeeks$Tape", "here", "I", false)
def tyX8 : Nat → FieldType := fun k => match k with
  | 0 => .int
  | 1 => .int
  | 2 => .array .byte
  | 3 => .array .int
  | 4 => .array .int
  | 5 => .array .long
  | 6 => .array (.object "PackWeeks$Word")
  | 7 => .int
  | _ => .int
abbrev wsX80 : List Cond := u_ws RX8 TX8 9
theorem nmX8 : ∀ a, a < 9 → ∀ b, b < 9 → a ≠ b → (TX8 a).2.1 ≠ (TX8 b).2.1 := by decide +kernel
theorem tyX8_ok : ∀ k, k < 9 → parseFieldDescriptor (TX8 k).2.2.1 = some (tyX8 k) := by decide +kernel
abbrev cX8_init : ByteArray := prog_10_method_1_code
def yX8_init : MethodName := ⟨RX8, "<init>", "()V"⟩
abbrev cX8_put : ByteArray := prog_10_method_2_code
def yX8_put : MethodName := ⟨RX8, "put", "(J)V"⟩
abbrev cX8_cut : ByteArray := prog_10_method_3_code
def yX8_cut : MethodName := ⟨RX8, "cut", "()V"⟩
abbrev cX8_cutToken : ByteArray := prog_10_method_4_code
def yX8_cutToken : MethodName := ⟨RX8, "cutToken", "(I)I"⟩
abbrev cX8_cutWord : ByteArray := prog_10_method_5_code
def yX8_cutWord : MethodName := ⟨RX8, "cutWord", "(I)I"⟩
abbrev cX8_cutNumber : ByteArray := prog_10_method_6_code
def yX8_cutNumber : MethodName := ⟨RX8, "cutNumber", "(I)I"⟩
abbrev cX8_addToken : ByteArray := prog_10_method_7_code
def yX8_addToken : MethodName := ⟨RX8, "addToken", "(IIJ)V"⟩
abbrev cX8_isBlank : ByteArray := prog_10_method_8_code
def yX8_isBlank : MethodName := ⟨RX8, "isBlank", "(I)Z"⟩
abbrev cX8_isLetter : ByteArray := prog_10_method_9_code
def yX8_isLetter : MethodName := ⟨RX8, "isLetter", "(I)Z"⟩
abbrev cX8_isDigit : ByteArray := prog_10_method_10_code
def yX8_isDigit : MethodName := ⟨RX8, "isDigit", "(I)Z"⟩
abbrev cX8_goesOn : ByteArray := prog_10_method_11_code
def yX8_goesOn : MethodName := ⟨RX8, "goesOn", "()Z"⟩
abbrev cX8_wrong : ByteArray := prog_10_method_12_code
def yX8_wrong : MethodName := ⟨RX8, "wrong", "(I)V"⟩
abbrev cX8_goOn : ByteArray := prog_10_method_13_code
def yX8_goOn : MethodName := ⟨RX8, "goOn", "()V"⟩
abbrev cX8_isWord : ByteArray := prog_10_method_14_code
def yX8_isWord : MethodName := ⟨RX8, "isWord", "(LPackWeeks$Word;)Z"⟩
abbrev cX8_isSign : ByteArray := prog_10_method_15_code
def yX8_isSign : MethodName := ⟨RX8, "isSign", "(C)Z"⟩
abbrev cX8_isNumber : ByteArray := prog_10_method_16_code
def yX8_isNumber : MethodName := ⟨RX8, "isNumber", "()Z"⟩
abbrev cX8_value : ByteArray := prog_10_method_17_code
def yX8_value : MethodName := ⟨RX8, "value", "()I"⟩
abbrev cX8_word : ByteArray := prog_10_method_18_code
def yX8_word : MethodName := ⟨RX8, "word", "()LPackWeeks$Word;"⟩
abbrev cX8_takeWord : ByteArray := prog_10_method_19_code
def yX8_takeWord : MethodName := ⟨RX8, "takeWord", "(LPackWeeks$Word;)V"⟩
abbrev cX8_takeSign : ByteArray := prog_10_method_20_code
def yX8_takeSign : MethodName := ⟨RX8, "takeSign", "(C)V"⟩
abbrev cX8_takeNumber : ByteArray := prog_10_method_21_code
def yX8_takeNumber : MethodName := ⟨RX8, "takeNumber", "(II)I"⟩
abbrev cX8_takeRank : ByteArray := prog_10_method_22_code
def yX8_takeRank : MethodName := ⟨RX8, "takeRank", "(I)I"⟩
abbrev cX8_seeName : ByteArray := prog_10_method_23_code
def yX8_seeName : MethodName := ⟨RX8, "seeName", "()J"⟩
def RX9 : String := "PackWeeks$Word"
def TX9 : u_T := fun k => match k with
  | _ => ("", "", "", false)
def tyX9 : Nat → FieldType := fun k => match k with
  | _ => .int
abbrev wsX90 : List Cond := u_ws RX9 TX9 0
theorem nmX9 : ∀ a, a < 0 → ∀ b, b < 0 → a ≠ b → (TX9 a).2.1 ≠ (TX9 b).2.1 := by decide +kernel
theorem tyX9_ok : ∀ k, k < 0 → parseFieldDescriptor (TX9 k).2.2.1 = some (tyX9 k) := by decide +kernel
abbrev cX9_ofKey : ByteArray := prog_11_method_4_code
def yX9_ofKey : MethodName := ⟨RX9, "ofKey", "(J)LPackWeeks$Word;"⟩
def RX10 : String := "PackWeeks"
def TX10 : u_T := fun k => match k with
  | 0 => ("PackWeeks", "tape", "LPackWeeks$Tape;", true)
  | 1 => ("PackWeeks", "reader", "LPackWeeks$Reader;", true)
  | 2 => ("PackWeeks", "stand", "LPackWeeks$Stand;", true)
  | 3 => ("PackWeeks", "scratch", "LPackWeeks$Stand;", true)
  | 4 => ("PackWeeks", "past", "LPackWeeks$Past;", true)
  | 5 => ("PackWeeks", "marks", "[LPackWeeks$Stand;", true)
  | 6 => ("PackWeeks", "markSights", "[LPackWeeks$Sights;", true)
  | 7 => ("PackWeeks", "marked", "[Z", true)
  | 8 => ("PackWeeks", "sights", "LPackWeeks$Sights;", true)
  | 9 => ("PackWeeks", "reckoner", "LPackWeeks$Reckoner;", true)
  | 10 => ("PackWeeks", "told", "LPackWeeks$Pack;", false)
  | 11 => ("PackWeeks", "draft", "LPackWeeks$Pack;", false)
  | 12 => ("PackWeeks", "lines", "LPackWeeks$Rows;", false)
  | _ => ("PackWeeks", "draftLines", "LPackWeeks$Rows;", false)
def tyX10 : Nat → FieldType := fun k => match k with
  | 0 => .object "PackWeeks$Tape"
  | 1 => .object "PackWeeks$Reader"
  | 2 => .object "PackWeeks$Stand"
  | 3 => .object "PackWeeks$Stand"
  | 4 => .object "PackWeeks$Past"
  | 5 => .array (.object "PackWeeks$Stand")
  | 6 => .array (.object "PackWeeks$Sights")
  | 7 => .array .boolean
  | 8 => .object "PackWeeks$Sights"
  | 9 => .object "PackWeeks$Reckoner"
  | 10 => .object "PackWeeks$Pack"
  | 11 => .object "PackWeeks$Pack"
  | 12 => .object "PackWeeks$Rows"
  | _ => .object "PackWeeks$Rows"
abbrev wsX100 : List Cond := u_ws RX10 TX10 14
theorem nmX10 : ∀ a, a < 14 → ∀ b, b < 14 → a ≠ b → (TX10 a).2.1 ≠ (TX10 b).2.1 := by decide +kernel
theorem tyX10_ok : ∀ k, k < 14 → parseFieldDescriptor (TX10 k).2.2.1 = some (tyX10 k) := by decide +kernel
abbrev cX10_init : ByteArray := prog_1_method_1_code
def yX10_init : MethodName := ⟨RX10, "<init>", "()V"⟩
abbrev cX10_feed : ByteArray := prog_1_method_2_code
def yX10_feed : MethodName := ⟨RX10, "feed", "(JJJ)I"⟩
abbrev cX10_pack : ByteArray := prog_1_method_3_code
def yX10_pack : MethodName := ⟨RX10, "pack", "()I"⟩
abbrev cX10_weeks : ByteArray := prog_1_method_4_code
def yX10_weeks : MethodName := ⟨RX10, "weeks", "()I"⟩
abbrev cX10_flow : ByteArray := prog_1_method_5_code
def yX10_flow : MethodName := ⟨RX10, "flow", "(II)I"⟩
abbrev cX10_open : ByteArray := prog_1_method_6_code
def yX10_open : MethodName := ⟨RX10, "open", "(III)I"⟩
abbrev cX10_thing : ByteArray := prog_1_method_7_code
def yX10_thing : MethodName := ⟨RX10, "thing", "(II)I"⟩
abbrev cX10_crew : ByteArray := prog_1_method_8_code
def yX10_crew : MethodName := ⟨RX10, "crew", "(II)I"⟩
abbrev cX10_drift : ByteArray := prog_1_method_9_code
def yX10_drift : MethodName := ⟨RX10, "drift", "(I)I"⟩
abbrev cX10_haul : ByteArray := prog_1_method_10_code
def yX10_haul : MethodName := ⟨RX10, "haul", "(III)Z"⟩
abbrev cX10_lend : ByteArray := prog_1_method_11_code
def yX10_lend : MethodName := ⟨RX10, "lend", "(II)I"⟩
abbrev cX10_home : ByteArray := prog_1_method_12_code
def yX10_home : MethodName := ⟨RX10, "home", "(I)Z"⟩
abbrev cX10_undo : ByteArray := prog_1_method_13_code
def yX10_undo : MethodName := ⟨RX10, "undo", "()Z"⟩
abbrev cX10_judged : ByteArray := prog_1_method_14_code
def yX10_judged : MethodName := ⟨RX10, "judged", "(I)I"⟩
abbrev cX10_where : ByteArray := prog_1_method_15_code
def yX10_where : MethodName := ⟨RX10, "where", "(II)I"⟩
abbrev cX10_meet : ByteArray := prog_1_method_16_code
def yX10_meet : MethodName := ⟨RX10, "meet", "(II)I"⟩
abbrev cX10_reach : ByteArray := prog_1_method_17_code
def yX10_reach : MethodName := ⟨RX10, "reach", "(III)I"⟩
abbrev cX10_setout : ByteArray := prog_1_method_18_code
def yX10_setout : MethodName := ⟨RX10, "setout", "(II)I"⟩
abbrev cX10_see : ByteArray := prog_1_method_19_code
def yX10_see : MethodName := ⟨RX10, "see", "(III)Z"⟩
abbrev cX10_fits : ByteArray := prog_1_method_20_code
def yX10_fits : MethodName := ⟨RX10, "fits", "()J"⟩
abbrev cX10_tells : ByteArray := prog_1_method_21_code
def yX10_tells : MethodName := ⟨RX10, "tells", "()I"⟩
abbrev cX10_lasts : ByteArray := prog_1_method_22_code
def yX10_lasts : MethodName := ⟨RX10, "lasts", "(I)I"⟩
abbrev cX10_share : ByteArray := prog_1_method_23_code
def yX10_share : MethodName := ⟨RX10, "share", "()I"⟩
abbrev cX10_through : ByteArray := prog_1_method_24_code
def yX10_through : MethodName := ⟨RX10, "through", "(II)I"⟩
abbrev cX10_now : ByteArray := prog_1_method_25_code
def yX10_now : MethodName := ⟨RX10, "now", "(III)I"⟩
abbrev cX10_lost : ByteArray := prog_1_method_26_code
def yX10_lost : MethodName := ⟨RX10, "lost", "(II)I"⟩
abbrev cX10_code : ByteArray := prog_1_method_27_code
def yX10_code : MethodName := ⟨RX10, "code", "(I)I"⟩
abbrev cX10_carry : ByteArray := prog_1_method_28_code
def yX10_carry : MethodName := ⟨RX10, "carry", "(I)I"⟩
abbrev cX10_months : ByteArray := prog_1_method_29_code
def yX10_months : MethodName := ⟨RX10, "months", "(III)I"⟩
abbrev cX10_mark : ByteArray := prog_1_method_30_code
def yX10_mark : MethodName := ⟨RX10, "mark", "(IZ)Z"⟩
abbrev cX10_count : ByteArray := prog_1_method_31_code
def yX10_count : MethodName := ⟨RX10, "count", "(I)I"⟩
abbrev cX10_beginPack : ByteArray := prog_1_method_32_code
def yX10_beginPack : MethodName := ⟨RX10, "beginPack", "()V"⟩
abbrev cX10_byHand : ByteArray := prog_1_method_33_code
def yX10_byHand : MethodName := ⟨RX10, "byHand", "(III)I"⟩
abbrev cX10_act : ByteArray := prog_1_method_34_code
def yX10_act : MethodName := ⟨RX10, "act", "(LPackWeeks$Stand;III)I"⟩
abbrev cX10_areTwoThings : ByteArray := prog_1_method_35_code
def yX10_areTwoThings : MethodName := ⟨RX10, "areTwoThings", "(II)Z"⟩
abbrev cX10_soonest : ByteArray := prog_1_method_36_code
def yX10_soonest : MethodName := ⟨RX10, "soonest", "(IIII)I"⟩
abbrev cX10_isWithin : ByteArray := prog_1_method_37_code
def yX10_isWithin : MethodName := ⟨RX10, "isWithin", "(III)Z"⟩
abbrev cX10_placeOf : ByteArray := prog_1_method_38_code
def yX10_placeOf : MethodName := ⟨RX10, "placeOf", "(II)I"⟩
abbrev cX10_overOf : ByteArray := prog_1_method_39_code
def yX10_overOf : MethodName := ⟨RX10, "overOf", "(I)I"⟩
abbrev cX10_downOf : ByteArray := prog_1_method_40_code
def yX10_downOf : MethodName := ⟨RX10, "downOf", "(I)I"⟩
abbrev cX10_bit : ByteArray := prog_1_method_41_code
def yX10_bit : MethodName := ⟨RX10, "bit", "(I)J"⟩
abbrev cX10_has : ByteArray := prog_1_method_42_code
def yX10_has : MethodName := ⟨RX10, "has", "(JI)Z"⟩
def RX11 : String := "PackWeeksModel"
def TX11 : u_T := fun k => match k with
  | 0 => ("PackWeeksModel", "thrown", "I", false)
  | 1 => ("PackWeeksModel", "tape", "[I", true)
  | 2 => ("PackWeeksModel", "taped", "I", false)
  | 3 => ("PackWeeksModel", "size", "I", false)
  | 4 => ("PackWeeksModel", "sort", "[I", true)
  | 5 => ("PackWeeksModel", "place", "[I", true)
  | 6 => ("PackWeeksModel", "value", "[J", true)
  | 7 => ("PackWeeksModel", "at", "I", false)
  | 8 => ("PackWeeksModel", "fault", "I", false)
  | 9 => ("PackWeeksModel", "words", "[J", true)
  | 10 => ("PackWeeksModel", "packs", "[I", true)
  | 11 => ("PackWeeksModel", "op", "[I", true)
  | 12 => ("PackWeeksModel", "arg", "[I", true)
  | 13 => ("PackWeeksModel", "codes", "I", false)
  | 14 => ("PackWeeksModel", "names", "[J", true)
  | 15 => ("PackWeeksModel", "readNames", "[J", true)
  | 16 => ("PackWeeksModel", "nameOf", "[I", true)
  | 17 => ("PackWeeksModel", "readNameOf", "[I", true)
  | 18 => ("PackWeeksModel", "namesMany", "I", false)
  | 19 => ("PackWeeksModel", "readMany", "I", false)
  | 20 => ("PackWeeksModel", "hasPace", "Z", false)
  | 21 => ("PackWeeksModel", "factsHere", "I", false)
  | 22 => ("PackWeeksModel", "lines", "[I", true)
  | 23 => ("PackWeeksModel", "facts", "[I", true)
  | 24 => ("PackWeeksModel", "pile", "[I", true)
  | 25 => ("PackWeeksModel", "state", "[I", true)
  | 26 => ("PackWeeksModel", "undos", "I", false)
  | 27 => ("PackWeeksModel", "isMarked", "[Z", true)
  | 28 => ("PackWeeksModel", "here", "[Z", true)
  | 29 => ("PackWeeksModel", "then", "[Z", true)
  | 30 => ("PackWeeksModel", "bearings", "[I", true)
  | 31 => ("PackWeeksModel", "needs", "[I", true)
  | 32 => ("PackWeeksModel", "chances", "[I", true)
  | 33 => ("PackWeeksModel", "looks", "[I", true)
  | 34 => ("PackWeeksModel", "grown", "[I", true)
  | 35 => ("PackWeeksModel", "bestRows", "[I", true)
  | 36 => ("PackWeeksModel", "order", "[I", true)
  | 37 => ("PackWeeksModel", "row", "[I", true)
  | 38 => ("PackWeeksModel", "bestSum", "I", false)
  | 39 => ("PackWeeksModel", "carried", "[I", true)
  | _ => ("PackWeeksModel", "g", "J", false)
def tyX11 : Nat → FieldType := fun k => match k with
  | 0 => .int
  | 1 => .array .int
  | 2 => .int
  | 3 => .int
  | 4 => .array .int
  | 5 => .array .int
  | 6 => .array .long
  | 7 => .int
  | 8 => .int
  | 9 => .array .long
  | 10 => .array .int
  | 11 => .array .int
  | 12 => .array .int
  | 13 => .int
  | 14 => .array .long
  | 15 => .array .long
  | 16 => .array .int
  | 17 => .array .int
  | 18 => .int
  | 19 => .int
  | 20 => .boolean
  | 21 => .int
  | 22 => .array .int
  | 23 => .array .int
  | 24 => .array .int
  | 25 => .array .int
  | 26 => .int
  | 27 => .array .boolean
  | 28 => .array .boolean
  | 29 => .array .boolean
  | 30 => .array .int
  | 31 => .array .int
  | 32 => .array .int
  | 33 => .array .int
  | 34 => .array .int
  | 35 => .array .int
  | 36 => .array .int
  | 37 => .array .int
  | 38 => .int
  | 39 => .array .int
  | _ => .long
abbrev wsX110 : List Cond := u_ws RX11 TX11 41
theorem nmX11 : ∀ a, a < 41 → ∀ b, b < 41 → a ≠ b → (TX11 a).2.1 ≠ (TX11 b).2.1 := by decide +kernel
theorem tyX11_ok : ∀ k, k < 41 → parseFieldDescriptor (TX11 k).2.2.1 = some (tyX11 k) := by decide +kernel
abbrev cX11_thrown : ByteArray := prog_13_method_1_code
def yX11_thrown : MethodName := ⟨RX11, "thrown", "()I"⟩
abbrev cX11_feed : ByteArray := prog_13_method_2_code
def yX11_feed : MethodName := ⟨RX11, "feed", "(JJJ)I"⟩
abbrev cX11_lay : ByteArray := prog_13_method_3_code
def yX11_lay : MethodName := ⟨RX11, "lay", "(J)V"⟩
abbrev cX11_init : ByteArray := prog_13_method_4_code
def yX11_init : MethodName := ⟨RX11, "<init>", "()V"⟩
abbrev cX11_isLetter : ByteArray := prog_13_method_5_code
def yX11_isLetter : MethodName := ⟨RX11, "isLetter", "(I)Z"⟩
abbrev cX11_isDigit : ByteArray := prog_13_method_6_code
def yX11_isDigit : MethodName := ⟨RX11, "isDigit", "(I)Z"⟩
abbrev cX11_rank : ByteArray := prog_13_method_7_code
def yX11_rank : MethodName := ⟨RX11, "rank", "(I)I"⟩
abbrev cX11_isSignOf : ByteArray := prog_13_method_8_code
def yX11_isSignOf : MethodName := ⟨RX11, "isSignOf", "(I)Z"⟩
abbrev cX11_cutAll : ByteArray := prog_13_method_9_code
def yX11_cutAll : MethodName := ⟨RX11, "cutAll", "()V"⟩
abbrev cX11_wrong : ByteArray := prog_13_method_10_code
def yX11_wrong : MethodName := ⟨RX11, "wrong", "(I)V"⟩
abbrev cX11_isSign : ByteArray := prog_13_method_11_code
def yX11_isSign : MethodName := ⟨RX11, "isSign", "(I)Z"⟩
abbrev cX11_isWord : ByteArray := prog_13_method_12_code
def yX11_isWord : MethodName := ⟨RX11, "isWord", "(I)Z"⟩
abbrev cX11_takeSign : ByteArray := prog_13_method_13_code
def yX11_takeSign : MethodName := ⟨RX11, "takeSign", "(I)V"⟩
abbrev cX11_hasSign : ByteArray := prog_13_method_14_code
def yX11_hasSign : MethodName := ⟨RX11, "hasSign", "(I)Z"⟩
abbrev cX11_hasWord : ByteArray := prog_13_method_15_code
def yX11_hasWord : MethodName := ⟨RX11, "hasWord", "(I)Z"⟩
abbrev cX11_takeWord : ByteArray := prog_13_method_16_code
def yX11_takeWord : MethodName := ⟨RX11, "takeWord", "(I)V"⟩
abbrev cX11_within : ByteArray := prog_13_method_17_code
def yX11_within : MethodName := ⟨RX11, "within", "(III)Z"⟩
abbrev cX11_standsAsAlways : ByteArray := prog_13_method_18_code
def yX11_standsAsAlways : MethodName := ⟨RX11, "standsAsAlways", "(I)V"⟩
abbrev cX11_takeNumber : ByteArray := prog_13_method_19_code
def yX11_takeNumber : MethodName := ⟨RX11, "takeNumber", "(II)I"⟩
abbrev cX11_takeAfter : ByteArray := prog_13_method_20_code
def yX11_takeAfter : MethodName := ⟨RX11, "takeAfter", "(III)I"⟩
abbrev cX11_wordHere : ByteArray := prog_13_method_21_code
def yX11_wordHere : MethodName := ⟨RX11, "wordHere", "(II)I"⟩
abbrev cX11_takeOne : ByteArray := prog_13_method_22_code
def yX11_takeOne : MethodName := ⟨RX11, "takeOne", "(II)I"⟩
abbrev cX11_isName : ByteArray := prog_13_method_23_code
def yX11_isName : MethodName := ⟨RX11, "isName", "()Z"⟩
abbrev cX11_find : ByteArray := prog_13_method_24_code
def yX11_find : MethodName := ⟨RX11, "find", "(Z)I"⟩
abbrev cX11_pack : ByteArray := prog_13_method_25_code
def yX11_pack : MethodName := ⟨RX11, "pack", "()I"⟩
abbrev cX11_readLine : ByteArray := prog_13_method_26_code
def yX11_readLine : MethodName := ⟨RX11, "readLine", "()V"⟩
abbrev cX11_readName : ByteArray := prog_13_method_27_code
def yX11_readName : MethodName := ⟨RX11, "readName", "(I)V"⟩
abbrev cX11_lastOver : ByteArray := prog_13_method_28_code
def yX11_lastOver : MethodName := ⟨RX11, "lastOver", "()I"⟩
abbrev cX11_lastDown : ByteArray := prog_13_method_29_code
def yX11_lastDown : MethodName := ⟨RX11, "lastDown", "()I"⟩
abbrev cX11_readDrift : ByteArray := prog_13_method_30_code
def yX11_readDrift : MethodName := ⟨RX11, "readDrift", "()V"⟩
abbrev cX11_readThing : ByteArray := prog_13_method_31_code
def yX11_readThing : MethodName := ⟨RX11, "readThing", "()V"⟩
abbrev cX11_readLead : ByteArray := prog_13_method_32_code
def yX11_readLead : MethodName := ⟨RX11, "readLead", "()V"⟩
abbrev cX11_readCrew : ByteArray := prog_13_method_33_code
def yX11_readCrew : MethodName := ⟨RX11, "readCrew", "()V"⟩
abbrev cX11_readGap : ByteArray := prog_13_method_34_code
def yX11_readGap : MethodName := ⟨RX11, "readGap", "()V"⟩
abbrev cX11_readSign : ByteArray := prog_13_method_35_code
def yX11_readSign : MethodName := ⟨RX11, "readSign", "()V"⟩
abbrev cX11_readLoad : ByteArray := prog_13_method_36_code
def yX11_readLoad : MethodName := ⟨RX11, "readLoad", "()V"⟩
abbrev cX11_readOnce : ByteArray := prog_13_method_37_code
def yX11_readOnce : MethodName := ⟨RX11, "readOnce", "()V"⟩
abbrev cX11_weeks : ByteArray := prog_13_method_38_code
def yX11_weeks : MethodName := ⟨RX11, "weeks", "()I"⟩
abbrev cX11_readWeek : ByteArray := prog_13_method_39_code
def yX11_readWeek : MethodName := ⟨RX11, "readWeek", "(II)V"⟩
abbrev cX11_takeCrew : ByteArray := prog_13_method_40_code
def yX11_takeCrew : MethodName := ⟨RX11, "takeCrew", "()I"⟩
abbrev cX11_emit : ByteArray := prog_13_method_41_code
def yX11_emit : MethodName := ⟨RX11, "emit", "(II)V"⟩
abbrev cX11_all : ByteArray := prog_13_method_42_code
def yX11_all : MethodName := ⟨RX11, "all", "(I)V"⟩
abbrev cX11_test : ByteArray := prog_13_method_43_code
def yX11_test : MethodName := ⟨RX11, "test", "(I)V"⟩
abbrev cX11_sums : ByteArray := prog_13_method_44_code
def yX11_sums : MethodName := ⟨RX11, "sums", "(I)V"⟩
abbrev cX11_products : ByteArray := prog_13_method_45_code
def yX11_products : MethodName := ⟨RX11, "products", "(I)V"⟩
abbrev cX11_takePart : ByteArray := prog_13_method_46_code
def yX11_takePart : MethodName := ⟨RX11, "takePart", "(I)V"⟩
abbrev cX11_worthAt : ByteArray := prog_13_method_47_code
def yX11_worthAt : MethodName := ⟨RX11, "worthAt", "(I)I"⟩
abbrev cX11_both : ByteArray := prog_13_method_48_code
def yX11_both : MethodName := ⟨RX11, "both", "(III)I"⟩
abbrev cX11_copies : ByteArray := prog_13_method_49_code
def yX11_copies : MethodName := ⟨RX11, "copies", "(III)V"⟩
abbrev cX11_starts : ByteArray := prog_13_method_50_code
def yX11_starts : MethodName := ⟨RX11, "starts", "(I)V"⟩
abbrev cX11_begins : ByteArray := prog_13_method_51_code
def yX11_begins : MethodName := ⟨RX11, "begins", "()V"⟩
abbrev cX11_keeps : ByteArray := prog_13_method_52_code
def yX11_keeps : MethodName := ⟨RX11, "keeps", "()V"⟩
abbrev cX11_things : ByteArray := prog_13_method_53_code
def yX11_things : MethodName := ⟨RX11, "things", "()I"⟩
abbrev cX11_crews : ByteArray := prog_13_method_54_code
def yX11_crews : MethodName := ⟨RX11, "crews", "()I"⟩
abbrev cX11_crewOf : ByteArray := prog_13_method_55_code
def yX11_crewOf : MethodName := ⟨RX11, "crewOf", "(II)I"⟩
abbrev cX11_kindOf : ByteArray := prog_13_method_56_code
def yX11_kindOf : MethodName := ⟨RX11, "kindOf", "(I)I"⟩
abbrev cX11_isThing : ByteArray := prog_13_method_57_code
def yX11_isThing : MethodName := ⟨RX11, "isThing", "(I)Z"⟩
abbrev cX11_isCrew : ByteArray := prog_13_method_58_code
def yX11_isCrew : MethodName := ⟨RX11, "isCrew", "(I)Z"⟩
abbrev cX11_isPlace : ByteArray := prog_13_method_59_code
def yX11_isPlace : MethodName := ⟨RX11, "isPlace", "(II)Z"⟩
abbrev cX11_onFrom : ByteArray := prog_13_method_60_code
def yX11_onFrom : MethodName := ⟨RX11, "onFrom", "(II)I"⟩
abbrev cX11_flowsTo : ByteArray := prog_13_method_61_code
def yX11_flowsTo : MethodName := ⟨RX11, "flowsTo", "(I)I"⟩
abbrev cX11_isOpen : ByteArray := prog_13_method_62_code
def yX11_isOpen : MethodName := ⟨RX11, "isOpen", "(II)Z"⟩
abbrev cX11_sledgeOf : ByteArray := prog_13_method_63_code
def yX11_sledgeOf : MethodName := ⟨RX11, "sledgeOf", "(II)I"⟩
abbrev cX11_flow : ByteArray := prog_13_method_64_code
def yX11_flow : MethodName := ⟨RX11, "flow", "(II)I"⟩
abbrev cX11_open : ByteArray := prog_13_method_65_code
def yX11_open : MethodName := ⟨RX11, "open", "(III)I"⟩
abbrev cX11_crewAt : ByteArray := prog_13_method_66_code
def yX11_crewAt : MethodName := ⟨RX11, "crewAt", "(I)I"⟩
abbrev cX11_thing : ByteArray := prog_13_method_67_code
def yX11_thing : MethodName := ⟨RX11, "thing", "(II)I"⟩
abbrev cX11_crew : ByteArray := prog_13_method_68_code
def yX11_crew : MethodName := ⟨RX11, "crew", "(II)I"⟩
abbrev cX11_lawOf : ByteArray := prog_13_method_69_code
def yX11_lawOf : MethodName := ⟨RX11, "lawOf", "(III)I"⟩
abbrev cX11_eatsOf : ByteArray := prog_13_method_70_code
def yX11_eatsOf : MethodName := ⟨RX11, "eatsOf", "(III)I"⟩
abbrev cX11_passes : ByteArray := prog_13_method_71_code
def yX11_passes : MethodName := ⟨RX11, "passes", "(I)I"⟩
abbrev cX11_drift : ByteArray := prog_13_method_72_code
def yX11_drift : MethodName := ⟨RX11, "drift", "(I)I"⟩
abbrev cX11_hauls : ByteArray := prog_13_method_73_code
def yX11_hauls : MethodName := ⟨RX11, "hauls", "(I)V"⟩
abbrev cX11_clearsHere : ByteArray := prog_13_method_74_code
def yX11_clearsHere : MethodName := ⟨RX11, "clearsHere", "(I)V"⟩
abbrev cX11_mayHaul : ByteArray := prog_13_method_75_code
def yX11_mayHaul : MethodName := ⟨RX11, "mayHaul", "(III)Z"⟩
abbrev cX11_hauledTo : ByteArray := prog_13_method_76_code
def yX11_hauledTo : MethodName := ⟨RX11, "hauledTo", "(III)V"⟩
abbrev cX11_haul : ByteArray := prog_13_method_77_code
def yX11_haul : MethodName := ⟨RX11, "haul", "(III)Z"⟩
abbrev cX11_mayLend : ByteArray := prog_13_method_78_code
def yX11_mayLend : MethodName := ⟨RX11, "mayLend", "(II)Z"⟩
abbrev cX11_lends : ByteArray := prog_13_method_79_code
def yX11_lends : MethodName := ⟨RX11, "lends", "(III)I"⟩
abbrev cX11_lend : ByteArray := prog_13_method_80_code
def yX11_lend : MethodName := ⟨RX11, "lend", "(II)I"⟩
abbrev cX11_mayHome : ByteArray := prog_13_method_81_code
def yX11_mayHome : MethodName := ⟨RX11, "mayHome", "(II)Z"⟩
abbrev cX11_home : ByteArray := prog_13_method_82_code
def yX11_home : MethodName := ⟨RX11, "home", "(I)Z"⟩
abbrev cX11_undo : ByteArray := prog_13_method_83_code
def yX11_undo : MethodName := ⟨RX11, "undo", "()Z"⟩
abbrev cX11_does : ByteArray := prog_13_method_84_code
def yX11_does : MethodName := ⟨RX11, "does", "(I)Z"⟩
abbrev cX11_judged : ByteArray := prog_13_method_85_code
def yX11_judged : MethodName := ⟨RX11, "judged", "(I)I"⟩
abbrev cX11_placeBehind : ByteArray := prog_13_method_86_code
def yX11_placeBehind : MethodName := ⟨RX11, "placeBehind", "(II)I"⟩
abbrev cX11_where : ByteArray := prog_13_method_87_code
def yX11_where : MethodName := ⟨RX11, "where", "(II)I"⟩
abbrev cX11_meet : ByteArray := prog_13_method_88_code
def yX11_meet : MethodName := ⟨RX11, "meet", "(II)I"⟩
abbrev cX11_reachOf : ByteArray := prog_13_method_89_code
def yX11_reachOf : MethodName := ⟨RX11, "reachOf", "(III)I"⟩
abbrev cX11_reach : ByteArray := prog_13_method_90_code
def yX11_reach : MethodName := ⟨RX11, "reach", "(III)I"⟩
abbrev cX11_setout : ByteArray := prog_13_method_91_code
def yX11_setout : MethodName := ⟨RX11, "setout", "(II)I"⟩
abbrev cX11_bearingOf : ByteArray := prog_13_method_92_code
def yX11_bearingOf : MethodName := ⟨RX11, "bearingOf", "(II)I"⟩
abbrev cX11_see : ByteArray := prog_13_method_93_code
def yX11_see : MethodName := ⟨RX11, "see", "(III)Z"⟩
abbrev cX11_fitsAt : ByteArray := prog_13_method_94_code
def yX11_fitsAt : MethodName := ⟨RX11, "fitsAt", "(I)Z"⟩
abbrev cX11_fits : ByteArray := prog_13_method_95_code
def yX11_fits : MethodName := ⟨RX11, "fits", "()J"⟩
abbrev cX11_tells : ByteArray := prog_13_method_96_code
def yX11_tells : MethodName := ⟨RX11, "tells", "()I"⟩
abbrev cX11_lastsWith : ByteArray := prog_13_method_97_code
def yX11_lastsWith : MethodName := ⟨RX11, "lastsWith", "(II)I"⟩
abbrev cX11_lasts : ByteArray := prog_13_method_98_code
def yX11_lasts : MethodName := ⟨RX11, "lasts", "(I)I"⟩
abbrev cX11_lastsBy : ByteArray := prog_13_method_99_code
def yX11_lastsBy : MethodName := ⟨RX11, "lastsBy", "(II)I"⟩
abbrev cX11_share : ByteArray := prog_13_method_100_code
def yX11_share : MethodName := ⟨RX11, "share", "()I"⟩
abbrev cX11_chanceAt : ByteArray := prog_13_method_101_code
def yX11_chanceAt : MethodName := ⟨RX11, "chanceAt", "(III)I"⟩
abbrev cX11_goesThrough : ByteArray := prog_13_method_102_code
def yX11_goesThrough : MethodName := ⟨RX11, "goesThrough", "(III)I"⟩
abbrev cX11_openDay : ByteArray := prog_13_method_103_code
def yX11_openDay : MethodName := ⟨RX11, "openDay", "(III)I"⟩
abbrev cX11_laysChances : ByteArray := prog_13_method_104_code
def yX11_laysChances : MethodName := ⟨RX11, "laysChances", "()V"⟩
abbrev cX11_through : ByteArray := prog_13_method_105_code
def yX11_through : MethodName := ⟨RX11, "through", "(II)I"⟩
abbrev cX11_now : ByteArray := prog_13_method_106_code
def yX11_now : MethodName := ⟨RX11, "now", "(III)I"⟩
abbrev cX11_lookAt : ByteArray := prog_13_method_107_code
def yX11_lookAt : MethodName := ⟨RX11, "lookAt", "(I)I"⟩
abbrev cX11_costOf : ByteArray := prog_13_method_108_code
def yX11_costOf : MethodName := ⟨RX11, "costOf", "(III)I"⟩
abbrev cX11_bestLook : ByteArray := prog_13_method_109_code
def yX11_bestLook : MethodName := ⟨RX11, "bestLook", "(II)I"⟩
abbrev cX11_lost : ByteArray := prog_13_method_110_code
def yX11_lost : MethodName := ⟨RX11, "lost", "(II)I"⟩
abbrev cX11_findOrder : ByteArray := prog_13_method_111_code
def yX11_findOrder : MethodName := ⟨RX11, "findOrder", "(I)V"⟩
abbrev cX11_looksAt : ByteArray := prog_13_method_112_code
def yX11_looksAt : MethodName := ⟨RX11, "looksAt", "(II)V"⟩
abbrev cX11_grows : ByteArray := prog_13_method_113_code
def yX11_grows : MethodName := ⟨RX11, "grows", "(II)V"⟩
abbrev cX11_code : ByteArray := prog_13_method_114_code
def yX11_code : MethodName := ⟨RX11, "code", "(I)I"⟩
abbrev cX11_carryOf : ByteArray := prog_13_method_115_code
def yX11_carryOf : MethodName := ⟨RX11, "carryOf", "(II)I"⟩
abbrev cX11_bestLoad : ByteArray := prog_13_method_116_code
def yX11_bestLoad : MethodName := ⟨RX11, "bestLoad", "(I)I"⟩
abbrev cX11_carry : ByteArray := prog_13_method_117_code
def yX11_carry : MethodName := ⟨RX11, "carry", "(I)I"⟩
abbrev cX11_draw : ByteArray := prog_13_method_118_code
def yX11_draw : MethodName := ⟨RX11, "draw", "(I)I"⟩
abbrev cX11_isVisited : ByteArray := prog_13_method_119_code
def yX11_isVisited : MethodName := ⟨RX11, "isVisited", "(II)Z"⟩
abbrev cX11_months : ByteArray := prog_13_method_120_code
def yX11_months : MethodName := ⟨RX11, "months", "(III)I"⟩
abbrev cX11_mark : ByteArray := prog_13_method_121_code
def yX11_mark : MethodName := ⟨RX11, "mark", "(IZ)Z"⟩
abbrev cX11_count : ByteArray := prog_13_method_122_code
def yX11_count : MethodName := ⟨RX11, "count", "(I)I"⟩
def RJx145de : String := "java/io/Serializable"
def TJx145de : u_T := fun k => match k with
  | _ => ("", "", "", false)
def tyJx145de : Nat → FieldType := fun k => match k with
  | _ => .int
abbrev wsJx145de0 : List Cond := u_ws RJx145de TJx145de 0
theorem nmJx145de : ∀ a, a < 0 → ∀ b, b < 0 → a ≠ b → (TJx145de a).2.1 ≠ (TJx145de b).2.1 := by decide +kernel
theorem tyJx145de_ok : ∀ k, k < 0 → parseFieldDescriptor (TJx145de k).2.2.1 = some (tyJx145de k) := by decide +kernel
def RJx29ce0 : String := "java/lang/Enum"
def TJx29ce0 : u_T := fun k => match k with
  | _ => ("", "", "", false)
def tyJx29ce0 : Nat → FieldType := fun k => match k with
  | _ => .int
abbrev wsJx29ce00 : List Cond := u_ws RJx29ce0 TJx29ce0 0
theorem nmJx29ce0 : ∀ a, a < 0 → ∀ b, b < 0 → a ≠ b → (TJx29ce0 a).2.1 ≠ (TJx29ce0 b).2.1 := by decide +kernel
theorem tyJx29ce0_ok : ∀ k, k < 0 → parseFieldDescriptor (TJx29ce0 k).2.2.1 = some (tyJx29ce0 k) := by decide +kernel
def RJ6 : String := "java/lang/Integer"
def TJ6 : u_T := fun k => match k with
  | _ => ("", "", "", false)
def tyJ6 : Nat → FieldType := fun k => match k with
  | _ => .int
abbrev wsJ60 : List Cond := u_ws RJ6 TJ6 0
theorem nmJ6 : ∀ a, a < 0 → ∀ b, b < 0 → a ≠ b → (TJ6 a).2.1 ≠ (TJ6 b).2.1 := by decide +kernel
theorem tyJ6_ok : ∀ k, k < 0 → parseFieldDescriptor (TJ6 k).2.2.1 = some (tyJ6 k) := by decide +kernel
abbrev cJ6_compare_7cf53 : ByteArray := prog_17_method_40_code
def yJ6_compare_7cf53 : MethodName := ⟨RJ6, "compare", "(II)I"⟩
def RJ13 : String := "java/lang/Long"
def TJ13 : u_T := fun k => match k with
  | _ => ("", "", "", false)
def tyJ13 : Nat → FieldType := fun k => match k with
  | _ => .int
abbrev wsJ130 : List Cond := u_ws RJ13 TJ13 0
theorem nmJ13 : ∀ a, a < 0 → ∀ b, b < 0 → a ≠ b → (TJ13 a).2.1 ≠ (TJ13 b).2.1 := by decide +kernel
theorem tyJ13_ok : ∀ k, k < 0 → parseFieldDescriptor (TJ13 k).2.2.1 = some (tyJ13 k) := by decide +kernel
abbrev cJ13_bitCount_95d88 : ByteArray := prog_18_method_50_code
def yJ13_bitCount_95d88 : MethodName := ⟨RJ13, "bitCount", "(J)I"⟩
def RJ9 : String := "java/lang/Math"
def TJ9 : u_T := fun k => match k with
  | _ => ("", "", "", false)
def tyJ9 : Nat → FieldType := fun k => match k with
  | _ => .int
abbrev wsJ90 : List Cond := u_ws RJ9 TJ9 0
theorem nmJ9 : ∀ a, a < 0 → ∀ b, b < 0 → a ≠ b → (TJ9 a).2.1 ≠ (TJ9 b).2.1 := by decide +kernel
theorem tyJ9_ok : ∀ k, k < 0 → parseFieldDescriptor (TJ9 k).2.2.1 = some (tyJ9 k) := by decide +kernel
abbrev cJ9_floorMod_7cf53 : ByteArray := prog_19_method_50_code
def yJ9_floorMod_7cf53 : MethodName := ⟨RJ9, "floorMod", "(II)I"⟩
abbrev cJ9_max_7cf53 : ByteArray := prog_19_method_65_code
def yJ9_max_7cf53 : MethodName := ⟨RJ9, "max", "(II)I"⟩
abbrev cJ9_min_7cf53 : ByteArray := prog_19_method_69_code
def yJ9_min_7cf53 : MethodName := ⟨RJ9, "min", "(II)I"⟩
def RJ0 : String := "java/lang/String"
def TJ0 : u_T := fun k => match k with
  | _ => ("", "", "", false)
def tyJ0 : Nat → FieldType := fun k => match k with
  | _ => .int
abbrev wsJ00 : List Cond := u_ws RJ0 TJ0 0
theorem nmJ0 : ∀ a, a < 0 → ∀ b, b < 0 → a ≠ b → (TJ0 a).2.1 ≠ (TJ0 b).2.1 := by decide +kernel
theorem tyJ0_ok : ∀ k, k < 0 → parseFieldDescriptor (TJ0 k).2.2.1 = some (tyJ0 k) := by decide +kernel
def RL : String := "PackWeeksLaw"
abbrev cL_thing : ByteArray := method_3_code
def yL_thing : MethodName := ⟨RL, "thing", "(LPackWeeks;II[J)I"⟩
abbrev cL_crew : ByteArray := method_4_code
def yL_crew : MethodName := ⟨RL, "crew", "(LPackWeeks;II[J)I"⟩
abbrev cL_share : ByteArray := method_5_code
def yL_share : MethodName := ⟨RL, "share", "(LPackWeeks;[J)I"⟩
abbrev cL_law : ByteArray := code
def yL_law : MethodName := ⟨RL, "law", "([I)Z"⟩
abbrev vwCl : List vw_C := [(RX0, TX0, 3), (RX1, TX1, 17), (RX2, TX2, 3), (RX3, TX3, 8), (RX4, TX4, 11), (RX5, TX5, 6), (RX6, TX6, 5), (RX7, TX7, 7), (RX8, TX8, 9), (RX10, TX10, 14), (RX11, TX11, 41)]
theorem inX0 : ∀ w ∈ wsX00, w ∈ lw_tbl := by decide +kernel
theorem inX1 : ∀ w ∈ wsX10, w ∈ lw_tbl := by decide +kernel
theorem inX2 : ∀ w ∈ wsX20, w ∈ lw_tbl := by decide +kernel
theorem inX3 : ∀ w ∈ wsX30, w ∈ lw_tbl := by decide +kernel
theorem inX4 : ∀ w ∈ wsX40, w ∈ lw_tbl := by decide +kernel
theorem inX5 : ∀ w ∈ wsX50, w ∈ lw_tbl := by decide +kernel
theorem inX6 : ∀ w ∈ wsX60, w ∈ lw_tbl := by decide +kernel
theorem inX7 : ∀ w ∈ wsX70, w ∈ lw_tbl := by decide +kernel
theorem inX8 : ∀ w ∈ wsX80, w ∈ lw_tbl := by decide +kernel
theorem inX10 : ∀ w ∈ wsX100, w ∈ lw_tbl := by decide +kernel
theorem inX11 : ∀ w ∈ wsX110, w ∈ lw_tbl := by decide +kernel
end
section
section EN
abbrev en_V : Type := Nat ⊕ (Nat ⊕ (Option Nat ⊕ (Nat ⊕ (Nat × Nat))))
abbrev en_C : Type := (Nat × List en_V) ⊕ (Nat × List en_V)
abbrev en_H : Type := List (List en_C)
abbrev en_L : Type := List (Nat × en_V)
abbrev en_S : Type := Nat × en_L × List en_V × en_H × Nat × Nat
abbrev en_R : Type := Option en_V × en_H × Nat × Nat
abbrev en_O : Type := en_R ⊕ en_S
abbrev en_I : Type := Instr × Nat × Nat × Nat
abbrev en_F : Type := Nat → List en_V → en_H → Nat → Option en_R
abbrev en_K : Type := Nat → en_L → List en_V → en_H → Nat → Nat → Option en_O
/-- the place n of a list, by the recursor: the kernel goes through it fast -/
noncomputable def en_nth {α : Type} (l : List α) : Nat → Option α :=
  List.rec (motive := fun _ => Nat → Option α) (fun _ => none) (fun a _ ih n => Nat.rec (motive := fun _ => Option α) (some a) (fun m _ => ih m) n) l
theorem en_nth_eq {α : Type} (l : List α) (n : Nat) : en_nth l n = l[n]? := by
  induction l generalizing n with
  | nil => exact List.getElem?_nil.symm
  | cons a l ih =>
    cases n with
    | zero => rfl
    | succ n => exact (ih n).trans List.getElem?_cons_succ.symm
noncomputable def en_upd {α : Type} (l : List α) : Nat → α → List α :=
  List.rec (motive := fun _ => Nat → α → List α) (fun _ _ => []) (fun a t ih n x => Nat.rec (motive := fun _ => List α) (x :: t) (fun m _ => a :: ih m x) n) l
theorem en_upd_eq {α : Type} (l : List α) (n : Nat) (x : α) : en_upd l n x = l.set n x := by
  induction l generalizing n with
  | nil => rfl
  | cons a l ih =>
    cases n with
    | zero => rfl
    | succ n => exact congrArg (a :: ·) (ih n)
noncomputable def en_rep {α : Type} (n : Nat) (a : α) : List α := Nat.rec (motive := fun _ => List α) [] (fun _ ih => a :: ih) n
theorem en_rep_eq {α : Type} (n : Nat) (a : α) : en_rep n a = List.replicate n a := by
  induction n with
  | zero => rfl
  | succ n ih => exact congrArg (a :: ·) ih
noncomputable def en_flt {α : Type} (g : α → Bool) (l : List α) : List α := List.rec (motive := fun _ => List α) [] (fun a _ ih => bif g a then a :: ih else ih) l
theorem en_flt_eq {α : Type} (g : α → Bool) (l : List α) : en_flt g l = l.filter g := by
  induction l with
  | nil => rfl
  | cons a l ih =>
    show (bif g a then a :: en_flt g l else en_flt g l) = _
    rw [ih, List.filter_cons]
    cases g a <;> rfl
noncomputable def en_len {α : Type} (l : List α) : Nat := List.rec (motive := fun _ => Nat) 0 (fun _ _ ih => Nat.succ ih) l
theorem en_len_eq {α : Type} (l : List α) : en_len l = l.length := by
  induction l with
  | nil => rfl
  | cons a l ih => exact congrArg Nat.succ ih
/-! ### the heap: rows of 24 cells -/
def en_ph : en_C := .inr (99, [])
noncomputable def en_get (t : en_H) (k : Nat) : Option en_C := match en_nth t (k / 24) with
  | none => none
  | some r => en_nth r (k % 24)
noncomputable def en_set (t : en_H) (k : Nat) (c : en_C) : en_H := match en_nth t (k / 24) with
  | none => t
  | some r => en_upd t (k / 24) (en_upd r (k % 24) c)
theorem en_get_set {t : en_H} {k : Nat} {c c0 : en_C} (h : en_get t k = some c0) (j : Nat) : en_get (en_set t k c) j = if j = k then some c else en_get t j := by
  unfold en_get at h
  unfold en_set
  cases hr : en_nth t (k / 24) with
  | none => rw [hr] at h; cases h
  | some r =>
    rw [hr] at h
    dsimp only at h
    rw [en_nth_eq] at hr h
    have l1 := (List.getElem?_eq_some_iff.mp hr).1
    have l2 := (List.getElem?_eq_some_iff.mp h).1
    show en_get (en_upd t (k / 24) (en_upd r (k % 24) c)) j = _
    rw [en_upd_eq, en_upd_eq]
    unfold en_get
    simp only [en_nth_eq]
    by_cases h1 : j / 24 = k / 24
    · rw [h1, List.getElem?_set_self l1]
      dsimp only
      by_cases h2 : j % 24 = k % 24
      · rw [if_pos (by omega), h2, List.getElem?_set_self l2]
      · rw [if_neg (by intro q; exact h2 (by rw [q])), List.getElem?_set_ne (Ne.symm h2), hr]
    · rw [if_neg (by intro q; exact h1 (by rw [q])), List.getElem?_set_ne (Ne.symm h1)]
/-! ### values -/
def en_kd : en_V → Nat
  | .inl _ => 0
  | .inr (.inl _) => 1
  | .inr (.inr (.inl _)) => 2
  | .inr (.inr (.inr (.inl 0))) => 1
  | .inr (.inr (.inr (.inl (_ + 1)))) => 2
  | .inr (.inr (.inr (.inr _))) => 0
def en_cat (a : en_V) : Nat := bif Nat.beq (en_kd a) 1 then 2 else 1
def en_rv (ba : Nat) (ex : Nat → Nat) : en_V → Value → Prop
  | .inl n, v => v = .int (nI n)
  | .inr (.inl n), v => v = .long (lN n)
  | .inr (.inr (.inl r)), v => v = va_rf (r.map (fun k => ba + k))
  | .inr (.inr (.inr (.inl 0))), v => ∃ x : Int64, v = .long x
  | .inr (.inr (.inr (.inl (j + 1)))), v => v = .ref (ex j)
  | .inr (.inr (.inr (.inr q))), v => ∃ x : Int32, v = .int x ∧ (q.1 : Int) ≤ x.toInt + 2147483648 ∧ x.toInt + 2147483648 ≤ (q.2 : Int)
def en_cv (ba : Nat) (ex : Nat → Nat) : en_V → Value
  | .inl n => .int (nI n)
  | .inr (.inl n) => .long (lN n)
  | .inr (.inr (.inl r)) => va_rf (r.map (fun k => ba + k))
  | .inr (.inr (.inr (.inl 0))) => .null
  | .inr (.inr (.inr (.inl (j + 1)))) => .ref (ex j)
  | .inr (.inr (.inr (.inr _))) => .null
theorem en_kd0 {ba : Nat} {ex : Nat → Nat} {a : en_V} {v : Value} (h : en_rv ba ex a v) (k : en_kd a = 0) : ∃ x : Int32, v = .int x := by
  match a, h, k with
  | .inl n, h, _ => exact ⟨_, h⟩
  | .inr (.inr (.inr (.inr q))), h, _ => obtain ⟨x, h, -⟩ := h; exact ⟨x, h⟩
  | .inr (.inl n), _, k => cases k
  | .inr (.inr (.inl r)), _, k => cases k
  | .inr (.inr (.inr (.inl 0))), _, k => cases k
  | .inr (.inr (.inr (.inl (j + 1)))), _, k => cases k
theorem en_kd1 {ba : Nat} {ex : Nat → Nat} {a : en_V} {v : Value} (h : en_rv ba ex a v) (k : en_kd a = 1) : ∃ x : Int64, v = .long x := by
  match a, h, k with
  | .inr (.inl n), h, _ => exact ⟨_, h⟩
  | .inr (.inr (.inr (.inl 0))), h, _ => exact h
  | .inl n, _, k => cases k
  | .inr (.inr (.inl r)), _, k => cases k
  | .inr (.inr (.inr (.inl (j + 1)))), _, k => cases k
  | .inr (.inr (.inr (.inr q))), _, k => cases k
theorem en_kd2 {ba : Nat} {ex : Nat → Nat} {a : en_V} {v : Value} (h : en_rv ba ex a v) (k : en_kd a = 2) : v = .null ∨ ∃ x : Nat, v = .ref x := by
  match a, h, k with
  | .inr (.inr (.inl none)), h, _ => exact Or.inl h
  | .inr (.inr (.inl (some r))), h, _ => exact Or.inr ⟨_, h⟩
  | .inr (.inr (.inr (.inl (j + 1)))), h, _ => exact Or.inr ⟨_, h⟩
  | .inl n, _, k => cases k
  | .inr (.inl n), _, k => cases k
  | .inr (.inr (.inr (.inl 0))), _, k => cases k
  | .inr (.inr (.inr (.inr q))), _, k => cases k
theorem en_kd_lt (a : en_V) : en_kd a = 0 ∨ en_kd a = 1 ∨ en_kd a = 2 := by
  match a with
  | .inl n => exact Or.inl rfl
  | .inr (.inl n) => exact Or.inr (Or.inl rfl)
  | .inr (.inr (.inl r)) => exact Or.inr (Or.inr rfl)
  | .inr (.inr (.inr (.inl 0))) => exact Or.inr (Or.inl rfl)
  | .inr (.inr (.inr (.inl (j + 1)))) => exact Or.inr (Or.inr rfl)
  | .inr (.inr (.inr (.inr q))) => exact Or.inl rfl
theorem en_rv_cat {ba : Nat} {ex : Nat → Nat} {a : en_V} {v : Value} (h : en_rv ba ex a v) : v.category = en_cat a := by
  rcases en_kd_lt a with k | k | k
  · obtain ⟨x, rfl⟩ := en_kd0 h k
    unfold en_cat; rw [k]; rfl
  · obtain ⟨x, rfl⟩ := en_kd1 h k
    unfold en_cat; rw [k]; rfl
  · unfold en_cat; rw [k]
    rcases en_kd2 h k with rfl | ⟨x, rfl⟩ <;> rfl
def en_rvs (ba : Nat) (ex : Nat → Nat) : List en_V → List Value → Prop
  | [], [] => True
  | a :: as, v :: vs => en_rv ba ex a v ∧ en_rvs ba ex as vs
  | [], _ :: _ => False
  | _ :: _, [] => False
theorem en_rvs_cons {ba : Nat} {ex : Nat → Nat} {a : en_V} {as : List en_V} {vs : List Value} (h : en_rvs ba ex (a :: as) vs) : ∃ v ws, vs = v :: ws ∧ en_rv ba ex a v ∧ en_rvs ba ex as ws := by
  cases vs with
  | nil => exact absurd h (by simp [en_rvs])
  | cons v ws => exact ⟨v, ws, rfl, h.1, h.2⟩
theorem en_rvs_nil {ba : Nat} {ex : Nat → Nat} {vs : List Value} (h : en_rvs ba ex [] vs) : vs = [] := by
  cases vs with
  | nil => rfl
  | cons v ws => exact absurd h (by simp [en_rvs])
theorem en_rvs_len {ba : Nat} {ex : Nat → Nat} : ∀ {as : List en_V} {vs : List Value}, en_rvs ba ex as vs → vs.length = as.length
  | [], vs, h => by rw [en_rvs_nil h]; rfl
  | a :: as, vs, h => by
    obtain ⟨v, ws, rfl, -, h2⟩ := en_rvs_cons h
    simp [en_rvs_len h2]
theorem en_rvs_get {ba : Nat} {ex : Nat → Nat} : ∀ {as : List en_V} {vs : List Value} {k : Nat} {a : en_V}, en_rvs ba ex as vs → as[k]? = some a → ∃ v, vs[k]? = some v ∧ en_rv ba ex a v
  | [], _, k, a, _, h => by simp at h
  | b :: as, vs, k, a, hr, h => by
    obtain ⟨v, ws, rfl, h1, h2⟩ := en_rvs_cons hr
    cases k with
    | zero => simp at h; subst h; exact ⟨v, by simp, h1⟩
    | succ k =>
      rw [List.getElem?_cons_succ] at h ⊢
      exact en_rvs_get h2 h
theorem en_rvs_set {ba : Nat} {ex : Nat → Nat} : ∀ {as : List en_V} {vs : List Value} (k : Nat) {a : en_V} {v : Value}, en_rvs ba ex as vs → en_rv ba ex a v → en_rvs ba ex (as.set k a) (vs.set k v)
  | [], vs, k, a, v, hr, _ => by rw [en_rvs_nil hr]; exact trivial
  | b :: as, vs, k, a, v, hr, h => by
    obtain ⟨w, ws, rfl, h1, h2⟩ := en_rvs_cons hr
    cases k with
    | zero => exact ⟨h, h2⟩
    | succ k => exact ⟨h1, en_rvs_set k h2 h⟩
theorem en_rvs_app {ba : Nat} {ex : Nat → Nat} : ∀ {as bs : List en_V} {vs ws : List Value}, en_rvs ba ex as vs → en_rvs ba ex bs ws → en_rvs ba ex (as ++ bs) (vs ++ ws)
  | [], bs, vs, ws, h1, h2 => by rw [en_rvs_nil h1]; exact h2
  | a :: as, bs, vs, ws, h1, h2 => by
    obtain ⟨v, vs', rfl, g1, g2⟩ := en_rvs_cons h1
    exact ⟨g1, en_rvs_app g2 h2⟩
theorem en_rvs_cat {ba : Nat} {ex : Nat → Nat} : ∀ {as : List en_V} {vs : List Value}, en_rvs ba ex as vs → (vs.map fun v => v.category) = as.map en_cat
  | [], vs, h => by rw [en_rvs_nil h]; rfl
  | a :: as, vs, h => by
    obtain ⟨v, ws, rfl, h1, h2⟩ := en_rvs_cons h
    rw [List.map_cons, List.map_cons, en_rvs_cat h2, en_rv_cat h1]
/-- locals -/
def en_rls (ba : Nat) (ex : Nat → Nat) : en_L → List (Nat × Value) → Prop
  | [], [] => True
  | a :: as, v :: vs => (a.1 = v.1 ∧ en_rv ba ex a.2 v.2) ∧ en_rls ba ex as vs
  | [], _ :: _ => False
  | _ :: _, [] => False
theorem en_rls_cons {ba : Nat} {ex : Nat → Nat} {a : Nat × en_V} {as : en_L} {vs : List (Nat × Value)} (h : en_rls ba ex (a :: as) vs) : ∃ v ws, vs = v :: ws ∧ a.1 = v.1 ∧ en_rv ba ex a.2 v.2 ∧ en_rls ba ex as ws := by
  cases vs with
  | nil => exact absurd h (by simp [en_rls])
  | cons v ws => exact ⟨v, ws, rfl, h.1.1, h.1.2, h.2⟩
theorem en_rls_nil {ba : Nat} {ex : Nat → Nat} {vs : List (Nat × Value)} (h : en_rls ba ex [] vs) : vs = [] := by
  cases vs with
  | nil => rfl
  | cons v ws => exact absurd h (by simp [en_rls])
theorem en_rls_flt {ba : Nat} {ex : Nat → Nat} {g : Nat × en_V → Bool} {g' : Nat × Value → Bool} (hg : ∀ (a : Nat × en_V) (v : Nat × Value), a.1 = v.1 → en_rv ba ex a.2 v.2 → g a = g' v) :
    ∀ {as : en_L} {vs : List (Nat × Value)}, en_rls ba ex as vs → en_rls ba ex (en_flt g as) (vs.filter g')
  | [], vs, h => by rw [en_rls_nil h]; exact trivial
  | a :: as, vs, h => by
    obtain ⟨v, ws, rfl, h1, h2, h3⟩ := en_rls_cons h
    have ih := en_rls_flt hg h3
    show en_rls ba ex (bif g a then a :: en_flt g as else en_flt g as) _
    rw [List.filter_cons, hg a v h1 h2]
    cases hv : g' v with
    | true => exact ⟨⟨h1, h2⟩, ih⟩
    | false => exact ih
noncomputable def en_ld (ls : en_L) (i : Nat) : Option en_V := List.rec (motive := fun _ => Option en_V) none (fun q _ ih => bif Nat.beq q.1 i then some q.2 else ih) ls
theorem en_ld_at {ba : Nat} {ex : Nat → Nat} {i : Nat} {a : en_V} : ∀ {ls : en_L} {vs : List (Nat × Value)}, en_rls ba ex ls vs → en_ld ls i = some a → ∃ (k : Nat) (v : Value), vs[k]? = some (i, v) ∧ en_rv ba ex a v
  | [], _, _, h => by cases h
  | q :: ls, vs, hr, h => by
    obtain ⟨v, ws, rfl, h1, h2, h3⟩ := en_rls_cons hr
    have h : (bif Nat.beq q.1 i then some q.2 else en_ld ls i) = some a := h
    cases hq : Nat.beq q.1 i with
    | true =>
      rw [hq] at h
      cases h
      have e := Nat.eq_of_beq_eq_true hq
      refine ⟨0, v.2, ?_, h2⟩
      rw [List.getElem?_cons_zero, ← e, h1]
    | false =>
      rw [hq] at h
      obtain ⟨k, w, g1, g2⟩ := en_ld_at h3 h
      exact ⟨k + 1, w, by rw [List.getElem?_cons_succ]; exact g1, g2⟩
def en_keep1 (i : Nat) (q : Nat × en_V) : Bool := bif Nat.beq q.1 i then false else bif Nat.beq (q.1 + 1) i then Nat.beq (en_cat q.2) 1 else true
def en_keep2 (i : Nat) (q : Nat × en_V) : Bool := bif Nat.beq q.1 (i + 1) then false else en_keep1 i q
theorem en_cat_12 (a : en_V) : en_cat a = 1 ∨ en_cat a = 2 := by
  unfold en_cat
  cases Nat.beq (en_kd a) 1
  · exact Or.inl rfl
  · exact Or.inr rfl
theorem en_beq (a b : Nat) : Nat.beq a b = decide (a = b) := by
  by_cases h : a = b
  · subst h; simp
  · rw [decide_eq_false h]
    exact Bool.eq_false_iff.mpr (fun q => h (Nat.eq_of_beq_eq_true q))
theorem en_keep1_ok {ba : Nat} {ex : Nat → Nat} (i : Nat) (a : Nat × en_V) (v : Nat × Value) (h1 : a.1 = v.1) (h2 : en_rv ba ex a.2 v.2) : en_keep1 i a = (!(v.1 == i) && !(v.1 + 1 == i && v.2.category == 2)) := by
  unfold en_keep1
  rw [en_rv_cat h2, ← h1, en_beq, en_beq, en_beq]
  rcases en_cat_12 a.2 with h | h <;> rw [h] <;> by_cases p : a.1 = i <;> by_cases q : a.1 + 1 = i <;> simp [p, q]
theorem en_keep2_ok {ba : Nat} {ex : Nat → Nat} (i : Nat) (a : Nat × en_V) (v : Nat × Value) (h1 : a.1 = v.1) (h2 : en_rv ba ex a.2 v.2) : en_keep2 i a = (!(v.1 == i) && (!(v.1 == i + 1) && !(v.1 + 1 == i && v.2.category == 2))) := by
  unfold en_keep2
  rw [en_keep1_ok i a v h1 h2, en_beq, h1]
  by_cases p : v.1 = i + 1
  · simp [p]
  · have q : (v.1 == i + 1) = false := by simp [p]
    rw [decide_eq_false p, q]
    rfl
def en_lr (ba : Nat) (ex : Nat → Nat) (nL : Nat) (al : en_L) (ls : Array Slot) : Prop := ∃ vl : List (Nat × Value), lv_has ls nL vl ∧ en_rls ba ex al vl
/-- the locals with which a method begins -/
noncomputable def en_args (as : List en_V) : Nat → en_L := List.rec (motive := fun _ => Nat → en_L) (fun _ => []) (fun a _ ih i => (i, a) :: ih (bif Nat.beq (en_cat a) 2 then i + 2 else i + 1)) as
theorem en_args_ok {ba : Nat} {ex : Nat → Nat} : ∀ {as : List en_V} {vs : List Value} (i : Nat), en_rvs ba ex as vs → en_rls ba ex (en_args as i) (lv_args i vs)
  | [], vs, i, h => by rw [en_rvs_nil h]; exact trivial
  | a :: as, vs, i, h => by
    obtain ⟨v, ws, rfl, h1, h2⟩ := en_rvs_cons h
    refine ⟨⟨rfl, h1⟩, ?_⟩
    rw [en_rv_cat h1]
    have ih := en_args_ok (as := as) (vs := ws) (if en_cat a = 2 then i + 2 else i + 1) h2
    rw [en_beq]
    rcases en_cat_12 a with k | k <;> rw [k] at ih ⊢ <;> exact ih
theorem en_args_len {ba : Nat} {ex : Nat → Nat} : ∀ {as : List en_V} {vs : List Value}, en_rvs ba ex as vs → (lg_sl vs).length = (as.map en_cat).sum
  | [], vs, h => by rw [en_rvs_nil h]; rfl
  | a :: as, vs, h => by
    obtain ⟨v, ws, rfl, h1, h2⟩ := en_rvs_cons h
    have ih := en_args_len h2
    have hc := en_rv_cat h1
    unfold lg_sl at ih ⊢
    rw [List.flatMap_cons, List.length_append, ih, List.map_cons, List.sum_cons, hc]
    rcases en_cat_12 a with k | k <;> rw [k] <;> rfl
/-! ### bounds of ints -/
def en_bnd : en_V → Option (Nat × Nat)
  | .inl n => some ((n + 2147483648) % 4294967296, (n + 2147483648) % 4294967296)
  | .inr (.inr (.inr (.inr q))) => some q
  | .inr (.inl _) => none
  | .inr (.inr (.inl _)) => none
  | .inr (.inr (.inr (.inl _))) => none
theorem en_nI_toInt (n : Nat) : (nI n).toInt + 2147483648 = (((n + 2147483648) % 4294967296 : Nat) : Int) := by
  have h : (nI n).toInt = Int.bmod n (2 ^ 32) := Int32.toInt_ofNat'
  rw [h, Int.bmod_def]
  omega
theorem en_bnd_ok {ba : Nat} {ex : Nat → Nat} {a : en_V} {v : Value} {l h : Nat} (hr : en_rv ba ex a v) (hb : en_bnd a = some (l, h)) : ∃ x : Int32, v = .int x ∧ (l : Int) ≤ x.toInt + 2147483648 ∧ x.toInt + 2147483648 ≤ (h : Int) := by
  match a, hr, hb with
  | .inl n, hr, hb =>
    simp only [en_bnd, Option.some.injEq, Prod.mk.injEq] at hb
    obtain ⟨e1, e2⟩ := hb
    exact ⟨nI n, hr, by rw [← e1]; exact Int.le_of_eq (en_nI_toInt n).symm, by rw [← e2]; exact Int.le_of_eq (en_nI_toInt n)⟩
  | .inr (.inr (.inr (.inr q))), hr, hb =>
    cases hb
    exact hr
  | .inr (.inl n), _, hb => cases hb
  | .inr (.inr (.inl r)), _, hb => cases hb
  | .inr (.inr (.inr (.inl j))), _, hb => cases hb
def en_lt (x y : en_V) : Option Bool := match en_bnd x, en_bnd y with
  | some q, some r => bif Nat.blt q.2 r.1 then some true else bif Nat.ble r.2 q.1 then some false else none
  | _, _ => none
def en_eq (x y : en_V) : Option Bool := match en_bnd x, en_bnd y with
  | some q, some r => bif Nat.beq q.1 q.2 && (Nat.beq q.1 r.1 && Nat.beq r.1 r.2) then some true else bif Nat.blt q.2 r.1 || Nat.blt r.2 q.1 then some false else none
  | _, _ => none
theorem en_lt_ok {ba : Nat} {ex : Nat → Nat} {a b : en_V} {v w : Value} {r : Bool} (ha : en_rv ba ex a v) (hb : en_rv ba ex b w) (h : en_lt a b = some r) : ∃ x y : Int32, v = .int x ∧ w = .int y ∧ (x < y ↔ r = true) := by
  unfold en_lt at h
  cases h1 : en_bnd a with
  | none => rw [h1] at h; cases h
  | some q =>
    cases h2 : en_bnd b with
    | none => rw [h1, h2] at h; cases h
    | some u =>
      rw [h1, h2] at h
      obtain ⟨x, rfl, a1, a2⟩ := en_bnd_ok (l := q.1) (h := q.2) ha h1
      obtain ⟨y, rfl, b1, b2⟩ := en_bnd_ok (l := u.1) (h := u.2) hb h2
      refine ⟨x, y, rfl, rfl, ?_⟩
      rw [Int32.lt_iff_toInt_lt]
      dsimp only at h
      cases g1 : Nat.blt q.2 u.1 with
      | true =>
        rw [g1] at h
        cases h
        have g1 := Nat.lt_of_succ_le (Nat.le_of_ble_eq_true g1)
        exact ⟨fun _ => rfl, fun _ => by omega⟩
      | false =>
        rw [g1] at h
        cases g2 : Nat.ble u.2 q.1 with
        | true =>
          rw [g2] at h
          cases h
          have g2 := Nat.le_of_ble_eq_true g2
          exact ⟨fun _ => by omega, fun q => by cases q⟩
        | false => rw [g2] at h; cases h
theorem en_eq_ok {ba : Nat} {ex : Nat → Nat} {a b : en_V} {v w : Value} {r : Bool} (ha : en_rv ba ex a v) (hb : en_rv ba ex b w) (h : en_eq a b = some r) : ∃ x y : Int32, v = .int x ∧ w = .int y ∧ (x = y ↔ r = true) := by
  unfold en_eq at h
  cases h1 : en_bnd a with
  | none => rw [h1] at h; cases h
  | some q =>
    cases h2 : en_bnd b with
    | none => rw [h1, h2] at h; cases h
    | some u =>
      rw [h1, h2] at h
      obtain ⟨x, rfl, a1, a2⟩ := en_bnd_ok (l := q.1) (h := q.2) ha h1
      obtain ⟨y, rfl, b1, b2⟩ := en_bnd_ok (l := u.1) (h := u.2) hb h2
      refine ⟨x, y, rfl, rfl, ?_⟩
      rw [← Int32.toInt_inj]
      dsimp only at h
      rw [en_beq, en_beq, en_beq] at h
      cases g1 : (decide (q.1 = q.2) && (decide (q.1 = u.1) && decide (u.1 = u.2))) with
      | true =>
        rw [g1] at h
        cases h
        simp only [Bool.and_eq_true, decide_eq_true_eq] at g1
        exact ⟨fun _ => rfl, fun _ => by omega⟩
      | false =>
        rw [g1] at h
        cases g2 : (Nat.blt q.2 u.1 || Nat.blt u.2 q.1) with
        | true =>
          rw [g2] at h
          cases h
          have g3 : q.2 < u.1 ∨ u.2 < q.1 := by
            rcases Bool.or_eq_true_iff.mp g2 with g | g
            · exact Or.inl (Nat.le_of_ble_eq_true g)
            · exact Or.inr (Nat.le_of_ble_eq_true g)
          exact ⟨fun _ => by omega, fun q => by cases q⟩
        | false => rw [g2] at h; cases h
end EN
end
section
section EN2
/-! ### operations on numbers -/
theorem en_nI_tn (v : Int32) : nI v.toBitVec.toNat = v := Int32.toBitVec_inj.mp (by simp [nI])
theorem en_lN_tn (v : Int64) : lN v.toBitVec.toNat = v := Int64.toBitVec_inj.mp (by simp [lN])
theorem en_nI_mod (n : Nat) : nI (n % 4294967296) = nI n := by
  apply Int32.toBitVec_inj.mp
  apply BitVec.eq_of_toNat_eq
  simp [nI]
def en_wrap (n : Nat) : Nat := n % 4294967296
/-- a binary operation on ints -/
def en_ii (g : Nat → Nat → Option Nat) (a b : en_V) : Option en_V := match a, b with
  | .inl x, .inl y => (match g x y with | some z => some (.inl z) | none => none)
  | _, _ => none
def en_ll (g : Nat → Nat → Nat) (a b : en_V) : Option en_V := match a, b with
  | .inr (.inl x), .inr (.inl y) => some (.inr (.inl (g x y)))
  | _, _ => none
def en_li (g : Nat → Nat → Nat) (a b : en_V) : Option en_V := match a, b with
  | .inr (.inl x), .inl y => some (.inr (.inl (g x y)))
  | _, _ => none
def en_iadd (a b : en_V) : Option en_V := match a, b with
  | .inl x, .inl y => some (.inl (en_wrap (x + y)))
  | _, _ => (match en_bnd a, en_bnd b with
    | some q, some r => bif Nat.ble 2147483648 (q.1 + r.1) && Nat.blt (q.2 + r.2) 6442450944 then some (.inr (.inr (.inr (.inr (q.1 + r.1 - 2147483648, q.2 + r.2 - 2147483648))))) else none
    | _, _ => none)
def en_isub (x y : Nat) : Option Nat := some (nI x - nI y).toBitVec.toNat
def en_imul (x y : Nat) : Option Nat := some (en_wrap (x * y))
def en_iand (x y : Nat) : Option Nat := some (nI x &&& nI y).toBitVec.toNat
def en_ishl (x y : Nat) : Option Nat := some (nI x <<< (nI y &&& 31)).toBitVec.toNat
def en_ishr (x y : Nat) : Option Nat := some (nI x >>> (nI y &&& 31)).toBitVec.toNat
def en_idiv (x y : Nat) : Option Nat := if nI y = 0 then none else some (nI x / nI y).toBitVec.toNat
def en_irem (x y : Nat) : Option Nat := if nI y = 0 then none else some (nI x - nI x / nI y * nI y).toBitVec.toNat
def en_imax (x y : Nat) : Option Nat := some (if nI x < nI y then nI y else nI x).toBitVec.toNat
def en_imin (x y : Nat) : Option Nat := some (if nI y < nI x then nI y else nI x).toBitVec.toNat
def en_ladd (x y : Nat) : Nat := (lN x + lN y).toBitVec.toNat
def en_lsub (x y : Nat) : Nat := (lN x - lN y).toBitVec.toNat
def en_land (x y : Nat) : Nat := (lN x &&& lN y).toBitVec.toNat
def en_lor (x y : Nat) : Nat := (lN x ||| lN y).toBitVec.toNat
def en_lshl (x y : Nat) : Nat := (lN x <<< ((nI y).toInt64 &&& 63)).toBitVec.toNat
def en_lshr (x y : Nat) : Nat := (lN x >>> ((nI y).toInt64 &&& 63)).toBitVec.toNat
def en_lushr (x y : Nat) : Nat := ((lN x).toUInt64 >>> ((nI y).toInt64.toUInt64 &&& Int64.toUInt64 63)).toInt64.toBitVec.toNat
def en_lcmp (a b : en_V) : Option en_V := match a, b with
  | .inr (.inl x), .inr (.inl y) => some (.inl (lg_cmp (lN x) (lN y)).toBitVec.toNat)
  | _, _ => none
def en_ac (a b : en_V) : Option Bool := match a, b with
  | .inr (.inr (.inl x)), .inr (.inr (.inl y)) => some (decide (x = y))
  | .inr (.inr (.inl none)), .inr (.inr (.inr (.inl (_ + 1)))) => some false
  | .inr (.inr (.inr (.inl (_ + 1)))), .inr (.inr (.inl none)) => some false
  | _, _ => none
theorem en_ii_ok {ba : Nat} {ex : Nat → Nat} {g : Nat → Nat → Option Nat} {F : Int32 → Int32 → Int32} {P : Int32 → Int32 → Prop} (hg : ∀ x y z, g x y = some z → nI z = F (nI x) (nI y) ∧ P (nI x) (nI y)) {a b v : en_V} {va vb : Value} (ha : en_rv ba ex a va) (hb : en_rv ba ex b vb) (h : en_ii g a b = some v) :
    ∃ x y : Int32, va = .int x ∧ vb = .int y ∧ en_rv ba ex v (.int (F x y)) ∧ P x y := by
  unfold en_ii at h
  split at h
  · rename_i x y
    split at h
    · rename_i z hz
      cases h
      obtain ⟨h1, h2⟩ := hg _ _ _ hz
      exact ⟨nI x, nI y, ha, hb, by show Value.int _ = Value.int _; rw [h1], h2⟩
    · cases h
  · cases h
theorem en_ll_ok {ba : Nat} {ex : Nat → Nat} {g : Nat → Nat → Nat} {F : Int64 → Int64 → Int64} (hg : ∀ x y, lN (g x y) = F (lN x) (lN y)) {a b v : en_V} {va vb : Value} (ha : en_rv ba ex a va) (hb : en_rv ba ex b vb) (h : en_ll g a b = some v) :
    ∃ x y : Int64, va = .long x ∧ vb = .long y ∧ en_rv ba ex v (.long (F x y)) := by
  unfold en_ll at h
  split at h
  · rename_i x y
    cases h
    exact ⟨lN x, lN y, ha, hb, by show Value.long _ = Value.long _; rw [hg]⟩
  · cases h
theorem en_li_ok {ba : Nat} {ex : Nat → Nat} {g : Nat → Nat → Nat} {F : Int64 → Int32 → Int64} (hg : ∀ x y, lN (g x y) = F (lN x) (nI y)) {a b v : en_V} {va vb : Value} (ha : en_rv ba ex a va) (hb : en_rv ba ex b vb) (h : en_li g a b = some v) :
    ∃ (x : Int64) (y : Int32), va = .long x ∧ vb = .int y ∧ en_rv ba ex v (.long (F x y)) := by
  unfold en_li at h
  split at h
  · rename_i x y
    cases h
    exact ⟨lN x, nI y, ha, hb, by show Value.long _ = Value.long _; rw [hg]⟩
  · cases h
theorem en_lcmp_ok {ba : Nat} {ex : Nat → Nat} {a b v : en_V} {va vb : Value} (ha : en_rv ba ex a va) (hb : en_rv ba ex b vb) (h : en_lcmp a b = some v) :
    ∃ x y : Int64, va = .long x ∧ vb = .long y ∧ en_rv ba ex v (.int (lg_cmp x y)) := by
  unfold en_lcmp at h
  split at h
  · rename_i x y
    cases h
    exact ⟨lN x, lN y, ha, hb, by show Value.int _ = Value.int _; rw [en_nI_tn]⟩
  · cases h
theorem en_iadd_ok {ba : Nat} {ex : Nat → Nat} {a b v : en_V} {va vb : Value} (ha : en_rv ba ex a va) (hb : en_rv ba ex b vb) (h : en_iadd a b = some v) :
    ∃ x y : Int32, va = .int x ∧ vb = .int y ∧ en_rv ba ex v (.int (x + y)) := by
  unfold en_iadd at h
  split at h
  · rename_i x y
    cases h
    refine ⟨nI x, nI y, ha, hb, ?_⟩
    show Value.int _ = Value.int _
    unfold en_wrap
    rw [en_nI_mod, nI_add]
  · split at h
    · rename_i q r h1 h2
      obtain ⟨x, rfl, a1, a2⟩ := en_bnd_ok (l := q.1) (h := q.2) ha h1
      obtain ⟨y, rfl, b1, b2⟩ := en_bnd_ok (l := r.1) (h := r.2) hb h2
      cases hc : (Nat.ble 2147483648 (q.1 + r.1) && Nat.blt (q.2 + r.2) 6442450944) with
      | false => rw [hc] at h; cases h
      | true =>
        rw [hc] at h
        have hv : v = .inr (.inr (.inr (.inr (q.1 + r.1 - 2147483648, q.2 + r.2 - 2147483648)))) := (Option.some.inj h).symm
        subst hv
        obtain ⟨g1, g2⟩ := Bool.and_eq_true_iff.mp hc
        have g1 : 2147483648 ≤ q.1 + r.1 := Nat.le_of_ble_eq_true g1
        have g2 : q.2 + r.2 < 6442450944 := Nat.le_of_ble_eq_true g2
        refine ⟨x, y, rfl, rfl, x + y, rfl, ?_⟩
        have e : (x + y).toInt = x.toInt + y.toInt := by
          rw [Int32.toInt_add, Int.bmod_def]
          omega
        rw [e]
        show ((q.1 + r.1 - 2147483648 : Nat) : Int) ≤ _ ∧ _ ≤ ((q.2 + r.2 - 2147483648 : Nat) : Int)
        omega
    · cases h
theorem en_ac_ok {ba : Nat} {ex : Nat → Nat} {a b : en_V} {va vb : Value} {r : Bool} (ha : en_rv ba ex a va) (hb : en_rv ba ex b vb) (h : en_ac a b = some r) :
    ∃ x y : Option Nat, va = va_rf x ∧ vb = va_rf y ∧ (x = y ↔ r = true) := by
  unfold en_ac at h
  split at h
  · rename_i x y
    cases h
    refine ⟨_, _, ha, hb, ?_⟩
    rw [decide_eq_true_iff]
    refine ⟨fun q => ?_, fun q => by rw [q]⟩
    cases x <;> cases y <;> simp at q ⊢
    omega
  · rename_i j
    cases h
    exact ⟨none, some (ex j), ha, hb, by simp⟩
  · rename_i j
    cases h
    exact ⟨some (ex j), none, ha, hb, by simp⟩
  · cases h
/-! ### one step -/
noncomputable def en_load (d i : Nat) (nx : Nat) (ls : en_L) (st : List en_V) (t : en_H) (n sl : Nat) (k : en_K) : Option en_O := match en_ld ls i with
  | some a => bif Nat.beq (en_kd a) d then k nx ls (a :: st) t n sl else none
  | none => none
noncomputable def en_store (d i : Nat) (nx : Nat) (ls : en_L) (st : List en_V) (t : en_H) (n sl : Nat) (k : en_K) : Option en_O := match st with
  | a :: r => bif Nat.beq (en_kd a) d then k nx ((i, a) :: en_flt (bif Nat.beq d 1 then en_keep2 i else en_keep1 i) ls) r t n sl else none
  | [] => none
noncomputable def en_iinc (i x : Nat) (nx : Nat) (ls : en_L) (st : List en_V) (t : en_H) (n sl : Nat) (k : en_K) : Option en_O := match en_ld ls i with
  | some (.inl a) => k nx ((i, .inl (en_wrap (a + x))) :: en_flt (en_keep1 i) ls) st t n sl
  | _ => none
noncomputable def en_bin (g : en_V → en_V → Option en_V) (nx : Nat) (ls : en_L) (st : List en_V) (t : en_H) (n sl : Nat) (k : en_K) : Option en_O := match st with
  | b :: a :: r => (match g a b with | some v => k nx ls (v :: r) t n sl | none => none)
  | _ => none
noncomputable def en_jump (r : Option Bool) (tg nx : Nat) (ls : en_L) (st : List en_V) (t : en_H) (n sl : Nat) (k : en_K) : Option en_O := match r with
  | some b => bif b then k tg ls st t n sl else k nx ls st t n sl
  | none => none
def en_not (r : Option Bool) : Option Bool := match r with
  | some b => some (!b)
  | none => none
def en_rel (q : ClassFile.Cond) (a b : en_V) : Option Bool := match q with
  | .eq => en_eq a b
  | .ne => en_not (en_eq a b)
  | .lt => en_lt a b
  | .ge => en_not (en_lt a b)
  | .gt => en_lt b a
  | .le => en_not (en_lt b a)
noncomputable def en_getf (x1 x2 : Nat) (nx : Nat) (ls : en_L) (st : List en_V) (t : en_H) (n sl : Nat) (k : en_K) : Option en_O := match st with
  | .inr (.inr (.inl (some a))) :: r => (match en_get t a with
    | some (.inr q) => bif Nat.beq q.1 x2 then (match en_nth q.2 x1 with | some v => k nx ls (v :: r) t n sl | none => none) else none
    | _ => none)
  | _ => none
/-- may a value lie in a field of the kind: 0 int, 1 long, 2 a reference, 3 boolean -/
def en_fit (kd : Nat) (v : en_V) : Bool := bif Nat.beq kd 3 then (match v with | .inl x => Nat.ble x 1 | _ => false) else Nat.beq (en_kd v) kd
noncomputable def en_putf (x1 ci kd : Nat) (nx : Nat) (ls : en_L) (st : List en_V) (t : en_H) (n sl : Nat) (k : en_K) : Option en_O := match st with
  | v :: .inr (.inr (.inl (some a))) :: r => (match en_get t a with
    | some (.inr q) => bif Nat.beq q.1 ci && en_fit kd v && Nat.blt x1 (en_len q.2) then k nx ls r (en_set t a (.inr (q.1, en_upd q.2 x1 v))) n sl else none
    | _ => none)
  | _ => none
noncomputable def en_aget (oc : Option (List en_V)) (c : Nat → Bool) (nx : Nat) (ls : en_L) (st : List en_V) (t : en_H) (n sl : Nat) (k : en_K) : Option en_O := match st with
  | .inl i :: .inr (.inr (.inl (some a))) :: r => (match en_get t a with
    | some (.inl q) => bif c q.1 && Nat.blt i 2147483648 then (match en_nth q.2 i with | some v => k nx ls (v :: r) t n sl | none => none) else none
    | _ => none)
  | .inl i :: .inr (.inr (.inr (.inl 2))) :: r => (match oc with
    | some L => bif c 0 && Nat.blt i 2147483648 then (match en_nth L i with | some v => k nx ls (v :: r) t n sl | none => none) else none
    | none => none)
  | _ => none
/-- may a value lie in an array of the kind -/
noncomputable def en_afit (t : en_H) (d c : Nat) (v : en_V) : Bool := match d, v with
  | 0, .inl _ => Nat.beq c 0
  | 1, .inr (.inl _) => Nat.beq c 3
  | 2, .inl x => Nat.beq c 2 && Nat.ble x 1
  | 2, .inr (.inr (.inr (.inr q))) => Nat.beq c 1 && (Nat.beq q.1 0 && Nat.beq q.2 4294967295)
  | 3, .inr (.inr (.inl none)) => Nat.beq c 4
  | 3, .inr (.inr (.inl (some y))) => (match en_get t y with
    | some (.inr q) => (Nat.beq c 5 && Nat.beq q.1 7) || (Nat.beq c 6 && Nat.beq q.1 6)
    | _ => false)
  | _, _ => false
noncomputable def en_aput (d : Nat) (nx : Nat) (ls : en_L) (st : List en_V) (t : en_H) (n sl : Nat) (k : en_K) : Option en_O := match st with
  | v :: .inl i :: .inr (.inr (.inl (some a))) :: r => (match en_get t a with
    | some (.inl q) => bif en_afit t d q.1 v && (Nat.blt i 2147483648 && Nat.blt i (en_len q.2)) then k nx ls r (en_set t a (.inl (q.1, en_upd q.2 i v))) n sl else none
    | _ => none)
  | _ => none
noncomputable def en_alen (oc : Option (List en_V)) (nx : Nat) (ls : en_L) (st : List en_V) (t : en_H) (n sl : Nat) (k : en_K) : Option en_O := match st with
  | .inr (.inr (.inl (some a))) :: r => (match en_get t a with
    | some (.inl q) => bif Nat.blt q.1 8 then k nx ls (.inl (en_len q.2) :: r) t n sl else none
    | _ => none)
  | .inr (.inr (.inr (.inl 2))) :: r => (match oc with
    | some L => k nx ls (.inl (en_len L) :: r) t n sl
    | none => none)
  | _ => none
/-- is the place n the next free one -/
noncomputable def en_free (t : en_H) (n : Nat) : Bool := match en_get t n with
  | some (.inr q) => Nat.beq q.1 99
  | _ => false
noncomputable def en_new (ci : Nat) (fs : List en_V) (nx : Nat) (ls : en_L) (st : List en_V) (t : en_H) (n sl : Nat) (k : en_K) : Option en_O :=
  bif en_free t n then k nx ls (.inr (.inr (.inl (some n))) :: st) (en_set t n (.inr (ci, fs))) (n + 1) (sl + en_len fs) else none
noncomputable def en_newa (c : Nat) (z : en_V) (nx : Nat) (ls : en_L) (st : List en_V) (t : en_H) (n sl : Nat) (k : en_K) : Option en_O := match st with
  | .inl m :: r => bif en_free t n && Nat.ble m 60000 then k nx ls (.inr (.inr (.inl (some n))) :: r) (en_set t n (.inl (c, en_rep m z))) (n + 1) (sl + m) else none
  | _ => none
/-- cells n, n + 1 .. , each an array of ints -/
noncomputable def en_fill (m : Nat) (t : en_H) (n : Nat) : Nat → Option en_H := fun i => Nat.rec (motive := fun _ => Option en_H) (some t) (fun j ih => match ih with
  | some u => bif en_free u (n + j) then some (en_set u (n + j) (.inl (0, en_rep m (.inl 0)))) else none
  | none => none) i
noncomputable def en_refs (n m : Nat) : List en_V := Nat.rec (motive := fun _ => Nat → List en_V) (fun _ => []) (fun _ ih j => .inr (.inr (.inl (some j))) :: ih (j + 1)) m n
noncomputable def en_multi (nx : Nat) (ls : en_L) (st : List en_V) (t : en_H) (n sl : Nat) (k : en_K) : Option en_O := match st with
  | .inl m :: .inl w :: r => bif en_free t n && (Nat.ble m 60000 && Nat.ble w 60000) then (match en_fill m (en_set t n (.inl (7, en_refs (n + 1) w))) (n + 1) w with
    | some u => k nx ls (.inr (.inr (.inl (some n))) :: r) u (n + 1 + w) (sl + w + w * m)
    | none => none) else none
  | _ => none
/-- the topmost m of a stack, the last first, and the rest -/
noncomputable def en_take (m : Nat) : List en_V → List en_V → Option (List en_V × List en_V) := Nat.rec (motive := fun _ => List en_V → List en_V → Option (List en_V × List en_V)) (fun st acc => some (acc, st)) (fun _ ih st acc => match st with
  | a :: r => ih r (a :: acc)
  | [] => none) m
noncomputable def en_sum (l : List en_V) : Nat := List.rec (motive := fun _ => Nat) 0 (fun a _ ih => en_cat a + ih) l
noncomputable def en_recv (t : en_H) (rc : Nat) (as : List en_V) : Bool := match as with
  | .inr (.inr (.inl (some a))) :: _ => (match en_get t a with
    | some (.inr q) => Nat.beq q.1 rc
    | _ => false)
  | _ => false
def en_isref (as : List en_V) : Bool := match as with
  | .inr (.inr (.inl (some _))) :: _ => true
  | _ => false
noncomputable def en_inv (ok : List en_V → Bool) (f : en_F) (mi na : Nat) (nx : Nat) (ls : en_L) (st : List en_V) (t : en_H) (n sl : Nat) (k : en_K) : Option en_O := match en_take na st [] with
  | some q => bif ok q.1 && Nat.ble (en_sum q.2) 8 then (match f mi q.1 t n with
    | some r => bif Nat.ble n r.2.2.1 then k nx ls (r.1.toList ++ q.2) r.2.1 r.2.2.1 (sl + r.2.2.2) else none
    | none => none) else none
  | none => none
noncomputable def en_mm (g : en_V → en_V → Option en_V) (nx : Nat) (ls : en_L) (st : List en_V) (t : en_H) (n sl : Nat) (k : en_K) : Option en_O := match st with
  | b :: a :: r => bif Nat.ble (en_sum r) 8 then (match g a b with | some v => k nx ls (v :: r) t n sl | none => none) else none
  | _ => none
noncomputable def en_oinit (nx : Nat) (ls : en_L) (st : List en_V) (t : en_H) (n sl : Nat) (k : en_K) : Option en_O := match st with
  | .inr (.inr (.inl (some _))) :: r => bif Nat.ble (en_sum r) 8 then k nx ls r t n sl else none
  | _ => none
noncomputable def en_switch (pc : Nat) (df lo hi : Int) (os : Array Int) (ls : en_L) (st : List en_V) (t : en_H) (n sl : Nat) (k : en_K) : Option en_O := match st with
  | a :: r => (match en_bnd a with
    | some q => if (q.2 : Int) - 2147483648 < lo ∨ hi < (q.1 : Int) - 2147483648 then (if 0 ≤ (pc : Int) + df then k ((pc : Int) + df).toNat ls r t n sl else none)
      else (if q.1 = q.2 then (match en_nth os.toList ((q.1 : Int) - 2147483648 - lo).toNat with
        | some o => (if 0 ≤ (pc : Int) + o then k ((pc : Int) + o).toNat ls r t n sl else none)
        | none => none) else none)
    | none => none)
  | [] => none
noncomputable def en_ret1 (d b : Nat) (st : List en_V) (t : en_H) (n sl : Nat) : Option en_O := match st with
  | [a] => bif Nat.beq (en_kd a) d && (bif Nat.beq b 1 then en_fit 3 a else true) then some (.inl (some a, t, n, sl)) else none
  | _ => none
noncomputable def en_dup (nx : Nat) (ls : en_L) (st : List en_V) (t : en_H) (n sl : Nat) (k : en_K) : Option en_O := match st with
  | a :: r => bif Nat.beq (en_cat a) 1 then k nx ls (a :: a :: r) t n sl else none
  | [] => none
noncomputable def en_dup2 (nx : Nat) (ls : en_L) (st : List en_V) (t : en_H) (n sl : Nat) (k : en_K) : Option en_O := match st with
  | a :: b :: r => bif Nat.beq (en_cat a) 1 && Nat.beq (en_cat b) 1 then k nx ls (a :: b :: a :: b :: r) t n sl else none
  | _ => none
noncomputable def en_pop (nx : Nat) (ls : en_L) (st : List en_V) (t : en_H) (n sl : Nat) (k : en_K) : Option en_O := match st with
  | a :: r => bif Nat.beq (en_cat a) 1 then k nx ls r t n sl else none
  | [] => none
noncomputable def en_cmp1 (q : ClassFile.Cond) (tg nx : Nat) (ls : en_L) (st : List en_V) (t : en_H) (n sl : Nat) (k : en_K) : Option en_O := match st with
  | a :: r => en_jump (en_rel q a (.inl 0)) tg nx ls r t n sl k
  | [] => none
noncomputable def en_cmp2 (q : ClassFile.Cond) (tg nx : Nat) (ls : en_L) (st : List en_V) (t : en_H) (n sl : Nat) (k : en_K) : Option en_O := match st with
  | b :: a :: r => en_jump (en_rel q a b) tg nx ls r t n sl k
  | _ => none
noncomputable def en_acne (tg nx : Nat) (ls : en_L) (st : List en_V) (t : en_H) (n sl : Nat) (k : en_K) : Option en_O := match st with
  | b :: a :: r => en_jump (en_not (en_ac a b)) tg nx ls r t n sl k
  | _ => none
noncomputable def en_i2l (nx : Nat) (ls : en_L) (st : List en_V) (t : en_H) (n sl : Nat) (k : en_K) : Option en_O := match st with
  | .inl a :: r => k nx ls (.inr (.inl (nI a).toInt64.toBitVec.toNat) :: r) t n sl
  | .inr (.inr (.inr (.inr _))) :: r => k nx ls (.inr (.inr (.inr (.inl 0))) :: r) t n sl
  | _ => none
noncomputable def en_i2b (nx : Nat) (ls : en_L) (st : List en_V) (t : en_H) (n sl : Nat) (k : en_K) : Option en_O := match st with
  | a :: r => bif Nat.beq (en_kd a) 0 then k nx ls (.inr (.inr (.inr (.inr (0, 4294967295)))) :: r) t n sl else none
  | [] => none
noncomputable def en_l2i (nx : Nat) (ls : en_L) (st : List en_V) (t : en_H) (n sl : Nat) (k : en_K) : Option en_O := match st with
  | .inr (.inl a) :: r => k nx ls (.inl (lN a).toInt32.toBitVec.toNat :: r) t n sl
  | _ => none
noncomputable def en_disp (i : Instr) : (Nat → List en_V) → Option (List en_V) → en_F → Nat → Nat × Nat × Nat → en_L → List en_V → en_H → Nat → Nat → en_K → Option en_O := match i with
  | .iconst _ => fun df oc f pc e ls st t n sl k => k e.1 ls (.inl e.2.1 :: st) t n sl
  | .bipush _ => fun df oc f pc e ls st t n sl k => k e.1 ls (.inl e.2.1 :: st) t n sl
  | .sipush _ => fun df oc f pc e ls st t n sl k => k e.1 ls (.inl e.2.1 :: st) t n sl
  | .ldc _ => fun df oc f pc e ls st t n sl k => k e.1 ls (.inl e.2.1 :: st) t n sl
  | .ldc_w _ => fun df oc f pc e ls st t n sl k => k e.1 ls (.inl e.2.1 :: st) t n sl
  | .lconst _ => fun df oc f pc e ls st t n sl k => k e.1 ls (.inr (.inl e.2.1) :: st) t n sl
  | .ldc2_w _ => fun df oc f pc e ls st t n sl k => k e.1 ls (.inr (.inl e.2.1) :: st) t n sl
  | .aconst_null => fun df oc f pc e ls st t n sl k => k e.1 ls (.inr (.inr (.inl none)) :: st) t n sl
  | .iload i => fun df oc f pc e ls st t n sl k => en_load 0 i e.1 ls st t n sl k
  | .iload_n i => fun df oc f pc e ls st t n sl k => en_load 0 i.val e.1 ls st t n sl k
  | .lload i => fun df oc f pc e ls st t n sl k => en_load 1 i e.1 ls st t n sl k
  | .lload_n i => fun df oc f pc e ls st t n sl k => en_load 1 i.val e.1 ls st t n sl k
  | .aload i => fun df oc f pc e ls st t n sl k => en_load 2 i e.1 ls st t n sl k
  | .aload_n i => fun df oc f pc e ls st t n sl k => en_load 2 i.val e.1 ls st t n sl k
  | .istore i => fun df oc f pc e ls st t n sl k => en_store 0 i e.1 ls st t n sl k
  | .istore_n i => fun df oc f pc e ls st t n sl k => en_store 0 i.val e.1 ls st t n sl k
  | .lstore i => fun df oc f pc e ls st t n sl k => en_store 1 i e.1 ls st t n sl k
  | .lstore_n i => fun df oc f pc e ls st t n sl k => en_store 1 i.val e.1 ls st t n sl k
  | .astore i => fun df oc f pc e ls st t n sl k => en_store 2 i e.1 ls st t n sl k
  | .astore_n i => fun df oc f pc e ls st t n sl k => en_store 2 i.val e.1 ls st t n sl k
  | .iinc i _ => fun df oc f pc e ls st t n sl k => en_iinc i e.2.1 e.1 ls st t n sl k
  | .iadd => fun df oc f pc e ls st t n sl k => en_bin en_iadd e.1 ls st t n sl k
  | .isub => fun df oc f pc e ls st t n sl k => en_bin (en_ii en_isub) e.1 ls st t n sl k
  | .imul => fun df oc f pc e ls st t n sl k => en_bin (en_ii en_imul) e.1 ls st t n sl k
  | .iand => fun df oc f pc e ls st t n sl k => en_bin (en_ii en_iand) e.1 ls st t n sl k
  | .ishl => fun df oc f pc e ls st t n sl k => en_bin (en_ii en_ishl) e.1 ls st t n sl k
  | .ishr => fun df oc f pc e ls st t n sl k => en_bin (en_ii en_ishr) e.1 ls st t n sl k
  | .idiv => fun df oc f pc e ls st t n sl k => en_bin (en_ii en_idiv) e.1 ls st t n sl k
  | .irem => fun df oc f pc e ls st t n sl k => en_bin (en_ii en_irem) e.1 ls st t n sl k
  | .ladd => fun df oc f pc e ls st t n sl k => en_bin (en_ll en_ladd) e.1 ls st t n sl k
  | .lsub => fun df oc f pc e ls st t n sl k => en_bin (en_ll en_lsub) e.1 ls st t n sl k
  | .land => fun df oc f pc e ls st t n sl k => en_bin (en_ll en_land) e.1 ls st t n sl k
  | .lor => fun df oc f pc e ls st t n sl k => en_bin (en_ll en_lor) e.1 ls st t n sl k
  | .lshl => fun df oc f pc e ls st t n sl k => en_bin (en_li en_lshl) e.1 ls st t n sl k
  | .lshr => fun df oc f pc e ls st t n sl k => en_bin (en_li en_lshr) e.1 ls st t n sl k
  | .lushr => fun df oc f pc e ls st t n sl k => en_bin (en_li en_lushr) e.1 ls st t n sl k
  | .lcmp => fun df oc f pc e ls st t n sl k => en_bin en_lcmp e.1 ls st t n sl k
  | .i2l => fun df oc f pc e ls st t n sl k => en_i2l e.1 ls st t n sl k
  | .l2i => fun df oc f pc e ls st t n sl k => en_l2i e.1 ls st t n sl k
  | .i2b => fun df oc f pc e ls st t n sl k => en_i2b e.1 ls st t n sl k
  | .dup => fun df oc f pc e ls st t n sl k => en_dup e.1 ls st t n sl k
  | .dup2 => fun df oc f pc e ls st t n sl k => en_dup2 e.1 ls st t n sl k
  | .pop => fun df oc f pc e ls st t n sl k => en_pop e.1 ls st t n sl k
  | .ifCond q _ => fun df oc f pc e ls st t n sl k => en_cmp1 q e.2.1 e.1 ls st t n sl k
  | .if_icmp q _ => fun df oc f pc e ls st t n sl k => en_cmp2 q e.2.1 e.1 ls st t n sl k
  | .if_acmp .ne _ => fun df oc f pc e ls st t n sl k => en_acne e.2.1 e.1 ls st t n sl k
  | .goto _ => fun df oc f pc e ls st t n sl k => k e.2.1 ls st t n sl
  | .tableswitch d lo hi os => fun df oc f pc e ls st t n sl k => en_switch pc d lo hi os ls st t n sl k
  | .getfield _ => fun df oc f pc e ls st t n sl k => en_getf e.2.1 (e.2.2 % 16) e.1 ls st t n sl k
  | .putfield _ => fun df oc f pc e ls st t n sl k => en_putf e.2.1 (e.2.2 % 16) (e.2.2 / 16 % 4) e.1 ls st t n sl k
  | .getstatic _ => fun df oc f pc e ls st t n sl k => k e.1 ls (.inr (.inr (.inr (.inl (e.2.1 + 1)))) :: st) t n sl
  | .new _ => fun df oc f pc e ls st t n sl k => en_new e.2.1 (df e.2.1) e.1 ls st t n sl k
  | .newarray _ => fun df oc f pc e ls st t n sl k => en_newa e.2.1 (bif Nat.beq e.2.1 3 then .inr (.inl 0) else .inl 0) e.1 ls st t n sl k
  | .anewarray _ => fun df oc f pc e ls st t n sl k => en_newa e.2.1 (.inr (.inr (.inl none))) e.1 ls st t n sl k
  | .multianewarray _ _ => fun df oc f pc e ls st t n sl k => en_multi e.1 ls st t n sl k
  | .arraylength => fun df oc f pc e ls st t n sl k => en_alen oc e.1 ls st t n sl k
  | .iaload => fun df oc f pc e ls st t n sl k => en_aget oc (fun c => Nat.beq c 0) e.1 ls st t n sl k
  | .laload => fun df oc f pc e ls st t n sl k => en_aget oc (fun c => Nat.beq c 3) e.1 ls st t n sl k
  | .baload => fun df oc f pc e ls st t n sl k => en_aget oc (fun c => Nat.beq c 2) e.1 ls st t n sl k
  | .aaload => fun df oc f pc e ls st t n sl k => en_aget oc (fun c => Nat.ble 4 c && Nat.ble c 7) e.1 ls st t n sl k
  | .iastore => fun df oc f pc e ls st t n sl k => en_aput 0 e.1 ls st t n sl k
  | .lastore => fun df oc f pc e ls st t n sl k => en_aput 1 e.1 ls st t n sl k
  | .bastore => fun df oc f pc e ls st t n sl k => en_aput 2 e.1 ls st t n sl k
  | .aastore => fun df oc f pc e ls st t n sl k => en_aput 3 e.1 ls st t n sl k
  | .invokestatic _ => fun df oc f pc e ls st t n sl k => bif Nat.beq e.2.1 9991 then en_mm (en_ii en_imax) e.1 ls st t n sl k else bif Nat.beq e.2.1 9992 then en_mm (en_ii en_imin) e.1 ls st t n sl k else en_inv (fun _ => true) f e.2.1 e.2.2 e.1 ls st t n sl k
  | .invokevirtual _ => fun df oc f pc e ls st t n sl k => en_inv (en_recv t (e.2.2 / 16)) f e.2.1 (e.2.2 % 16) e.1 ls st t n sl k
  | .invokespecial _ => fun df oc f pc e ls st t n sl k => bif Nat.beq e.2.1 9999 then en_oinit e.1 ls st t n sl k else en_inv en_isref f e.2.1 e.2.2 e.1 ls st t n sl k
  | .return_ => fun df oc f pc e ls st t n sl k => (match st with | [] => some (.inl (none, t, n, sl)) | _ :: _ => none)
  | .ireturn => fun df oc f pc e ls st t n sl k => en_ret1 0 e.2.1 st t n sl
  | .lreturn => fun df oc f pc e ls st t n sl k => en_ret1 1 0 st t n sl
  | _ => fun df oc f pc e ls st t n sl k => none
noncomputable def en_step (df : Nat → List en_V) (oc : Option (List en_V)) (f : en_F) (pc : Nat) (e : en_I) (ls : en_L) (st : List en_V) (t : en_H) (n sl : Nat) (k : en_K) : Option en_O := en_disp e.1 df oc f pc e.2 ls st t n sl k
noncomputable def en_run (df : Nat → List en_V) (oc : Option (List en_V)) (f : en_F) (code : Nat → Option en_I) (stop : Nat → Bool) (fuel : Nat) : Nat → en_L → List en_V → en_H → Nat → Nat → Option en_O :=
  Nat.rec (motive := fun _ => Nat → en_L → List en_V → en_H → Nat → Nat → Option en_O) (fun _ _ _ _ _ _ => none) (fun _ ih pc ls st t n sl => match code pc with
    | some e => en_step df oc f pc e ls st t n sl (fun pc' ls' st' t' n' sl' => bif stop pc' then some (.inr (pc', ls', st', t', n', sl')) else ih pc' ls' st' t' n' sl')
    | none => none) fuel
noncomputable def en_call (df : Nat → List en_V) (code : Nat → Nat → Option en_I) (ml : Nat → Nat) (d : Nat) : en_F :=
  Nat.rec (motive := fun _ => en_F) (fun _ _ _ _ => none) (fun _ ih mi as t n => bif Nat.ble (en_sum as) (ml mi) then (match en_run df none ih (code mi) (fun _ => false) 1000000 0 (en_args as 0) [] t n 0 with
    | some (.inl r) => some r
    | _ => none) else none) d
end EN2
end
section
section EN6
/-- PackWeeks.<init>()V -/
def kc_0 : Nat → Option en_I := fun pc => (bif Nat.ble pc 98 then (fun pc => (bif Nat.ble pc 49 then (fun pc => (bif Nat.ble pc 21 then (fun pc => (bif Nat.ble pc 9 then (fun pc => (bif Nat.ble pc 4 then (fun pc => (bif Nat.ble pc 0 then (fun pc => bif Nat.beq pc 0 then some (.aload_n 0, 1, 0, 0) else none) else (fun pc => (bif Nat.ble pc 1 then (fun pc => bif Nat.beq pc 1 then some (.invokespecial 1, 4, 9999, 0) else none) else (fun pc => bif Nat.beq pc 4 then some (.aload_n 0, 5, 0, 0) else none)) pc)) pc) else (fun pc => (bif Nat.ble pc 5 then (fun pc => bif Nat.beq pc 5 then some (.new 7, 8, 8, 0) else none) else (fun pc => (bif Nat.ble pc 8 then (fun pc => bif Nat.beq pc 8 then some (.dup, 9, 0, 0) else none) else (fun pc => bif Nat.beq pc 9 then some (.invokespecial 9, 12, 1, 1) else none)) pc)) pc)) pc) else (fun pc => (bif Nat.ble pc 16 then (fun pc => (bif Nat.ble pc 12 then (fun pc => bif Nat.beq pc 12 then some (.putfield 10, 15, 0, 105) else none) else (fun pc => (bif Nat.ble pc 15 then (fun pc => bif Nat.beq pc 15 then some (.aload_n 0, 16, 0, 0) else none) else (fun pc => bif Nat.beq pc 16 then some (.new 16, 19, 3, 0) else none)) pc)) pc) else (fun pc => (bif Nat.ble pc 19 then (fun pc => bif Nat.beq pc 19 then some (.dup, 20, 0, 0) else none) else (fun pc => (bif Nat.ble pc 20 then (fun pc => bif Nat.beq pc 20 then some (.aload_n 0, 21, 0, 0) else none) else (fun pc => bif Nat.beq pc 21 then some (.getfield 10, 24, 0, 9) else none)) pc)) pc)) pc)) pc) else (fun pc => (bif Nat.ble pc 35 then (fun pc => (bif Nat.ble pc 30 then (fun pc => (bif Nat.ble pc 24 then (fun pc => bif Nat.beq pc 24 then some (.invokespecial 18, 27, 2, 2) else none) else (fun pc => (bif Nat.ble pc 27 then (fun pc => bif Nat.beq pc 27 then some (.putfield 21, 30, 1, 105) else none) else (fun pc => bif Nat.beq pc 30 then some (.aload_n 0, 31, 0, 0) else none)) pc)) pc) else (fun pc => (bif Nat.ble pc 31 then (fun pc => bif Nat.beq pc 31 then some (.new 25, 34, 7, 0) else none) else (fun pc => (bif Nat.ble pc 34 then (fun pc => bif Nat.beq pc 34 then some (.dup, 35, 0, 0) else none) else (fun pc => bif Nat.beq pc 35 then some (.invokespecial 27, 38, 3, 1) else none)) pc)) pc)) pc) else (fun pc => (bif Nat.ble pc 42 then (fun pc => (bif Nat.ble pc 38 then (fun pc => bif Nat.beq pc 38 then some (.putfield 28, 41, 2, 105) else none) else (fun pc => (bif Nat.ble pc 41 then (fun pc => bif Nat.beq pc 41 then some (.aload_n 0, 42, 0, 0) else none) else (fun pc => bif Nat.beq pc 42 then some (.new 25, 45, 7, 0) else none)) pc)) pc) else (fun pc => (bif Nat.ble pc 45 then (fun pc => bif Nat.beq pc 45 then some (.dup, 46, 0, 0) else none) else (fun pc => (bif Nat.ble pc 46 then (fun pc => bif Nat.beq pc 46 then some (.invokespecial 27, 49, 3, 1) else none) else (fun pc => bif Nat.beq pc 49 then some (.putfield 32, 52, 3, 105) else none)) pc)) pc)) pc)) pc)) pc) else (fun pc => (bif Nat.ble pc 73 then (fun pc => (bif Nat.ble pc 63 then (fun pc => (bif Nat.ble pc 56 then (fun pc => (bif Nat.ble pc 52 then (fun pc => bif Nat.beq pc 52 then some (.aload_n 0, 53, 0, 0) else none) else (fun pc => (bif Nat.ble pc 53 then (fun pc => bif Nat.beq pc 53 then some (.new 35, 56, 2, 0) else none) else (fun pc => bif Nat.beq pc 56 then some (.dup, 57, 0, 0) else none)) pc)) pc) else (fun pc => (bif Nat.ble pc 57 then (fun pc => bif Nat.beq pc 57 then some (.invokespecial 37, 60, 4, 1) else none) else (fun pc => (bif Nat.ble pc 60 then (fun pc => bif Nat.beq pc 60 then some (.putfield 38, 63, 4, 105) else none) else (fun pc => bif Nat.beq pc 63 then some (.aload_n 0, 64, 0, 0) else none)) pc)) pc)) pc) else (fun pc => (bif Nat.ble pc 68 then (fun pc => (bif Nat.ble pc 64 then (fun pc => bif Nat.beq pc 64 then some (.iconst 4, 65, 4, 0) else none) else (fun pc => (bif Nat.ble pc 65 then (fun pc => bif Nat.beq pc 65 then some (.anewarray 25, 68, 5, 0) else none) else (fun pc => bif Nat.beq pc 68 then some (.putfield 42, 71, 5, 105) else none)) pc)) pc) else (fun pc => (bif Nat.ble pc 71 then (fun pc => bif Nat.beq pc 71 then some (.aload_n 0, 72, 0, 0) else none) else (fun pc => (bif Nat.ble pc 72 then (fun pc => bif Nat.beq pc 72 then some (.iconst 4, 73, 4, 0) else none) else (fun pc => bif Nat.beq pc 73 then some (.anewarray 46, 76, 6, 0) else none)) pc)) pc)) pc)) pc) else (fun pc => (bif Nat.ble pc 86 then (fun pc => (bif Nat.ble pc 80 then (fun pc => (bif Nat.ble pc 76 then (fun pc => bif Nat.beq pc 76 then some (.putfield 48, 79, 6, 105) else none) else (fun pc => (bif Nat.ble pc 79 then (fun pc => bif Nat.beq pc 79 then some (.aload_n 0, 80, 0, 0) else none) else (fun pc => bif Nat.beq pc 80 then some (.iconst 4, 81, 4, 0) else none)) pc)) pc) else (fun pc => (bif Nat.ble pc 81 then (fun pc => bif Nat.beq pc 81 then some (.newarray .boolean, 83, 2, 0) else none) else (fun pc => (bif Nat.ble pc 83 then (fun pc => bif Nat.beq pc 83 then some (.putfield 52, 86, 7, 105) else none) else (fun pc => bif Nat.beq pc 86 then some (.aload_n 0, 87, 0, 0) else none)) pc)) pc)) pc) else (fun pc => (bif Nat.ble pc 91 then (fun pc => (bif Nat.ble pc 87 then (fun pc => bif Nat.beq pc 87 then some (.new 46, 90, 6, 0) else none) else (fun pc => (bif Nat.ble pc 90 then (fun pc => bif Nat.beq pc 90 then some (.dup, 91, 0, 0) else none) else (fun pc => bif Nat.beq pc 91 then some (.invokespecial 56, 94, 5, 1) else none)) pc)) pc) else (fun pc => (bif Nat.ble pc 94 then (fun pc => bif Nat.beq pc 94 then some (.putfield 57, 97, 8, 105) else none) else (fun pc => (bif Nat.ble pc 97 then (fun pc => bif Nat.beq pc 97 then some (.aload_n 0, 98, 0, 0) else none) else (fun pc => bif Nat.beq pc 98 then some (.new 61, 101, 4, 0) else none)) pc)) pc)) pc)) pc)) pc)) pc) else (fun pc => (bif Nat.ble pc 150 then (fun pc => (bif Nat.ble pc 124 then (fun pc => (bif Nat.ble pc 112 then (fun pc => (bif Nat.ble pc 105 then (fun pc => (bif Nat.ble pc 101 then (fun pc => bif Nat.beq pc 101 then some (.dup, 102, 0, 0) else none) else (fun pc => (bif Nat.ble pc 102 then (fun pc => bif Nat.beq pc 102 then some (.invokespecial 63, 105, 6, 1) else none) else (fun pc => bif Nat.beq pc 105 then some (.putfield 64, 108, 9, 105) else none)) pc)) pc) else (fun pc => (bif Nat.ble pc 108 then (fun pc => bif Nat.beq pc 108 then some (.aload_n 0, 109, 0, 0) else none) else (fun pc => (bif Nat.ble pc 109 then (fun pc => bif Nat.beq pc 109 then some (.new 68, 112, 1, 0) else none) else (fun pc => bif Nat.beq pc 112 then some (.dup, 113, 0, 0) else none)) pc)) pc)) pc) else (fun pc => (bif Nat.ble pc 119 then (fun pc => (bif Nat.ble pc 113 then (fun pc => bif Nat.beq pc 113 then some (.invokespecial 70, 116, 7, 1) else none) else (fun pc => (bif Nat.ble pc 116 then (fun pc => bif Nat.beq pc 116 then some (.putfield 71, 119, 10, 41) else none) else (fun pc => bif Nat.beq pc 119 then some (.aload_n 0, 120, 0, 0) else none)) pc)) pc) else (fun pc => (bif Nat.ble pc 120 then (fun pc => bif Nat.beq pc 120 then some (.new 68, 123, 1, 0) else none) else (fun pc => (bif Nat.ble pc 123 then (fun pc => bif Nat.beq pc 123 then some (.dup, 124, 0, 0) else none) else (fun pc => bif Nat.beq pc 124 then some (.invokespecial 70, 127, 7, 1) else none)) pc)) pc)) pc)) pc) else (fun pc => (bif Nat.ble pc 137 then (fun pc => (bif Nat.ble pc 131 then (fun pc => (bif Nat.ble pc 127 then (fun pc => bif Nat.beq pc 127 then some (.putfield 75, 130, 11, 41) else none) else (fun pc => (bif Nat.ble pc 130 then (fun pc => bif Nat.beq pc 130 then some (.aload_n 0, 131, 0, 0) else none) else (fun pc => bif Nat.beq pc 131 then some (.new 78, 134, 5, 0) else none)) pc)) pc) else (fun pc => (bif Nat.ble pc 134 then (fun pc => bif Nat.beq pc 134 then some (.dup, 135, 0, 0) else none) else (fun pc => (bif Nat.ble pc 135 then (fun pc => bif Nat.beq pc 135 then some (.bipush 24, 137, 24, 0) else none) else (fun pc => bif Nat.beq pc 137 then some (.invokespecial 80, 140, 8, 2) else none)) pc)) pc)) pc) else (fun pc => (bif Nat.ble pc 144 then (fun pc => (bif Nat.ble pc 140 then (fun pc => bif Nat.beq pc 140 then some (.putfield 83, 143, 12, 41) else none) else (fun pc => (bif Nat.ble pc 143 then (fun pc => bif Nat.beq pc 143 then some (.aload_n 0, 144, 0, 0) else none) else (fun pc => bif Nat.beq pc 144 then some (.new 78, 147, 5, 0) else none)) pc)) pc) else (fun pc => (bif Nat.ble pc 147 then (fun pc => bif Nat.beq pc 147 then some (.dup, 148, 0, 0) else none) else (fun pc => (bif Nat.ble pc 148 then (fun pc => bif Nat.beq pc 148 then some (.bipush 24, 150, 24, 0) else none) else (fun pc => bif Nat.beq pc 150 then some (.invokespecial 80, 153, 8, 2) else none)) pc)) pc)) pc)) pc)) pc) else (fun pc => (bif Nat.ble pc 172 then (fun pc => (bif Nat.ble pc 160 then (fun pc => (bif Nat.ble pc 157 then (fun pc => (bif Nat.ble pc 153 then (fun pc => bif Nat.beq pc 153 then some (.putfield 87, 156, 13, 41) else none) else (fun pc => (bif Nat.ble pc 156 then (fun pc => bif Nat.beq pc 156 then some (.iconst 0, 157, 0, 0) else none) else (fun pc => bif Nat.beq pc 157 then some (.istore_n 1, 158, 0, 0) else none)) pc)) pc) else (fun pc => (bif Nat.ble pc 158 then (fun pc => bif Nat.beq pc 158 then some (.iload_n 1, 159, 0, 0) else none) else (fun pc => (bif Nat.ble pc 159 then (fun pc => bif Nat.beq pc 159 then some (.iconst 4, 160, 4, 0) else none) else (fun pc => bif Nat.beq pc 160 then some (.if_icmp .ge 35, 163, 195, 0) else none)) pc)) pc)) pc) else (fun pc => (bif Nat.ble pc 167 then (fun pc => (bif Nat.ble pc 163 then (fun pc => bif Nat.beq pc 163 then some (.aload_n 0, 164, 0, 0) else none) else (fun pc => (bif Nat.ble pc 164 then (fun pc => bif Nat.beq pc 164 then some (.getfield 42, 167, 5, 9) else none) else (fun pc => bif Nat.beq pc 167 then some (.iload_n 1, 168, 0, 0) else none)) pc)) pc) else (fun pc => (bif Nat.ble pc 168 then (fun pc => bif Nat.beq pc 168 then some (.new 25, 171, 7, 0) else none) else (fun pc => (bif Nat.ble pc 171 then (fun pc => bif Nat.beq pc 171 then some (.dup, 172, 0, 0) else none) else (fun pc => bif Nat.beq pc 172 then some (.invokespecial 27, 175, 3, 1) else none)) pc)) pc)) pc)) pc) else (fun pc => (bif Nat.ble pc 184 then (fun pc => (bif Nat.ble pc 177 then (fun pc => (bif Nat.ble pc 175 then (fun pc => bif Nat.beq pc 175 then some (.aastore, 176, 0, 0) else none) else (fun pc => (bif Nat.ble pc 176 then (fun pc => bif Nat.beq pc 176 then some (.aload_n 0, 177, 0, 0) else none) else (fun pc => bif Nat.beq pc 177 then some (.getfield 48, 180, 6, 9) else none)) pc)) pc) else (fun pc => (bif Nat.ble pc 180 then (fun pc => bif Nat.beq pc 180 then some (.iload_n 1, 181, 0, 0) else none) else (fun pc => (bif Nat.ble pc 181 then (fun pc => bif Nat.beq pc 181 then some (.new 46, 184, 6, 0) else none) else (fun pc => bif Nat.beq pc 184 then some (.dup, 185, 0, 0) else none)) pc)) pc)) pc) else (fun pc => (bif Nat.ble pc 189 then (fun pc => (bif Nat.ble pc 185 then (fun pc => bif Nat.beq pc 185 then some (.invokespecial 56, 188, 5, 1) else none) else (fun pc => (bif Nat.ble pc 188 then (fun pc => bif Nat.beq pc 188 then some (.aastore, 189, 0, 0) else none) else (fun pc => bif Nat.beq pc 189 then some (.iinc 1 1, 192, 1, 0) else none)) pc)) pc) else (fun pc => (bif Nat.ble pc 195 then (fun pc => (bif Nat.ble pc 192 then (fun pc => bif Nat.beq pc 192 then some (.goto (-34), 195, 158, 0) else none) else (fun pc => bif Nat.beq pc 195 then some (.aload_n 0, 196, 0, 0) else none)) pc) else (fun pc => (bif Nat.ble pc 196 then (fun pc => bif Nat.beq pc 196 then some (.invokevirtual 90, 199, 21, 145) else none) else (fun pc => bif Nat.beq pc 199 then some (.return_, 200, 0, 0) else none)) pc)) pc)) pc)) pc)) pc)) pc)) pc
/-- PackWeeks$Tape.<init>()V -/
def kc_1 : Nat → Option en_I := fun pc => (bif Nat.ble pc 22 then (fun pc => (bif Nat.ble pc 8 then (fun pc => (bif Nat.ble pc 1 then (fun pc => (bif Nat.ble pc 0 then (fun pc => bif Nat.beq pc 0 then some (.aload_n 0, 1, 0, 0) else none) else (fun pc => bif Nat.beq pc 1 then some (.invokespecial 3, 4, 9999, 0) else none)) pc) else (fun pc => (bif Nat.ble pc 4 then (fun pc => bif Nat.beq pc 4 then some (.aload_n 0, 5, 0, 0) else none) else (fun pc => (bif Nat.ble pc 5 then (fun pc => bif Nat.beq pc 5 then some (.sipush 1000, 8, 1000, 0) else none) else (fun pc => bif Nat.beq pc 8 then some (.newarray .byte, 10, 1, 0) else none)) pc)) pc)) pc) else (fun pc => (bif Nat.ble pc 14 then (fun pc => (bif Nat.ble pc 10 then (fun pc => bif Nat.beq pc 10 then some (.putfield 9, 13, 2, 104) else none) else (fun pc => (bif Nat.ble pc 13 then (fun pc => bif Nat.beq pc 13 then some (.aload_n 0, 14, 0, 0) else none) else (fun pc => bif Nat.beq pc 14 then some (.sipush 1001, 17, 1001, 0) else none)) pc)) pc) else (fun pc => (bif Nat.ble pc 17 then (fun pc => bif Nat.beq pc 17 then some (.newarray .int, 19, 0, 0) else none) else (fun pc => (bif Nat.ble pc 19 then (fun pc => bif Nat.beq pc 19 then some (.putfield 15, 22, 3, 104) else none) else (fun pc => bif Nat.beq pc 22 then some (.aload_n 0, 23, 0, 0) else none)) pc)) pc)) pc)) pc) else (fun pc => (bif Nat.ble pc 35 then (fun pc => (bif Nat.ble pc 28 then (fun pc => (bif Nat.ble pc 23 then (fun pc => bif Nat.beq pc 23 then some (.sipush 1001, 26, 1001, 0) else none) else (fun pc => (bif Nat.ble pc 26 then (fun pc => bif Nat.beq pc 26 then some (.newarray .int, 28, 0, 0) else none) else (fun pc => bif Nat.beq pc 28 then some (.putfield 19, 31, 4, 104) else none)) pc)) pc) else (fun pc => (bif Nat.ble pc 31 then (fun pc => bif Nat.beq pc 31 then some (.aload_n 0, 32, 0, 0) else none) else (fun pc => (bif Nat.ble pc 32 then (fun pc => bif Nat.beq pc 32 then some (.sipush 1001, 35, 1001, 0) else none) else (fun pc => bif Nat.beq pc 35 then some (.newarray .long, 37, 3, 0) else none)) pc)) pc)) pc) else (fun pc => (bif Nat.ble pc 41 then (fun pc => (bif Nat.ble pc 37 then (fun pc => bif Nat.beq pc 37 then some (.putfield 22, 40, 5, 104) else none) else (fun pc => (bif Nat.ble pc 40 then (fun pc => bif Nat.beq pc 40 then some (.aload_n 0, 41, 0, 0) else none) else (fun pc => bif Nat.beq pc 41 then some (.sipush 1001, 44, 1001, 0) else none)) pc)) pc) else (fun pc => (bif Nat.ble pc 44 then (fun pc => bif Nat.beq pc 44 then some (.anewarray 26, 47, 4, 0) else none) else (fun pc => (bif Nat.ble pc 47 then (fun pc => bif Nat.beq pc 47 then some (.putfield 28, 50, 6, 104) else none) else (fun pc => bif Nat.beq pc 50 then some (.return_, 51, 0, 0) else none)) pc)) pc)) pc)) pc)) pc
/-- PackWeeks$Reader.<init>(LPackWeeks$Tape;)V -/
def kc_2 : Nat → Option en_I := fun pc => (bif Nat.ble pc 4 then (fun pc => (bif Nat.ble pc 0 then (fun pc => bif Nat.beq pc 0 then some (.aload_n 0, 1, 0, 0) else none) else (fun pc => (bif Nat.ble pc 1 then (fun pc => bif Nat.beq pc 1 then some (.invokespecial 3, 4, 9999, 0) else none) else (fun pc => bif Nat.beq pc 4 then some (.aload_n 0, 5, 0, 0) else none)) pc)) pc) else (fun pc => (bif Nat.ble pc 5 then (fun pc => bif Nat.beq pc 5 then some (.aload_n 1, 6, 0, 0) else none) else (fun pc => (bif Nat.ble pc 6 then (fun pc => bif Nat.beq pc 6 then some (.putfield 9, 9, 0, 99) else none) else (fun pc => bif Nat.beq pc 9 then some (.return_, 10, 0, 0) else none)) pc)) pc)) pc
/-- PackWeeks$Stand.<init>()V -/
def kc_3 : Nat → Option en_I := fun pc => (bif Nat.ble pc 21 then (fun pc => (bif Nat.ble pc 9 then (fun pc => (bif Nat.ble pc 4 then (fun pc => (bif Nat.ble pc 0 then (fun pc => bif Nat.beq pc 0 then some (.aload_n 0, 1, 0, 0) else none) else (fun pc => (bif Nat.ble pc 1 then (fun pc => bif Nat.beq pc 1 then some (.invokespecial 3, 4, 9999, 0) else none) else (fun pc => bif Nat.beq pc 4 then some (.aload_n 0, 5, 0, 0) else none)) pc)) pc) else (fun pc => (bif Nat.ble pc 5 then (fun pc => bif Nat.beq pc 5 then some (.bipush 6, 7, 6, 0) else none) else (fun pc => (bif Nat.ble pc 7 then (fun pc => bif Nat.beq pc 7 then some (.newarray .int, 9, 0, 0) else none) else (fun pc => bif Nat.beq pc 9 then some (.putfield 9, 12, 1, 103) else none)) pc)) pc)) pc) else (fun pc => (bif Nat.ble pc 14 then (fun pc => (bif Nat.ble pc 12 then (fun pc => bif Nat.beq pc 12 then some (.aload_n 0, 13, 0, 0) else none) else (fun pc => (bif Nat.ble pc 13 then (fun pc => bif Nat.beq pc 13 then some (.iconst 2, 14, 2, 0) else none) else (fun pc => bif Nat.beq pc 14 then some (.newarray .int, 16, 0, 0) else none)) pc)) pc) else (fun pc => (bif Nat.ble pc 19 then (fun pc => (bif Nat.ble pc 16 then (fun pc => bif Nat.beq pc 16 then some (.putfield 15, 19, 2, 103) else none) else (fun pc => bif Nat.beq pc 19 then some (.aload_n 0, 20, 0, 0) else none)) pc) else (fun pc => (bif Nat.ble pc 20 then (fun pc => bif Nat.beq pc 20 then some (.iconst 2, 21, 2, 0) else none) else (fun pc => bif Nat.beq pc 21 then some (.newarray .int, 23, 0, 0) else none)) pc)) pc)) pc)) pc) else (fun pc => (bif Nat.ble pc 34 then (fun pc => (bif Nat.ble pc 27 then (fun pc => (bif Nat.ble pc 23 then (fun pc => bif Nat.beq pc 23 then some (.putfield 18, 26, 3, 103) else none) else (fun pc => (bif Nat.ble pc 26 then (fun pc => bif Nat.beq pc 26 then some (.aload_n 0, 27, 0, 0) else none) else (fun pc => bif Nat.beq pc 27 then some (.iconst 2, 28, 2, 0) else none)) pc)) pc) else (fun pc => (bif Nat.ble pc 30 then (fun pc => (bif Nat.ble pc 28 then (fun pc => bif Nat.beq pc 28 then some (.newarray .boolean, 30, 2, 0) else none) else (fun pc => bif Nat.beq pc 30 then some (.putfield 21, 33, 4, 103) else none)) pc) else (fun pc => (bif Nat.ble pc 33 then (fun pc => bif Nat.beq pc 33 then some (.aload_n 0, 34, 0, 0) else none) else (fun pc => bif Nat.beq pc 34 then some (.iconst 2, 35, 2, 0) else none)) pc)) pc)) pc) else (fun pc => (bif Nat.ble pc 40 then (fun pc => (bif Nat.ble pc 35 then (fun pc => bif Nat.beq pc 35 then some (.newarray .boolean, 37, 2, 0) else none) else (fun pc => (bif Nat.ble pc 37 then (fun pc => bif Nat.beq pc 37 then some (.putfield 25, 40, 5, 103) else none) else (fun pc => bif Nat.beq pc 40 then some (.aload_n 0, 41, 0, 0) else none)) pc)) pc) else (fun pc => (bif Nat.ble pc 42 then (fun pc => (bif Nat.ble pc 41 then (fun pc => bif Nat.beq pc 41 then some (.iconst 2, 42, 2, 0) else none) else (fun pc => bif Nat.beq pc 42 then some (.newarray .int, 44, 0, 0) else none)) pc) else (fun pc => (bif Nat.ble pc 44 then (fun pc => bif Nat.beq pc 44 then some (.putfield 28, 47, 6, 103) else none) else (fun pc => bif Nat.beq pc 47 then some (.return_, 48, 0, 0) else none)) pc)) pc)) pc)) pc)) pc
/-- PackWeeks$Past.<init>()V -/
def kc_4 : Nat → Option en_I := fun pc => (bif Nat.ble pc 16 then (fun pc => (bif Nat.ble pc 7 then (fun pc => (bif Nat.ble pc 1 then (fun pc => (bif Nat.ble pc 0 then (fun pc => bif Nat.beq pc 0 then some (.aload_n 0, 1, 0, 0) else none) else (fun pc => bif Nat.beq pc 1 then some (.invokespecial 3, 4, 9999, 0) else none)) pc) else (fun pc => (bif Nat.ble pc 4 then (fun pc => bif Nat.beq pc 4 then some (.aload_n 0, 5, 0, 0) else none) else (fun pc => (bif Nat.ble pc 5 then (fun pc => bif Nat.beq pc 5 then some (.bipush 16, 7, 16, 0) else none) else (fun pc => bif Nat.beq pc 7 then some (.anewarray 9, 10, 5, 0) else none)) pc)) pc)) pc) else (fun pc => (bif Nat.ble pc 13 then (fun pc => (bif Nat.ble pc 10 then (fun pc => bif Nat.beq pc 10 then some (.putfield 11, 13, 0, 98) else none) else (fun pc => bif Nat.beq pc 13 then some (.iconst 0, 14, 0, 0) else none)) pc) else (fun pc => (bif Nat.ble pc 14 then (fun pc => bif Nat.beq pc 14 then some (.istore_n 1, 15, 0, 0) else none) else (fun pc => (bif Nat.ble pc 15 then (fun pc => bif Nat.beq pc 15 then some (.iload_n 1, 16, 0, 0) else none) else (fun pc => bif Nat.beq pc 16 then some (.bipush 16, 18, 16, 0) else none)) pc)) pc)) pc)) pc) else (fun pc => (bif Nat.ble pc 26 then (fun pc => (bif Nat.ble pc 21 then (fun pc => (bif Nat.ble pc 18 then (fun pc => bif Nat.beq pc 18 then some (.if_icmp .ge 22, 21, 40, 0) else none) else (fun pc => bif Nat.beq pc 21 then some (.aload_n 0, 22, 0, 0) else none)) pc) else (fun pc => (bif Nat.ble pc 22 then (fun pc => bif Nat.beq pc 22 then some (.getfield 11, 25, 0, 2) else none) else (fun pc => (bif Nat.ble pc 25 then (fun pc => bif Nat.beq pc 25 then some (.iload_n 1, 26, 0, 0) else none) else (fun pc => bif Nat.beq pc 26 then some (.new 9, 29, 7, 0) else none)) pc)) pc)) pc) else (fun pc => (bif Nat.ble pc 33 then (fun pc => (bif Nat.ble pc 29 then (fun pc => bif Nat.beq pc 29 then some (.dup, 30, 0, 0) else none) else (fun pc => (bif Nat.ble pc 30 then (fun pc => bif Nat.beq pc 30 then some (.invokespecial 17, 33, 3, 1) else none) else (fun pc => bif Nat.beq pc 33 then some (.aastore, 34, 0, 0) else none)) pc)) pc) else (fun pc => (bif Nat.ble pc 34 then (fun pc => bif Nat.beq pc 34 then some (.iinc 1 1, 37, 1, 0) else none) else (fun pc => (bif Nat.ble pc 37 then (fun pc => bif Nat.beq pc 37 then some (.goto (-22), 40, 15, 0) else none) else (fun pc => bif Nat.beq pc 40 then some (.return_, 41, 0, 0) else none)) pc)) pc)) pc)) pc)) pc
/-- PackWeeks$Sights.<init>()V -/
def kc_5 : Nat → Option en_I := fun pc => (bif Nat.ble pc 15 then (fun pc => (bif Nat.ble pc 5 then (fun pc => (bif Nat.ble pc 1 then (fun pc => (bif Nat.ble pc 0 then (fun pc => bif Nat.beq pc 0 then some (.aload_n 0, 1, 0, 0) else none) else (fun pc => bif Nat.beq pc 1 then some (.invokespecial 3, 4, 9999, 0) else none)) pc) else (fun pc => (bif Nat.ble pc 4 then (fun pc => bif Nat.beq pc 4 then some (.aload_n 0, 5, 0, 0) else none) else (fun pc => bif Nat.beq pc 5 then some (.bipush 8, 7, 8, 0) else none)) pc)) pc) else (fun pc => (bif Nat.ble pc 9 then (fun pc => (bif Nat.ble pc 7 then (fun pc => bif Nat.beq pc 7 then some (.newarray .int, 9, 0, 0) else none) else (fun pc => bif Nat.beq pc 9 then some (.putfield 9, 12, 1, 102) else none)) pc) else (fun pc => (bif Nat.ble pc 12 then (fun pc => bif Nat.beq pc 12 then some (.aload_n 0, 13, 0, 0) else none) else (fun pc => (bif Nat.ble pc 13 then (fun pc => bif Nat.beq pc 13 then some (.bipush 8, 15, 8, 0) else none) else (fun pc => bif Nat.beq pc 15 then some (.newarray .int, 17, 0, 0) else none)) pc)) pc)) pc)) pc) else (fun pc => (bif Nat.ble pc 25 then (fun pc => (bif Nat.ble pc 20 then (fun pc => (bif Nat.ble pc 17 then (fun pc => bif Nat.beq pc 17 then some (.putfield 15, 20, 2, 102) else none) else (fun pc => bif Nat.beq pc 20 then some (.aload_n 0, 21, 0, 0) else none)) pc) else (fun pc => (bif Nat.ble pc 21 then (fun pc => bif Nat.beq pc 21 then some (.bipush 8, 23, 8, 0) else none) else (fun pc => (bif Nat.ble pc 23 then (fun pc => bif Nat.beq pc 23 then some (.newarray .int, 25, 0, 0) else none) else (fun pc => bif Nat.beq pc 25 then some (.putfield 18, 28, 3, 102) else none)) pc)) pc)) pc) else (fun pc => (bif Nat.ble pc 29 then (fun pc => (bif Nat.ble pc 28 then (fun pc => bif Nat.beq pc 28 then some (.aload_n 0, 29, 0, 0) else none) else (fun pc => bif Nat.beq pc 29 then some (.bipush 9, 31, 9, 0) else none)) pc) else (fun pc => (bif Nat.ble pc 31 then (fun pc => bif Nat.beq pc 31 then some (.newarray .int, 33, 0, 0) else none) else (fun pc => (bif Nat.ble pc 33 then (fun pc => bif Nat.beq pc 33 then some (.putfield 21, 36, 4, 102) else none) else (fun pc => bif Nat.beq pc 36 then some (.return_, 37, 0, 0) else none)) pc)) pc)) pc)) pc)) pc
/-- PackWeeks$Reckoner.<init>()V -/
def kc_6 : Nat → Option en_I := fun pc => (bif Nat.ble pc 36 then (fun pc => (bif Nat.ble pc 16 then (fun pc => (bif Nat.ble pc 5 then (fun pc => (bif Nat.ble pc 1 then (fun pc => (bif Nat.ble pc 0 then (fun pc => bif Nat.beq pc 0 then some (.aload_n 0, 1, 0, 0) else none) else (fun pc => bif Nat.beq pc 1 then some (.invokespecial 3, 4, 9999, 0) else none)) pc) else (fun pc => (bif Nat.ble pc 4 then (fun pc => bif Nat.beq pc 4 then some (.aload_n 0, 5, 0, 0) else none) else (fun pc => bif Nat.beq pc 5 then some (.sipush 984, 8, 984, 0) else none)) pc)) pc) else (fun pc => (bif Nat.ble pc 10 then (fun pc => (bif Nat.ble pc 8 then (fun pc => bif Nat.beq pc 8 then some (.newarray .int, 10, 0, 0) else none) else (fun pc => bif Nat.beq pc 10 then some (.putfield 11, 13, 3, 100) else none)) pc) else (fun pc => (bif Nat.ble pc 13 then (fun pc => bif Nat.beq pc 13 then some (.aload_n 0, 14, 0, 0) else none) else (fun pc => (bif Nat.ble pc 14 then (fun pc => bif Nat.beq pc 14 then some (.bipush 31, 16, 31, 0) else none) else (fun pc => bif Nat.beq pc 16 then some (.newarray .int, 18, 0, 0) else none)) pc)) pc)) pc)) pc) else (fun pc => (bif Nat.ble pc 24 then (fun pc => (bif Nat.ble pc 21 then (fun pc => (bif Nat.ble pc 18 then (fun pc => bif Nat.beq pc 18 then some (.putfield 15, 21, 4, 100) else none) else (fun pc => bif Nat.beq pc 21 then some (.aload_n 0, 22, 0, 0) else none)) pc) else (fun pc => (bif Nat.ble pc 22 then (fun pc => bif Nat.beq pc 22 then some (.bipush 31, 24, 31, 0) else none) else (fun pc => bif Nat.beq pc 24 then some (.bipush 31, 26, 31, 0) else none)) pc)) pc) else (fun pc => (bif Nat.ble pc 30 then (fun pc => (bif Nat.ble pc 26 then (fun pc => bif Nat.beq pc 26 then some (.multianewarray 18 2, 30, 0, 0) else none) else (fun pc => bif Nat.beq pc 30 then some (.putfield 20, 33, 5, 100) else none)) pc) else (fun pc => (bif Nat.ble pc 33 then (fun pc => bif Nat.beq pc 33 then some (.aload_n 0, 34, 0, 0) else none) else (fun pc => (bif Nat.ble pc 34 then (fun pc => bif Nat.beq pc 34 then some (.bipush 6, 36, 6, 0) else none) else (fun pc => bif Nat.beq pc 36 then some (.newarray .int, 38, 0, 0) else none)) pc)) pc)) pc)) pc)) pc) else (fun pc => (bif Nat.ble pc 56 then (fun pc => (bif Nat.ble pc 44 then (fun pc => (bif Nat.ble pc 41 then (fun pc => (bif Nat.ble pc 38 then (fun pc => bif Nat.beq pc 38 then some (.putfield 23, 41, 6, 100) else none) else (fun pc => bif Nat.beq pc 41 then some (.aload_n 0, 42, 0, 0) else none)) pc) else (fun pc => (bif Nat.ble pc 42 then (fun pc => bif Nat.beq pc 42 then some (.bipush 7, 44, 7, 0) else none) else (fun pc => bif Nat.beq pc 44 then some (.bipush 6, 46, 6, 0) else none)) pc)) pc) else (fun pc => (bif Nat.ble pc 50 then (fun pc => (bif Nat.ble pc 46 then (fun pc => bif Nat.beq pc 46 then some (.multianewarray 18 2, 50, 0, 0) else none) else (fun pc => bif Nat.beq pc 50 then some (.putfield 26, 53, 7, 100) else none)) pc) else (fun pc => (bif Nat.ble pc 53 then (fun pc => bif Nat.beq pc 53 then some (.aload_n 0, 54, 0, 0) else none) else (fun pc => (bif Nat.ble pc 54 then (fun pc => bif Nat.beq pc 54 then some (.bipush 6, 56, 6, 0) else none) else (fun pc => bif Nat.beq pc 56 then some (.newarray .int, 58, 0, 0) else none)) pc)) pc)) pc)) pc) else (fun pc => (bif Nat.ble pc 66 then (fun pc => (bif Nat.ble pc 61 then (fun pc => (bif Nat.ble pc 58 then (fun pc => bif Nat.beq pc 58 then some (.putfield 29, 61, 8, 100) else none) else (fun pc => bif Nat.beq pc 61 then some (.aload_n 0, 62, 0, 0) else none)) pc) else (fun pc => (bif Nat.ble pc 62 then (fun pc => bif Nat.beq pc 62 then some (.bipush 54, 64, 54, 0) else none) else (fun pc => (bif Nat.ble pc 64 then (fun pc => bif Nat.beq pc 64 then some (.newarray .int, 66, 0, 0) else none) else (fun pc => bif Nat.beq pc 66 then some (.putfield 32, 69, 9, 100) else none)) pc)) pc)) pc) else (fun pc => (bif Nat.ble pc 70 then (fun pc => (bif Nat.ble pc 69 then (fun pc => bif Nat.beq pc 69 then some (.aload_n 0, 70, 0, 0) else none) else (fun pc => bif Nat.beq pc 70 then some (.bipush 64, 72, 64, 0) else none)) pc) else (fun pc => (bif Nat.ble pc 72 then (fun pc => bif Nat.beq pc 72 then some (.newarray .int, 74, 0, 0) else none) else (fun pc => (bif Nat.ble pc 74 then (fun pc => bif Nat.beq pc 74 then some (.putfield 35, 77, 10, 100) else none) else (fun pc => bif Nat.beq pc 77 then some (.return_, 78, 0, 0) else none)) pc)) pc)) pc)) pc)) pc)) pc
/-- PackWeeks$Pack.<init>()V -/
def kc_7 : Nat → Option en_I := fun pc => (bif Nat.ble pc 74 then (fun pc => (bif Nat.ble pc 34 then (fun pc => (bif Nat.ble pc 15 then (fun pc => (bif Nat.ble pc 5 then (fun pc => (bif Nat.ble pc 1 then (fun pc => (bif Nat.ble pc 0 then (fun pc => bif Nat.beq pc 0 then some (.aload_n 0, 1, 0, 0) else none) else (fun pc => bif Nat.beq pc 1 then some (.invokespecial 3, 4, 9999, 0) else none)) pc) else (fun pc => (bif Nat.ble pc 4 then (fun pc => bif Nat.beq pc 4 then some (.aload_n 0, 5, 0, 0) else none) else (fun pc => bif Nat.beq pc 5 then some (.bipush 64, 7, 64, 0) else none)) pc)) pc) else (fun pc => (bif Nat.ble pc 9 then (fun pc => (bif Nat.ble pc 7 then (fun pc => bif Nat.beq pc 7 then some (.newarray .int, 9, 0, 0) else none) else (fun pc => bif Nat.beq pc 9 then some (.putfield 9, 12, 3, 97) else none)) pc) else (fun pc => (bif Nat.ble pc 12 then (fun pc => bif Nat.beq pc 12 then some (.aload_n 0, 13, 0, 0) else none) else (fun pc => (bif Nat.ble pc 13 then (fun pc => bif Nat.beq pc 13 then some (.bipush 64, 15, 64, 0) else none) else (fun pc => bif Nat.beq pc 15 then some (.newarray .int, 17, 0, 0) else none)) pc)) pc)) pc)) pc) else (fun pc => (bif Nat.ble pc 24 then (fun pc => (bif Nat.ble pc 20 then (fun pc => (bif Nat.ble pc 17 then (fun pc => bif Nat.beq pc 17 then some (.putfield 15, 20, 4, 97) else none) else (fun pc => bif Nat.beq pc 20 then some (.aload_n 0, 21, 0, 0) else none)) pc) else (fun pc => (bif Nat.ble pc 21 then (fun pc => bif Nat.beq pc 21 then some (.new 18, 24, 5, 0) else none) else (fun pc => bif Nat.beq pc 24 then some (.dup, 25, 0, 0) else none)) pc)) pc) else (fun pc => (bif Nat.ble pc 27 then (fun pc => (bif Nat.ble pc 25 then (fun pc => bif Nat.beq pc 25 then some (.bipush 6, 27, 6, 0) else none) else (fun pc => bif Nat.beq pc 27 then some (.invokespecial 20, 30, 8, 2) else none)) pc) else (fun pc => (bif Nat.ble pc 30 then (fun pc => bif Nat.beq pc 30 then some (.putfield 23, 33, 5, 97) else none) else (fun pc => (bif Nat.ble pc 33 then (fun pc => bif Nat.beq pc 33 then some (.aload_n 0, 34, 0, 0) else none) else (fun pc => bif Nat.beq pc 34 then some (.new 18, 37, 5, 0) else none)) pc)) pc)) pc)) pc)) pc) else (fun pc => (bif Nat.ble pc 52 then (fun pc => (bif Nat.ble pc 43 then (fun pc => (bif Nat.ble pc 38 then (fun pc => (bif Nat.ble pc 37 then (fun pc => bif Nat.beq pc 37 then some (.dup, 38, 0, 0) else none) else (fun pc => bif Nat.beq pc 38 then some (.bipush 6, 40, 6, 0) else none)) pc) else (fun pc => (bif Nat.ble pc 40 then (fun pc => bif Nat.beq pc 40 then some (.invokespecial 20, 43, 8, 2) else none) else (fun pc => bif Nat.beq pc 43 then some (.putfield 27, 46, 6, 97) else none)) pc)) pc) else (fun pc => (bif Nat.ble pc 47 then (fun pc => (bif Nat.ble pc 46 then (fun pc => bif Nat.beq pc 46 then some (.aload_n 0, 47, 0, 0) else none) else (fun pc => bif Nat.beq pc 47 then some (.new 18, 50, 5, 0) else none)) pc) else (fun pc => (bif Nat.ble pc 50 then (fun pc => bif Nat.beq pc 50 then some (.dup, 51, 0, 0) else none) else (fun pc => (bif Nat.ble pc 51 then (fun pc => bif Nat.beq pc 51 then some (.iconst 2, 52, 2, 0) else none) else (fun pc => bif Nat.beq pc 52 then some (.invokespecial 20, 55, 8, 2) else none)) pc)) pc)) pc)) pc) else (fun pc => (bif Nat.ble pc 63 then (fun pc => (bif Nat.ble pc 58 then (fun pc => (bif Nat.ble pc 55 then (fun pc => bif Nat.beq pc 55 then some (.putfield 30, 58, 7, 97) else none) else (fun pc => bif Nat.beq pc 58 then some (.aload_n 0, 59, 0, 0) else none)) pc) else (fun pc => (bif Nat.ble pc 59 then (fun pc => bif Nat.beq pc 59 then some (.new 18, 62, 5, 0) else none) else (fun pc => (bif Nat.ble pc 62 then (fun pc => bif Nat.beq pc 62 then some (.dup, 63, 0, 0) else none) else (fun pc => bif Nat.beq pc 63 then some (.iconst 5, 64, 5, 0) else none)) pc)) pc)) pc) else (fun pc => (bif Nat.ble pc 67 then (fun pc => (bif Nat.ble pc 64 then (fun pc => bif Nat.beq pc 64 then some (.invokespecial 20, 67, 8, 2) else none) else (fun pc => bif Nat.beq pc 67 then some (.putfield 33, 70, 8, 97) else none)) pc) else (fun pc => (bif Nat.ble pc 70 then (fun pc => bif Nat.beq pc 70 then some (.aload_n 0, 71, 0, 0) else none) else (fun pc => (bif Nat.ble pc 71 then (fun pc => bif Nat.beq pc 71 then some (.new 18, 74, 5, 0) else none) else (fun pc => bif Nat.beq pc 74 then some (.dup, 75, 0, 0) else none)) pc)) pc)) pc)) pc)) pc)) pc) else (fun pc => (bif Nat.ble pc 115 then (fun pc => (bif Nat.ble pc 93 then (fun pc => (bif Nat.ble pc 83 then (fun pc => (bif Nat.ble pc 77 then (fun pc => (bif Nat.ble pc 75 then (fun pc => bif Nat.beq pc 75 then some (.bipush 6, 77, 6, 0) else none) else (fun pc => bif Nat.beq pc 77 then some (.invokespecial 20, 80, 8, 2) else none)) pc) else (fun pc => (bif Nat.ble pc 80 then (fun pc => bif Nat.beq pc 80 then some (.putfield 36, 83, 9, 97) else none) else (fun pc => bif Nat.beq pc 83 then some (.aload_n 0, 84, 0, 0) else none)) pc)) pc) else (fun pc => (bif Nat.ble pc 87 then (fun pc => (bif Nat.ble pc 84 then (fun pc => bif Nat.beq pc 84 then some (.new 18, 87, 5, 0) else none) else (fun pc => bif Nat.beq pc 87 then some (.dup, 88, 0, 0) else none)) pc) else (fun pc => (bif Nat.ble pc 88 then (fun pc => bif Nat.beq pc 88 then some (.bipush 6, 90, 6, 0) else none) else (fun pc => (bif Nat.ble pc 90 then (fun pc => bif Nat.beq pc 90 then some (.invokespecial 20, 93, 8, 2) else none) else (fun pc => bif Nat.beq pc 93 then some (.putfield 39, 96, 10, 97) else none)) pc)) pc)) pc)) pc) else (fun pc => (bif Nat.ble pc 104 then (fun pc => (bif Nat.ble pc 97 then (fun pc => (bif Nat.ble pc 96 then (fun pc => bif Nat.beq pc 96 then some (.aload_n 0, 97, 0, 0) else none) else (fun pc => bif Nat.beq pc 97 then some (.new 42, 100, 0, 0) else none)) pc) else (fun pc => (bif Nat.ble pc 100 then (fun pc => bif Nat.beq pc 100 then some (.dup, 101, 0, 0) else none) else (fun pc => (bif Nat.ble pc 101 then (fun pc => bif Nat.beq pc 101 then some (.invokespecial 44, 104, 9, 1) else none) else (fun pc => bif Nat.beq pc 104 then some (.putfield 45, 107, 11, 97) else none)) pc)) pc)) pc) else (fun pc => (bif Nat.ble pc 108 then (fun pc => (bif Nat.ble pc 107 then (fun pc => bif Nat.beq pc 107 then some (.aload_n 0, 108, 0, 0) else none) else (fun pc => bif Nat.beq pc 108 then some (.new 42, 111, 0, 0) else none)) pc) else (fun pc => (bif Nat.ble pc 111 then (fun pc => bif Nat.beq pc 111 then some (.dup, 112, 0, 0) else none) else (fun pc => (bif Nat.ble pc 112 then (fun pc => bif Nat.beq pc 112 then some (.invokespecial 44, 115, 9, 1) else none) else (fun pc => bif Nat.beq pc 115 then some (.putfield 49, 118, 12, 97) else none)) pc)) pc)) pc)) pc)) pc) else (fun pc => (bif Nat.ble pc 133 then (fun pc => (bif Nat.ble pc 123 then (fun pc => (bif Nat.ble pc 119 then (fun pc => (bif Nat.ble pc 118 then (fun pc => bif Nat.beq pc 118 then some (.aload_n 0, 119, 0, 0) else none) else (fun pc => bif Nat.beq pc 119 then some (.new 42, 122, 0, 0) else none)) pc) else (fun pc => (bif Nat.ble pc 122 then (fun pc => bif Nat.beq pc 122 then some (.dup, 123, 0, 0) else none) else (fun pc => bif Nat.beq pc 123 then some (.invokespecial 44, 126, 9, 1) else none)) pc)) pc) else (fun pc => (bif Nat.ble pc 129 then (fun pc => (bif Nat.ble pc 126 then (fun pc => bif Nat.beq pc 126 then some (.putfield 52, 129, 13, 97) else none) else (fun pc => bif Nat.beq pc 129 then some (.aload_n 0, 130, 0, 0) else none)) pc) else (fun pc => (bif Nat.ble pc 130 then (fun pc => bif Nat.beq pc 130 then some (.iconst 5, 131, 5, 0) else none) else (fun pc => (bif Nat.ble pc 131 then (fun pc => bif Nat.beq pc 131 then some (.newarray .long, 133, 3, 0) else none) else (fun pc => bif Nat.beq pc 133 then some (.putfield 55, 136, 14, 97) else none)) pc)) pc)) pc)) pc) else (fun pc => (bif Nat.ble pc 145 then (fun pc => (bif Nat.ble pc 137 then (fun pc => (bif Nat.ble pc 136 then (fun pc => bif Nat.beq pc 136 then some (.aload_n 0, 137, 0, 0) else none) else (fun pc => bif Nat.beq pc 137 then some (.bipush 16, 139, 16, 0) else none)) pc) else (fun pc => (bif Nat.ble pc 139 then (fun pc => bif Nat.beq pc 139 then some (.bipush 64, 141, 64, 0) else none) else (fun pc => (bif Nat.ble pc 141 then (fun pc => bif Nat.beq pc 141 then some (.multianewarray 59 2, 145, 0, 0) else none) else (fun pc => bif Nat.beq pc 145 then some (.putfield 61, 148, 15, 97) else none)) pc)) pc)) pc) else (fun pc => (bif Nat.ble pc 149 then (fun pc => (bif Nat.ble pc 148 then (fun pc => bif Nat.beq pc 148 then some (.aload_n 0, 149, 0, 0) else none) else (fun pc => bif Nat.beq pc 149 then some (.invokevirtual 64, 152, 10, 17) else none)) pc) else (fun pc => (bif Nat.ble pc 152 then (fun pc => bif Nat.beq pc 152 then some (.aload_n 0, 153, 0, 0) else none) else (fun pc => (bif Nat.ble pc 153 then (fun pc => bif Nat.beq pc 153 then some (.invokevirtual 67, 156, 14, 17) else none) else (fun pc => bif Nat.beq pc 156 then some (.return_, 157, 0, 0) else none)) pc)) pc)) pc)) pc)) pc)) pc)) pc
/-- PackWeeks$Rows.<init>(I)V -/
def kc_8 : Nat → Option en_I := fun pc => (bif Nat.ble pc 18 then (fun pc => (bif Nat.ble pc 6 then (fun pc => (bif Nat.ble pc 1 then (fun pc => (bif Nat.ble pc 0 then (fun pc => bif Nat.beq pc 0 then some (.aload_n 0, 1, 0, 0) else none) else (fun pc => bif Nat.beq pc 1 then some (.invokespecial 3, 4, 9999, 0) else none)) pc) else (fun pc => (bif Nat.ble pc 4 then (fun pc => bif Nat.beq pc 4 then some (.aload_n 0, 5, 0, 0) else none) else (fun pc => (bif Nat.ble pc 5 then (fun pc => bif Nat.beq pc 5 then some (.iload_n 1, 6, 0, 0) else none) else (fun pc => bif Nat.beq pc 6 then some (.newarray .long, 8, 3, 0) else none)) pc)) pc)) pc) else (fun pc => (bif Nat.ble pc 12 then (fun pc => (bif Nat.ble pc 8 then (fun pc => bif Nat.beq pc 8 then some (.putfield 9, 11, 0, 101) else none) else (fun pc => (bif Nat.ble pc 11 then (fun pc => bif Nat.beq pc 11 then some (.aload_n 0, 12, 0, 0) else none) else (fun pc => bif Nat.beq pc 12 then some (.iload_n 1, 13, 0, 0) else none)) pc)) pc) else (fun pc => (bif Nat.ble pc 13 then (fun pc => bif Nat.beq pc 13 then some (.newarray .int, 15, 0, 0) else none) else (fun pc => (bif Nat.ble pc 15 then (fun pc => bif Nat.beq pc 15 then some (.putfield 15, 18, 1, 101) else none) else (fun pc => bif Nat.beq pc 18 then some (.aload_n 0, 19, 0, 0) else none)) pc)) pc)) pc)) pc) else (fun pc => (bif Nat.ble pc 27 then (fun pc => (bif Nat.ble pc 22 then (fun pc => (bif Nat.ble pc 19 then (fun pc => bif Nat.beq pc 19 then some (.iload_n 1, 20, 0, 0) else none) else (fun pc => (bif Nat.ble pc 20 then (fun pc => bif Nat.beq pc 20 then some (.newarray .int, 22, 0, 0) else none) else (fun pc => bif Nat.beq pc 22 then some (.putfield 19, 25, 2, 101) else none)) pc)) pc) else (fun pc => (bif Nat.ble pc 25 then (fun pc => bif Nat.beq pc 25 then some (.aload_n 0, 26, 0, 0) else none) else (fun pc => (bif Nat.ble pc 26 then (fun pc => bif Nat.beq pc 26 then some (.iload_n 1, 27, 0, 0) else none) else (fun pc => bif Nat.beq pc 27 then some (.newarray .int, 29, 0, 0) else none)) pc)) pc)) pc) else (fun pc => (bif Nat.ble pc 33 then (fun pc => (bif Nat.ble pc 29 then (fun pc => bif Nat.beq pc 29 then some (.putfield 22, 32, 3, 101) else none) else (fun pc => (bif Nat.ble pc 32 then (fun pc => bif Nat.beq pc 32 then some (.aload_n 0, 33, 0, 0) else none) else (fun pc => bif Nat.beq pc 33 then some (.iload_n 1, 34, 0, 0) else none)) pc)) pc) else (fun pc => (bif Nat.ble pc 34 then (fun pc => bif Nat.beq pc 34 then some (.newarray .int, 36, 0, 0) else none) else (fun pc => (bif Nat.ble pc 36 then (fun pc => bif Nat.beq pc 36 then some (.putfield 25, 39, 4, 101) else none) else (fun pc => bif Nat.beq pc 39 then some (.return_, 40, 0, 0) else none)) pc)) pc)) pc)) pc)) pc
/-- PackWeeks$Law.<init>()V -/
def kc_9 : Nat → Option en_I := fun pc => (bif Nat.ble pc 7 then (fun pc => (bif Nat.ble pc 1 then (fun pc => (bif Nat.ble pc 0 then (fun pc => bif Nat.beq pc 0 then some (.aload_n 0, 1, 0, 0) else none) else (fun pc => bif Nat.beq pc 1 then some (.invokespecial 3, 4, 9999, 0) else none)) pc) else (fun pc => (bif Nat.ble pc 4 then (fun pc => bif Nat.beq pc 4 then some (.aload_n 0, 5, 0, 0) else none) else (fun pc => (bif Nat.ble pc 5 then (fun pc => bif Nat.beq pc 5 then some (.bipush 25, 7, 25, 0) else none) else (fun pc => bif Nat.beq pc 7 then some (.newarray .int, 9, 0, 0) else none)) pc)) pc)) pc) else (fun pc => (bif Nat.ble pc 13 then (fun pc => (bif Nat.ble pc 9 then (fun pc => bif Nat.beq pc 9 then some (.putfield 9, 12, 0, 96) else none) else (fun pc => (bif Nat.ble pc 12 then (fun pc => bif Nat.beq pc 12 then some (.aload_n 0, 13, 0, 0) else none) else (fun pc => bif Nat.beq pc 13 then some (.sipush 1000, 16, 1000, 0) else none)) pc)) pc) else (fun pc => (bif Nat.ble pc 16 then (fun pc => bif Nat.beq pc 16 then some (.newarray .int, 18, 0, 0) else none) else (fun pc => (bif Nat.ble pc 18 then (fun pc => bif Nat.beq pc 18 then some (.putfield 15, 21, 1, 96) else none) else (fun pc => bif Nat.beq pc 21 then some (.return_, 22, 0, 0) else none)) pc)) pc)) pc)) pc
/-- PackWeeks$Pack.clear()V -/
def kc_10 : Nat → Option en_I := fun pc => (bif Nat.ble pc 54 then (fun pc => (bif Nat.ble pc 23 then (fun pc => (bif Nat.ble pc 10 then (fun pc => (bif Nat.ble pc 2 then (fun pc => (bif Nat.ble pc 0 then (fun pc => bif Nat.beq pc 0 then some (.aload_n 0, 1, 0, 0) else none) else (fun pc => (bif Nat.ble pc 1 then (fun pc => bif Nat.beq pc 1 then some (.iconst 2, 2, 2, 0) else none) else (fun pc => bif Nat.beq pc 2 then some (.putfield 70, 5, 0, 1) else none)) pc)) pc) else (fun pc => (bif Nat.ble pc 6 then (fun pc => (bif Nat.ble pc 5 then (fun pc => bif Nat.beq pc 5 then some (.aload_n 0, 6, 0, 0) else none) else (fun pc => bif Nat.beq pc 6 then some (.iconst 2, 7, 2, 0) else none)) pc) else (fun pc => (bif Nat.ble pc 7 then (fun pc => bif Nat.beq pc 7 then some (.putfield 74, 10, 1, 1) else none) else (fun pc => bif Nat.beq pc 10 then some (.aload_n 0, 11, 0, 0) else none)) pc)) pc)) pc) else (fun pc => (bif Nat.ble pc 16 then (fun pc => (bif Nat.ble pc 12 then (fun pc => (bif Nat.ble pc 11 then (fun pc => bif Nat.beq pc 11 then some (.iconst 2, 12, 2, 0) else none) else (fun pc => bif Nat.beq pc 12 then some (.putfield 77, 15, 2, 1) else none)) pc) else (fun pc => (bif Nat.ble pc 15 then (fun pc => bif Nat.beq pc 15 then some (.iconst 0, 16, 0, 0) else none) else (fun pc => bif Nat.beq pc 16 then some (.istore_n 1, 17, 0, 0) else none)) pc)) pc) else (fun pc => (bif Nat.ble pc 18 then (fun pc => (bif Nat.ble pc 17 then (fun pc => bif Nat.beq pc 17 then some (.iload_n 1, 18, 0, 0) else none) else (fun pc => bif Nat.beq pc 18 then some (.bipush 64, 20, 64, 0) else none)) pc) else (fun pc => (bif Nat.ble pc 20 then (fun pc => bif Nat.beq pc 20 then some (.if_icmp .ge 16, 23, 36, 0) else none) else (fun pc => bif Nat.beq pc 23 then some (.aload_n 0, 24, 0, 0) else none)) pc)) pc)) pc)) pc) else (fun pc => (bif Nat.ble pc 36 then (fun pc => (bif Nat.ble pc 28 then (fun pc => (bif Nat.ble pc 24 then (fun pc => bif Nat.beq pc 24 then some (.getfield 9, 27, 3, 1) else none) else (fun pc => (bif Nat.ble pc 27 then (fun pc => bif Nat.beq pc 27 then some (.iload_n 1, 28, 0, 0) else none) else (fun pc => bif Nat.beq pc 28 then some (.iconst 4, 29, 4, 0) else none)) pc)) pc) else (fun pc => (bif Nat.ble pc 30 then (fun pc => (bif Nat.ble pc 29 then (fun pc => bif Nat.beq pc 29 then some (.iastore, 30, 0, 0) else none) else (fun pc => bif Nat.beq pc 30 then some (.iinc 1 1, 33, 1, 0) else none)) pc) else (fun pc => (bif Nat.ble pc 33 then (fun pc => bif Nat.beq pc 33 then some (.goto (-16), 36, 17, 0) else none) else (fun pc => bif Nat.beq pc 36 then some (.aload_n 0, 37, 0, 0) else none)) pc)) pc)) pc) else (fun pc => (bif Nat.ble pc 44 then (fun pc => (bif Nat.ble pc 40 then (fun pc => (bif Nat.ble pc 37 then (fun pc => bif Nat.beq pc 37 then some (.getfield 23, 40, 5, 1) else none) else (fun pc => bif Nat.beq pc 40 then some (.invokevirtual 80, 43, 11, 81) else none)) pc) else (fun pc => (bif Nat.ble pc 43 then (fun pc => bif Nat.beq pc 43 then some (.aload_n 0, 44, 0, 0) else none) else (fun pc => bif Nat.beq pc 44 then some (.getfield 27, 47, 6, 1) else none)) pc)) pc) else (fun pc => (bif Nat.ble pc 50 then (fun pc => (bif Nat.ble pc 47 then (fun pc => bif Nat.beq pc 47 then some (.invokevirtual 80, 50, 11, 81) else none) else (fun pc => bif Nat.beq pc 50 then some (.aload_n 0, 51, 0, 0) else none)) pc) else (fun pc => (bif Nat.ble pc 51 then (fun pc => bif Nat.beq pc 51 then some (.getfield 30, 54, 7, 1) else none) else (fun pc => bif Nat.beq pc 54 then some (.invokevirtual 80, 57, 11, 81) else none)) pc)) pc)) pc)) pc)) pc) else (fun pc => (bif Nat.ble pc 89 then (fun pc => (bif Nat.ble pc 71 then (fun pc => (bif Nat.ble pc 61 then (fun pc => (bif Nat.ble pc 57 then (fun pc => bif Nat.beq pc 57 then some (.aload_n 0, 58, 0, 0) else none) else (fun pc => (bif Nat.ble pc 58 then (fun pc => bif Nat.beq pc 58 then some (.getfield 33, 61, 8, 1) else none) else (fun pc => bif Nat.beq pc 61 then some (.invokevirtual 80, 64, 11, 81) else none)) pc)) pc) else (fun pc => (bif Nat.ble pc 65 then (fun pc => (bif Nat.ble pc 64 then (fun pc => bif Nat.beq pc 64 then some (.aload_n 0, 65, 0, 0) else none) else (fun pc => bif Nat.beq pc 65 then some (.getfield 36, 68, 9, 1) else none)) pc) else (fun pc => (bif Nat.ble pc 68 then (fun pc => bif Nat.beq pc 68 then some (.invokevirtual 80, 71, 11, 81) else none) else (fun pc => bif Nat.beq pc 71 then some (.aload_n 0, 72, 0, 0) else none)) pc)) pc)) pc) else (fun pc => (bif Nat.ble pc 79 then (fun pc => (bif Nat.ble pc 75 then (fun pc => (bif Nat.ble pc 72 then (fun pc => bif Nat.beq pc 72 then some (.getfield 39, 75, 10, 1) else none) else (fun pc => bif Nat.beq pc 75 then some (.invokevirtual 80, 78, 11, 81) else none)) pc) else (fun pc => (bif Nat.ble pc 78 then (fun pc => bif Nat.beq pc 78 then some (.aload_n 0, 79, 0, 0) else none) else (fun pc => bif Nat.beq pc 79 then some (.getfield 45, 82, 11, 1) else none)) pc)) pc) else (fun pc => (bif Nat.ble pc 85 then (fun pc => (bif Nat.ble pc 82 then (fun pc => bif Nat.beq pc 82 then some (.invokevirtual 81, 85, 12, 1) else none) else (fun pc => bif Nat.beq pc 85 then some (.aload_n 0, 86, 0, 0) else none)) pc) else (fun pc => (bif Nat.ble pc 86 then (fun pc => bif Nat.beq pc 86 then some (.getfield 45, 89, 11, 1) else none) else (fun pc => bif Nat.beq pc 89 then some (.bipush (-9), 91, 4294967287, 0) else none)) pc)) pc)) pc)) pc) else (fun pc => (bif Nat.ble pc 106 then (fun pc => (bif Nat.ble pc 98 then (fun pc => (bif Nat.ble pc 94 then (fun pc => (bif Nat.ble pc 91 then (fun pc => bif Nat.beq pc 91 then some (.invokevirtual 82, 94, 13, 2) else none) else (fun pc => bif Nat.beq pc 94 then some (.aload_n 0, 95, 0, 0) else none)) pc) else (fun pc => (bif Nat.ble pc 95 then (fun pc => bif Nat.beq pc 95 then some (.getfield 49, 98, 12, 1) else none) else (fun pc => bif Nat.beq pc 98 then some (.invokevirtual 81, 101, 12, 1) else none)) pc)) pc) else (fun pc => (bif Nat.ble pc 102 then (fun pc => (bif Nat.ble pc 101 then (fun pc => bif Nat.beq pc 101 then some (.aload_n 0, 102, 0, 0) else none) else (fun pc => bif Nat.beq pc 102 then some (.getfield 49, 105, 12, 1) else none)) pc) else (fun pc => (bif Nat.ble pc 105 then (fun pc => bif Nat.beq pc 105 then some (.iconst 1, 106, 1, 0) else none) else (fun pc => bif Nat.beq pc 106 then some (.invokevirtual 82, 109, 13, 2) else none)) pc)) pc)) pc) else (fun pc => (bif Nat.ble pc 116 then (fun pc => (bif Nat.ble pc 110 then (fun pc => (bif Nat.ble pc 109 then (fun pc => bif Nat.beq pc 109 then some (.aload_n 0, 110, 0, 0) else none) else (fun pc => bif Nat.beq pc 110 then some (.getfield 52, 113, 13, 1) else none)) pc) else (fun pc => (bif Nat.ble pc 113 then (fun pc => bif Nat.beq pc 113 then some (.invokevirtual 81, 116, 12, 1) else none) else (fun pc => bif Nat.beq pc 116 then some (.aload_n 0, 117, 0, 0) else none)) pc)) pc) else (fun pc => (bif Nat.ble pc 120 then (fun pc => (bif Nat.ble pc 117 then (fun pc => bif Nat.beq pc 117 then some (.getfield 52, 120, 13, 1) else none) else (fun pc => bif Nat.beq pc 120 then some (.iconst 1, 121, 1, 0) else none)) pc) else (fun pc => (bif Nat.ble pc 121 then (fun pc => bif Nat.beq pc 121 then some (.invokevirtual 82, 124, 13, 2) else none) else (fun pc => bif Nat.beq pc 124 then some (.return_, 125, 0, 0) else none)) pc)) pc)) pc)) pc)) pc)) pc
/-- PackWeeks$Rows.clear()V -/
def kc_11 : Nat → Option en_I := fun pc => (bif Nat.ble pc 1 then (fun pc => (bif Nat.ble pc 0 then (fun pc => bif Nat.beq pc 0 then some (.aload_n 0, 1, 0, 0) else none) else (fun pc => bif Nat.beq pc 1 then some (.iconst 0, 2, 0, 0) else none)) pc) else (fun pc => (bif Nat.ble pc 2 then (fun pc => bif Nat.beq pc 2 then some (.putfield 28, 5, 5, 5) else none) else (fun pc => bif Nat.beq pc 5 then some (.return_, 6, 0, 0) else none)) pc)) pc
/-- PackWeeks$Law.clear()V -/
def kc_12 : Nat → Option en_I := fun pc => (bif Nat.ble pc 1 then (fun pc => (bif Nat.ble pc 0 then (fun pc => bif Nat.beq pc 0 then some (.aload_n 0, 1, 0, 0) else none) else (fun pc => bif Nat.beq pc 1 then some (.iconst 0, 2, 0, 0) else none)) pc) else (fun pc => (bif Nat.ble pc 2 then (fun pc => bif Nat.beq pc 2 then some (.putfield 18, 5, 2, 0) else none) else (fun pc => bif Nat.beq pc 5 then some (.return_, 6, 0, 0) else none)) pc)) pc
/-- PackWeeks$Law.add(I)V -/
def kc_13 : Nat → Option en_I := fun pc => (bif Nat.ble pc 16 then (fun pc => (bif Nat.ble pc 5 then (fun pc => (bif Nat.ble pc 1 then (fun pc => (bif Nat.ble pc 0 then (fun pc => bif Nat.beq pc 0 then some (.aload_n 0, 1, 0, 0) else none) else (fun pc => bif Nat.beq pc 1 then some (.getfield 18, 4, 2, 0) else none)) pc) else (fun pc => (bif Nat.ble pc 4 then (fun pc => bif Nat.beq pc 4 then some (.aload_n 0, 5, 0, 0) else none) else (fun pc => bif Nat.beq pc 5 then some (.getfield 15, 8, 1, 0) else none)) pc)) pc) else (fun pc => (bif Nat.ble pc 9 then (fun pc => (bif Nat.ble pc 8 then (fun pc => bif Nat.beq pc 8 then some (.arraylength, 9, 0, 0) else none) else (fun pc => bif Nat.beq pc 9 then some (.if_icmp .ge 23, 12, 32, 0) else none)) pc) else (fun pc => (bif Nat.ble pc 12 then (fun pc => bif Nat.beq pc 12 then some (.aload_n 0, 13, 0, 0) else none) else (fun pc => (bif Nat.ble pc 13 then (fun pc => bif Nat.beq pc 13 then some (.getfield 15, 16, 1, 0) else none) else (fun pc => bif Nat.beq pc 16 then some (.aload_n 0, 17, 0, 0) else none)) pc)) pc)) pc)) pc) else (fun pc => (bif Nat.ble pc 23 then (fun pc => (bif Nat.ble pc 20 then (fun pc => (bif Nat.ble pc 17 then (fun pc => bif Nat.beq pc 17 then some (.getfield 18, 20, 2, 0) else none) else (fun pc => bif Nat.beq pc 20 then some (.iload_n 1, 21, 0, 0) else none)) pc) else (fun pc => (bif Nat.ble pc 21 then (fun pc => bif Nat.beq pc 21 then some (.iastore, 22, 0, 0) else none) else (fun pc => (bif Nat.ble pc 22 then (fun pc => bif Nat.beq pc 22 then some (.aload_n 0, 23, 0, 0) else none) else (fun pc => bif Nat.beq pc 23 then some (.dup, 24, 0, 0) else none)) pc)) pc)) pc) else (fun pc => (bif Nat.ble pc 27 then (fun pc => (bif Nat.ble pc 24 then (fun pc => bif Nat.beq pc 24 then some (.getfield 18, 27, 2, 0) else none) else (fun pc => bif Nat.beq pc 27 then some (.iconst 1, 28, 1, 0) else none)) pc) else (fun pc => (bif Nat.ble pc 28 then (fun pc => bif Nat.beq pc 28 then some (.iadd, 29, 0, 0) else none) else (fun pc => (bif Nat.ble pc 29 then (fun pc => bif Nat.beq pc 29 then some (.putfield 18, 32, 2, 0) else none) else (fun pc => bif Nat.beq pc 32 then some (.return_, 33, 0, 0) else none)) pc)) pc)) pc)) pc)) pc
/-- PackWeeks$Pack.settle()V -/
def kc_14 : Nat → Option en_I := fun pc => (bif Nat.ble pc 88 then (fun pc => (bif Nat.ble pc 41 then (fun pc => (bif Nat.ble pc 18 then (fun pc => (bif Nat.ble pc 7 then (fun pc => (bif Nat.ble pc 2 then (fun pc => (bif Nat.ble pc 0 then (fun pc => bif Nat.beq pc 0 then some (.aload_n 0, 1, 0, 0) else none) else (fun pc => (bif Nat.ble pc 1 then (fun pc => bif Nat.beq pc 1 then some (.lconst 0, 2, 0, 0) else none) else (fun pc => bif Nat.beq pc 2 then some (.putfield 85, 5, 16, 17) else none)) pc)) pc) else (fun pc => (bif Nat.ble pc 5 then (fun pc => bif Nat.beq pc 5 then some (.iconst 0, 6, 0, 0) else none) else (fun pc => (bif Nat.ble pc 6 then (fun pc => bif Nat.beq pc 6 then some (.istore_n 1, 7, 0, 0) else none) else (fun pc => bif Nat.beq pc 7 then some (.iload_n 1, 8, 0, 0) else none)) pc)) pc)) pc) else (fun pc => (bif Nat.ble pc 12 then (fun pc => (bif Nat.ble pc 8 then (fun pc => bif Nat.beq pc 8 then some (.iconst 4, 9, 4, 0) else none) else (fun pc => (bif Nat.ble pc 9 then (fun pc => bif Nat.beq pc 9 then some (.if_icmp .gt 16, 12, 25, 0) else none) else (fun pc => bif Nat.beq pc 12 then some (.aload_n 0, 13, 0, 0) else none)) pc)) pc) else (fun pc => (bif Nat.ble pc 16 then (fun pc => (bif Nat.ble pc 13 then (fun pc => bif Nat.beq pc 13 then some (.getfield 55, 16, 14, 1) else none) else (fun pc => bif Nat.beq pc 16 then some (.iload_n 1, 17, 0, 0) else none)) pc) else (fun pc => (bif Nat.ble pc 17 then (fun pc => bif Nat.beq pc 17 then some (.lconst 0, 18, 0, 0) else none) else (fun pc => bif Nat.beq pc 18 then some (.lastore, 19, 0, 0) else none)) pc)) pc)) pc)) pc) else (fun pc => (bif Nat.ble pc 30 then (fun pc => (bif Nat.ble pc 25 then (fun pc => (bif Nat.ble pc 19 then (fun pc => bif Nat.beq pc 19 then some (.iinc 1 1, 22, 1, 0) else none) else (fun pc => (bif Nat.ble pc 22 then (fun pc => bif Nat.beq pc 22 then some (.goto (-15), 25, 7, 0) else none) else (fun pc => bif Nat.beq pc 25 then some (.iconst 0, 26, 0, 0) else none)) pc)) pc) else (fun pc => (bif Nat.ble pc 27 then (fun pc => (bif Nat.ble pc 26 then (fun pc => bif Nat.beq pc 26 then some (.istore_n 1, 27, 0, 0) else none) else (fun pc => bif Nat.beq pc 27 then some (.iload_n 1, 28, 0, 0) else none)) pc) else (fun pc => (bif Nat.ble pc 28 then (fun pc => bif Nat.beq pc 28 then some (.bipush 64, 30, 64, 0) else none) else (fun pc => bif Nat.beq pc 30 then some (.if_icmp .ge 100, 33, 130, 0) else none)) pc)) pc)) pc) else (fun pc => (bif Nat.ble pc 37 then (fun pc => (bif Nat.ble pc 33 then (fun pc => bif Nat.beq pc 33 then some (.aload_n 0, 34, 0, 0) else none) else (fun pc => (bif Nat.ble pc 34 then (fun pc => bif Nat.beq pc 34 then some (.getfield 15, 37, 4, 1) else none) else (fun pc => bif Nat.beq pc 37 then some (.iload_n 1, 38, 0, 0) else none)) pc)) pc) else (fun pc => (bif Nat.ble pc 39 then (fun pc => (bif Nat.ble pc 38 then (fun pc => bif Nat.beq pc 38 then some (.aload_n 0, 39, 0, 0) else none) else (fun pc => bif Nat.beq pc 39 then some (.iload_n 1, 40, 0, 0) else none)) pc) else (fun pc => (bif Nat.ble pc 40 then (fun pc => bif Nat.beq pc 40 then some (.aload_n 0, 41, 0, 0) else none) else (fun pc => bif Nat.beq pc 41 then some (.getfield 9, 44, 3, 1) else none)) pc)) pc)) pc)) pc)) pc) else (fun pc => (bif Nat.ble pc 62 then (fun pc => (bif Nat.ble pc 51 then (fun pc => (bif Nat.ble pc 46 then (fun pc => (bif Nat.ble pc 44 then (fun pc => bif Nat.beq pc 44 then some (.iload_n 1, 45, 0, 0) else none) else (fun pc => (bif Nat.ble pc 45 then (fun pc => bif Nat.beq pc 45 then some (.iaload, 46, 0, 0) else none) else (fun pc => bif Nat.beq pc 46 then some (.invokevirtual 89, 49, 15, 19) else none)) pc)) pc) else (fun pc => (bif Nat.ble pc 49 then (fun pc => bif Nat.beq pc 49 then some (.iastore, 50, 0, 0) else none) else (fun pc => (bif Nat.ble pc 50 then (fun pc => bif Nat.beq pc 50 then some (.aload_n 0, 51, 0, 0) else none) else (fun pc => bif Nat.beq pc 51 then some (.getfield 61, 54, 15, 1) else none)) pc)) pc)) pc) else (fun pc => (bif Nat.ble pc 56 then (fun pc => (bif Nat.ble pc 54 then (fun pc => bif Nat.beq pc 54 then some (.iconst 0, 55, 0, 0) else none) else (fun pc => (bif Nat.ble pc 55 then (fun pc => bif Nat.beq pc 55 then some (.aaload, 56, 0, 0) else none) else (fun pc => bif Nat.beq pc 56 then some (.iload_n 1, 57, 0, 0) else none)) pc)) pc) else (fun pc => (bif Nat.ble pc 58 then (fun pc => (bif Nat.ble pc 57 then (fun pc => bif Nat.beq pc 57 then some (.aload_n 0, 58, 0, 0) else none) else (fun pc => bif Nat.beq pc 58 then some (.getfield 15, 61, 4, 1) else none)) pc) else (fun pc => (bif Nat.ble pc 61 then (fun pc => bif Nat.beq pc 61 then some (.iload_n 1, 62, 0, 0) else none) else (fun pc => bif Nat.beq pc 62 then some (.iaload, 63, 0, 0) else none)) pc)) pc)) pc)) pc) else (fun pc => (bif Nat.ble pc 73 then (fun pc => (bif Nat.ble pc 65 then (fun pc => (bif Nat.ble pc 63 then (fun pc => bif Nat.beq pc 63 then some (.iastore, 64, 0, 0) else none) else (fun pc => (bif Nat.ble pc 64 then (fun pc => bif Nat.beq pc 64 then some (.aload_n 0, 65, 0, 0) else none) else (fun pc => bif Nat.beq pc 65 then some (.iload_n 1, 66, 0, 0) else none)) pc)) pc) else (fun pc => (bif Nat.ble pc 69 then (fun pc => (bif Nat.ble pc 66 then (fun pc => bif Nat.beq pc 66 then some (.invokestatic 93, 69, 16, 1) else none) else (fun pc => bif Nat.beq pc 69 then some (.iload_n 1, 70, 0, 0) else none)) pc) else (fun pc => (bif Nat.ble pc 70 then (fun pc => bif Nat.beq pc 70 then some (.invokestatic 97, 73, 17, 1) else none) else (fun pc => bif Nat.beq pc 73 then some (.invokevirtual 100, 76, 18, 19) else none)) pc)) pc)) pc) else (fun pc => (bif Nat.ble pc 80 then (fun pc => (bif Nat.ble pc 76 then (fun pc => bif Nat.beq pc 76 then some (.ifCond .eq 48, 79, 124, 0) else none) else (fun pc => (bif Nat.ble pc 79 then (fun pc => bif Nat.beq pc 79 then some (.aload_n 0, 80, 0, 0) else none) else (fun pc => bif Nat.beq pc 80 then some (.dup, 81, 0, 0) else none)) pc)) pc) else (fun pc => (bif Nat.ble pc 84 then (fun pc => (bif Nat.ble pc 81 then (fun pc => bif Nat.beq pc 81 then some (.getfield 85, 84, 16, 1) else none) else (fun pc => bif Nat.beq pc 84 then some (.iload_n 1, 85, 0, 0) else none)) pc) else (fun pc => (bif Nat.ble pc 85 then (fun pc => bif Nat.beq pc 85 then some (.invokestatic 104, 88, 20, 1) else none) else (fun pc => bif Nat.beq pc 88 then some (.lor, 89, 0, 0) else none)) pc)) pc)) pc)) pc)) pc)) pc) else (fun pc => (bif Nat.ble pc 140 then (fun pc => (bif Nat.ble pc 117 then (fun pc => (bif Nat.ble pc 100 then (fun pc => (bif Nat.ble pc 93 then (fun pc => (bif Nat.ble pc 89 then (fun pc => bif Nat.beq pc 89 then some (.putfield 85, 92, 16, 17) else none) else (fun pc => (bif Nat.ble pc 92 then (fun pc => bif Nat.beq pc 92 then some (.aload_n 0, 93, 0, 0) else none) else (fun pc => bif Nat.beq pc 93 then some (.getfield 55, 96, 14, 1) else none)) pc)) pc) else (fun pc => (bif Nat.ble pc 96 then (fun pc => bif Nat.beq pc 96 then some (.aload_n 0, 97, 0, 0) else none) else (fun pc => (bif Nat.ble pc 97 then (fun pc => bif Nat.beq pc 97 then some (.getfield 15, 100, 4, 1) else none) else (fun pc => bif Nat.beq pc 100 then some (.iload_n 1, 101, 0, 0) else none)) pc)) pc)) pc) else (fun pc => (bif Nat.ble pc 103 then (fun pc => (bif Nat.ble pc 101 then (fun pc => bif Nat.beq pc 101 then some (.iaload, 102, 0, 0) else none) else (fun pc => (bif Nat.ble pc 102 then (fun pc => bif Nat.beq pc 102 then some (.iload_n 1, 103, 0, 0) else none) else (fun pc => bif Nat.beq pc 103 then some (.if_icmp .ne 7, 106, 110, 0) else none)) pc)) pc) else (fun pc => (bif Nat.ble pc 107 then (fun pc => (bif Nat.ble pc 106 then (fun pc => bif Nat.beq pc 106 then some (.iconst 4, 107, 4, 0) else none) else (fun pc => bif Nat.beq pc 107 then some (.goto 9, 110, 116, 0) else none)) pc) else (fun pc => (bif Nat.ble pc 116 then (fun pc => bif Nat.beq pc 116 then some (.dup2, 117, 0, 0) else none) else (fun pc => bif Nat.beq pc 117 then some (.laload, 118, 0, 0) else none)) pc)) pc)) pc)) pc) else (fun pc => (bif Nat.ble pc 130 then (fun pc => (bif Nat.ble pc 122 then (fun pc => (bif Nat.ble pc 118 then (fun pc => bif Nat.beq pc 118 then some (.iload_n 1, 119, 0, 0) else none) else (fun pc => (bif Nat.ble pc 119 then (fun pc => bif Nat.beq pc 119 then some (.invokestatic 104, 122, 20, 1) else none) else (fun pc => bif Nat.beq pc 122 then some (.lor, 123, 0, 0) else none)) pc)) pc) else (fun pc => (bif Nat.ble pc 124 then (fun pc => (bif Nat.ble pc 123 then (fun pc => bif Nat.beq pc 123 then some (.lastore, 124, 0, 0) else none) else (fun pc => bif Nat.beq pc 124 then some (.iinc 1 1, 127, 1, 0) else none)) pc) else (fun pc => (bif Nat.ble pc 127 then (fun pc => bif Nat.beq pc 127 then some (.goto (-100), 130, 27, 0) else none) else (fun pc => bif Nat.beq pc 130 then some (.iconst 1, 131, 1, 0) else none)) pc)) pc)) pc) else (fun pc => (bif Nat.ble pc 133 then (fun pc => (bif Nat.ble pc 131 then (fun pc => bif Nat.beq pc 131 then some (.istore_n 1, 132, 0, 0) else none) else (fun pc => (bif Nat.ble pc 132 then (fun pc => bif Nat.beq pc 132 then some (.iload_n 1, 133, 0, 0) else none) else (fun pc => bif Nat.beq pc 133 then some (.bipush 16, 135, 16, 0) else none)) pc)) pc) else (fun pc => (bif Nat.ble pc 138 then (fun pc => (bif Nat.ble pc 135 then (fun pc => bif Nat.beq pc 135 then some (.if_icmp .ge 50, 138, 185, 0) else none) else (fun pc => bif Nat.beq pc 138 then some (.iconst 0, 139, 0, 0) else none)) pc) else (fun pc => (bif Nat.ble pc 139 then (fun pc => bif Nat.beq pc 139 then some (.istore_n 2, 140, 0, 0) else none) else (fun pc => bif Nat.beq pc 140 then some (.iload_n 2, 141, 0, 0) else none)) pc)) pc)) pc)) pc)) pc) else (fun pc => (bif Nat.ble pc 161 then (fun pc => (bif Nat.ble pc 152 then (fun pc => (bif Nat.ble pc 146 then (fun pc => (bif Nat.ble pc 141 then (fun pc => bif Nat.beq pc 141 then some (.bipush 64, 143, 64, 0) else none) else (fun pc => (bif Nat.ble pc 143 then (fun pc => bif Nat.beq pc 143 then some (.if_icmp .ge 36, 146, 179, 0) else none) else (fun pc => bif Nat.beq pc 146 then some (.aload_n 0, 147, 0, 0) else none)) pc)) pc) else (fun pc => (bif Nat.ble pc 150 then (fun pc => (bif Nat.ble pc 147 then (fun pc => bif Nat.beq pc 147 then some (.getfield 61, 150, 15, 1) else none) else (fun pc => bif Nat.beq pc 150 then some (.iload_n 1, 151, 0, 0) else none)) pc) else (fun pc => (bif Nat.ble pc 151 then (fun pc => bif Nat.beq pc 151 then some (.aaload, 152, 0, 0) else none) else (fun pc => bif Nat.beq pc 152 then some (.iload_n 2, 153, 0, 0) else none)) pc)) pc)) pc) else (fun pc => (bif Nat.ble pc 157 then (fun pc => (bif Nat.ble pc 153 then (fun pc => bif Nat.beq pc 153 then some (.aload_n 0, 154, 0, 0) else none) else (fun pc => (bif Nat.ble pc 154 then (fun pc => bif Nat.beq pc 154 then some (.getfield 61, 157, 15, 1) else none) else (fun pc => bif Nat.beq pc 157 then some (.iload_n 1, 158, 0, 0) else none)) pc)) pc) else (fun pc => (bif Nat.ble pc 159 then (fun pc => (bif Nat.ble pc 158 then (fun pc => bif Nat.beq pc 158 then some (.iconst 1, 159, 1, 0) else none) else (fun pc => bif Nat.beq pc 159 then some (.isub, 160, 0, 0) else none)) pc) else (fun pc => (bif Nat.ble pc 160 then (fun pc => bif Nat.beq pc 160 then some (.aaload, 161, 0, 0) else none) else (fun pc => bif Nat.beq pc 161 then some (.aload_n 0, 162, 0, 0) else none)) pc)) pc)) pc)) pc) else (fun pc => (bif Nat.ble pc 170 then (fun pc => (bif Nat.ble pc 166 then (fun pc => (bif Nat.ble pc 162 then (fun pc => bif Nat.beq pc 162 then some (.getfield 61, 165, 15, 1) else none) else (fun pc => (bif Nat.ble pc 165 then (fun pc => bif Nat.beq pc 165 then some (.iload_n 1, 166, 0, 0) else none) else (fun pc => bif Nat.beq pc 166 then some (.iconst 1, 167, 1, 0) else none)) pc)) pc) else (fun pc => (bif Nat.ble pc 168 then (fun pc => (bif Nat.ble pc 167 then (fun pc => bif Nat.beq pc 167 then some (.isub, 168, 0, 0) else none) else (fun pc => bif Nat.beq pc 168 then some (.aaload, 169, 0, 0) else none)) pc) else (fun pc => (bif Nat.ble pc 169 then (fun pc => bif Nat.beq pc 169 then some (.iload_n 2, 170, 0, 0) else none) else (fun pc => bif Nat.beq pc 170 then some (.iaload, 171, 0, 0) else none)) pc)) pc)) pc) else (fun pc => (bif Nat.ble pc 173 then (fun pc => (bif Nat.ble pc 171 then (fun pc => bif Nat.beq pc 171 then some (.iaload, 172, 0, 0) else none) else (fun pc => (bif Nat.ble pc 172 then (fun pc => bif Nat.beq pc 172 then some (.iastore, 173, 0, 0) else none) else (fun pc => bif Nat.beq pc 173 then some (.iinc 2 1, 176, 1, 0) else none)) pc)) pc) else (fun pc => (bif Nat.ble pc 179 then (fun pc => (bif Nat.ble pc 176 then (fun pc => bif Nat.beq pc 176 then some (.goto (-36), 179, 140, 0) else none) else (fun pc => bif Nat.beq pc 179 then some (.iinc 1 1, 182, 1, 0) else none)) pc) else (fun pc => (bif Nat.ble pc 182 then (fun pc => bif Nat.beq pc 182 then some (.goto (-50), 185, 132, 0) else none) else (fun pc => bif Nat.beq pc 185 then some (.return_, 186, 0, 0) else none)) pc)) pc)) pc)) pc)) pc)) pc)) pc
/-- PackWeeks$Pack.neighbour(II)I -/
def kc_15 : Nat → Option en_I := fun pc => (bif Nat.ble pc 31 then (fun pc => (bif Nat.ble pc 15 then (fun pc => (bif Nat.ble pc 5 then (fun pc => (bif Nat.ble pc 1 then (fun pc => (bif Nat.ble pc 0 then (fun pc => bif Nat.beq pc 0 then some (.iload_n 1, 1, 0, 0) else none) else (fun pc => bif Nat.beq pc 1 then some (.invokestatic 93, 4, 16, 1) else none)) pc) else (fun pc => (bif Nat.ble pc 4 then (fun pc => bif Nat.beq pc 4 then some (.iload_n 2, 5, 0, 0) else none) else (fun pc => bif Nat.beq pc 5 then some (.iconst 1, 6, 1, 0) else none)) pc)) pc) else (fun pc => (bif Nat.ble pc 13 then (fun pc => (bif Nat.ble pc 6 then (fun pc => bif Nat.beq pc 6 then some (.if_icmp .ne 7, 9, 13, 0) else none) else (fun pc => bif Nat.beq pc 13 then some (.iload_n 2, 14, 0, 0) else none)) pc) else (fun pc => (bif Nat.ble pc 14 then (fun pc => bif Nat.beq pc 14 then some (.iconst 3, 15, 3, 0) else none) else (fun pc => bif Nat.beq pc 15 then some (.if_icmp .ne 7, 18, 22, 0) else none)) pc)) pc)) pc) else (fun pc => (bif Nat.ble pc 25 then (fun pc => (bif Nat.ble pc 23 then (fun pc => (bif Nat.ble pc 22 then (fun pc => bif Nat.beq pc 22 then some (.iconst 0, 23, 0, 0) else none) else (fun pc => bif Nat.beq pc 23 then some (.iadd, 24, 0, 0) else none)) pc) else (fun pc => (bif Nat.ble pc 24 then (fun pc => bif Nat.beq pc 24 then some (.istore_n 3, 25, 0, 0) else none) else (fun pc => bif Nat.beq pc 25 then some (.iload_n 1, 26, 0, 0) else none)) pc)) pc) else (fun pc => (bif Nat.ble pc 29 then (fun pc => (bif Nat.ble pc 26 then (fun pc => bif Nat.beq pc 26 then some (.invokestatic 97, 29, 17, 1) else none) else (fun pc => bif Nat.beq pc 29 then some (.iload_n 2, 30, 0, 0) else none)) pc) else (fun pc => (bif Nat.ble pc 30 then (fun pc => bif Nat.beq pc 30 then some (.iconst 2, 31, 2, 0) else none) else (fun pc => bif Nat.beq pc 31 then some (.if_icmp .ne 7, 34, 38, 0) else none)) pc)) pc)) pc)) pc) else (fun pc => (bif Nat.ble pc 52 then (fun pc => (bif Nat.ble pc 47 then (fun pc => (bif Nat.ble pc 39 then (fun pc => (bif Nat.ble pc 38 then (fun pc => bif Nat.beq pc 38 then some (.iload_n 2, 39, 0, 0) else none) else (fun pc => bif Nat.beq pc 39 then some (.ifCond .ne 7, 42, 46, 0) else none)) pc) else (fun pc => (bif Nat.ble pc 46 then (fun pc => bif Nat.beq pc 46 then some (.iconst 0, 47, 0, 0) else none) else (fun pc => bif Nat.beq pc 47 then some (.iadd, 48, 0, 0) else none)) pc)) pc) else (fun pc => (bif Nat.ble pc 50 then (fun pc => (bif Nat.ble pc 48 then (fun pc => bif Nat.beq pc 48 then some (.istore 4, 50, 0, 0) else none) else (fun pc => bif Nat.beq pc 50 then some (.aload_n 0, 51, 0, 0) else none)) pc) else (fun pc => (bif Nat.ble pc 51 then (fun pc => bif Nat.beq pc 51 then some (.iload_n 3, 52, 0, 0) else none) else (fun pc => bif Nat.beq pc 52 then some (.iload 4, 54, 0, 0) else none)) pc)) pc)) pc) else (fun pc => (bif Nat.ble pc 61 then (fun pc => (bif Nat.ble pc 57 then (fun pc => (bif Nat.ble pc 54 then (fun pc => bif Nat.beq pc 54 then some (.invokevirtual 100, 57, 18, 19) else none) else (fun pc => bif Nat.beq pc 57 then some (.ifCond .eq 12, 60, 69, 0) else none)) pc) else (fun pc => (bif Nat.ble pc 60 then (fun pc => bif Nat.beq pc 60 then some (.iload_n 3, 61, 0, 0) else none) else (fun pc => bif Nat.beq pc 61 then some (.iload 4, 63, 0, 0) else none)) pc)) pc) else (fun pc => (bif Nat.ble pc 66 then (fun pc => (bif Nat.ble pc 63 then (fun pc => bif Nat.beq pc 63 then some (.invokestatic 108, 66, 19, 2) else none) else (fun pc => bif Nat.beq pc 66 then some (.goto 4, 69, 70, 0) else none)) pc) else (fun pc => (bif Nat.ble pc 69 then (fun pc => bif Nat.beq pc 69 then some (.iload_n 1, 70, 0, 0) else none) else (fun pc => bif Nat.beq pc 70 then some (.ireturn, 71, 0, 0) else none)) pc)) pc)) pc)) pc)) pc
/-- PackWeeks.overOf(I)I -/
def kc_16 : Nat → Option en_I := fun pc => (bif Nat.ble pc 1 then (fun pc => (bif Nat.ble pc 0 then (fun pc => bif Nat.beq pc 0 then some (.iload_n 0, 1, 0, 0) else none) else (fun pc => bif Nat.beq pc 1 then some (.bipush 7, 3, 7, 0) else none)) pc) else (fun pc => (bif Nat.ble pc 3 then (fun pc => bif Nat.beq pc 3 then some (.iand, 4, 0, 0) else none) else (fun pc => bif Nat.beq pc 4 then some (.ireturn, 5, 0, 0) else none)) pc)) pc
/-- PackWeeks.downOf(I)I -/
def kc_17 : Nat → Option en_I := fun pc => (bif Nat.ble pc 1 then (fun pc => (bif Nat.ble pc 0 then (fun pc => bif Nat.beq pc 0 then some (.iload_n 0, 1, 0, 0) else none) else (fun pc => bif Nat.beq pc 1 then some (.iconst 3, 2, 3, 0) else none)) pc) else (fun pc => (bif Nat.ble pc 2 then (fun pc => bif Nat.beq pc 2 then some (.ishr, 3, 0, 0) else none) else (fun pc => bif Nat.beq pc 3 then some (.ireturn, 4, 0, 0) else none)) pc)) pc
/-- PackWeeks$Pack.isPlace(II)Z -/
def kc_18 : Nat → Option en_I := fun pc => (bif Nat.ble pc 13 then (fun pc => (bif Nat.ble pc 5 then (fun pc => (bif Nat.ble pc 1 then (fun pc => (bif Nat.ble pc 0 then (fun pc => bif Nat.beq pc 0 then some (.iload_n 1, 1, 0, 0) else none) else (fun pc => bif Nat.beq pc 1 then some (.ifCond .lt 27, 4, 28, 0) else none)) pc) else (fun pc => (bif Nat.ble pc 4 then (fun pc => bif Nat.beq pc 4 then some (.iload_n 1, 5, 0, 0) else none) else (fun pc => bif Nat.beq pc 5 then some (.aload_n 0, 6, 0, 0) else none)) pc)) pc) else (fun pc => (bif Nat.ble pc 9 then (fun pc => (bif Nat.ble pc 6 then (fun pc => bif Nat.beq pc 6 then some (.getfield 70, 9, 0, 1) else none) else (fun pc => bif Nat.beq pc 9 then some (.if_icmp .ge 19, 12, 28, 0) else none)) pc) else (fun pc => (bif Nat.ble pc 12 then (fun pc => bif Nat.beq pc 12 then some (.iload_n 2, 13, 0, 0) else none) else (fun pc => bif Nat.beq pc 13 then some (.ifCond .lt 15, 16, 28, 0) else none)) pc)) pc)) pc) else (fun pc => (bif Nat.ble pc 21 then (fun pc => (bif Nat.ble pc 17 then (fun pc => (bif Nat.ble pc 16 then (fun pc => bif Nat.beq pc 16 then some (.iload_n 2, 17, 0, 0) else none) else (fun pc => bif Nat.beq pc 17 then some (.aload_n 0, 18, 0, 0) else none)) pc) else (fun pc => (bif Nat.ble pc 18 then (fun pc => bif Nat.beq pc 18 then some (.getfield 74, 21, 1, 1) else none) else (fun pc => bif Nat.beq pc 21 then some (.if_icmp .ge 7, 24, 28, 0) else none)) pc)) pc) else (fun pc => (bif Nat.ble pc 25 then (fun pc => (bif Nat.ble pc 24 then (fun pc => bif Nat.beq pc 24 then some (.iconst 1, 25, 1, 0) else none) else (fun pc => bif Nat.beq pc 25 then some (.goto 4, 28, 29, 0) else none)) pc) else (fun pc => (bif Nat.ble pc 28 then (fun pc => bif Nat.beq pc 28 then some (.iconst 0, 29, 0, 0) else none) else (fun pc => bif Nat.beq pc 29 then some (.ireturn, 30, 1, 0) else none)) pc)) pc)) pc)) pc
/-- PackWeeks.placeOf(II)I -/
def kc_19 : Nat → Option en_I := fun pc => (bif Nat.ble pc 3 then (fun pc => (bif Nat.ble pc 0 then (fun pc => bif Nat.beq pc 0 then some (.iload_n 0, 1, 0, 0) else none) else (fun pc => (bif Nat.ble pc 1 then (fun pc => bif Nat.beq pc 1 then some (.bipush 8, 3, 8, 0) else none) else (fun pc => bif Nat.beq pc 3 then some (.iload_n 1, 4, 0, 0) else none)) pc)) pc) else (fun pc => (bif Nat.ble pc 4 then (fun pc => bif Nat.beq pc 4 then some (.imul, 5, 0, 0) else none) else (fun pc => (bif Nat.ble pc 5 then (fun pc => bif Nat.beq pc 5 then some (.iadd, 6, 0, 0) else none) else (fun pc => bif Nat.beq pc 6 then some (.ireturn, 7, 0, 0) else none)) pc)) pc)) pc
/-- PackWeeks.bit(I)J -/
def kc_20 : Nat → Option en_I := fun pc => (bif Nat.ble pc 1 then (fun pc => (bif Nat.ble pc 0 then (fun pc => bif Nat.beq pc 0 then some (.lconst 1, 1, 1, 0) else none) else (fun pc => bif Nat.beq pc 1 then some (.iload_n 0, 2, 0, 0) else none)) pc) else (fun pc => (bif Nat.ble pc 2 then (fun pc => bif Nat.beq pc 2 then some (.lshl, 3, 0, 0) else none) else (fun pc => bif Nat.beq pc 3 then some (.lreturn, 4, 0, 0) else none)) pc)) pc
/-- PackWeeks.beginPack()V -/
def kc_21 : Nat → Option en_I := fun pc => (bif Nat.ble pc 27 then (fun pc => (bif Nat.ble pc 12 then (fun pc => (bif Nat.ble pc 4 then (fun pc => (bif Nat.ble pc 0 then (fun pc => bif Nat.beq pc 0 then some (.aload_n 0, 1, 0, 0) else none) else (fun pc => (bif Nat.ble pc 1 then (fun pc => bif Nat.beq pc 1 then some (.getfield 28, 4, 2, 9) else none) else (fun pc => bif Nat.beq pc 4 then some (.aload_n 0, 5, 0, 0) else none)) pc)) pc) else (fun pc => (bif Nat.ble pc 8 then (fun pc => (bif Nat.ble pc 5 then (fun pc => bif Nat.beq pc 5 then some (.getfield 71, 8, 10, 9) else none) else (fun pc => bif Nat.beq pc 8 then some (.invokevirtual 198, 11, 22, 114) else none)) pc) else (fun pc => (bif Nat.ble pc 11 then (fun pc => bif Nat.beq pc 11 then some (.aload_n 0, 12, 0, 0) else none) else (fun pc => bif Nat.beq pc 12 then some (.getfield 83, 15, 12, 9) else none)) pc)) pc)) pc) else (fun pc => (bif Nat.ble pc 19 then (fun pc => (bif Nat.ble pc 15 then (fun pc => bif Nat.beq pc 15 then some (.invokevirtual 333, 18, 11, 81) else none) else (fun pc => (bif Nat.ble pc 18 then (fun pc => bif Nat.beq pc 18 then some (.aload_n 0, 19, 0, 0) else none) else (fun pc => bif Nat.beq pc 19 then some (.getfield 57, 22, 8, 9) else none)) pc)) pc) else (fun pc => (bif Nat.ble pc 23 then (fun pc => (bif Nat.ble pc 22 then (fun pc => bif Nat.beq pc 22 then some (.iconst 0, 23, 0, 0) else none) else (fun pc => bif Nat.beq pc 23 then some (.putfield 331, 26, 0, 6) else none)) pc) else (fun pc => (bif Nat.ble pc 26 then (fun pc => bif Nat.beq pc 26 then some (.aload_n 0, 27, 0, 0) else none) else (fun pc => bif Nat.beq pc 27 then some (.getfield 38, 30, 4, 9) else none)) pc)) pc)) pc)) pc) else (fun pc => (bif Nat.ble pc 40 then (fun pc => (bif Nat.ble pc 34 then (fun pc => (bif Nat.ble pc 30 then (fun pc => bif Nat.beq pc 30 then some (.invokevirtual 316, 33, 24, 33) else none) else (fun pc => (bif Nat.ble pc 33 then (fun pc => bif Nat.beq pc 33 then some (.iconst 0, 34, 0, 0) else none) else (fun pc => bif Nat.beq pc 34 then some (.istore_n 1, 35, 0, 0) else none)) pc)) pc) else (fun pc => (bif Nat.ble pc 36 then (fun pc => (bif Nat.ble pc 35 then (fun pc => bif Nat.beq pc 35 then some (.iload_n 1, 36, 0, 0) else none) else (fun pc => bif Nat.beq pc 36 then some (.iconst 4, 37, 4, 0) else none)) pc) else (fun pc => (bif Nat.ble pc 37 then (fun pc => bif Nat.beq pc 37 then some (.if_icmp .ge 16, 40, 53, 0) else none) else (fun pc => bif Nat.beq pc 40 then some (.aload_n 0, 41, 0, 0) else none)) pc)) pc)) pc) else (fun pc => (bif Nat.ble pc 45 then (fun pc => (bif Nat.ble pc 41 then (fun pc => bif Nat.beq pc 41 then some (.getfield 52, 44, 7, 9) else none) else (fun pc => (bif Nat.ble pc 44 then (fun pc => bif Nat.beq pc 44 then some (.iload_n 1, 45, 0, 0) else none) else (fun pc => bif Nat.beq pc 45 then some (.iconst 0, 46, 0, 0) else none)) pc)) pc) else (fun pc => (bif Nat.ble pc 47 then (fun pc => (bif Nat.ble pc 46 then (fun pc => bif Nat.beq pc 46 then some (.bastore, 47, 0, 0) else none) else (fun pc => bif Nat.beq pc 47 then some (.iinc 1 1, 50, 1, 0) else none)) pc) else (fun pc => (bif Nat.ble pc 50 then (fun pc => bif Nat.beq pc 50 then some (.goto (-15), 53, 35, 0) else none) else (fun pc => bif Nat.beq pc 53 then some (.return_, 54, 0, 0) else none)) pc)) pc)) pc)) pc)) pc
/-- PackWeeks$Stand.begin(LPackWeeks$Pack;)V -/
def kc_22 : Nat → Option en_I := fun pc => (bif Nat.ble pc 74 then (fun pc => (bif Nat.ble pc 40 then (fun pc => (bif Nat.ble pc 7 then (fun pc => (bif Nat.ble pc 2 then (fun pc => (bif Nat.ble pc 0 then (fun pc => bif Nat.beq pc 0 then some (.aload_n 0, 1, 0, 0) else none) else (fun pc => (bif Nat.ble pc 1 then (fun pc => bif Nat.beq pc 1 then some (.iconst 0, 2, 0, 0) else none) else (fun pc => bif Nat.beq pc 2 then some (.putfield 31, 5, 0, 7) else none)) pc)) pc) else (fun pc => (bif Nat.ble pc 5 then (fun pc => bif Nat.beq pc 5 then some (.iconst 0, 6, 0, 0) else none) else (fun pc => (bif Nat.ble pc 6 then (fun pc => bif Nat.beq pc 6 then some (.istore_n 2, 7, 0, 0) else none) else (fun pc => bif Nat.beq pc 7 then some (.iload_n 2, 8, 0, 0) else none)) pc)) pc)) pc) else (fun pc => (bif Nat.ble pc 12 then (fun pc => (bif Nat.ble pc 8 then (fun pc => bif Nat.beq pc 8 then some (.aload_n 1, 9, 0, 0) else none) else (fun pc => (bif Nat.ble pc 9 then (fun pc => bif Nat.beq pc 9 then some (.getfield 35, 12, 5, 1) else none) else (fun pc => bif Nat.beq pc 12 then some (.getfield 41, 15, 5, 5) else none)) pc)) pc) else (fun pc => (bif Nat.ble pc 15 then (fun pc => bif Nat.beq pc 15 then some (.if_icmp .ge 24, 18, 39, 0) else none) else (fun pc => (bif Nat.ble pc 39 then (fun pc => bif Nat.beq pc 39 then some (.iconst 0, 40, 0, 0) else none) else (fun pc => bif Nat.beq pc 40 then some (.istore_n 2, 41, 0, 0) else none)) pc)) pc)) pc)) pc) else (fun pc => (bif Nat.ble pc 50 then (fun pc => (bif Nat.ble pc 43 then (fun pc => (bif Nat.ble pc 41 then (fun pc => bif Nat.beq pc 41 then some (.iload_n 2, 42, 0, 0) else none) else (fun pc => (bif Nat.ble pc 42 then (fun pc => bif Nat.beq pc 42 then some (.iconst 2, 43, 2, 0) else none) else (fun pc => bif Nat.beq pc 43 then some (.if_icmp .ge 67, 46, 110, 0) else none)) pc)) pc) else (fun pc => (bif Nat.ble pc 46 then (fun pc => bif Nat.beq pc 46 then some (.aload_n 0, 47, 0, 0) else none) else (fun pc => (bif Nat.ble pc 47 then (fun pc => bif Nat.beq pc 47 then some (.getfield 15, 50, 2, 7) else none) else (fun pc => bif Nat.beq pc 50 then some (.iload_n 2, 51, 0, 0) else none)) pc)) pc)) pc) else (fun pc => (bif Nat.ble pc 55 then (fun pc => (bif Nat.ble pc 51 then (fun pc => bif Nat.beq pc 51 then some (.aload_n 1, 52, 0, 0) else none) else (fun pc => (bif Nat.ble pc 52 then (fun pc => bif Nat.beq pc 52 then some (.getfield 49, 55, 7, 1) else none) else (fun pc => bif Nat.beq pc 55 then some (.iload_n 2, 56, 0, 0) else none)) pc)) pc) else (fun pc => (bif Nat.ble pc 56 then (fun pc => bif Nat.beq pc 56 then some (.invokevirtual 52, 59, 23, 82) else none) else (fun pc => (bif Nat.ble pc 59 then (fun pc => bif Nat.beq pc 59 then some (.ifCond .eq 15, 62, 74, 0) else none) else (fun pc => bif Nat.beq pc 74 then some (.iconst 0, 75, 0, 0) else none)) pc)) pc)) pc)) pc)) pc) else (fun pc => (bif Nat.ble pc 90 then (fun pc => (bif Nat.ble pc 82 then (fun pc => (bif Nat.ble pc 77 then (fun pc => (bif Nat.ble pc 75 then (fun pc => bif Nat.beq pc 75 then some (.iastore, 76, 0, 0) else none) else (fun pc => (bif Nat.ble pc 76 then (fun pc => bif Nat.beq pc 76 then some (.aload_n 0, 77, 0, 0) else none) else (fun pc => bif Nat.beq pc 77 then some (.getfield 18, 80, 3, 7) else none)) pc)) pc) else (fun pc => (bif Nat.ble pc 80 then (fun pc => bif Nat.beq pc 80 then some (.iload_n 2, 81, 0, 0) else none) else (fun pc => (bif Nat.ble pc 81 then (fun pc => bif Nat.beq pc 81 then some (.iconst 0, 82, 0, 0) else none) else (fun pc => bif Nat.beq pc 82 then some (.iastore, 83, 0, 0) else none)) pc)) pc)) pc) else (fun pc => (bif Nat.ble pc 87 then (fun pc => (bif Nat.ble pc 83 then (fun pc => bif Nat.beq pc 83 then some (.aload_n 0, 84, 0, 0) else none) else (fun pc => (bif Nat.ble pc 84 then (fun pc => bif Nat.beq pc 84 then some (.getfield 21, 87, 4, 7) else none) else (fun pc => bif Nat.beq pc 87 then some (.iload_n 2, 88, 0, 0) else none)) pc)) pc) else (fun pc => (bif Nat.ble pc 88 then (fun pc => bif Nat.beq pc 88 then some (.iconst 0, 89, 0, 0) else none) else (fun pc => (bif Nat.ble pc 89 then (fun pc => bif Nat.beq pc 89 then some (.bastore, 90, 0, 0) else none) else (fun pc => bif Nat.beq pc 90 then some (.aload_n 0, 91, 0, 0) else none)) pc)) pc)) pc)) pc) else (fun pc => (bif Nat.ble pc 98 then (fun pc => (bif Nat.ble pc 95 then (fun pc => (bif Nat.ble pc 91 then (fun pc => bif Nat.beq pc 91 then some (.getfield 25, 94, 5, 7) else none) else (fun pc => (bif Nat.ble pc 94 then (fun pc => bif Nat.beq pc 94 then some (.iload_n 2, 95, 0, 0) else none) else (fun pc => bif Nat.beq pc 95 then some (.iconst 0, 96, 0, 0) else none)) pc)) pc) else (fun pc => (bif Nat.ble pc 96 then (fun pc => bif Nat.beq pc 96 then some (.bastore, 97, 0, 0) else none) else (fun pc => (bif Nat.ble pc 97 then (fun pc => bif Nat.beq pc 97 then some (.aload_n 0, 98, 0, 0) else none) else (fun pc => bif Nat.beq pc 98 then some (.getfield 28, 101, 6, 7) else none)) pc)) pc)) pc) else (fun pc => (bif Nat.ble pc 103 then (fun pc => (bif Nat.ble pc 101 then (fun pc => bif Nat.beq pc 101 then some (.iload_n 2, 102, 0, 0) else none) else (fun pc => (bif Nat.ble pc 102 then (fun pc => bif Nat.beq pc 102 then some (.iconst 0, 103, 0, 0) else none) else (fun pc => bif Nat.beq pc 103 then some (.iastore, 104, 0, 0) else none)) pc)) pc) else (fun pc => (bif Nat.ble pc 104 then (fun pc => bif Nat.beq pc 104 then some (.iinc 2 1, 107, 1, 0) else none) else (fun pc => (bif Nat.ble pc 107 then (fun pc => bif Nat.beq pc 107 then some (.goto (-66), 110, 41, 0) else none) else (fun pc => bif Nat.beq pc 110 then some (.return_, 111, 0, 0) else none)) pc)) pc)) pc)) pc)) pc)) pc
/-- PackWeeks$Rows.holds(I)Z -/
def kc_23 : Nat → Option en_I := fun pc => (bif Nat.ble pc 5 then (fun pc => (bif Nat.ble pc 1 then (fun pc => (bif Nat.ble pc 0 then (fun pc => bif Nat.beq pc 0 then some (.iload_n 1, 1, 0, 0) else none) else (fun pc => bif Nat.beq pc 1 then some (.ifCond .lt 15, 4, 16, 0) else none)) pc) else (fun pc => (bif Nat.ble pc 4 then (fun pc => bif Nat.beq pc 4 then some (.iload_n 1, 5, 0, 0) else none) else (fun pc => bif Nat.beq pc 5 then some (.aload_n 0, 6, 0, 0) else none)) pc)) pc) else (fun pc => (bif Nat.ble pc 9 then (fun pc => (bif Nat.ble pc 6 then (fun pc => bif Nat.beq pc 6 then some (.getfield 28, 9, 5, 5) else none) else (fun pc => bif Nat.beq pc 9 then some (.if_icmp .ge 7, 12, 16, 0) else none)) pc) else (fun pc => (bif Nat.ble pc 16 then (fun pc => bif Nat.beq pc 16 then some (.iconst 0, 17, 0, 0) else none) else (fun pc => bif Nat.beq pc 17 then some (.ireturn, 18, 1, 0) else none)) pc)) pc)) pc
/-- PackWeeks$Past.clear()V -/
def kc_24 : Nat → Option en_I := fun pc => (bif Nat.ble pc 2 then (fun pc => (bif Nat.ble pc 0 then (fun pc => bif Nat.beq pc 0 then some (.aload_n 0, 1, 0, 0) else none) else (fun pc => (bif Nat.ble pc 1 then (fun pc => bif Nat.beq pc 1 then some (.iconst 0, 2, 0, 0) else none) else (fun pc => bif Nat.beq pc 2 then some (.putfield 18, 5, 2, 2) else none)) pc)) pc) else (fun pc => (bif Nat.ble pc 6 then (fun pc => (bif Nat.ble pc 5 then (fun pc => bif Nat.beq pc 5 then some (.aload_n 0, 6, 0, 0) else none) else (fun pc => bif Nat.beq pc 6 then some (.iconst 0, 7, 0, 0) else none)) pc) else (fun pc => (bif Nat.ble pc 7 then (fun pc => bif Nat.beq pc 7 then some (.putfield 22, 10, 1, 2) else none) else (fun pc => bif Nat.beq pc 10 then some (.return_, 11, 0, 0) else none)) pc)) pc)) pc
/-- PackWeeksModel.<init>()V -/
def kc_25 : Nat → Option en_I := fun pc => (bif Nat.ble pc 262 then (fun pc => (bif Nat.ble pc 130 then (fun pc => (bif Nat.ble pc 68 then (fun pc => (bif Nat.ble pc 37 then (fun pc => (bif Nat.ble pc 17 then (fun pc => (bif Nat.ble pc 5 then (fun pc => (bif Nat.ble pc 1 then (fun pc => (bif Nat.ble pc 0 then (fun pc => bif Nat.beq pc 0 then some (.aload_n 0, 1, 0, 0) else none) else (fun pc => bif Nat.beq pc 1 then some (.invokespecial 18, 4, 9999, 0) else none)) pc) else (fun pc => (bif Nat.ble pc 4 then (fun pc => bif Nat.beq pc 4 then some (.aload_n 0, 5, 0, 0) else none) else (fun pc => bif Nat.beq pc 5 then some (.sipush 1000, 8, 1000, 0) else none)) pc)) pc) else (fun pc => (bif Nat.ble pc 10 then (fun pc => (bif Nat.ble pc 8 then (fun pc => bif Nat.beq pc 8 then some (.newarray .int, 10, 0, 0) else none) else (fun pc => bif Nat.beq pc 10 then some (.putfield 14, 13, 1, 106) else none)) pc) else (fun pc => (bif Nat.ble pc 13 then (fun pc => bif Nat.beq pc 13 then some (.aload_n 0, 14, 0, 0) else none) else (fun pc => (bif Nat.ble pc 14 then (fun pc => bif Nat.beq pc 14 then some (.sipush 1002, 17, 1002, 0) else none) else (fun pc => bif Nat.beq pc 17 then some (.newarray .int, 19, 0, 0) else none)) pc)) pc)) pc)) pc) else (fun pc => (bif Nat.ble pc 26 then (fun pc => (bif Nat.ble pc 22 then (fun pc => (bif Nat.ble pc 19 then (fun pc => bif Nat.beq pc 19 then some (.putfield 24, 22, 4, 106) else none) else (fun pc => bif Nat.beq pc 22 then some (.aload_n 0, 23, 0, 0) else none)) pc) else (fun pc => (bif Nat.ble pc 23 then (fun pc => bif Nat.beq pc 23 then some (.sipush 1002, 26, 1002, 0) else none) else (fun pc => bif Nat.beq pc 26 then some (.newarray .int, 28, 0, 0) else none)) pc)) pc) else (fun pc => (bif Nat.ble pc 31 then (fun pc => (bif Nat.ble pc 28 then (fun pc => bif Nat.beq pc 28 then some (.putfield 27, 31, 5, 106) else none) else (fun pc => bif Nat.beq pc 31 then some (.aload_n 0, 32, 0, 0) else none)) pc) else (fun pc => (bif Nat.ble pc 32 then (fun pc => bif Nat.beq pc 32 then some (.sipush 1002, 35, 1002, 0) else none) else (fun pc => (bif Nat.ble pc 35 then (fun pc => bif Nat.beq pc 35 then some (.newarray .long, 37, 3, 0) else none) else (fun pc => bif Nat.beq pc 37 then some (.putfield 30, 40, 6, 106) else none)) pc)) pc)) pc)) pc)) pc) else (fun pc => (bif Nat.ble pc 52 then (fun pc => (bif Nat.ble pc 45 then (fun pc => (bif Nat.ble pc 41 then (fun pc => (bif Nat.ble pc 40 then (fun pc => bif Nat.beq pc 40 then some (.aload_n 0, 41, 0, 0) else none) else (fun pc => bif Nat.beq pc 41 then some (.bipush 42, 43, 42, 0) else none)) pc) else (fun pc => (bif Nat.ble pc 43 then (fun pc => bif Nat.beq pc 43 then some (.newarray .long, 45, 3, 0) else none) else (fun pc => bif Nat.beq pc 45 then some (.dup, 46, 0, 0) else none)) pc)) pc) else (fun pc => (bif Nat.ble pc 47 then (fun pc => (bif Nat.ble pc 46 then (fun pc => bif Nat.beq pc 46 then some (.iconst 0, 47, 0, 0) else none) else (fun pc => bif Nat.beq pc 47 then some (.ldc2_w 34, 50, 379550, 0) else none)) pc) else (fun pc => (bif Nat.ble pc 50 then (fun pc => bif Nat.beq pc 50 then some (.lastore, 51, 0, 0) else none) else (fun pc => (bif Nat.ble pc 51 then (fun pc => bif Nat.beq pc 51 then some (.dup, 52, 0, 0) else none) else (fun pc => bif Nat.beq pc 52 then some (.iconst 1, 53, 1, 0) else none)) pc)) pc)) pc)) pc) else (fun pc => (bif Nat.ble pc 59 then (fun pc => (bif Nat.ble pc 56 then (fun pc => (bif Nat.ble pc 53 then (fun pc => bif Nat.beq pc 53 then some (.ldc2_w 36, 56, 8420961, 0) else none) else (fun pc => bif Nat.beq pc 56 then some (.lastore, 57, 0, 0) else none)) pc) else (fun pc => (bif Nat.ble pc 57 then (fun pc => bif Nat.beq pc 57 then some (.dup, 58, 0, 0) else none) else (fun pc => (bif Nat.ble pc 58 then (fun pc => bif Nat.beq pc 58 then some (.iconst 2, 59, 2, 0) else none) else (fun pc => bif Nat.beq pc 59 then some (.ldc2_w 38, 62, 37901290, 0) else none)) pc)) pc)) pc) else (fun pc => (bif Nat.ble pc 63 then (fun pc => (bif Nat.ble pc 62 then (fun pc => bif Nat.beq pc 62 then some (.lastore, 63, 0, 0) else none) else (fun pc => bif Nat.beq pc 63 then some (.dup, 64, 0, 0) else none)) pc) else (fun pc => (bif Nat.ble pc 64 then (fun pc => bif Nat.beq pc 64 then some (.iconst 3, 65, 3, 0) else none) else (fun pc => (bif Nat.ble pc 65 then (fun pc => bif Nat.beq pc 65 then some (.ldc2_w 40, 68, 57, 0) else none) else (fun pc => bif Nat.beq pc 68 then some (.lastore, 69, 0, 0) else none)) pc)) pc)) pc)) pc)) pc)) pc) else (fun pc => (bif Nat.ble pc 96 then (fun pc => (bif Nat.ble pc 81 then (fun pc => (bif Nat.ble pc 74 then (fun pc => (bif Nat.ble pc 70 then (fun pc => (bif Nat.ble pc 69 then (fun pc => bif Nat.beq pc 69 then some (.dup, 70, 0, 0) else none) else (fun pc => bif Nat.beq pc 70 then some (.iconst 4, 71, 4, 0) else none)) pc) else (fun pc => (bif Nat.ble pc 71 then (fun pc => bif Nat.beq pc 71 then some (.ldc2_w 42, 74, 614722, 0) else none) else (fun pc => bif Nat.beq pc 74 then some (.lastore, 75, 0, 0) else none)) pc)) pc) else (fun pc => (bif Nat.ble pc 76 then (fun pc => (bif Nat.ble pc 75 then (fun pc => bif Nat.beq pc 75 then some (.dup, 76, 0, 0) else none) else (fun pc => bif Nat.beq pc 76 then some (.iconst 5, 77, 5, 0) else none)) pc) else (fun pc => (bif Nat.ble pc 77 then (fun pc => bif Nat.beq pc 77 then some (.ldc2_w 44, 80, 34523964, 0) else none) else (fun pc => (bif Nat.ble pc 80 then (fun pc => bif Nat.beq pc 80 then some (.lastore, 81, 0, 0) else none) else (fun pc => bif Nat.beq pc 81 then some (.dup, 82, 0, 0) else none)) pc)) pc)) pc)) pc) else (fun pc => (bif Nat.ble pc 88 then (fun pc => (bif Nat.ble pc 84 then (fun pc => (bif Nat.ble pc 82 then (fun pc => bif Nat.beq pc 82 then some (.bipush 6, 84, 6, 0) else none) else (fun pc => bif Nat.beq pc 84 then some (.ldc2_w 46, 87, 329128, 0) else none)) pc) else (fun pc => (bif Nat.ble pc 87 then (fun pc => bif Nat.beq pc 87 then some (.lastore, 88, 0, 0) else none) else (fun pc => bif Nat.beq pc 88 then some (.dup, 89, 0, 0) else none)) pc)) pc) else (fun pc => (bif Nat.ble pc 91 then (fun pc => (bif Nat.ble pc 89 then (fun pc => bif Nat.beq pc 89 then some (.bipush 7, 91, 7, 0) else none) else (fun pc => bif Nat.beq pc 91 then some (.ldc2_w 48, 94, 8787, 0) else none)) pc) else (fun pc => (bif Nat.ble pc 94 then (fun pc => bif Nat.beq pc 94 then some (.lastore, 95, 0, 0) else none) else (fun pc => (bif Nat.ble pc 95 then (fun pc => bif Nat.beq pc 95 then some (.dup, 96, 0, 0) else none) else (fun pc => bif Nat.beq pc 96 then some (.bipush 8, 98, 8, 0) else none)) pc)) pc)) pc)) pc)) pc) else (fun pc => (bif Nat.ble pc 112 then (fun pc => (bif Nat.ble pc 103 then (fun pc => (bif Nat.ble pc 101 then (fun pc => (bif Nat.ble pc 98 then (fun pc => bif Nat.beq pc 98 then some (.ldc2_w 50, 101, 176809, 0) else none) else (fun pc => bif Nat.beq pc 101 then some (.lastore, 102, 0, 0) else none)) pc) else (fun pc => (bif Nat.ble pc 102 then (fun pc => bif Nat.beq pc 102 then some (.dup, 103, 0, 0) else none) else (fun pc => bif Nat.beq pc 103 then some (.bipush 9, 105, 9, 0) else none)) pc)) pc) else (fun pc => (bif Nat.ble pc 108 then (fun pc => (bif Nat.ble pc 105 then (fun pc => bif Nat.beq pc 105 then some (.ldc2_w 52, 108, 17996, 0) else none) else (fun pc => bif Nat.beq pc 108 then some (.lastore, 109, 0, 0) else none)) pc) else (fun pc => (bif Nat.ble pc 109 then (fun pc => bif Nat.beq pc 109 then some (.dup, 110, 0, 0) else none) else (fun pc => (bif Nat.ble pc 110 then (fun pc => bif Nat.beq pc 110 then some (.bipush 10, 112, 10, 0) else none) else (fun pc => bif Nat.beq pc 112 then some (.ldc2_w 54, 115, 5791338551, 0) else none)) pc)) pc)) pc)) pc) else (fun pc => (bif Nat.ble pc 122 then (fun pc => (bif Nat.ble pc 116 then (fun pc => (bif Nat.ble pc 115 then (fun pc => bif Nat.beq pc 115 then some (.lastore, 116, 0, 0) else none) else (fun pc => bif Nat.beq pc 116 then some (.dup, 117, 0, 0) else none)) pc) else (fun pc => (bif Nat.ble pc 117 then (fun pc => bif Nat.beq pc 117 then some (.bipush 11, 119, 11, 0) else none) else (fun pc => (bif Nat.ble pc 119 then (fun pc => bif Nat.beq pc 119 then some (.ldc2_w 56, 122, 811933, 0) else none) else (fun pc => bif Nat.beq pc 122 then some (.lastore, 123, 0, 0) else none)) pc)) pc)) pc) else (fun pc => (bif Nat.ble pc 124 then (fun pc => (bif Nat.ble pc 123 then (fun pc => bif Nat.beq pc 123 then some (.dup, 124, 0, 0) else none) else (fun pc => bif Nat.beq pc 124 then some (.bipush 12, 126, 12, 0) else none)) pc) else (fun pc => (bif Nat.ble pc 126 then (fun pc => bif Nat.beq pc 126 then some (.ldc2_w 58, 129, 9636, 0) else none) else (fun pc => (bif Nat.ble pc 129 then (fun pc => bif Nat.beq pc 129 then some (.lastore, 130, 0, 0) else none) else (fun pc => bif Nat.beq pc 130 then some (.dup, 131, 0, 0) else none)) pc)) pc)) pc)) pc)) pc)) pc)) pc) else (fun pc => (bif Nat.ble pc 194 then (fun pc => (bif Nat.ble pc 161 then (fun pc => (bif Nat.ble pc 145 then (fun pc => (bif Nat.ble pc 137 then (fun pc => (bif Nat.ble pc 133 then (fun pc => (bif Nat.ble pc 131 then (fun pc => bif Nat.beq pc 131 then some (.bipush 13, 133, 13, 0) else none) else (fun pc => bif Nat.beq pc 133 then some (.ldc2_w 60, 136, 28930245, 0) else none)) pc) else (fun pc => (bif Nat.ble pc 136 then (fun pc => bif Nat.beq pc 136 then some (.lastore, 137, 0, 0) else none) else (fun pc => bif Nat.beq pc 137 then some (.dup, 138, 0, 0) else none)) pc)) pc) else (fun pc => (bif Nat.ble pc 140 then (fun pc => (bif Nat.ble pc 138 then (fun pc => bif Nat.beq pc 138 then some (.bipush 14, 140, 14, 0) else none) else (fun pc => bif Nat.beq pc 140 then some (.ldc2_w 62, 143, 722074, 0) else none)) pc) else (fun pc => (bif Nat.ble pc 143 then (fun pc => bif Nat.beq pc 143 then some (.lastore, 144, 0, 0) else none) else (fun pc => (bif Nat.ble pc 144 then (fun pc => bif Nat.beq pc 144 then some (.dup, 145, 0, 0) else none) else (fun pc => bif Nat.beq pc 145 then some (.bipush 15, 147, 15, 0) else none)) pc)) pc)) pc)) pc) else (fun pc => (bif Nat.ble pc 152 then (fun pc => (bif Nat.ble pc 150 then (fun pc => (bif Nat.ble pc 147 then (fun pc => bif Nat.beq pc 147 then some (.ldc2_w 64, 150, 975001, 0) else none) else (fun pc => bif Nat.beq pc 150 then some (.lastore, 151, 0, 0) else none)) pc) else (fun pc => (bif Nat.ble pc 151 then (fun pc => bif Nat.beq pc 151 then some (.dup, 152, 0, 0) else none) else (fun pc => bif Nat.beq pc 152 then some (.bipush 16, 154, 16, 0) else none)) pc)) pc) else (fun pc => (bif Nat.ble pc 157 then (fun pc => (bif Nat.ble pc 154 then (fun pc => bif Nat.beq pc 154 then some (.ldc2_w 66, 157, 28443912, 0) else none) else (fun pc => bif Nat.beq pc 157 then some (.lastore, 158, 0, 0) else none)) pc) else (fun pc => (bif Nat.ble pc 158 then (fun pc => bif Nat.beq pc 158 then some (.dup, 159, 0, 0) else none) else (fun pc => (bif Nat.ble pc 159 then (fun pc => bif Nat.beq pc 159 then some (.bipush 17, 161, 17, 0) else none) else (fun pc => bif Nat.beq pc 161 then some (.ldc2_w 68, 164, 628412, 0) else none)) pc)) pc)) pc)) pc)) pc) else (fun pc => (bif Nat.ble pc 178 then (fun pc => (bif Nat.ble pc 168 then (fun pc => (bif Nat.ble pc 165 then (fun pc => (bif Nat.ble pc 164 then (fun pc => bif Nat.beq pc 164 then some (.lastore, 165, 0, 0) else none) else (fun pc => bif Nat.beq pc 165 then some (.dup, 166, 0, 0) else none)) pc) else (fun pc => (bif Nat.ble pc 166 then (fun pc => bif Nat.beq pc 166 then some (.bipush 18, 168, 18, 0) else none) else (fun pc => bif Nat.beq pc 168 then some (.ldc2_w 70, 171, 43890888, 0) else none)) pc)) pc) else (fun pc => (bif Nat.ble pc 172 then (fun pc => (bif Nat.ble pc 171 then (fun pc => bif Nat.beq pc 171 then some (.lastore, 172, 0, 0) else none) else (fun pc => bif Nat.beq pc 172 then some (.dup, 173, 0, 0) else none)) pc) else (fun pc => (bif Nat.ble pc 173 then (fun pc => bif Nat.beq pc 173 then some (.bipush 19, 175, 19, 0) else none) else (fun pc => (bif Nat.ble pc 175 then (fun pc => bif Nat.beq pc 175 then some (.ldc2_w 72, 178, 37549136, 0) else none) else (fun pc => bif Nat.beq pc 178 then some (.lastore, 179, 0, 0) else none)) pc)) pc)) pc)) pc) else (fun pc => (bif Nat.ble pc 186 then (fun pc => (bif Nat.ble pc 180 then (fun pc => (bif Nat.ble pc 179 then (fun pc => bif Nat.beq pc 179 then some (.dup, 180, 0, 0) else none) else (fun pc => bif Nat.beq pc 180 then some (.bipush 20, 182, 20, 0) else none)) pc) else (fun pc => (bif Nat.ble pc 182 then (fun pc => bif Nat.beq pc 182 then some (.ldc2_w 74, 185, 6902, 0) else none) else (fun pc => (bif Nat.ble pc 185 then (fun pc => bif Nat.beq pc 185 then some (.lastore, 186, 0, 0) else none) else (fun pc => bif Nat.beq pc 186 then some (.dup, 187, 0, 0) else none)) pc)) pc)) pc) else (fun pc => (bif Nat.ble pc 189 then (fun pc => (bif Nat.ble pc 187 then (fun pc => bif Nat.beq pc 187 then some (.bipush 21, 189, 21, 0) else none) else (fun pc => bif Nat.beq pc 189 then some (.ldc2_w 76, 192, 628937, 0) else none)) pc) else (fun pc => (bif Nat.ble pc 192 then (fun pc => bif Nat.beq pc 192 then some (.lastore, 193, 0, 0) else none) else (fun pc => (bif Nat.ble pc 193 then (fun pc => bif Nat.beq pc 193 then some (.dup, 194, 0, 0) else none) else (fun pc => bif Nat.beq pc 194 then some (.bipush 22, 196, 22, 0) else none)) pc)) pc)) pc)) pc)) pc)) pc) else (fun pc => (bif Nat.ble pc 228 then (fun pc => (bif Nat.ble pc 210 then (fun pc => (bif Nat.ble pc 201 then (fun pc => (bif Nat.ble pc 199 then (fun pc => (bif Nat.ble pc 196 then (fun pc => bif Nat.beq pc 196 then some (.ldc2_w 78, 199, 4666969, 0) else none) else (fun pc => bif Nat.beq pc 199 then some (.lastore, 200, 0, 0) else none)) pc) else (fun pc => (bif Nat.ble pc 200 then (fun pc => bif Nat.beq pc 200 then some (.dup, 201, 0, 0) else none) else (fun pc => bif Nat.beq pc 201 then some (.bipush 23, 203, 23, 0) else none)) pc)) pc) else (fun pc => (bif Nat.ble pc 206 then (fun pc => (bif Nat.ble pc 203 then (fun pc => bif Nat.beq pc 203 then some (.ldc2_w 80, 206, 407382, 0) else none) else (fun pc => bif Nat.beq pc 206 then some (.lastore, 207, 0, 0) else none)) pc) else (fun pc => (bif Nat.ble pc 207 then (fun pc => bif Nat.beq pc 207 then some (.dup, 208, 0, 0) else none) else (fun pc => (bif Nat.ble pc 208 then (fun pc => bif Nat.beq pc 208 then some (.bipush 24, 210, 24, 0) else none) else (fun pc => bif Nat.beq pc 210 then some (.ldc2_w 82, 213, 615203, 0) else none)) pc)) pc)) pc)) pc) else (fun pc => (bif Nat.ble pc 220 then (fun pc => (bif Nat.ble pc 214 then (fun pc => (bif Nat.ble pc 213 then (fun pc => bif Nat.beq pc 213 then some (.lastore, 214, 0, 0) else none) else (fun pc => bif Nat.beq pc 214 then some (.dup, 215, 0, 0) else none)) pc) else (fun pc => (bif Nat.ble pc 215 then (fun pc => bif Nat.beq pc 215 then some (.bipush 25, 217, 25, 0) else none) else (fun pc => (bif Nat.ble pc 217 then (fun pc => bif Nat.beq pc 217 then some (.ldc2_w 84, 220, 426245, 0) else none) else (fun pc => bif Nat.beq pc 220 then some (.lastore, 221, 0, 0) else none)) pc)) pc)) pc) else (fun pc => (bif Nat.ble pc 222 then (fun pc => (bif Nat.ble pc 221 then (fun pc => bif Nat.beq pc 221 then some (.dup, 222, 0, 0) else none) else (fun pc => bif Nat.beq pc 222 then some (.bipush 26, 224, 26, 0) else none)) pc) else (fun pc => (bif Nat.ble pc 224 then (fun pc => bif Nat.beq pc 224 then some (.ldc2_w 86, 227, 27023439, 0) else none) else (fun pc => (bif Nat.ble pc 227 then (fun pc => bif Nat.beq pc 227 then some (.lastore, 228, 0, 0) else none) else (fun pc => bif Nat.beq pc 228 then some (.dup, 229, 0, 0) else none)) pc)) pc)) pc)) pc)) pc) else (fun pc => (bif Nat.ble pc 243 then (fun pc => (bif Nat.ble pc 235 then (fun pc => (bif Nat.ble pc 231 then (fun pc => (bif Nat.ble pc 229 then (fun pc => bif Nat.beq pc 229 then some (.bipush 27, 231, 27, 0) else none) else (fun pc => bif Nat.beq pc 231 then some (.ldc2_w 88, 234, 255357, 0) else none)) pc) else (fun pc => (bif Nat.ble pc 234 then (fun pc => bif Nat.beq pc 234 then some (.lastore, 235, 0, 0) else none) else (fun pc => bif Nat.beq pc 235 then some (.dup, 236, 0, 0) else none)) pc)) pc) else (fun pc => (bif Nat.ble pc 238 then (fun pc => (bif Nat.ble pc 236 then (fun pc => bif Nat.beq pc 236 then some (.bipush 28, 238, 28, 0) else none) else (fun pc => bif Nat.beq pc 238 then some (.ldc2_w 90, 241, 36398351, 0) else none)) pc) else (fun pc => (bif Nat.ble pc 241 then (fun pc => bif Nat.beq pc 241 then some (.lastore, 242, 0, 0) else none) else (fun pc => (bif Nat.ble pc 242 then (fun pc => bif Nat.beq pc 242 then some (.dup, 243, 0, 0) else none) else (fun pc => bif Nat.beq pc 243 then some (.bipush 29, 245, 29, 0) else none)) pc)) pc)) pc)) pc) else (fun pc => (bif Nat.ble pc 252 then (fun pc => (bif Nat.ble pc 248 then (fun pc => (bif Nat.ble pc 245 then (fun pc => bif Nat.beq pc 245 then some (.ldc2_w 92, 248, 1172587, 0) else none) else (fun pc => bif Nat.beq pc 248 then some (.lastore, 249, 0, 0) else none)) pc) else (fun pc => (bif Nat.ble pc 249 then (fun pc => bif Nat.beq pc 249 then some (.dup, 250, 0, 0) else none) else (fun pc => (bif Nat.ble pc 250 then (fun pc => bif Nat.beq pc 250 then some (.bipush 30, 252, 30, 0) else none) else (fun pc => bif Nat.beq pc 252 then some (.ldc2_w 94, 255, 36634896, 0) else none)) pc)) pc)) pc) else (fun pc => (bif Nat.ble pc 256 then (fun pc => (bif Nat.ble pc 255 then (fun pc => bif Nat.beq pc 255 then some (.lastore, 256, 0, 0) else none) else (fun pc => bif Nat.beq pc 256 then some (.dup, 257, 0, 0) else none)) pc) else (fun pc => (bif Nat.ble pc 257 then (fun pc => bif Nat.beq pc 257 then some (.bipush 31, 259, 31, 0) else none) else (fun pc => (bif Nat.ble pc 259 then (fun pc => bif Nat.beq pc 259 then some (.ldc2_w 96, 262, 973708, 0) else none) else (fun pc => bif Nat.beq pc 262 then some (.lastore, 263, 0, 0) else none)) pc)) pc)) pc)) pc)) pc)) pc)) pc)) pc) else (fun pc => (bif Nat.ble pc 404 then (fun pc => (bif Nat.ble pc 326 then (fun pc => (bif Nat.ble pc 292 then (fun pc => (bif Nat.ble pc 277 then (fun pc => (bif Nat.ble pc 269 then (fun pc => (bif Nat.ble pc 264 then (fun pc => (bif Nat.ble pc 263 then (fun pc => bif Nat.beq pc 263 then some (.dup, 264, 0, 0) else none) else (fun pc => bif Nat.beq pc 264 then some (.bipush 32, 266, 32, 0) else none)) pc) else (fun pc => (bif Nat.ble pc 266 then (fun pc => bif Nat.beq pc 266 then some (.ldc2_w 98, 269, 11749, 0) else none) else (fun pc => bif Nat.beq pc 269 then some (.lastore, 270, 0, 0) else none)) pc)) pc) else (fun pc => (bif Nat.ble pc 271 then (fun pc => (bif Nat.ble pc 270 then (fun pc => bif Nat.beq pc 270 then some (.dup, 271, 0, 0) else none) else (fun pc => bif Nat.beq pc 271 then some (.bipush 33, 273, 33, 0) else none)) pc) else (fun pc => (bif Nat.ble pc 273 then (fun pc => bif Nat.beq pc 273 then some (.ldc2_w 100, 276, 108206, 0) else none) else (fun pc => (bif Nat.ble pc 276 then (fun pc => bif Nat.beq pc 276 then some (.lastore, 277, 0, 0) else none) else (fun pc => bif Nat.beq pc 277 then some (.dup, 278, 0, 0) else none)) pc)) pc)) pc)) pc) else (fun pc => (bif Nat.ble pc 284 then (fun pc => (bif Nat.ble pc 280 then (fun pc => (bif Nat.ble pc 278 then (fun pc => bif Nat.beq pc 278 then some (.bipush 34, 280, 34, 0) else none) else (fun pc => bif Nat.beq pc 280 then some (.ldc2_w 102, 283, 5686137, 0) else none)) pc) else (fun pc => (bif Nat.ble pc 283 then (fun pc => bif Nat.beq pc 283 then some (.lastore, 284, 0, 0) else none) else (fun pc => bif Nat.beq pc 284 then some (.dup, 285, 0, 0) else none)) pc)) pc) else (fun pc => (bif Nat.ble pc 287 then (fun pc => (bif Nat.ble pc 285 then (fun pc => bif Nat.beq pc 285 then some (.bipush 35, 287, 35, 0) else none) else (fun pc => bif Nat.beq pc 287 then some (.ldc2_w 104, 290, 19741, 0) else none)) pc) else (fun pc => (bif Nat.ble pc 290 then (fun pc => bif Nat.beq pc 290 then some (.lastore, 291, 0, 0) else none) else (fun pc => (bif Nat.ble pc 291 then (fun pc => bif Nat.beq pc 291 then some (.dup, 292, 0, 0) else none) else (fun pc => bif Nat.beq pc 292 then some (.bipush 36, 294, 36, 0) else none)) pc)) pc)) pc)) pc)) pc) else (fun pc => (bif Nat.ble pc 308 then (fun pc => (bif Nat.ble pc 299 then (fun pc => (bif Nat.ble pc 297 then (fun pc => (bif Nat.ble pc 294 then (fun pc => bif Nat.beq pc 294 then some (.ldc2_w 106, 297, 1891, 0) else none) else (fun pc => bif Nat.beq pc 297 then some (.lastore, 298, 0, 0) else none)) pc) else (fun pc => (bif Nat.ble pc 298 then (fun pc => bif Nat.beq pc 298 then some (.dup, 299, 0, 0) else none) else (fun pc => bif Nat.beq pc 299 then some (.bipush 37, 301, 37, 0) else none)) pc)) pc) else (fun pc => (bif Nat.ble pc 304 then (fun pc => (bif Nat.ble pc 301 then (fun pc => bif Nat.beq pc 301 then some (.ldc2_w 108, 304, 573, 0) else none) else (fun pc => bif Nat.beq pc 304 then some (.lastore, 305, 0, 0) else none)) pc) else (fun pc => (bif Nat.ble pc 305 then (fun pc => bif Nat.beq pc 305 then some (.dup, 306, 0, 0) else none) else (fun pc => (bif Nat.ble pc 306 then (fun pc => bif Nat.beq pc 306 then some (.bipush 38, 308, 38, 0) else none) else (fun pc => bif Nat.beq pc 308 then some (.ldc2_w 110, 311, 8955924273, 0) else none)) pc)) pc)) pc)) pc) else (fun pc => (bif Nat.ble pc 318 then (fun pc => (bif Nat.ble pc 312 then (fun pc => (bif Nat.ble pc 311 then (fun pc => bif Nat.beq pc 311 then some (.lastore, 312, 0, 0) else none) else (fun pc => bif Nat.beq pc 312 then some (.dup, 313, 0, 0) else none)) pc) else (fun pc => (bif Nat.ble pc 313 then (fun pc => bif Nat.beq pc 313 then some (.bipush 39, 315, 39, 0) else none) else (fun pc => (bif Nat.ble pc 315 then (fun pc => bif Nat.beq pc 315 then some (.ldc2_w 112, 318, 989988, 0) else none) else (fun pc => bif Nat.beq pc 318 then some (.lastore, 319, 0, 0) else none)) pc)) pc)) pc) else (fun pc => (bif Nat.ble pc 320 then (fun pc => (bif Nat.ble pc 319 then (fun pc => bif Nat.beq pc 319 then some (.dup, 320, 0, 0) else none) else (fun pc => bif Nat.beq pc 320 then some (.bipush 40, 322, 40, 0) else none)) pc) else (fun pc => (bif Nat.ble pc 322 then (fun pc => bif Nat.beq pc 322 then some (.ldc2_w 114, 325, 21332, 0) else none) else (fun pc => (bif Nat.ble pc 325 then (fun pc => bif Nat.beq pc 325 then some (.lastore, 326, 0, 0) else none) else (fun pc => bif Nat.beq pc 326 then some (.dup, 327, 0, 0) else none)) pc)) pc)) pc)) pc)) pc)) pc) else (fun pc => (bif Nat.ble pc 364 then (fun pc => (bif Nat.ble pc 345 then (fun pc => (bif Nat.ble pc 333 then (fun pc => (bif Nat.ble pc 329 then (fun pc => (bif Nat.ble pc 327 then (fun pc => bif Nat.beq pc 327 then some (.bipush 41, 329, 41, 0) else none) else (fun pc => bif Nat.beq pc 329 then some (.ldc2_w 116, 332, 5538, 0) else none)) pc) else (fun pc => (bif Nat.ble pc 332 then (fun pc => bif Nat.beq pc 332 then some (.lastore, 333, 0, 0) else none) else (fun pc => bif Nat.beq pc 333 then some (.putfield 118, 336, 9, 106) else none)) pc)) pc) else (fun pc => (bif Nat.ble pc 337 then (fun pc => (bif Nat.ble pc 336 then (fun pc => bif Nat.beq pc 336 then some (.aload_n 0, 337, 0, 0) else none) else (fun pc => bif Nat.beq pc 337 then some (.sipush 320, 340, 320, 0) else none)) pc) else (fun pc => (bif Nat.ble pc 340 then (fun pc => bif Nat.beq pc 340 then some (.newarray .int, 342, 0, 0) else none) else (fun pc => (bif Nat.ble pc 342 then (fun pc => bif Nat.beq pc 342 then some (.putfield 121, 345, 10, 106) else none) else (fun pc => bif Nat.beq pc 345 then some (.aload_n 0, 346, 0, 0) else none)) pc)) pc)) pc)) pc) else (fun pc => (bif Nat.ble pc 354 then (fun pc => (bif Nat.ble pc 349 then (fun pc => (bif Nat.ble pc 346 then (fun pc => bif Nat.beq pc 346 then some (.sipush 2200, 349, 2200, 0) else none) else (fun pc => bif Nat.beq pc 349 then some (.newarray .int, 351, 0, 0) else none)) pc) else (fun pc => (bif Nat.ble pc 351 then (fun pc => bif Nat.beq pc 351 then some (.putfield 124, 354, 11, 106) else none) else (fun pc => bif Nat.beq pc 354 then some (.aload_n 0, 355, 0, 0) else none)) pc)) pc) else (fun pc => (bif Nat.ble pc 358 then (fun pc => (bif Nat.ble pc 355 then (fun pc => bif Nat.beq pc 355 then some (.sipush 2200, 358, 2200, 0) else none) else (fun pc => bif Nat.beq pc 358 then some (.newarray .int, 360, 0, 0) else none)) pc) else (fun pc => (bif Nat.ble pc 360 then (fun pc => bif Nat.beq pc 360 then some (.putfield 127, 363, 12, 106) else none) else (fun pc => (bif Nat.ble pc 363 then (fun pc => bif Nat.beq pc 363 then some (.aload_n 0, 364, 0, 0) else none) else (fun pc => bif Nat.beq pc 364 then some (.bipush 24, 366, 24, 0) else none)) pc)) pc)) pc)) pc)) pc) else (fun pc => (bif Nat.ble pc 382 then (fun pc => (bif Nat.ble pc 372 then (fun pc => (bif Nat.ble pc 368 then (fun pc => (bif Nat.ble pc 366 then (fun pc => bif Nat.beq pc 366 then some (.newarray .long, 368, 3, 0) else none) else (fun pc => bif Nat.beq pc 368 then some (.putfield 130, 371, 14, 106) else none)) pc) else (fun pc => (bif Nat.ble pc 371 then (fun pc => bif Nat.beq pc 371 then some (.aload_n 0, 372, 0, 0) else none) else (fun pc => bif Nat.beq pc 372 then some (.bipush 24, 374, 24, 0) else none)) pc)) pc) else (fun pc => (bif Nat.ble pc 376 then (fun pc => (bif Nat.ble pc 374 then (fun pc => bif Nat.beq pc 374 then some (.newarray .long, 376, 3, 0) else none) else (fun pc => bif Nat.beq pc 376 then some (.putfield 133, 379, 15, 106) else none)) pc) else (fun pc => (bif Nat.ble pc 379 then (fun pc => bif Nat.beq pc 379 then some (.aload_n 0, 380, 0, 0) else none) else (fun pc => (bif Nat.ble pc 380 then (fun pc => bif Nat.beq pc 380 then some (.bipush 24, 382, 24, 0) else none) else (fun pc => bif Nat.beq pc 382 then some (.newarray .int, 384, 0, 0) else none)) pc)) pc)) pc)) pc) else (fun pc => (bif Nat.ble pc 392 then (fun pc => (bif Nat.ble pc 387 then (fun pc => (bif Nat.ble pc 384 then (fun pc => bif Nat.beq pc 384 then some (.putfield 136, 387, 16, 106) else none) else (fun pc => bif Nat.beq pc 387 then some (.aload_n 0, 388, 0, 0) else none)) pc) else (fun pc => (bif Nat.ble pc 388 then (fun pc => bif Nat.beq pc 388 then some (.bipush 24, 390, 24, 0) else none) else (fun pc => (bif Nat.ble pc 390 then (fun pc => bif Nat.beq pc 390 then some (.newarray .int, 392, 0, 0) else none) else (fun pc => bif Nat.beq pc 392 then some (.putfield 139, 395, 17, 106) else none)) pc)) pc)) pc) else (fun pc => (bif Nat.ble pc 396 then (fun pc => (bif Nat.ble pc 395 then (fun pc => bif Nat.beq pc 395 then some (.aload_n 0, 396, 0, 0) else none) else (fun pc => bif Nat.beq pc 396 then some (.sipush 210, 399, 210, 0) else none)) pc) else (fun pc => (bif Nat.ble pc 399 then (fun pc => bif Nat.beq pc 399 then some (.newarray .int, 401, 0, 0) else none) else (fun pc => (bif Nat.ble pc 401 then (fun pc => bif Nat.beq pc 401 then some (.putfield 142, 404, 22, 106) else none) else (fun pc => bif Nat.beq pc 404 then some (.aload_n 0, 405, 0, 0) else none)) pc)) pc)) pc)) pc)) pc)) pc)) pc) else (fun pc => (bif Nat.ble pc 479 then (fun pc => (bif Nat.ble pc 439 then (fun pc => (bif Nat.ble pc 421 then (fun pc => (bif Nat.ble pc 411 then (fun pc => (bif Nat.ble pc 406 then (fun pc => (bif Nat.ble pc 405 then (fun pc => bif Nat.beq pc 405 then some (.iconst 4, 406, 4, 0) else none) else (fun pc => bif Nat.beq pc 406 then some (.newarray .int, 408, 0, 0) else none)) pc) else (fun pc => (bif Nat.ble pc 408 then (fun pc => bif Nat.beq pc 408 then some (.putfield 145, 411, 23, 106) else none) else (fun pc => bif Nat.beq pc 411 then some (.aload_n 0, 412, 0, 0) else none)) pc)) pc) else (fun pc => (bif Nat.ble pc 415 then (fun pc => (bif Nat.ble pc 412 then (fun pc => bif Nat.beq pc 412 then some (.sipush 1100, 415, 1100, 0) else none) else (fun pc => bif Nat.beq pc 415 then some (.newarray .int, 417, 0, 0) else none)) pc) else (fun pc => (bif Nat.ble pc 417 then (fun pc => bif Nat.beq pc 417 then some (.putfield 148, 420, 24, 106) else none) else (fun pc => (bif Nat.ble pc 420 then (fun pc => bif Nat.beq pc 420 then some (.aload_n 0, 421, 0, 0) else none) else (fun pc => bif Nat.beq pc 421 then some (.sipush 1035, 424, 1035, 0) else none)) pc)) pc)) pc)) pc) else (fun pc => (bif Nat.ble pc 430 then (fun pc => (bif Nat.ble pc 426 then (fun pc => (bif Nat.ble pc 424 then (fun pc => bif Nat.beq pc 424 then some (.newarray .int, 426, 0, 0) else none) else (fun pc => bif Nat.beq pc 426 then some (.putfield 151, 429, 25, 106) else none)) pc) else (fun pc => (bif Nat.ble pc 429 then (fun pc => bif Nat.beq pc 429 then some (.aload_n 0, 430, 0, 0) else none) else (fun pc => bif Nat.beq pc 430 then some (.iconst 4, 431, 4, 0) else none)) pc)) pc) else (fun pc => (bif Nat.ble pc 433 then (fun pc => (bif Nat.ble pc 431 then (fun pc => bif Nat.beq pc 431 then some (.newarray .boolean, 433, 2, 0) else none) else (fun pc => bif Nat.beq pc 433 then some (.putfield 154, 436, 27, 106) else none)) pc) else (fun pc => (bif Nat.ble pc 436 then (fun pc => bif Nat.beq pc 436 then some (.aload_n 0, 437, 0, 0) else none) else (fun pc => (bif Nat.ble pc 437 then (fun pc => bif Nat.beq pc 437 then some (.bipush 64, 439, 64, 0) else none) else (fun pc => bif Nat.beq pc 439 then some (.newarray .boolean, 441, 2, 0) else none)) pc)) pc)) pc)) pc)) pc) else (fun pc => (bif Nat.ble pc 457 then (fun pc => (bif Nat.ble pc 447 then (fun pc => (bif Nat.ble pc 444 then (fun pc => (bif Nat.ble pc 441 then (fun pc => bif Nat.beq pc 441 then some (.putfield 158, 444, 28, 106) else none) else (fun pc => bif Nat.beq pc 444 then some (.aload_n 0, 445, 0, 0) else none)) pc) else (fun pc => (bif Nat.ble pc 445 then (fun pc => bif Nat.beq pc 445 then some (.bipush 64, 447, 64, 0) else none) else (fun pc => bif Nat.beq pc 447 then some (.newarray .boolean, 449, 2, 0) else none)) pc)) pc) else (fun pc => (bif Nat.ble pc 452 then (fun pc => (bif Nat.ble pc 449 then (fun pc => bif Nat.beq pc 449 then some (.putfield 161, 452, 29, 106) else none) else (fun pc => bif Nat.beq pc 452 then some (.aload_n 0, 453, 0, 0) else none)) pc) else (fun pc => (bif Nat.ble pc 453 then (fun pc => bif Nat.beq pc 453 then some (.bipush 9, 455, 9, 0) else none) else (fun pc => (bif Nat.ble pc 455 then (fun pc => bif Nat.beq pc 455 then some (.newarray .int, 457, 0, 0) else none) else (fun pc => bif Nat.beq pc 457 then some (.putfield 164, 460, 30, 106) else none)) pc)) pc)) pc)) pc) else (fun pc => (bif Nat.ble pc 469 then (fun pc => (bif Nat.ble pc 461 then (fun pc => (bif Nat.ble pc 460 then (fun pc => bif Nat.beq pc 460 then some (.aload_n 0, 461, 0, 0) else none) else (fun pc => bif Nat.beq pc 461 then some (.sipush 402, 464, 402, 0) else none)) pc) else (fun pc => (bif Nat.ble pc 464 then (fun pc => bif Nat.beq pc 464 then some (.newarray .int, 466, 0, 0) else none) else (fun pc => (bif Nat.ble pc 466 then (fun pc => bif Nat.beq pc 466 then some (.putfield 167, 469, 31, 106) else none) else (fun pc => bif Nat.beq pc 469 then some (.aload_n 0, 470, 0, 0) else none)) pc)) pc)) pc) else (fun pc => (bif Nat.ble pc 473 then (fun pc => (bif Nat.ble pc 470 then (fun pc => bif Nat.beq pc 470 then some (.sipush 984, 473, 984, 0) else none) else (fun pc => bif Nat.beq pc 473 then some (.newarray .int, 475, 0, 0) else none)) pc) else (fun pc => (bif Nat.ble pc 475 then (fun pc => bif Nat.beq pc 475 then some (.putfield 170, 478, 32, 106) else none) else (fun pc => (bif Nat.ble pc 478 then (fun pc => bif Nat.beq pc 478 then some (.aload_n 0, 479, 0, 0) else none) else (fun pc => bif Nat.beq pc 479 then some (.sipush 1024, 482, 1024, 0) else none)) pc)) pc)) pc)) pc)) pc)) pc) else (fun pc => (bif Nat.ble pc 519 then (fun pc => (bif Nat.ble pc 498 then (fun pc => (bif Nat.ble pc 488 then (fun pc => (bif Nat.ble pc 484 then (fun pc => (bif Nat.ble pc 482 then (fun pc => bif Nat.beq pc 482 then some (.newarray .int, 484, 0, 0) else none) else (fun pc => bif Nat.beq pc 484 then some (.putfield 173, 487, 33, 106) else none)) pc) else (fun pc => (bif Nat.ble pc 487 then (fun pc => bif Nat.beq pc 487 then some (.aload_n 0, 488, 0, 0) else none) else (fun pc => bif Nat.beq pc 488 then some (.bipush 42, 490, 42, 0) else none)) pc)) pc) else (fun pc => (bif Nat.ble pc 492 then (fun pc => (bif Nat.ble pc 490 then (fun pc => bif Nat.beq pc 490 then some (.newarray .int, 492, 0, 0) else none) else (fun pc => bif Nat.beq pc 492 then some (.putfield 176, 495, 34, 106) else none)) pc) else (fun pc => (bif Nat.ble pc 495 then (fun pc => bif Nat.beq pc 495 then some (.aload_n 0, 496, 0, 0) else none) else (fun pc => (bif Nat.ble pc 496 then (fun pc => bif Nat.beq pc 496 then some (.bipush 6, 498, 6, 0) else none) else (fun pc => bif Nat.beq pc 498 then some (.newarray .int, 500, 0, 0) else none)) pc)) pc)) pc)) pc) else (fun pc => (bif Nat.ble pc 508 then (fun pc => (bif Nat.ble pc 503 then (fun pc => (bif Nat.ble pc 500 then (fun pc => bif Nat.beq pc 500 then some (.putfield 179, 503, 35, 106) else none) else (fun pc => bif Nat.beq pc 503 then some (.aload_n 0, 504, 0, 0) else none)) pc) else (fun pc => (bif Nat.ble pc 504 then (fun pc => bif Nat.beq pc 504 then some (.bipush 6, 506, 6, 0) else none) else (fun pc => (bif Nat.ble pc 506 then (fun pc => bif Nat.beq pc 506 then some (.newarray .int, 508, 0, 0) else none) else (fun pc => bif Nat.beq pc 508 then some (.putfield 182, 511, 36, 106) else none)) pc)) pc)) pc) else (fun pc => (bif Nat.ble pc 512 then (fun pc => (bif Nat.ble pc 511 then (fun pc => bif Nat.beq pc 511 then some (.aload_n 0, 512, 0, 0) else none) else (fun pc => bif Nat.beq pc 512 then some (.bipush 6, 514, 6, 0) else none)) pc) else (fun pc => (bif Nat.ble pc 514 then (fun pc => bif Nat.beq pc 514 then some (.newarray .int, 516, 0, 0) else none) else (fun pc => (bif Nat.ble pc 516 then (fun pc => bif Nat.beq pc 516 then some (.putfield 185, 519, 37, 106) else none) else (fun pc => bif Nat.beq pc 519 then some (.aload_n 0, 520, 0, 0) else none)) pc)) pc)) pc)) pc)) pc) else (fun pc => (bif Nat.ble pc 536 then (fun pc => (bif Nat.ble pc 527 then (fun pc => (bif Nat.ble pc 522 then (fun pc => (bif Nat.ble pc 520 then (fun pc => bif Nat.beq pc 520 then some (.bipush 64, 522, 64, 0) else none) else (fun pc => bif Nat.beq pc 522 then some (.newarray .int, 524, 0, 0) else none)) pc) else (fun pc => (bif Nat.ble pc 524 then (fun pc => bif Nat.beq pc 524 then some (.putfield 188, 527, 39, 106) else none) else (fun pc => bif Nat.beq pc 527 then some (.aload_n 0, 528, 0, 0) else none)) pc)) pc) else (fun pc => (bif Nat.ble pc 529 then (fun pc => (bif Nat.ble pc 528 then (fun pc => bif Nat.beq pc 528 then some (.iconst 0, 529, 0, 0) else none) else (fun pc => bif Nat.beq pc 529 then some (.invokevirtual 191, 532, 26, 162) else none)) pc) else (fun pc => (bif Nat.ble pc 532 then (fun pc => bif Nat.beq pc 532 then some (.aload_n 0, 533, 0, 0) else none) else (fun pc => (bif Nat.ble pc 533 then (fun pc => bif Nat.beq pc 533 then some (.getfield 121, 536, 10, 10) else none) else (fun pc => bif Nat.beq pc 536 then some (.iconst 0, 537, 0, 0) else none)) pc)) pc)) pc)) pc) else (fun pc => (bif Nat.ble pc 543 then (fun pc => (bif Nat.ble pc 538 then (fun pc => (bif Nat.ble pc 537 then (fun pc => bif Nat.beq pc 537 then some (.iconst 2, 538, 2, 0) else none) else (fun pc => bif Nat.beq pc 538 then some (.iastore, 539, 0, 0) else none)) pc) else (fun pc => (bif Nat.ble pc 539 then (fun pc => bif Nat.beq pc 539 then some (.aload_n 0, 540, 0, 0) else none) else (fun pc => (bif Nat.ble pc 540 then (fun pc => bif Nat.beq pc 540 then some (.getfield 121, 543, 10, 10) else none) else (fun pc => bif Nat.beq pc 543 then some (.iconst 1, 544, 1, 0) else none)) pc)) pc)) pc) else (fun pc => (bif Nat.ble pc 545 then (fun pc => (bif Nat.ble pc 544 then (fun pc => bif Nat.beq pc 544 then some (.iconst 2, 545, 2, 0) else none) else (fun pc => bif Nat.beq pc 545 then some (.iastore, 546, 0, 0) else none)) pc) else (fun pc => (bif Nat.ble pc 546 then (fun pc => bif Nat.beq pc 546 then some (.aload_n 0, 547, 0, 0) else none) else (fun pc => (bif Nat.ble pc 547 then (fun pc => bif Nat.beq pc 547 then some (.invokevirtual 195, 550, 27, 161) else none) else (fun pc => bif Nat.beq pc 550 then some (.return_, 551, 0, 0) else none)) pc)) pc)) pc)) pc)) pc)) pc)) pc)) pc)) pc
/-- PackWeeksModel.standsAsAlways(I)V -/
def kc_26 : Nat → Option en_I := fun pc => (bif Nat.ble pc 41 then (fun pc => (bif Nat.ble pc 18 then (fun pc => (bif Nat.ble pc 9 then (fun pc => (bif Nat.ble pc 2 then (fun pc => (bif Nat.ble pc 0 then (fun pc => bif Nat.beq pc 0 then some (.iconst 0, 1, 0, 0) else none) else (fun pc => (bif Nat.ble pc 1 then (fun pc => bif Nat.beq pc 1 then some (.istore_n 2, 2, 0, 0) else none) else (fun pc => bif Nat.beq pc 2 then some (.iload_n 2, 3, 0, 0) else none)) pc)) pc) else (fun pc => (bif Nat.ble pc 3 then (fun pc => bif Nat.beq pc 3 then some (.sipush 160, 6, 160, 0) else none) else (fun pc => (bif Nat.ble pc 6 then (fun pc => bif Nat.beq pc 6 then some (.if_icmp .ge 18, 9, 24, 0) else none) else (fun pc => bif Nat.beq pc 9 then some (.aload_n 0, 10, 0, 0) else none)) pc)) pc)) pc) else (fun pc => (bif Nat.ble pc 14 then (fun pc => (bif Nat.ble pc 10 then (fun pc => bif Nat.beq pc 10 then some (.getfield 121, 13, 10, 10) else none) else (fun pc => (bif Nat.ble pc 13 then (fun pc => bif Nat.beq pc 13 then some (.iload_n 1, 14, 0, 0) else none) else (fun pc => bif Nat.beq pc 14 then some (.iload_n 2, 15, 0, 0) else none)) pc)) pc) else (fun pc => (bif Nat.ble pc 16 then (fun pc => (bif Nat.ble pc 15 then (fun pc => bif Nat.beq pc 15 then some (.iadd, 16, 0, 0) else none) else (fun pc => bif Nat.beq pc 16 then some (.iconst 0, 17, 0, 0) else none)) pc) else (fun pc => (bif Nat.ble pc 17 then (fun pc => bif Nat.beq pc 17 then some (.iastore, 18, 0, 0) else none) else (fun pc => bif Nat.beq pc 18 then some (.iinc 2 1, 21, 1, 0) else none)) pc)) pc)) pc)) pc) else (fun pc => (bif Nat.ble pc 31 then (fun pc => (bif Nat.ble pc 25 then (fun pc => (bif Nat.ble pc 21 then (fun pc => bif Nat.beq pc 21 then some (.goto (-19), 24, 2, 0) else none) else (fun pc => (bif Nat.ble pc 24 then (fun pc => bif Nat.beq pc 24 then some (.iconst 0, 25, 0, 0) else none) else (fun pc => bif Nat.beq pc 25 then some (.istore_n 2, 26, 0, 0) else none)) pc)) pc) else (fun pc => (bif Nat.ble pc 27 then (fun pc => (bif Nat.ble pc 26 then (fun pc => bif Nat.beq pc 26 then some (.iload_n 2, 27, 0, 0) else none) else (fun pc => bif Nat.beq pc 27 then some (.iconst 3, 28, 3, 0) else none)) pc) else (fun pc => (bif Nat.ble pc 28 then (fun pc => bif Nat.beq pc 28 then some (.if_icmp .ge 21, 31, 49, 0) else none) else (fun pc => bif Nat.beq pc 31 then some (.aload_n 0, 32, 0, 0) else none)) pc)) pc)) pc) else (fun pc => (bif Nat.ble pc 36 then (fun pc => (bif Nat.ble pc 32 then (fun pc => bif Nat.beq pc 32 then some (.getfield 121, 35, 10, 10) else none) else (fun pc => (bif Nat.ble pc 35 then (fun pc => bif Nat.beq pc 35 then some (.iload_n 1, 36, 0, 0) else none) else (fun pc => bif Nat.beq pc 36 then some (.bipush 9, 38, 9, 0) else none)) pc)) pc) else (fun pc => (bif Nat.ble pc 39 then (fun pc => (bif Nat.ble pc 38 then (fun pc => bif Nat.beq pc 38 then some (.iadd, 39, 0, 0) else none) else (fun pc => bif Nat.beq pc 39 then some (.iload_n 2, 40, 0, 0) else none)) pc) else (fun pc => (bif Nat.ble pc 40 then (fun pc => bif Nat.beq pc 40 then some (.iadd, 41, 0, 0) else none) else (fun pc => bif Nat.beq pc 41 then some (.iconst (-1), 42, 4294967295, 0) else none)) pc)) pc)) pc)) pc)) pc) else (fun pc => (bif Nat.ble pc 64 then (fun pc => (bif Nat.ble pc 51 then (fun pc => (bif Nat.ble pc 46 then (fun pc => (bif Nat.ble pc 42 then (fun pc => bif Nat.beq pc 42 then some (.iastore, 43, 0, 0) else none) else (fun pc => (bif Nat.ble pc 43 then (fun pc => bif Nat.beq pc 43 then some (.iinc 2 1, 46, 1, 0) else none) else (fun pc => bif Nat.beq pc 46 then some (.goto (-20), 49, 26, 0) else none)) pc)) pc) else (fun pc => (bif Nat.ble pc 49 then (fun pc => bif Nat.beq pc 49 then some (.iconst 0, 50, 0, 0) else none) else (fun pc => (bif Nat.ble pc 50 then (fun pc => bif Nat.beq pc 50 then some (.istore_n 2, 51, 0, 0) else none) else (fun pc => bif Nat.beq pc 51 then some (.iload_n 2, 52, 0, 0) else none)) pc)) pc)) pc) else (fun pc => (bif Nat.ble pc 57 then (fun pc => (bif Nat.ble pc 52 then (fun pc => bif Nat.beq pc 52 then some (.bipush 64, 54, 64, 0) else none) else (fun pc => (bif Nat.ble pc 54 then (fun pc => bif Nat.beq pc 54 then some (.if_icmp .ge 21, 57, 75, 0) else none) else (fun pc => bif Nat.beq pc 57 then some (.aload_n 0, 58, 0, 0) else none)) pc)) pc) else (fun pc => (bif Nat.ble pc 61 then (fun pc => (bif Nat.ble pc 58 then (fun pc => bif Nat.beq pc 58 then some (.getfield 121, 61, 10, 10) else none) else (fun pc => bif Nat.beq pc 61 then some (.iload_n 1, 62, 0, 0) else none)) pc) else (fun pc => (bif Nat.ble pc 62 then (fun pc => bif Nat.beq pc 62 then some (.bipush 12, 64, 12, 0) else none) else (fun pc => bif Nat.beq pc 64 then some (.iadd, 65, 0, 0) else none)) pc)) pc)) pc)) pc) else (fun pc => (bif Nat.ble pc 75 then (fun pc => (bif Nat.ble pc 67 then (fun pc => (bif Nat.ble pc 65 then (fun pc => bif Nat.beq pc 65 then some (.iload_n 2, 66, 0, 0) else none) else (fun pc => (bif Nat.ble pc 66 then (fun pc => bif Nat.beq pc 66 then some (.iadd, 67, 0, 0) else none) else (fun pc => bif Nat.beq pc 67 then some (.iconst 4, 68, 4, 0) else none)) pc)) pc) else (fun pc => (bif Nat.ble pc 69 then (fun pc => (bif Nat.ble pc 68 then (fun pc => bif Nat.beq pc 68 then some (.iastore, 69, 0, 0) else none) else (fun pc => bif Nat.beq pc 69 then some (.iinc 2 1, 72, 1, 0) else none)) pc) else (fun pc => (bif Nat.ble pc 72 then (fun pc => bif Nat.beq pc 72 then some (.goto (-21), 75, 51, 0) else none) else (fun pc => bif Nat.beq pc 75 then some (.aload_n 0, 76, 0, 0) else none)) pc)) pc)) pc) else (fun pc => (bif Nat.ble pc 80 then (fun pc => (bif Nat.ble pc 76 then (fun pc => bif Nat.beq pc 76 then some (.getfield 121, 79, 10, 10) else none) else (fun pc => (bif Nat.ble pc 79 then (fun pc => bif Nat.beq pc 79 then some (.iload_n 1, 80, 0, 0) else none) else (fun pc => bif Nat.beq pc 80 then some (.iconst 5, 81, 5, 0) else none)) pc)) pc) else (fun pc => (bif Nat.ble pc 82 then (fun pc => (bif Nat.ble pc 81 then (fun pc => bif Nat.beq pc 81 then some (.iadd, 82, 0, 0) else none) else (fun pc => bif Nat.beq pc 82 then some (.iconst 2, 83, 2, 0) else none)) pc) else (fun pc => (bif Nat.ble pc 83 then (fun pc => bif Nat.beq pc 83 then some (.iastore, 84, 0, 0) else none) else (fun pc => bif Nat.beq pc 84 then some (.return_, 85, 0, 0) else none)) pc)) pc)) pc)) pc)) pc)) pc
/-- PackWeeksModel.begins()V -/
def kc_27 : Nat → Option en_I := fun pc => (bif Nat.ble pc 20 then (fun pc => (bif Nat.ble pc 11 then (fun pc => (bif Nat.ble pc 2 then (fun pc => (bif Nat.ble pc 0 then (fun pc => bif Nat.beq pc 0 then some (.aload_n 0, 1, 0, 0) else none) else (fun pc => (bif Nat.ble pc 1 then (fun pc => bif Nat.beq pc 1 then some (.iconst 0, 2, 0, 0) else none) else (fun pc => bif Nat.beq pc 2 then some (.invokevirtual 361, 5, 28, 162) else none)) pc)) pc) else (fun pc => (bif Nat.ble pc 6 then (fun pc => (bif Nat.ble pc 5 then (fun pc => bif Nat.beq pc 5 then some (.aload_n 0, 6, 0, 0) else none) else (fun pc => bif Nat.beq pc 6 then some (.getfield 151, 9, 25, 10) else none)) pc) else (fun pc => (bif Nat.ble pc 9 then (fun pc => bif Nat.beq pc 9 then some (.bipush 17, 11, 17, 0) else none) else (fun pc => bif Nat.beq pc 11 then some (.iconst 0, 12, 0, 0) else none)) pc)) pc)) pc) else (fun pc => (bif Nat.ble pc 14 then (fun pc => (bif Nat.ble pc 12 then (fun pc => bif Nat.beq pc 12 then some (.iastore, 13, 0, 0) else none) else (fun pc => (bif Nat.ble pc 13 then (fun pc => bif Nat.beq pc 13 then some (.aload_n 0, 14, 0, 0) else none) else (fun pc => bif Nat.beq pc 14 then some (.getfield 142, 17, 22, 10) else none)) pc)) pc) else (fun pc => (bif Nat.ble pc 18 then (fun pc => (bif Nat.ble pc 17 then (fun pc => bif Nat.beq pc 17 then some (.iconst 0, 18, 0, 0) else none) else (fun pc => bif Nat.beq pc 18 then some (.iconst 0, 19, 0, 0) else none)) pc) else (fun pc => (bif Nat.ble pc 19 then (fun pc => bif Nat.beq pc 19 then some (.iastore, 20, 0, 0) else none) else (fun pc => bif Nat.beq pc 20 then some (.aload_n 0, 21, 0, 0) else none)) pc)) pc)) pc)) pc) else (fun pc => (bif Nat.ble pc 29 then (fun pc => (bif Nat.ble pc 25 then (fun pc => (bif Nat.ble pc 21 then (fun pc => bif Nat.beq pc 21 then some (.iconst 0, 22, 0, 0) else none) else (fun pc => (bif Nat.ble pc 22 then (fun pc => bif Nat.beq pc 22 then some (.putfield 364, 25, 26, 10) else none) else (fun pc => bif Nat.beq pc 25 then some (.iconst 0, 26, 0, 0) else none)) pc)) pc) else (fun pc => (bif Nat.ble pc 27 then (fun pc => (bif Nat.ble pc 26 then (fun pc => bif Nat.beq pc 26 then some (.istore_n 1, 27, 0, 0) else none) else (fun pc => bif Nat.beq pc 27 then some (.iload_n 1, 28, 0, 0) else none)) pc) else (fun pc => (bif Nat.ble pc 28 then (fun pc => bif Nat.beq pc 28 then some (.iconst 4, 29, 4, 0) else none) else (fun pc => bif Nat.beq pc 29 then some (.if_icmp .ge 16, 32, 45, 0) else none)) pc)) pc)) pc) else (fun pc => (bif Nat.ble pc 37 then (fun pc => (bif Nat.ble pc 33 then (fun pc => (bif Nat.ble pc 32 then (fun pc => bif Nat.beq pc 32 then some (.aload_n 0, 33, 0, 0) else none) else (fun pc => bif Nat.beq pc 33 then some (.getfield 154, 36, 27, 10) else none)) pc) else (fun pc => (bif Nat.ble pc 36 then (fun pc => bif Nat.beq pc 36 then some (.iload_n 1, 37, 0, 0) else none) else (fun pc => bif Nat.beq pc 37 then some (.iconst 0, 38, 0, 0) else none)) pc)) pc) else (fun pc => (bif Nat.ble pc 39 then (fun pc => (bif Nat.ble pc 38 then (fun pc => bif Nat.beq pc 38 then some (.bastore, 39, 0, 0) else none) else (fun pc => bif Nat.beq pc 39 then some (.iinc 1 1, 42, 1, 0) else none)) pc) else (fun pc => (bif Nat.ble pc 42 then (fun pc => bif Nat.beq pc 42 then some (.goto (-15), 45, 27, 0) else none) else (fun pc => bif Nat.beq pc 45 then some (.return_, 46, 0, 0) else none)) pc)) pc)) pc)) pc)) pc
/-- PackWeeksModel.starts(I)V -/
def kc_28 : Nat → Option en_I := fun pc => (bif Nat.ble pc 67 then (fun pc => (bif Nat.ble pc 34 then (fun pc => (bif Nat.ble pc 14 then (fun pc => (bif Nat.ble pc 7 then (fun pc => (bif Nat.ble pc 4 then (fun pc => (bif Nat.ble pc 0 then (fun pc => bif Nat.beq pc 0 then some (.aload_n 0, 1, 0, 0) else none) else (fun pc => (bif Nat.ble pc 1 then (fun pc => bif Nat.beq pc 1 then some (.getfield 151, 4, 25, 10) else none) else (fun pc => bif Nat.beq pc 4 then some (.iload_n 1, 5, 0, 0) else none)) pc)) pc) else (fun pc => (bif Nat.ble pc 5 then (fun pc => bif Nat.beq pc 5 then some (.iconst 0, 6, 0, 0) else none) else (fun pc => (bif Nat.ble pc 6 then (fun pc => bif Nat.beq pc 6 then some (.iadd, 7, 0, 0) else none) else (fun pc => bif Nat.beq pc 7 then some (.iconst 0, 8, 0, 0) else none)) pc)) pc)) pc) else (fun pc => (bif Nat.ble pc 10 then (fun pc => (bif Nat.ble pc 8 then (fun pc => bif Nat.beq pc 8 then some (.iastore, 9, 0, 0) else none) else (fun pc => (bif Nat.ble pc 9 then (fun pc => bif Nat.beq pc 9 then some (.iconst 0, 10, 0, 0) else none) else (fun pc => bif Nat.beq pc 10 then some (.istore_n 2, 11, 0, 0) else none)) pc)) pc) else (fun pc => (bif Nat.ble pc 11 then (fun pc => bif Nat.beq pc 11 then some (.iload_n 2, 12, 0, 0) else none) else (fun pc => (bif Nat.ble pc 12 then (fun pc => bif Nat.beq pc 12 then some (.bipush 6, 14, 6, 0) else none) else (fun pc => bif Nat.beq pc 14 then some (.if_icmp .ge 49, 17, 63, 0) else none)) pc)) pc)) pc)) pc) else (fun pc => (bif Nat.ble pc 24 then (fun pc => (bif Nat.ble pc 21 then (fun pc => (bif Nat.ble pc 17 then (fun pc => bif Nat.beq pc 17 then some (.aload_n 0, 18, 0, 0) else none) else (fun pc => (bif Nat.ble pc 18 then (fun pc => bif Nat.beq pc 18 then some (.getfield 151, 21, 25, 10) else none) else (fun pc => bif Nat.beq pc 21 then some (.iload_n 1, 22, 0, 0) else none)) pc)) pc) else (fun pc => (bif Nat.ble pc 22 then (fun pc => bif Nat.beq pc 22 then some (.iconst 1, 23, 1, 0) else none) else (fun pc => (bif Nat.ble pc 23 then (fun pc => bif Nat.beq pc 23 then some (.iadd, 24, 0, 0) else none) else (fun pc => bif Nat.beq pc 24 then some (.iload_n 2, 25, 0, 0) else none)) pc)) pc)) pc) else (fun pc => (bif Nat.ble pc 27 then (fun pc => (bif Nat.ble pc 25 then (fun pc => bif Nat.beq pc 25 then some (.iadd, 26, 0, 0) else none) else (fun pc => (bif Nat.ble pc 26 then (fun pc => bif Nat.beq pc 26 then some (.aload_n 0, 27, 0, 0) else none) else (fun pc => bif Nat.beq pc 27 then some (.getfield 121, 30, 10, 10) else none)) pc)) pc) else (fun pc => (bif Nat.ble pc 32 then (fun pc => (bif Nat.ble pc 30 then (fun pc => bif Nat.beq pc 30 then some (.bipush 76, 32, 76, 0) else none) else (fun pc => bif Nat.beq pc 32 then some (.iconst 3, 33, 3, 0) else none)) pc) else (fun pc => (bif Nat.ble pc 33 then (fun pc => bif Nat.beq pc 33 then some (.iload_n 2, 34, 0, 0) else none) else (fun pc => bif Nat.beq pc 34 then some (.imul, 35, 0, 0) else none)) pc)) pc)) pc)) pc)) pc) else (fun pc => (bif Nat.ble pc 50 then (fun pc => (bif Nat.ble pc 41 then (fun pc => (bif Nat.ble pc 37 then (fun pc => (bif Nat.ble pc 35 then (fun pc => bif Nat.beq pc 35 then some (.iadd, 36, 0, 0) else none) else (fun pc => (bif Nat.ble pc 36 then (fun pc => bif Nat.beq pc 36 then some (.iconst 1, 37, 1, 0) else none) else (fun pc => bif Nat.beq pc 37 then some (.iadd, 38, 0, 0) else none)) pc)) pc) else (fun pc => (bif Nat.ble pc 38 then (fun pc => bif Nat.beq pc 38 then some (.iaload, 39, 0, 0) else none) else (fun pc => (bif Nat.ble pc 39 then (fun pc => bif Nat.beq pc 39 then some (.bipush 8, 41, 8, 0) else none) else (fun pc => bif Nat.beq pc 41 then some (.aload_n 0, 42, 0, 0) else none)) pc)) pc)) pc) else (fun pc => (bif Nat.ble pc 47 then (fun pc => (bif Nat.ble pc 42 then (fun pc => bif Nat.beq pc 42 then some (.getfield 121, 45, 10, 10) else none) else (fun pc => (bif Nat.ble pc 45 then (fun pc => bif Nat.beq pc 45 then some (.bipush 76, 47, 76, 0) else none) else (fun pc => bif Nat.beq pc 47 then some (.iconst 3, 48, 3, 0) else none)) pc)) pc) else (fun pc => (bif Nat.ble pc 48 then (fun pc => bif Nat.beq pc 48 then some (.iload_n 2, 49, 0, 0) else none) else (fun pc => (bif Nat.ble pc 49 then (fun pc => bif Nat.beq pc 49 then some (.imul, 50, 0, 0) else none) else (fun pc => bif Nat.beq pc 50 then some (.iadd, 51, 0, 0) else none)) pc)) pc)) pc)) pc) else (fun pc => (bif Nat.ble pc 56 then (fun pc => (bif Nat.ble pc 53 then (fun pc => (bif Nat.ble pc 51 then (fun pc => bif Nat.beq pc 51 then some (.iconst 2, 52, 2, 0) else none) else (fun pc => (bif Nat.ble pc 52 then (fun pc => bif Nat.beq pc 52 then some (.iadd, 53, 0, 0) else none) else (fun pc => bif Nat.beq pc 53 then some (.iaload, 54, 0, 0) else none)) pc)) pc) else (fun pc => (bif Nat.ble pc 54 then (fun pc => bif Nat.beq pc 54 then some (.imul, 55, 0, 0) else none) else (fun pc => (bif Nat.ble pc 55 then (fun pc => bif Nat.beq pc 55 then some (.iadd, 56, 0, 0) else none) else (fun pc => bif Nat.beq pc 56 then some (.iastore, 57, 0, 0) else none)) pc)) pc)) pc) else (fun pc => (bif Nat.ble pc 63 then (fun pc => (bif Nat.ble pc 57 then (fun pc => bif Nat.beq pc 57 then some (.iinc 2 1, 60, 1, 0) else none) else (fun pc => (bif Nat.ble pc 60 then (fun pc => bif Nat.beq pc 60 then some (.goto (-49), 63, 11, 0) else none) else (fun pc => bif Nat.beq pc 63 then some (.iconst 0, 64, 0, 0) else none)) pc)) pc) else (fun pc => (bif Nat.ble pc 65 then (fun pc => (bif Nat.ble pc 64 then (fun pc => bif Nat.beq pc 64 then some (.istore_n 2, 65, 0, 0) else none) else (fun pc => bif Nat.beq pc 65 then some (.iload_n 2, 66, 0, 0) else none)) pc) else (fun pc => (bif Nat.ble pc 66 then (fun pc => bif Nat.beq pc 66 then some (.iconst 2, 67, 2, 0) else none) else (fun pc => bif Nat.beq pc 67 then some (.if_icmp .ge 74, 70, 141, 0) else none)) pc)) pc)) pc)) pc)) pc)) pc) else (fun pc => (bif Nat.ble pc 104 then (fun pc => (bif Nat.ble pc 86 then (fun pc => (bif Nat.ble pc 78 then (fun pc => (bif Nat.ble pc 74 then (fun pc => (bif Nat.ble pc 70 then (fun pc => bif Nat.beq pc 70 then some (.aload_n 0, 71, 0, 0) else none) else (fun pc => (bif Nat.ble pc 71 then (fun pc => bif Nat.beq pc 71 then some (.getfield 151, 74, 25, 10) else none) else (fun pc => bif Nat.beq pc 74 then some (.iload_n 1, 75, 0, 0) else none)) pc)) pc) else (fun pc => (bif Nat.ble pc 75 then (fun pc => bif Nat.beq pc 75 then some (.bipush 7, 77, 7, 0) else none) else (fun pc => (bif Nat.ble pc 77 then (fun pc => bif Nat.beq pc 77 then some (.iadd, 78, 0, 0) else none) else (fun pc => bif Nat.beq pc 78 then some (.iload_n 2, 79, 0, 0) else none)) pc)) pc)) pc) else (fun pc => (bif Nat.ble pc 81 then (fun pc => (bif Nat.ble pc 79 then (fun pc => bif Nat.beq pc 79 then some (.iadd, 80, 0, 0) else none) else (fun pc => (bif Nat.ble pc 80 then (fun pc => bif Nat.beq pc 80 then some (.aload_n 0, 81, 0, 0) else none) else (fun pc => bif Nat.beq pc 81 then some (.iload_n 2, 82, 0, 0) else none)) pc)) pc) else (fun pc => (bif Nat.ble pc 82 then (fun pc => bif Nat.beq pc 82 then some (.iconst 2, 83, 2, 0) else none) else (fun pc => (bif Nat.ble pc 83 then (fun pc => bif Nat.beq pc 83 then some (.invokevirtual 358, 86, 29, 163) else none) else (fun pc => bif Nat.beq pc 86 then some (.iastore, 87, 0, 0) else none)) pc)) pc)) pc)) pc) else (fun pc => (bif Nat.ble pc 95 then (fun pc => (bif Nat.ble pc 91 then (fun pc => (bif Nat.ble pc 87 then (fun pc => bif Nat.beq pc 87 then some (.aload_n 0, 88, 0, 0) else none) else (fun pc => (bif Nat.ble pc 88 then (fun pc => bif Nat.beq pc 88 then some (.getfield 151, 91, 25, 10) else none) else (fun pc => bif Nat.beq pc 91 then some (.iload_n 1, 92, 0, 0) else none)) pc)) pc) else (fun pc => (bif Nat.ble pc 92 then (fun pc => bif Nat.beq pc 92 then some (.bipush 9, 94, 9, 0) else none) else (fun pc => (bif Nat.ble pc 94 then (fun pc => bif Nat.beq pc 94 then some (.iadd, 95, 0, 0) else none) else (fun pc => bif Nat.beq pc 95 then some (.iload_n 2, 96, 0, 0) else none)) pc)) pc)) pc) else (fun pc => (bif Nat.ble pc 98 then (fun pc => (bif Nat.ble pc 96 then (fun pc => bif Nat.beq pc 96 then some (.iadd, 97, 0, 0) else none) else (fun pc => (bif Nat.ble pc 97 then (fun pc => bif Nat.beq pc 97 then some (.iconst 0, 98, 0, 0) else none) else (fun pc => bif Nat.beq pc 98 then some (.iastore, 99, 0, 0) else none)) pc)) pc) else (fun pc => (bif Nat.ble pc 100 then (fun pc => (bif Nat.ble pc 99 then (fun pc => bif Nat.beq pc 99 then some (.aload_n 0, 100, 0, 0) else none) else (fun pc => bif Nat.beq pc 100 then some (.getfield 151, 103, 25, 10) else none)) pc) else (fun pc => (bif Nat.ble pc 103 then (fun pc => bif Nat.beq pc 103 then some (.iload_n 1, 104, 0, 0) else none) else (fun pc => bif Nat.beq pc 104 then some (.bipush 11, 106, 11, 0) else none)) pc)) pc)) pc)) pc)) pc) else (fun pc => (bif Nat.ble pc 121 then (fun pc => (bif Nat.ble pc 111 then (fun pc => (bif Nat.ble pc 108 then (fun pc => (bif Nat.ble pc 106 then (fun pc => bif Nat.beq pc 106 then some (.iadd, 107, 0, 0) else none) else (fun pc => (bif Nat.ble pc 107 then (fun pc => bif Nat.beq pc 107 then some (.iload_n 2, 108, 0, 0) else none) else (fun pc => bif Nat.beq pc 108 then some (.iadd, 109, 0, 0) else none)) pc)) pc) else (fun pc => (bif Nat.ble pc 109 then (fun pc => bif Nat.beq pc 109 then some (.iconst 0, 110, 0, 0) else none) else (fun pc => (bif Nat.ble pc 110 then (fun pc => bif Nat.beq pc 110 then some (.iastore, 111, 0, 0) else none) else (fun pc => bif Nat.beq pc 111 then some (.aload_n 0, 112, 0, 0) else none)) pc)) pc)) pc) else (fun pc => (bif Nat.ble pc 116 then (fun pc => (bif Nat.ble pc 112 then (fun pc => bif Nat.beq pc 112 then some (.getfield 151, 115, 25, 10) else none) else (fun pc => (bif Nat.ble pc 115 then (fun pc => bif Nat.beq pc 115 then some (.iload_n 1, 116, 0, 0) else none) else (fun pc => bif Nat.beq pc 116 then some (.bipush 13, 118, 13, 0) else none)) pc)) pc) else (fun pc => (bif Nat.ble pc 119 then (fun pc => (bif Nat.ble pc 118 then (fun pc => bif Nat.beq pc 118 then some (.iadd, 119, 0, 0) else none) else (fun pc => bif Nat.beq pc 119 then some (.iload_n 2, 120, 0, 0) else none)) pc) else (fun pc => (bif Nat.ble pc 120 then (fun pc => bif Nat.beq pc 120 then some (.iadd, 121, 0, 0) else none) else (fun pc => bif Nat.beq pc 121 then some (.iconst 0, 122, 0, 0) else none)) pc)) pc)) pc)) pc) else (fun pc => (bif Nat.ble pc 130 then (fun pc => (bif Nat.ble pc 124 then (fun pc => (bif Nat.ble pc 122 then (fun pc => bif Nat.beq pc 122 then some (.iastore, 123, 0, 0) else none) else (fun pc => (bif Nat.ble pc 123 then (fun pc => bif Nat.beq pc 123 then some (.aload_n 0, 124, 0, 0) else none) else (fun pc => bif Nat.beq pc 124 then some (.getfield 151, 127, 25, 10) else none)) pc)) pc) else (fun pc => (bif Nat.ble pc 127 then (fun pc => bif Nat.beq pc 127 then some (.iload_n 1, 128, 0, 0) else none) else (fun pc => (bif Nat.ble pc 128 then (fun pc => bif Nat.beq pc 128 then some (.bipush 15, 130, 15, 0) else none) else (fun pc => bif Nat.beq pc 130 then some (.iadd, 131, 0, 0) else none)) pc)) pc)) pc) else (fun pc => (bif Nat.ble pc 133 then (fun pc => (bif Nat.ble pc 131 then (fun pc => bif Nat.beq pc 131 then some (.iload_n 2, 132, 0, 0) else none) else (fun pc => (bif Nat.ble pc 132 then (fun pc => bif Nat.beq pc 132 then some (.iadd, 133, 0, 0) else none) else (fun pc => bif Nat.beq pc 133 then some (.iconst 0, 134, 0, 0) else none)) pc)) pc) else (fun pc => (bif Nat.ble pc 135 then (fun pc => (bif Nat.ble pc 134 then (fun pc => bif Nat.beq pc 134 then some (.iastore, 135, 0, 0) else none) else (fun pc => bif Nat.beq pc 135 then some (.iinc 2 1, 138, 1, 0) else none)) pc) else (fun pc => (bif Nat.ble pc 138 then (fun pc => bif Nat.beq pc 138 then some (.goto (-73), 141, 65, 0) else none) else (fun pc => bif Nat.beq pc 141 then some (.return_, 142, 0, 0) else none)) pc)) pc)) pc)) pc)) pc)) pc)) pc
/-- PackWeeksModel.crewOf(II)I -/
def kc_29 : Nat → Option en_I := fun pc => (bif Nat.ble pc 7 then (fun pc => (bif Nat.ble pc 1 then (fun pc => (bif Nat.ble pc 0 then (fun pc => bif Nat.beq pc 0 then some (.aload_n 0, 1, 0, 0) else none) else (fun pc => bif Nat.beq pc 1 then some (.getfield 121, 4, 10, 10) else none)) pc) else (fun pc => (bif Nat.ble pc 4 then (fun pc => bif Nat.beq pc 4 then some (.bipush 118, 6, 118, 0) else none) else (fun pc => (bif Nat.ble pc 6 then (fun pc => bif Nat.beq pc 6 then some (.iconst 3, 7, 3, 0) else none) else (fun pc => bif Nat.beq pc 7 then some (.iload_n 1, 8, 0, 0) else none)) pc)) pc)) pc) else (fun pc => (bif Nat.ble pc 10 then (fun pc => (bif Nat.ble pc 8 then (fun pc => bif Nat.beq pc 8 then some (.imul, 9, 0, 0) else none) else (fun pc => (bif Nat.ble pc 9 then (fun pc => bif Nat.beq pc 9 then some (.iadd, 10, 0, 0) else none) else (fun pc => bif Nat.beq pc 10 then some (.iload_n 2, 11, 0, 0) else none)) pc)) pc) else (fun pc => (bif Nat.ble pc 11 then (fun pc => bif Nat.beq pc 11 then some (.iadd, 12, 0, 0) else none) else (fun pc => (bif Nat.ble pc 12 then (fun pc => bif Nat.beq pc 12 then some (.iaload, 13, 0, 0) else none) else (fun pc => bif Nat.beq pc 13 then some (.ireturn, 14, 0, 0) else none)) pc)) pc)) pc)) pc
/-- PackWeeks.pack()I -/
def kc_30 : Nat → Option en_I := fun pc => (bif Nat.ble pc 8 then (fun pc => (bif Nat.ble pc 1 then (fun pc => (bif Nat.ble pc 0 then (fun pc => bif Nat.beq pc 0 then some (.aload_n 0, 1, 0, 0) else none) else (fun pc => bif Nat.beq pc 1 then some (.getfield 21, 4, 1, 9) else none)) pc) else (fun pc => (bif Nat.ble pc 4 then (fun pc => bif Nat.beq pc 4 then some (.aload_n 0, 5, 0, 0) else none) else (fun pc => (bif Nat.ble pc 5 then (fun pc => bif Nat.beq pc 5 then some (.getfield 75, 8, 11, 9) else none) else (fun pc => bif Nat.beq pc 8 then some (.invokevirtual 101, 11, 31, 50) else none)) pc)) pc)) pc) else (fun pc => (bif Nat.ble pc 12 then (fun pc => (bif Nat.ble pc 11 then (fun pc => bif Nat.beq pc 11 then some (.istore_n 1, 12, 0, 0) else none) else (fun pc => bif Nat.beq pc 12 then some (.iload_n 1, 13, 0, 0) else none)) pc) else (fun pc => (bif Nat.ble pc 13 then (fun pc => bif Nat.beq pc 13 then some (.ifCond .eq 5, 16, 18, 0) else none) else (fun pc => (bif Nat.ble pc 16 then (fun pc => bif Nat.beq pc 16 then some (.iload_n 1, 17, 0, 0) else none) else (fun pc => bif Nat.beq pc 17 then some (.ireturn, 18, 0, 0) else none)) pc)) pc)) pc)) pc
/-- PackWeeks$Reader.readPack(LPackWeeks$Pack;)I -/
def kc_31 : Nat → Option en_I := fun pc => (bif Nat.ble pc 58 then (fun pc => (bif Nat.ble pc 24 then (fun pc => (bif Nat.ble pc 12 then (fun pc => (bif Nat.ble pc 2 then (fun pc => (bif Nat.ble pc 0 then (fun pc => bif Nat.beq pc 0 then some (.aload_n 0, 1, 0, 0) else none) else (fun pc => (bif Nat.ble pc 1 then (fun pc => bif Nat.beq pc 1 then some (.aload_n 1, 2, 0, 0) else none) else (fun pc => bif Nat.beq pc 2 then some (.putfield 15, 5, 1, 35) else none)) pc)) pc) else (fun pc => (bif Nat.ble pc 6 then (fun pc => (bif Nat.ble pc 5 then (fun pc => bif Nat.beq pc 5 then some (.aload_n 0, 6, 0, 0) else none) else (fun pc => bif Nat.beq pc 6 then some (.getfield 15, 9, 1, 3) else none)) pc) else (fun pc => (bif Nat.ble pc 9 then (fun pc => bif Nat.beq pc 9 then some (.invokevirtual 19, 12, 10, 17) else none) else (fun pc => bif Nat.beq pc 12 then some (.aload_n 0, 13, 0, 0) else none)) pc)) pc)) pc) else (fun pc => (bif Nat.ble pc 18 then (fun pc => (bif Nat.ble pc 14 then (fun pc => (bif Nat.ble pc 13 then (fun pc => bif Nat.beq pc 13 then some (.iconst 0, 14, 0, 0) else none) else (fun pc => bif Nat.beq pc 14 then some (.putfield 24, 17, 4, 51) else none)) pc) else (fun pc => (bif Nat.ble pc 17 then (fun pc => bif Nat.beq pc 17 then some (.aload_n 0, 18, 0, 0) else none) else (fun pc => bif Nat.beq pc 18 then some (.iconst 0, 19, 0, 0) else none)) pc)) pc) else (fun pc => (bif Nat.ble pc 22 then (fun pc => (bif Nat.ble pc 19 then (fun pc => bif Nat.beq pc 19 then some (.putfield 28, 22, 5, 51) else none) else (fun pc => bif Nat.beq pc 22 then some (.aload_n 0, 23, 0, 0) else none)) pc) else (fun pc => (bif Nat.ble pc 23 then (fun pc => bif Nat.beq pc 23 then some (.iconst 0, 24, 0, 0) else none) else (fun pc => bif Nat.beq pc 24 then some (.putfield 31, 27, 6, 51) else none)) pc)) pc)) pc)) pc) else (fun pc => (bif Nat.ble pc 40 then (fun pc => (bif Nat.ble pc 32 then (fun pc => (bif Nat.ble pc 28 then (fun pc => (bif Nat.ble pc 27 then (fun pc => bif Nat.beq pc 27 then some (.aload_n 0, 28, 0, 0) else none) else (fun pc => bif Nat.beq pc 28 then some (.iconst 0, 29, 0, 0) else none)) pc) else (fun pc => (bif Nat.ble pc 29 then (fun pc => bif Nat.beq pc 29 then some (.putfield 34, 32, 7, 51) else none) else (fun pc => bif Nat.beq pc 32 then some (.aload_n 0, 33, 0, 0) else none)) pc)) pc) else (fun pc => (bif Nat.ble pc 36 then (fun pc => (bif Nat.ble pc 33 then (fun pc => bif Nat.beq pc 33 then some (.getfield 9, 36, 0, 3) else none) else (fun pc => bif Nat.beq pc 36 then some (.invokevirtual 37, 39, 32, 129) else none)) pc) else (fun pc => (bif Nat.ble pc 39 then (fun pc => bif Nat.beq pc 39 then some (.aload_n 0, 40, 0, 0) else none) else (fun pc => bif Nat.beq pc 40 then some (.getfield 9, 43, 0, 3) else none)) pc)) pc)) pc) else (fun pc => (bif Nat.ble pc 50 then (fun pc => (bif Nat.ble pc 46 then (fun pc => (bif Nat.ble pc 43 then (fun pc => bif Nat.beq pc 43 then some (.getstatic 42, 46, 0, 0) else none) else (fun pc => bif Nat.beq pc 46 then some (.invokevirtual 48, 49, 34, 130) else none)) pc) else (fun pc => (bif Nat.ble pc 49 then (fun pc => bif Nat.beq pc 49 then some (.aload_n 0, 50, 0, 0) else none) else (fun pc => bif Nat.beq pc 50 then some (.getfield 15, 53, 1, 3) else none)) pc)) pc) else (fun pc => (bif Nat.ble pc 54 then (fun pc => (bif Nat.ble pc 53 then (fun pc => bif Nat.beq pc 53 then some (.aload_n 0, 54, 0, 0) else none) else (fun pc => bif Nat.beq pc 54 then some (.getfield 9, 57, 0, 3) else none)) pc) else (fun pc => (bif Nat.ble pc 57 then (fun pc => bif Nat.beq pc 57 then some (.iconst 2, 58, 2, 0) else none) else (fun pc => bif Nat.beq pc 58 then some (.bipush 8, 60, 8, 0) else none)) pc)) pc)) pc)) pc)) pc) else (fun pc => (bif Nat.ble pc 92 then (fun pc => (bif Nat.ble pc 74 then (fun pc => (bif Nat.ble pc 66 then (fun pc => (bif Nat.ble pc 60 then (fun pc => bif Nat.beq pc 60 then some (.invokevirtual 52, 63, 38, 131) else none) else (fun pc => (bif Nat.ble pc 63 then (fun pc => bif Nat.beq pc 63 then some (.putfield 56, 66, 0, 1) else none) else (fun pc => bif Nat.beq pc 66 then some (.aload_n 0, 67, 0, 0) else none)) pc)) pc) else (fun pc => (bif Nat.ble pc 70 then (fun pc => (bif Nat.ble pc 67 then (fun pc => bif Nat.beq pc 67 then some (.getfield 15, 70, 1, 3) else none) else (fun pc => bif Nat.beq pc 70 then some (.aload_n 0, 71, 0, 0) else none)) pc) else (fun pc => (bif Nat.ble pc 71 then (fun pc => bif Nat.beq pc 71 then some (.getfield 9, 74, 0, 3) else none) else (fun pc => bif Nat.beq pc 74 then some (.iconst 2, 75, 2, 0) else none)) pc)) pc)) pc) else (fun pc => (bif Nat.ble pc 83 then (fun pc => (bif Nat.ble pc 77 then (fun pc => (bif Nat.ble pc 75 then (fun pc => bif Nat.beq pc 75 then some (.bipush 8, 77, 8, 0) else none) else (fun pc => bif Nat.beq pc 77 then some (.invokevirtual 52, 80, 38, 131) else none)) pc) else (fun pc => (bif Nat.ble pc 80 then (fun pc => bif Nat.beq pc 80 then some (.putfield 60, 83, 1, 1) else none) else (fun pc => bif Nat.beq pc 83 then some (.aload_n 0, 84, 0, 0) else none)) pc)) pc) else (fun pc => (bif Nat.ble pc 87 then (fun pc => (bif Nat.ble pc 84 then (fun pc => bif Nat.beq pc 84 then some (.getfield 9, 87, 0, 3) else none) else (fun pc => bif Nat.beq pc 87 then some (.bipush 59, 89, 59, 0) else none)) pc) else (fun pc => (bif Nat.ble pc 89 then (fun pc => bif Nat.beq pc 89 then some (.invokevirtual 63, 92, 40, 130) else none) else (fun pc => bif Nat.beq pc 92 then some (.iconst 0, 93, 0, 0) else none)) pc)) pc)) pc)) pc) else (fun pc => (bif Nat.ble pc 108 then (fun pc => (bif Nat.ble pc 98 then (fun pc => (bif Nat.ble pc 94 then (fun pc => (bif Nat.ble pc 93 then (fun pc => bif Nat.beq pc 93 then some (.istore_n 2, 94, 0, 0) else none) else (fun pc => bif Nat.beq pc 94 then some (.iload_n 2, 95, 0, 0) else none)) pc) else (fun pc => (bif Nat.ble pc 95 then (fun pc => bif Nat.beq pc 95 then some (.sipush 1000, 98, 1000, 0) else none) else (fun pc => bif Nat.beq pc 98 then some (.if_icmp .ge 30, 101, 128, 0) else none)) pc)) pc) else (fun pc => (bif Nat.ble pc 102 then (fun pc => (bif Nat.ble pc 101 then (fun pc => bif Nat.beq pc 101 then some (.aload_n 0, 102, 0, 0) else none) else (fun pc => bif Nat.beq pc 102 then some (.getfield 9, 105, 0, 3) else none)) pc) else (fun pc => (bif Nat.ble pc 105 then (fun pc => bif Nat.beq pc 105 then some (.invokevirtual 67, 108, 42, 129) else none) else (fun pc => bif Nat.beq pc 108 then some (.ifCond .eq 20, 111, 128, 0) else none)) pc)) pc)) pc) else (fun pc => (bif Nat.ble pc 135 then (fun pc => (bif Nat.ble pc 129 then (fun pc => (bif Nat.ble pc 128 then (fun pc => bif Nat.beq pc 128 then some (.aload_n 0, 129, 0, 0) else none) else (fun pc => bif Nat.beq pc 129 then some (.getfield 9, 132, 0, 3) else none)) pc) else (fun pc => (bif Nat.ble pc 132 then (fun pc => bif Nat.beq pc 132 then some (.getfield 78, 135, 1, 8) else none) else (fun pc => bif Nat.beq pc 135 then some (.ifCond .ne 10, 138, 145, 0) else none)) pc)) pc) else (fun pc => (bif Nat.ble pc 146 then (fun pc => (bif Nat.ble pc 145 then (fun pc => bif Nat.beq pc 145 then some (.aload_n 0, 146, 0, 0) else none) else (fun pc => bif Nat.beq pc 146 then some (.getfield 9, 149, 0, 3) else none)) pc) else (fun pc => (bif Nat.ble pc 149 then (fun pc => bif Nat.beq pc 149 then some (.getfield 78, 152, 1, 8) else none) else (fun pc => bif Nat.beq pc 152 then some (.ireturn, 153, 0, 0) else none)) pc)) pc)) pc)) pc)) pc)) pc
/-- PackWeeks$Tape.cut()V -/
def kc_32 : Nat → Option en_I := fun pc => (bif Nat.ble pc 20 then (fun pc => (bif Nat.ble pc 10 then (fun pc => (bif Nat.ble pc 2 then (fun pc => (bif Nat.ble pc 0 then (fun pc => bif Nat.beq pc 0 then some (.aload_n 0, 1, 0, 0) else none) else (fun pc => (bif Nat.ble pc 1 then (fun pc => bif Nat.beq pc 1 then some (.iconst 0, 2, 0, 0) else none) else (fun pc => bif Nat.beq pc 2 then some (.putfield 38, 5, 7, 8) else none)) pc)) pc) else (fun pc => (bif Nat.ble pc 6 then (fun pc => (bif Nat.ble pc 5 then (fun pc => bif Nat.beq pc 5 then some (.aload_n 0, 6, 0, 0) else none) else (fun pc => bif Nat.beq pc 6 then some (.iconst 0, 7, 0, 0) else none)) pc) else (fun pc => (bif Nat.ble pc 7 then (fun pc => bif Nat.beq pc 7 then some (.putfield 41, 10, 8, 8) else none) else (fun pc => bif Nat.beq pc 10 then some (.aload_n 0, 11, 0, 0) else none)) pc)) pc)) pc) else (fun pc => (bif Nat.ble pc 16 then (fun pc => (bif Nat.ble pc 12 then (fun pc => (bif Nat.ble pc 11 then (fun pc => bif Nat.beq pc 11 then some (.iconst 0, 12, 0, 0) else none) else (fun pc => bif Nat.beq pc 12 then some (.putfield 44, 15, 1, 8) else none)) pc) else (fun pc => (bif Nat.ble pc 15 then (fun pc => bif Nat.beq pc 15 then some (.iconst 0, 16, 0, 0) else none) else (fun pc => bif Nat.beq pc 16 then some (.istore_n 1, 17, 0, 0) else none)) pc)) pc) else (fun pc => (bif Nat.ble pc 18 then (fun pc => (bif Nat.ble pc 17 then (fun pc => bif Nat.beq pc 17 then some (.iconst 0, 18, 0, 0) else none) else (fun pc => bif Nat.beq pc 18 then some (.istore_n 2, 19, 0, 0) else none)) pc) else (fun pc => (bif Nat.ble pc 19 then (fun pc => bif Nat.beq pc 19 then some (.iload_n 2, 20, 0, 0) else none) else (fun pc => bif Nat.beq pc 20 then some (.sipush 1000, 23, 1000, 0) else none)) pc)) pc)) pc)) pc) else (fun pc => (bif Nat.ble pc 65 then (fun pc => (bif Nat.ble pc 27 then (fun pc => (bif Nat.ble pc 23 then (fun pc => bif Nat.beq pc 23 then some (.if_icmp .ge 41, 26, 64, 0) else none) else (fun pc => (bif Nat.ble pc 26 then (fun pc => bif Nat.beq pc 26 then some (.iload_n 1, 27, 0, 0) else none) else (fun pc => bif Nat.beq pc 27 then some (.aload_n 0, 28, 0, 0) else none)) pc)) pc) else (fun pc => (bif Nat.ble pc 31 then (fun pc => (bif Nat.ble pc 28 then (fun pc => bif Nat.beq pc 28 then some (.getfield 34, 31, 0, 8) else none) else (fun pc => bif Nat.beq pc 31 then some (.if_icmp .ge 33, 34, 64, 0) else none)) pc) else (fun pc => (bif Nat.ble pc 64 then (fun pc => bif Nat.beq pc 64 then some (.aload_n 0, 65, 0, 0) else none) else (fun pc => bif Nat.beq pc 65 then some (.iconst 0, 66, 0, 0) else none)) pc)) pc)) pc) else (fun pc => (bif Nat.ble pc 71 then (fun pc => (bif Nat.ble pc 67 then (fun pc => (bif Nat.ble pc 66 then (fun pc => bif Nat.beq pc 66 then some (.aload_n 0, 67, 0, 0) else none) else (fun pc => bif Nat.beq pc 67 then some (.getfield 34, 70, 0, 8) else none)) pc) else (fun pc => (bif Nat.ble pc 70 then (fun pc => bif Nat.beq pc 70 then some (.lconst 0, 71, 0, 0) else none) else (fun pc => bif Nat.beq pc 71 then some (.invokevirtual 55, 74, 33, 132) else none)) pc)) pc) else (fun pc => (bif Nat.ble pc 75 then (fun pc => (bif Nat.ble pc 74 then (fun pc => bif Nat.beq pc 74 then some (.aload_n 0, 75, 0, 0) else none) else (fun pc => bif Nat.beq pc 75 then some (.iconst 0, 76, 0, 0) else none)) pc) else (fun pc => (bif Nat.ble pc 76 then (fun pc => bif Nat.beq pc 76 then some (.putfield 34, 79, 0, 8) else none) else (fun pc => bif Nat.beq pc 79 then some (.return_, 80, 0, 0) else none)) pc)) pc)) pc)) pc)) pc
/-- PackWeeks$Tape.addToken(IIJ)V -/
def kc_33 : Nat → Option en_I := fun pc => (bif Nat.ble pc 33 then (fun pc => (bif Nat.ble pc 17 then (fun pc => (bif Nat.ble pc 8 then (fun pc => (bif Nat.ble pc 1 then (fun pc => (bif Nat.ble pc 0 then (fun pc => bif Nat.beq pc 0 then some (.aload_n 0, 1, 0, 0) else none) else (fun pc => bif Nat.beq pc 1 then some (.getfield 38, 4, 7, 8) else none)) pc) else (fun pc => (bif Nat.ble pc 4 then (fun pc => bif Nat.beq pc 4 then some (.aload_n 0, 5, 0, 0) else none) else (fun pc => (bif Nat.ble pc 5 then (fun pc => bif Nat.beq pc 5 then some (.getfield 15, 8, 3, 8) else none) else (fun pc => bif Nat.beq pc 8 then some (.arraylength, 9, 0, 0) else none)) pc)) pc)) pc) else (fun pc => (bif Nat.ble pc 12 then (fun pc => (bif Nat.ble pc 9 then (fun pc => bif Nat.beq pc 9 then some (.if_icmp .ge 65, 12, 74, 0) else none) else (fun pc => bif Nat.beq pc 12 then some (.aload_n 0, 13, 0, 0) else none)) pc) else (fun pc => (bif Nat.ble pc 13 then (fun pc => bif Nat.beq pc 13 then some (.getfield 15, 16, 3, 8) else none) else (fun pc => (bif Nat.ble pc 16 then (fun pc => bif Nat.beq pc 16 then some (.aload_n 0, 17, 0, 0) else none) else (fun pc => bif Nat.beq pc 17 then some (.getfield 38, 20, 7, 8) else none)) pc)) pc)) pc)) pc) else (fun pc => (bif Nat.ble pc 26 then (fun pc => (bif Nat.ble pc 21 then (fun pc => (bif Nat.ble pc 20 then (fun pc => bif Nat.beq pc 20 then some (.iload_n 1, 21, 0, 0) else none) else (fun pc => bif Nat.beq pc 21 then some (.iastore, 22, 0, 0) else none)) pc) else (fun pc => (bif Nat.ble pc 22 then (fun pc => bif Nat.beq pc 22 then some (.aload_n 0, 23, 0, 0) else none) else (fun pc => (bif Nat.ble pc 23 then (fun pc => bif Nat.beq pc 23 then some (.getfield 19, 26, 4, 8) else none) else (fun pc => bif Nat.beq pc 26 then some (.aload_n 0, 27, 0, 0) else none)) pc)) pc)) pc) else (fun pc => (bif Nat.ble pc 30 then (fun pc => (bif Nat.ble pc 27 then (fun pc => bif Nat.beq pc 27 then some (.getfield 38, 30, 7, 8) else none) else (fun pc => bif Nat.beq pc 30 then some (.iload_n 2, 31, 0, 0) else none)) pc) else (fun pc => (bif Nat.ble pc 31 then (fun pc => bif Nat.beq pc 31 then some (.iastore, 32, 0, 0) else none) else (fun pc => (bif Nat.ble pc 32 then (fun pc => bif Nat.beq pc 32 then some (.aload_n 0, 33, 0, 0) else none) else (fun pc => bif Nat.beq pc 33 then some (.getfield 22, 36, 5, 8) else none)) pc)) pc)) pc)) pc)) pc) else (fun pc => (bif Nat.ble pc 51 then (fun pc => (bif Nat.ble pc 42 then (fun pc => (bif Nat.ble pc 37 then (fun pc => (bif Nat.ble pc 36 then (fun pc => bif Nat.beq pc 36 then some (.aload_n 0, 37, 0, 0) else none) else (fun pc => bif Nat.beq pc 37 then some (.getfield 38, 40, 7, 8) else none)) pc) else (fun pc => (bif Nat.ble pc 40 then (fun pc => bif Nat.beq pc 40 then some (.lload_n 3, 41, 0, 0) else none) else (fun pc => (bif Nat.ble pc 41 then (fun pc => bif Nat.beq pc 41 then some (.lastore, 42, 0, 0) else none) else (fun pc => bif Nat.beq pc 42 then some (.aload_n 0, 43, 0, 0) else none)) pc)) pc)) pc) else (fun pc => (bif Nat.ble pc 46 then (fun pc => (bif Nat.ble pc 43 then (fun pc => bif Nat.beq pc 43 then some (.getfield 28, 46, 6, 8) else none) else (fun pc => bif Nat.beq pc 46 then some (.aload_n 0, 47, 0, 0) else none)) pc) else (fun pc => (bif Nat.ble pc 47 then (fun pc => bif Nat.beq pc 47 then some (.getfield 38, 50, 7, 8) else none) else (fun pc => (bif Nat.ble pc 50 then (fun pc => bif Nat.beq pc 50 then some (.iload_n 1, 51, 0, 0) else none) else (fun pc => bif Nat.beq pc 51 then some (.iconst 2, 52, 2, 0) else none)) pc)) pc)) pc)) pc) else (fun pc => (bif Nat.ble pc 65 then (fun pc => (bif Nat.ble pc 62 then (fun pc => (bif Nat.ble pc 52 then (fun pc => bif Nat.beq pc 52 then some (.if_icmp .ne 10, 55, 62, 0) else none) else (fun pc => bif Nat.beq pc 62 then some (.aconst_null, 63, 0, 0) else none)) pc) else (fun pc => (bif Nat.ble pc 63 then (fun pc => bif Nat.beq pc 63 then some (.aastore, 64, 0, 0) else none) else (fun pc => (bif Nat.ble pc 64 then (fun pc => bif Nat.beq pc 64 then some (.aload_n 0, 65, 0, 0) else none) else (fun pc => bif Nat.beq pc 65 then some (.dup, 66, 0, 0) else none)) pc)) pc)) pc) else (fun pc => (bif Nat.ble pc 69 then (fun pc => (bif Nat.ble pc 66 then (fun pc => bif Nat.beq pc 66 then some (.getfield 38, 69, 7, 8) else none) else (fun pc => bif Nat.beq pc 69 then some (.iconst 1, 70, 1, 0) else none)) pc) else (fun pc => (bif Nat.ble pc 70 then (fun pc => bif Nat.beq pc 70 then some (.iadd, 71, 0, 0) else none) else (fun pc => (bif Nat.ble pc 71 then (fun pc => bif Nat.beq pc 71 then some (.putfield 38, 74, 7, 8) else none) else (fun pc => bif Nat.beq pc 74 then some (.return_, 75, 0, 0) else none)) pc)) pc)) pc)) pc)) pc)) pc
/-- PackWeeks$Tape.takeWord(LPackWeeks$Word;)V -/
def kc_34 : Nat → Option en_I := fun pc => (bif Nat.ble pc 8 then (fun pc => (bif Nat.ble pc 1 then (fun pc => (bif Nat.ble pc 0 then (fun pc => bif Nat.beq pc 0 then some (.aload_n 0, 1, 0, 0) else none) else (fun pc => bif Nat.beq pc 1 then some (.aload_n 1, 2, 0, 0) else none)) pc) else (fun pc => (bif Nat.ble pc 2 then (fun pc => bif Nat.beq pc 2 then some (.invokevirtual 79, 5, 35, 130) else none) else (fun pc => (bif Nat.ble pc 5 then (fun pc => bif Nat.beq pc 5 then some (.ifCond .ne 8, 8, 13, 0) else none) else (fun pc => bif Nat.beq pc 8 then some (.aload_n 0, 9, 0, 0) else none)) pc)) pc)) pc) else (fun pc => (bif Nat.ble pc 10 then (fun pc => (bif Nat.ble pc 9 then (fun pc => bif Nat.beq pc 9 then some (.iconst 1, 10, 1, 0) else none) else (fun pc => bif Nat.beq pc 10 then some (.invokevirtual 83, 13, 36, 130) else none)) pc) else (fun pc => (bif Nat.ble pc 13 then (fun pc => bif Nat.beq pc 13 then some (.aload_n 0, 14, 0, 0) else none) else (fun pc => (bif Nat.ble pc 14 then (fun pc => bif Nat.beq pc 14 then some (.invokevirtual 87, 17, 37, 129) else none) else (fun pc => bif Nat.beq pc 17 then some (.return_, 18, 0, 0) else none)) pc)) pc)) pc)) pc
/-- PackWeeks$Tape.isWord(LPackWeeks$Word;)Z -/
def kc_35 : Nat → Option en_I := fun pc => (bif Nat.ble pc 5 then (fun pc => (bif Nat.ble pc 1 then (fun pc => (bif Nat.ble pc 0 then (fun pc => bif Nat.beq pc 0 then some (.aload_n 0, 1, 0, 0) else none) else (fun pc => bif Nat.beq pc 1 then some (.getfield 28, 4, 6, 8) else none)) pc) else (fun pc => (bif Nat.ble pc 4 then (fun pc => bif Nat.beq pc 4 then some (.aload_n 0, 5, 0, 0) else none) else (fun pc => bif Nat.beq pc 5 then some (.getfield 41, 8, 8, 8) else none)) pc)) pc) else (fun pc => (bif Nat.ble pc 9 then (fun pc => (bif Nat.ble pc 8 then (fun pc => bif Nat.beq pc 8 then some (.aaload, 9, 0, 0) else none) else (fun pc => bif Nat.beq pc 9 then some (.aload_n 1, 10, 0, 0) else none)) pc) else (fun pc => (bif Nat.ble pc 10 then (fun pc => bif Nat.beq pc 10 then some (.if_acmp .ne 7, 13, 17, 0) else none) else (fun pc => (bif Nat.ble pc 17 then (fun pc => bif Nat.beq pc 17 then some (.iconst 0, 18, 0, 0) else none) else (fun pc => bif Nat.beq pc 18 then some (.ireturn, 19, 1, 0) else none)) pc)) pc)) pc)) pc
/-- PackWeeks$Tape.wrong(I)V -/
def kc_36 : Nat → Option en_I := fun pc => (bif Nat.ble pc 11 then (fun pc => (bif Nat.ble pc 4 then (fun pc => (bif Nat.ble pc 0 then (fun pc => bif Nat.beq pc 0 then some (.aload_n 0, 1, 0, 0) else none) else (fun pc => (bif Nat.ble pc 1 then (fun pc => bif Nat.beq pc 1 then some (.getfield 44, 4, 1, 8) else none) else (fun pc => bif Nat.beq pc 4 then some (.ifCond .ne 21, 7, 25, 0) else none)) pc)) pc) else (fun pc => (bif Nat.ble pc 8 then (fun pc => (bif Nat.ble pc 7 then (fun pc => bif Nat.beq pc 7 then some (.aload_n 0, 8, 0, 0) else none) else (fun pc => bif Nat.beq pc 8 then some (.iload_n 1, 9, 0, 0) else none)) pc) else (fun pc => (bif Nat.ble pc 9 then (fun pc => bif Nat.beq pc 9 then some (.bipush 16, 11, 16, 0) else none) else (fun pc => bif Nat.beq pc 11 then some (.aload_n 0, 12, 0, 0) else none)) pc)) pc)) pc) else (fun pc => (bif Nat.ble pc 19 then (fun pc => (bif Nat.ble pc 15 then (fun pc => (bif Nat.ble pc 12 then (fun pc => bif Nat.beq pc 12 then some (.getfield 19, 15, 4, 8) else none) else (fun pc => bif Nat.beq pc 15 then some (.aload_n 0, 16, 0, 0) else none)) pc) else (fun pc => (bif Nat.ble pc 16 then (fun pc => bif Nat.beq pc 16 then some (.getfield 41, 19, 8, 8) else none) else (fun pc => bif Nat.beq pc 19 then some (.iaload, 20, 0, 0) else none)) pc)) pc) else (fun pc => (bif Nat.ble pc 21 then (fun pc => (bif Nat.ble pc 20 then (fun pc => bif Nat.beq pc 20 then some (.imul, 21, 0, 0) else none) else (fun pc => bif Nat.beq pc 21 then some (.iadd, 22, 0, 0) else none)) pc) else (fun pc => (bif Nat.ble pc 22 then (fun pc => bif Nat.beq pc 22 then some (.putfield 44, 25, 1, 8) else none) else (fun pc => bif Nat.beq pc 25 then some (.return_, 26, 0, 0) else none)) pc)) pc)) pc)) pc
/-- PackWeeks$Tape.goOn()V -/
def kc_37 : Nat → Option en_I := fun pc => (bif Nat.ble pc 1 then (fun pc => (bif Nat.ble pc 0 then (fun pc => bif Nat.beq pc 0 then some (.aload_n 0, 1, 0, 0) else none) else (fun pc => bif Nat.beq pc 1 then some (.getfield 44, 4, 1, 8) else none)) pc) else (fun pc => (bif Nat.ble pc 4 then (fun pc => bif Nat.beq pc 4 then some (.ifCond .ne 26, 7, 30, 0) else none) else (fun pc => bif Nat.beq pc 30 then some (.return_, 31, 0, 0) else none)) pc)) pc
/-- PackWeeks$Tape.takeNumber(II)I -/
def kc_38 : Nat → Option en_I := fun pc => (bif Nat.ble pc 7 then (fun pc => (bif Nat.ble pc 1 then (fun pc => (bif Nat.ble pc 0 then (fun pc => bif Nat.beq pc 0 then some (.aload_n 0, 1, 0, 0) else none) else (fun pc => bif Nat.beq pc 1 then some (.invokevirtual 94, 4, 39, 129) else none)) pc) else (fun pc => (bif Nat.ble pc 4 then (fun pc => bif Nat.beq pc 4 then some (.ifCond .ne 10, 7, 14, 0) else none) else (fun pc => bif Nat.beq pc 7 then some (.aload_n 0, 8, 0, 0) else none)) pc)) pc) else (fun pc => (bif Nat.ble pc 9 then (fun pc => (bif Nat.ble pc 8 then (fun pc => bif Nat.beq pc 8 then some (.iconst 1, 9, 1, 0) else none) else (fun pc => bif Nat.beq pc 9 then some (.invokevirtual 83, 12, 36, 130) else none)) pc) else (fun pc => (bif Nat.ble pc 12 then (fun pc => bif Nat.beq pc 12 then some (.iconst 0, 13, 0, 0) else none) else (fun pc => bif Nat.beq pc 13 then some (.ireturn, 14, 0, 0) else none)) pc)) pc)) pc
/-- PackWeeks$Tape.isNumber()Z -/
def kc_39 : Nat → Option en_I := fun pc => (bif Nat.ble pc 5 then (fun pc => (bif Nat.ble pc 1 then (fun pc => (bif Nat.ble pc 0 then (fun pc => bif Nat.beq pc 0 then some (.aload_n 0, 1, 0, 0) else none) else (fun pc => bif Nat.beq pc 1 then some (.getfield 15, 4, 3, 8) else none)) pc) else (fun pc => (bif Nat.ble pc 4 then (fun pc => bif Nat.beq pc 4 then some (.aload_n 0, 5, 0, 0) else none) else (fun pc => bif Nat.beq pc 5 then some (.getfield 41, 8, 8, 8) else none)) pc)) pc) else (fun pc => (bif Nat.ble pc 9 then (fun pc => (bif Nat.ble pc 8 then (fun pc => bif Nat.beq pc 8 then some (.iaload, 9, 0, 0) else none) else (fun pc => bif Nat.beq pc 9 then some (.iconst 3, 10, 3, 0) else none)) pc) else (fun pc => (bif Nat.ble pc 10 then (fun pc => bif Nat.beq pc 10 then some (.if_icmp .ne 7, 13, 17, 0) else none) else (fun pc => (bif Nat.ble pc 17 then (fun pc => bif Nat.beq pc 17 then some (.iconst 0, 18, 0, 0) else none) else (fun pc => bif Nat.beq pc 18 then some (.ireturn, 19, 1, 0) else none)) pc)) pc)) pc)) pc
/-- PackWeeks$Tape.takeSign(C)V -/
def kc_40 : Nat → Option en_I := fun pc => (bif Nat.ble pc 8 then (fun pc => (bif Nat.ble pc 1 then (fun pc => (bif Nat.ble pc 0 then (fun pc => bif Nat.beq pc 0 then some (.aload_n 0, 1, 0, 0) else none) else (fun pc => bif Nat.beq pc 1 then some (.iload_n 1, 2, 0, 0) else none)) pc) else (fun pc => (bif Nat.ble pc 2 then (fun pc => bif Nat.beq pc 2 then some (.invokevirtual 90, 5, 41, 130) else none) else (fun pc => (bif Nat.ble pc 5 then (fun pc => bif Nat.beq pc 5 then some (.ifCond .ne 8, 8, 13, 0) else none) else (fun pc => bif Nat.beq pc 8 then some (.aload_n 0, 9, 0, 0) else none)) pc)) pc)) pc) else (fun pc => (bif Nat.ble pc 10 then (fun pc => (bif Nat.ble pc 9 then (fun pc => bif Nat.beq pc 9 then some (.iconst 1, 10, 1, 0) else none) else (fun pc => bif Nat.beq pc 10 then some (.invokevirtual 83, 13, 36, 130) else none)) pc) else (fun pc => (bif Nat.ble pc 13 then (fun pc => bif Nat.beq pc 13 then some (.aload_n 0, 14, 0, 0) else none) else (fun pc => (bif Nat.ble pc 14 then (fun pc => bif Nat.beq pc 14 then some (.invokevirtual 87, 17, 37, 129) else none) else (fun pc => bif Nat.beq pc 17 then some (.return_, 18, 0, 0) else none)) pc)) pc)) pc)) pc
/-- PackWeeks$Tape.isSign(C)Z -/
def kc_41 : Nat → Option en_I := fun pc => (bif Nat.ble pc 5 then (fun pc => (bif Nat.ble pc 1 then (fun pc => (bif Nat.ble pc 0 then (fun pc => bif Nat.beq pc 0 then some (.aload_n 0, 1, 0, 0) else none) else (fun pc => bif Nat.beq pc 1 then some (.getfield 15, 4, 3, 8) else none)) pc) else (fun pc => (bif Nat.ble pc 4 then (fun pc => bif Nat.beq pc 4 then some (.aload_n 0, 5, 0, 0) else none) else (fun pc => bif Nat.beq pc 5 then some (.getfield 41, 8, 8, 8) else none)) pc)) pc) else (fun pc => (bif Nat.ble pc 9 then (fun pc => (bif Nat.ble pc 8 then (fun pc => bif Nat.beq pc 8 then some (.iaload, 9, 0, 0) else none) else (fun pc => bif Nat.beq pc 9 then some (.iconst 4, 10, 4, 0) else none)) pc) else (fun pc => (bif Nat.ble pc 10 then (fun pc => bif Nat.beq pc 10 then some (.if_icmp .ne 22, 13, 32, 0) else none) else (fun pc => (bif Nat.ble pc 32 then (fun pc => bif Nat.beq pc 32 then some (.iconst 0, 33, 0, 0) else none) else (fun pc => bif Nat.beq pc 33 then some (.ireturn, 34, 1, 0) else none)) pc)) pc)) pc)) pc
/-- PackWeeks$Tape.goesOn()Z -/
def kc_42 : Nat → Option en_I := fun pc => (bif Nat.ble pc 8 then (fun pc => (bif Nat.ble pc 1 then (fun pc => (bif Nat.ble pc 0 then (fun pc => bif Nat.beq pc 0 then some (.aload_n 0, 1, 0, 0) else none) else (fun pc => bif Nat.beq pc 1 then some (.getfield 44, 4, 1, 8) else none)) pc) else (fun pc => (bif Nat.ble pc 4 then (fun pc => bif Nat.beq pc 4 then some (.ifCond .ne 19, 7, 23, 0) else none) else (fun pc => (bif Nat.ble pc 7 then (fun pc => bif Nat.beq pc 7 then some (.aload_n 0, 8, 0, 0) else none) else (fun pc => bif Nat.beq pc 8 then some (.getfield 15, 11, 3, 8) else none)) pc)) pc)) pc) else (fun pc => (bif Nat.ble pc 15 then (fun pc => (bif Nat.ble pc 11 then (fun pc => bif Nat.beq pc 11 then some (.aload_n 0, 12, 0, 0) else none) else (fun pc => (bif Nat.ble pc 12 then (fun pc => bif Nat.beq pc 12 then some (.getfield 41, 15, 8, 8) else none) else (fun pc => bif Nat.beq pc 15 then some (.iaload, 16, 0, 0) else none)) pc)) pc) else (fun pc => (bif Nat.ble pc 16 then (fun pc => bif Nat.beq pc 16 then some (.ifCond .eq 7, 19, 23, 0) else none) else (fun pc => (bif Nat.ble pc 23 then (fun pc => bif Nat.beq pc 23 then some (.iconst 0, 24, 0, 0) else none) else (fun pc => bif Nat.beq pc 24 then some (.ireturn, 25, 1, 0) else none)) pc)) pc)) pc)) pc
/-- PackWeeksModel.pack()I -/
def kc_43 : Nat → Option en_I := fun pc => (bif Nat.ble pc 43 then (fun pc => (bif Nat.ble pc 19 then (fun pc => (bif Nat.ble pc 9 then (fun pc => (bif Nat.ble pc 2 then (fun pc => (bif Nat.ble pc 0 then (fun pc => bif Nat.beq pc 0 then some (.aload_n 0, 1, 0, 0) else none) else (fun pc => (bif Nat.ble pc 1 then (fun pc => bif Nat.beq pc 1 then some (.iconst 0, 2, 0, 0) else none) else (fun pc => bif Nat.beq pc 2 then some (.putfield 1, 5, 0, 10) else none)) pc)) pc) else (fun pc => (bif Nat.ble pc 5 then (fun pc => bif Nat.beq pc 5 then some (.aload_n 0, 6, 0, 0) else none) else (fun pc => (bif Nat.ble pc 6 then (fun pc => bif Nat.beq pc 6 then some (.invokevirtual 255, 9, 44, 161) else none) else (fun pc => bif Nat.beq pc 9 then some (.aload_n 0, 10, 0, 0) else none)) pc)) pc)) pc) else (fun pc => (bif Nat.ble pc 14 then (fun pc => (bif Nat.ble pc 10 then (fun pc => bif Nat.beq pc 10 then some (.iconst 0, 11, 0, 0) else none) else (fun pc => (bif Nat.ble pc 11 then (fun pc => bif Nat.beq pc 11 then some (.putfield 258, 14, 13, 10) else none) else (fun pc => bif Nat.beq pc 14 then some (.aload_n 0, 15, 0, 0) else none)) pc)) pc) else (fun pc => (bif Nat.ble pc 15 then (fun pc => bif Nat.beq pc 15 then some (.iconst 0, 16, 0, 0) else none) else (fun pc => (bif Nat.ble pc 16 then (fun pc => bif Nat.beq pc 16 then some (.putfield 249, 19, 19, 10) else none) else (fun pc => bif Nat.beq pc 19 then some (.aload_n 0, 20, 0, 0) else none)) pc)) pc)) pc)) pc) else (fun pc => (bif Nat.ble pc 31 then (fun pc => (bif Nat.ble pc 24 then (fun pc => (bif Nat.ble pc 20 then (fun pc => bif Nat.beq pc 20 then some (.iconst 0, 21, 0, 0) else none) else (fun pc => (bif Nat.ble pc 21 then (fun pc => bif Nat.beq pc 21 then some (.putfield 261, 24, 20, 58) else none) else (fun pc => bif Nat.beq pc 24 then some (.aload_n 0, 25, 0, 0) else none)) pc)) pc) else (fun pc => (bif Nat.ble pc 25 then (fun pc => bif Nat.beq pc 25 then some (.sipush 160, 28, 160, 0) else none) else (fun pc => (bif Nat.ble pc 28 then (fun pc => bif Nat.beq pc 28 then some (.invokevirtual 191, 31, 26, 162) else none) else (fun pc => bif Nat.beq pc 31 then some (.aload_n 0, 32, 0, 0) else none)) pc)) pc)) pc) else (fun pc => (bif Nat.ble pc 36 then (fun pc => (bif Nat.ble pc 32 then (fun pc => bif Nat.beq pc 32 then some (.iconst 0, 33, 0, 0) else none) else (fun pc => (bif Nat.ble pc 33 then (fun pc => bif Nat.beq pc 33 then some (.invokevirtual 239, 36, 45, 162) else none) else (fun pc => bif Nat.beq pc 36 then some (.aload_n 0, 37, 0, 0) else none)) pc)) pc) else (fun pc => (bif Nat.ble pc 37 then (fun pc => bif Nat.beq pc 37 then some (.getfield 121, 40, 10, 10) else none) else (fun pc => (bif Nat.ble pc 40 then (fun pc => bif Nat.beq pc 40 then some (.sipush 160, 43, 160, 0) else none) else (fun pc => bif Nat.beq pc 43 then some (.aload_n 0, 44, 0, 0) else none)) pc)) pc)) pc)) pc)) pc) else (fun pc => (bif Nat.ble pc 65 then (fun pc => (bif Nat.ble pc 52 then (fun pc => (bif Nat.ble pc 47 then (fun pc => (bif Nat.ble pc 44 then (fun pc => bif Nat.beq pc 44 then some (.iconst 2, 45, 2, 0) else none) else (fun pc => (bif Nat.ble pc 45 then (fun pc => bif Nat.beq pc 45 then some (.bipush 8, 47, 8, 0) else none) else (fun pc => bif Nat.beq pc 47 then some (.invokevirtual 242, 50, 49, 163) else none)) pc)) pc) else (fun pc => (bif Nat.ble pc 50 then (fun pc => bif Nat.beq pc 50 then some (.iastore, 51, 0, 0) else none) else (fun pc => (bif Nat.ble pc 51 then (fun pc => bif Nat.beq pc 51 then some (.aload_n 0, 52, 0, 0) else none) else (fun pc => bif Nat.beq pc 52 then some (.getfield 121, 55, 10, 10) else none)) pc)) pc)) pc) else (fun pc => (bif Nat.ble pc 59 then (fun pc => (bif Nat.ble pc 55 then (fun pc => bif Nat.beq pc 55 then some (.sipush 161, 58, 161, 0) else none) else (fun pc => (bif Nat.ble pc 58 then (fun pc => bif Nat.beq pc 58 then some (.aload_n 0, 59, 0, 0) else none) else (fun pc => bif Nat.beq pc 59 then some (.iconst 2, 60, 2, 0) else none)) pc)) pc) else (fun pc => (bif Nat.ble pc 60 then (fun pc => bif Nat.beq pc 60 then some (.bipush 8, 62, 8, 0) else none) else (fun pc => (bif Nat.ble pc 62 then (fun pc => bif Nat.beq pc 62 then some (.invokevirtual 242, 65, 49, 163) else none) else (fun pc => bif Nat.beq pc 65 then some (.iastore, 66, 0, 0) else none)) pc)) pc)) pc)) pc) else (fun pc => (bif Nat.ble pc 76 then (fun pc => (bif Nat.ble pc 69 then (fun pc => (bif Nat.ble pc 66 then (fun pc => bif Nat.beq pc 66 then some (.aload_n 0, 67, 0, 0) else none) else (fun pc => (bif Nat.ble pc 67 then (fun pc => bif Nat.beq pc 67 then some (.bipush 59, 69, 59, 0) else none) else (fun pc => bif Nat.beq pc 69 then some (.invokevirtual 265, 72, 50, 162) else none)) pc)) pc) else (fun pc => (bif Nat.ble pc 72 then (fun pc => bif Nat.beq pc 72 then some (.aload_n 0, 73, 0, 0) else none) else (fun pc => (bif Nat.ble pc 73 then (fun pc => bif Nat.beq pc 73 then some (.getfield 224, 76, 8, 10) else none) else (fun pc => bif Nat.beq pc 76 then some (.ifCond .ne 28, 79, 104, 0) else none)) pc)) pc)) pc) else (fun pc => (bif Nat.ble pc 108 then (fun pc => (bif Nat.ble pc 104 then (fun pc => bif Nat.beq pc 104 then some (.aload_n 0, 105, 0, 0) else none) else (fun pc => (bif Nat.ble pc 105 then (fun pc => bif Nat.beq pc 105 then some (.getfield 224, 108, 8, 10) else none) else (fun pc => bif Nat.beq pc 108 then some (.ifCond .le 8, 111, 116, 0) else none)) pc)) pc) else (fun pc => (bif Nat.ble pc 111 then (fun pc => bif Nat.beq pc 111 then some (.aload_n 0, 112, 0, 0) else none) else (fun pc => (bif Nat.ble pc 112 then (fun pc => bif Nat.beq pc 112 then some (.getfield 224, 115, 8, 10) else none) else (fun pc => bif Nat.beq pc 115 then some (.ireturn, 116, 0, 0) else none)) pc)) pc)) pc)) pc)) pc)) pc
/-- PackWeeksModel.cutAll()V -/
def kc_44 : Nat → Option en_I := fun pc => (bif Nat.ble pc 279 then (fun pc => (bif Nat.ble pc 13 then (fun pc => (bif Nat.ble pc 5 then (fun pc => (bif Nat.ble pc 1 then (fun pc => (bif Nat.ble pc 0 then (fun pc => bif Nat.beq pc 0 then some (.aload_n 0, 1, 0, 0) else none) else (fun pc => bif Nat.beq pc 1 then some (.aload_n 0, 2, 0, 0) else none)) pc) else (fun pc => (bif Nat.ble pc 2 then (fun pc => bif Nat.beq pc 2 then some (.getfield 11, 5, 2, 10) else none) else (fun pc => bif Nat.beq pc 5 then some (.putfield 202, 8, 3, 10) else none)) pc)) pc) else (fun pc => (bif Nat.ble pc 9 then (fun pc => (bif Nat.ble pc 8 then (fun pc => bif Nat.beq pc 8 then some (.aload_n 0, 9, 0, 0) else none) else (fun pc => bif Nat.beq pc 9 then some (.iconst 0, 10, 0, 0) else none)) pc) else (fun pc => (bif Nat.ble pc 10 then (fun pc => bif Nat.beq pc 10 then some (.putfield 11, 13, 2, 10) else none) else (fun pc => bif Nat.beq pc 13 then some (.iconst 0, 14, 0, 0) else none)) pc)) pc)) pc) else (fun pc => (bif Nat.ble pc 17 then (fun pc => (bif Nat.ble pc 15 then (fun pc => (bif Nat.ble pc 14 then (fun pc => bif Nat.beq pc 14 then some (.istore_n 1, 15, 0, 0) else none) else (fun pc => bif Nat.beq pc 15 then some (.iconst 0, 16, 0, 0) else none)) pc) else (fun pc => (bif Nat.ble pc 16 then (fun pc => bif Nat.beq pc 16 then some (.istore_n 2, 17, 0, 0) else none) else (fun pc => bif Nat.beq pc 17 then some (.iload_n 2, 18, 0, 0) else none)) pc)) pc) else (fun pc => (bif Nat.ble pc 19 then (fun pc => (bif Nat.ble pc 18 then (fun pc => bif Nat.beq pc 18 then some (.aload_n 0, 19, 0, 0) else none) else (fun pc => bif Nat.beq pc 19 then some (.getfield 202, 22, 3, 10) else none)) pc) else (fun pc => (bif Nat.ble pc 22 then (fun pc => bif Nat.beq pc 22 then some (.if_icmp .ge 257, 25, 279, 0) else none) else (fun pc => bif Nat.beq pc 279 then some (.aload_n 0, 280, 0, 0) else none)) pc)) pc)) pc)) pc) else (fun pc => (bif Nat.ble pc 291 then (fun pc => (bif Nat.ble pc 285 then (fun pc => (bif Nat.ble pc 283 then (fun pc => (bif Nat.ble pc 280 then (fun pc => bif Nat.beq pc 280 then some (.getfield 24, 283, 4, 10) else none) else (fun pc => bif Nat.beq pc 283 then some (.iload_n 1, 284, 0, 0) else none)) pc) else (fun pc => (bif Nat.ble pc 284 then (fun pc => bif Nat.beq pc 284 then some (.iconst 0, 285, 0, 0) else none) else (fun pc => bif Nat.beq pc 285 then some (.iastore, 286, 0, 0) else none)) pc)) pc) else (fun pc => (bif Nat.ble pc 287 then (fun pc => (bif Nat.ble pc 286 then (fun pc => bif Nat.beq pc 286 then some (.aload_n 0, 287, 0, 0) else none) else (fun pc => bif Nat.beq pc 287 then some (.getfield 27, 290, 5, 10) else none)) pc) else (fun pc => (bif Nat.ble pc 290 then (fun pc => bif Nat.beq pc 290 then some (.iload_n 1, 291, 0, 0) else none) else (fun pc => bif Nat.beq pc 291 then some (.aload_n 0, 292, 0, 0) else none)) pc)) pc)) pc) else (fun pc => (bif Nat.ble pc 297 then (fun pc => (bif Nat.ble pc 295 then (fun pc => (bif Nat.ble pc 292 then (fun pc => bif Nat.beq pc 292 then some (.getfield 202, 295, 3, 10) else none) else (fun pc => bif Nat.beq pc 295 then some (.iastore, 296, 0, 0) else none)) pc) else (fun pc => (bif Nat.ble pc 296 then (fun pc => bif Nat.beq pc 296 then some (.aload_n 0, 297, 0, 0) else none) else (fun pc => bif Nat.beq pc 297 then some (.iconst 0, 298, 0, 0) else none)) pc)) pc) else (fun pc => (bif Nat.ble pc 301 then (fun pc => (bif Nat.ble pc 298 then (fun pc => bif Nat.beq pc 298 then some (.putfield 221, 301, 7, 10) else none) else (fun pc => bif Nat.beq pc 301 then some (.aload_n 0, 302, 0, 0) else none)) pc) else (fun pc => (bif Nat.ble pc 302 then (fun pc => bif Nat.beq pc 302 then some (.iconst 0, 303, 0, 0) else none) else (fun pc => (bif Nat.ble pc 303 then (fun pc => bif Nat.beq pc 303 then some (.putfield 224, 306, 8, 10) else none) else (fun pc => bif Nat.beq pc 306 then some (.return_, 307, 0, 0) else none)) pc)) pc)) pc)) pc)) pc)) pc
/-- PackWeeksModel.takeWord(I)V -/
def kc_45 : Nat → Option en_I := fun pc => (bif Nat.ble pc 5 then (fun pc => (bif Nat.ble pc 1 then (fun pc => (bif Nat.ble pc 0 then (fun pc => bif Nat.beq pc 0 then some (.aload_n 0, 1, 0, 0) else none) else (fun pc => bif Nat.beq pc 1 then some (.iload_n 1, 2, 0, 0) else none)) pc) else (fun pc => (bif Nat.ble pc 2 then (fun pc => bif Nat.beq pc 2 then some (.invokevirtual 236, 5, 46, 162) else none) else (fun pc => bif Nat.beq pc 5 then some (.ifCond .ne 8, 8, 13, 0) else none)) pc)) pc) else (fun pc => (bif Nat.ble pc 9 then (fun pc => (bif Nat.ble pc 8 then (fun pc => bif Nat.beq pc 8 then some (.aload_n 0, 9, 0, 0) else none) else (fun pc => bif Nat.beq pc 9 then some (.iconst 1, 10, 1, 0) else none)) pc) else (fun pc => (bif Nat.ble pc 10 then (fun pc => bif Nat.beq pc 10 then some (.invokevirtual 230, 13, 48, 162) else none) else (fun pc => bif Nat.beq pc 13 then some (.return_, 14, 0, 0) else none)) pc)) pc)) pc
/-- PackWeeksModel.hasWord(I)Z -/
def kc_46 : Nat → Option en_I := fun pc => (bif Nat.ble pc 8 then (fun pc => (bif Nat.ble pc 2 then (fun pc => (bif Nat.ble pc 0 then (fun pc => bif Nat.beq pc 0 then some (.aload_n 0, 1, 0, 0) else none) else (fun pc => (bif Nat.ble pc 1 then (fun pc => bif Nat.beq pc 1 then some (.iload_n 1, 2, 0, 0) else none) else (fun pc => bif Nat.beq pc 2 then some (.invokevirtual 233, 5, 47, 162) else none)) pc)) pc) else (fun pc => (bif Nat.ble pc 6 then (fun pc => (bif Nat.ble pc 5 then (fun pc => bif Nat.beq pc 5 then some (.istore_n 2, 6, 0, 0) else none) else (fun pc => bif Nat.beq pc 6 then some (.aload_n 0, 7, 0, 0) else none)) pc) else (fun pc => (bif Nat.ble pc 7 then (fun pc => bif Nat.beq pc 7 then some (.dup, 8, 0, 0) else none) else (fun pc => bif Nat.beq pc 8 then some (.getfield 221, 11, 7, 10) else none)) pc)) pc)) pc) else (fun pc => (bif Nat.ble pc 19 then (fun pc => (bif Nat.ble pc 11 then (fun pc => bif Nat.beq pc 11 then some (.iload_n 2, 12, 0, 0) else none) else (fun pc => (bif Nat.ble pc 12 then (fun pc => bif Nat.beq pc 12 then some (.ifCond .eq 7, 15, 19, 0) else none) else (fun pc => bif Nat.beq pc 19 then some (.iconst 0, 20, 0, 0) else none)) pc)) pc) else (fun pc => (bif Nat.ble pc 21 then (fun pc => (bif Nat.ble pc 20 then (fun pc => bif Nat.beq pc 20 then some (.iadd, 21, 0, 0) else none) else (fun pc => bif Nat.beq pc 21 then some (.putfield 221, 24, 7, 10) else none)) pc) else (fun pc => (bif Nat.ble pc 24 then (fun pc => bif Nat.beq pc 24 then some (.iload_n 2, 25, 0, 0) else none) else (fun pc => bif Nat.beq pc 25 then some (.ireturn, 26, 1, 0) else none)) pc)) pc)) pc)) pc
/-- PackWeeksModel.isWord(I)Z -/
def kc_47 : Nat → Option en_I := fun pc => (bif Nat.ble pc 11 then (fun pc => (bif Nat.ble pc 4 then (fun pc => (bif Nat.ble pc 0 then (fun pc => bif Nat.beq pc 0 then some (.aload_n 0, 1, 0, 0) else none) else (fun pc => (bif Nat.ble pc 1 then (fun pc => bif Nat.beq pc 1 then some (.getfield 224, 4, 8, 10) else none) else (fun pc => bif Nat.beq pc 4 then some (.ifCond .ne 39, 7, 43, 0) else none)) pc)) pc) else (fun pc => (bif Nat.ble pc 7 then (fun pc => bif Nat.beq pc 7 then some (.aload_n 0, 8, 0, 0) else none) else (fun pc => (bif Nat.ble pc 8 then (fun pc => bif Nat.beq pc 8 then some (.getfield 24, 11, 4, 10) else none) else (fun pc => bif Nat.beq pc 11 then some (.aload_n 0, 12, 0, 0) else none)) pc)) pc)) pc) else (fun pc => (bif Nat.ble pc 16 then (fun pc => (bif Nat.ble pc 12 then (fun pc => bif Nat.beq pc 12 then some (.getfield 221, 15, 7, 10) else none) else (fun pc => (bif Nat.ble pc 15 then (fun pc => bif Nat.beq pc 15 then some (.iaload, 16, 0, 0) else none) else (fun pc => bif Nat.beq pc 16 then some (.iconst 1, 17, 1, 0) else none)) pc)) pc) else (fun pc => (bif Nat.ble pc 17 then (fun pc => bif Nat.beq pc 17 then some (.if_icmp .ne 26, 20, 43, 0) else none) else (fun pc => (bif Nat.ble pc 43 then (fun pc => bif Nat.beq pc 43 then some (.iconst 0, 44, 0, 0) else none) else (fun pc => bif Nat.beq pc 44 then some (.ireturn, 45, 1, 0) else none)) pc)) pc)) pc)) pc
/-- PackWeeksModel.wrong(I)V -/
def kc_48 : Nat → Option en_I := fun pc => (bif Nat.ble pc 11 then (fun pc => (bif Nat.ble pc 4 then (fun pc => (bif Nat.ble pc 0 then (fun pc => bif Nat.beq pc 0 then some (.aload_n 0, 1, 0, 0) else none) else (fun pc => (bif Nat.ble pc 1 then (fun pc => bif Nat.beq pc 1 then some (.getfield 224, 4, 8, 10) else none) else (fun pc => bif Nat.beq pc 4 then some (.ifCond .ne 21, 7, 25, 0) else none)) pc)) pc) else (fun pc => (bif Nat.ble pc 8 then (fun pc => (bif Nat.ble pc 7 then (fun pc => bif Nat.beq pc 7 then some (.aload_n 0, 8, 0, 0) else none) else (fun pc => bif Nat.beq pc 8 then some (.iload_n 1, 9, 0, 0) else none)) pc) else (fun pc => (bif Nat.ble pc 9 then (fun pc => bif Nat.beq pc 9 then some (.bipush 16, 11, 16, 0) else none) else (fun pc => bif Nat.beq pc 11 then some (.aload_n 0, 12, 0, 0) else none)) pc)) pc)) pc) else (fun pc => (bif Nat.ble pc 19 then (fun pc => (bif Nat.ble pc 15 then (fun pc => (bif Nat.ble pc 12 then (fun pc => bif Nat.beq pc 12 then some (.getfield 27, 15, 5, 10) else none) else (fun pc => bif Nat.beq pc 15 then some (.aload_n 0, 16, 0, 0) else none)) pc) else (fun pc => (bif Nat.ble pc 16 then (fun pc => bif Nat.beq pc 16 then some (.getfield 221, 19, 7, 10) else none) else (fun pc => bif Nat.beq pc 19 then some (.iaload, 20, 0, 0) else none)) pc)) pc) else (fun pc => (bif Nat.ble pc 21 then (fun pc => (bif Nat.ble pc 20 then (fun pc => bif Nat.beq pc 20 then some (.imul, 21, 0, 0) else none) else (fun pc => bif Nat.beq pc 21 then some (.iadd, 22, 0, 0) else none)) pc) else (fun pc => (bif Nat.ble pc 22 then (fun pc => bif Nat.beq pc 22 then some (.putfield 224, 25, 8, 10) else none) else (fun pc => bif Nat.beq pc 25 then some (.return_, 26, 0, 0) else none)) pc)) pc)) pc)) pc
/-- PackWeeksModel.takeNumber(II)I -/
def kc_49 : Nat → Option en_I := fun pc => (bif Nat.ble pc 29 then (fun pc => (bif Nat.ble pc 1 then (fun pc => (bif Nat.ble pc 0 then (fun pc => bif Nat.beq pc 0 then some (.aload_n 0, 1, 0, 0) else none) else (fun pc => bif Nat.beq pc 1 then some (.getfield 224, 4, 8, 10) else none)) pc) else (fun pc => (bif Nat.ble pc 4 then (fun pc => bif Nat.beq pc 4 then some (.ifCond .ne 24, 7, 28, 0) else none) else (fun pc => (bif Nat.ble pc 28 then (fun pc => bif Nat.beq pc 28 then some (.aload_n 0, 29, 0, 0) else none) else (fun pc => bif Nat.beq pc 29 then some (.getfield 224, 32, 8, 10) else none)) pc)) pc)) pc) else (fun pc => (bif Nat.ble pc 71 then (fun pc => (bif Nat.ble pc 32 then (fun pc => bif Nat.beq pc 32 then some (.ifCond .ne 38, 35, 70, 0) else none) else (fun pc => (bif Nat.ble pc 70 then (fun pc => bif Nat.beq pc 70 then some (.aload_n 0, 71, 0, 0) else none) else (fun pc => bif Nat.beq pc 71 then some (.getfield 224, 74, 8, 10) else none)) pc)) pc) else (fun pc => (bif Nat.ble pc 74 then (fun pc => bif Nat.beq pc 74 then some (.ifCond .le 5, 77, 79, 0) else none) else (fun pc => (bif Nat.ble pc 77 then (fun pc => bif Nat.beq pc 77 then some (.iconst 0, 78, 0, 0) else none) else (fun pc => bif Nat.beq pc 78 then some (.ireturn, 79, 0, 0) else none)) pc)) pc)) pc)) pc
/-- PackWeeksModel.takeSign(I)V -/
def kc_50 : Nat → Option en_I := fun pc => (bif Nat.ble pc 5 then (fun pc => (bif Nat.ble pc 1 then (fun pc => (bif Nat.ble pc 0 then (fun pc => bif Nat.beq pc 0 then some (.aload_n 0, 1, 0, 0) else none) else (fun pc => bif Nat.beq pc 1 then some (.iload_n 1, 2, 0, 0) else none)) pc) else (fun pc => (bif Nat.ble pc 2 then (fun pc => bif Nat.beq pc 2 then some (.invokevirtual 227, 5, 51, 162) else none) else (fun pc => bif Nat.beq pc 5 then some (.ifCond .eq 16, 8, 21, 0) else none)) pc)) pc) else (fun pc => (bif Nat.ble pc 22 then (fun pc => (bif Nat.ble pc 21 then (fun pc => bif Nat.beq pc 21 then some (.aload_n 0, 22, 0, 0) else none) else (fun pc => bif Nat.beq pc 22 then some (.iconst 1, 23, 1, 0) else none)) pc) else (fun pc => (bif Nat.ble pc 23 then (fun pc => bif Nat.beq pc 23 then some (.invokevirtual 230, 26, 48, 162) else none) else (fun pc => bif Nat.beq pc 26 then some (.return_, 27, 0, 0) else none)) pc)) pc)) pc
/-- PackWeeksModel.isSign(I)Z -/
def kc_51 : Nat → Option en_I := fun pc => (bif Nat.ble pc 1 then (fun pc => (bif Nat.ble pc 0 then (fun pc => bif Nat.beq pc 0 then some (.aload_n 0, 1, 0, 0) else none) else (fun pc => bif Nat.beq pc 1 then some (.getfield 224, 4, 8, 10) else none)) pc) else (fun pc => (bif Nat.ble pc 4 then (fun pc => bif Nat.beq pc 4 then some (.ifCond .ne 35, 7, 39, 0) else none) else (fun pc => (bif Nat.ble pc 39 then (fun pc => bif Nat.beq pc 39 then some (.iconst 0, 40, 0, 0) else none) else (fun pc => bif Nat.beq pc 40 then some (.ireturn, 41, 1, 0) else none)) pc)) pc)) pc
/-- PackWeeks.weeks()I -/
def kc_52 : Nat → Option en_I := fun pc => (bif Nat.ble pc 22 then (fun pc => (bif Nat.ble pc 8 then (fun pc => (bif Nat.ble pc 1 then (fun pc => (bif Nat.ble pc 0 then (fun pc => bif Nat.beq pc 0 then some (.aload_n 0, 1, 0, 0) else none) else (fun pc => bif Nat.beq pc 1 then some (.getfield 21, 4, 1, 9) else none)) pc) else (fun pc => (bif Nat.ble pc 4 then (fun pc => bif Nat.beq pc 4 then some (.aload_n 0, 5, 0, 0) else none) else (fun pc => (bif Nat.ble pc 5 then (fun pc => bif Nat.beq pc 5 then some (.getfield 71, 8, 10, 9) else none) else (fun pc => bif Nat.beq pc 8 then some (.aload_n 0, 9, 0, 0) else none)) pc)) pc)) pc) else (fun pc => (bif Nat.ble pc 15 then (fun pc => (bif Nat.ble pc 9 then (fun pc => bif Nat.beq pc 9 then some (.getfield 87, 12, 13, 9) else none) else (fun pc => (bif Nat.ble pc 12 then (fun pc => bif Nat.beq pc 12 then some (.invokevirtual 105, 15, 53, 51) else none) else (fun pc => bif Nat.beq pc 15 then some (.istore_n 1, 16, 0, 0) else none)) pc)) pc) else (fun pc => (bif Nat.ble pc 16 then (fun pc => bif Nat.beq pc 16 then some (.iload_n 1, 17, 0, 0) else none) else (fun pc => (bif Nat.ble pc 17 then (fun pc => bif Nat.beq pc 17 then some (.ifCond .eq 5, 20, 22, 0) else none) else (fun pc => bif Nat.beq pc 22 then some (.aload_n 0, 23, 0, 0) else none)) pc)) pc)) pc)) pc) else (fun pc => (bif Nat.ble pc 29 then (fun pc => (bif Nat.ble pc 26 then (fun pc => (bif Nat.ble pc 23 then (fun pc => bif Nat.beq pc 23 then some (.getfield 83, 26, 12, 9) else none) else (fun pc => bif Nat.beq pc 26 then some (.astore_n 2, 27, 0, 0) else none)) pc) else (fun pc => (bif Nat.ble pc 27 then (fun pc => bif Nat.beq pc 27 then some (.aload_n 0, 28, 0, 0) else none) else (fun pc => (bif Nat.ble pc 28 then (fun pc => bif Nat.beq pc 28 then some (.aload_n 0, 29, 0, 0) else none) else (fun pc => bif Nat.beq pc 29 then some (.getfield 87, 32, 13, 9) else none)) pc)) pc)) pc) else (fun pc => (bif Nat.ble pc 36 then (fun pc => (bif Nat.ble pc 32 then (fun pc => bif Nat.beq pc 32 then some (.putfield 83, 35, 12, 41) else none) else (fun pc => (bif Nat.ble pc 35 then (fun pc => bif Nat.beq pc 35 then some (.aload_n 0, 36, 0, 0) else none) else (fun pc => bif Nat.beq pc 36 then some (.aload_n 2, 37, 0, 0) else none)) pc)) pc) else (fun pc => (bif Nat.ble pc 37 then (fun pc => bif Nat.beq pc 37 then some (.putfield 87, 40, 13, 41) else none) else (fun pc => (bif Nat.ble pc 40 then (fun pc => bif Nat.beq pc 40 then some (.iconst 0, 41, 0, 0) else none) else (fun pc => bif Nat.beq pc 41 then some (.ireturn, 42, 0, 0) else none)) pc)) pc)) pc)) pc)) pc
/-- PackWeeks$Reader.readWeeks(LPackWeeks$Pack;LPackWeeks$Rows;)I -/
def kc_53 : Nat → Option en_I := fun pc => (bif Nat.ble pc 17 then (fun pc => (bif Nat.ble pc 6 then (fun pc => (bif Nat.ble pc 1 then (fun pc => (bif Nat.ble pc 0 then (fun pc => bif Nat.beq pc 0 then some (.aload_n 0, 1, 0, 0) else none) else (fun pc => bif Nat.beq pc 1 then some (.aload_n 1, 2, 0, 0) else none)) pc) else (fun pc => (bif Nat.ble pc 2 then (fun pc => bif Nat.beq pc 2 then some (.putfield 15, 5, 1, 35) else none) else (fun pc => (bif Nat.ble pc 5 then (fun pc => bif Nat.beq pc 5 then some (.aload_n 2, 6, 0, 0) else none) else (fun pc => bif Nat.beq pc 6 then some (.invokevirtual 340, 9, 11, 81) else none)) pc)) pc)) pc) else (fun pc => (bif Nat.ble pc 10 then (fun pc => (bif Nat.ble pc 9 then (fun pc => bif Nat.beq pc 9 then some (.aload_n 0, 10, 0, 0) else none) else (fun pc => bif Nat.beq pc 10 then some (.getfield 9, 13, 0, 3) else none)) pc) else (fun pc => (bif Nat.ble pc 13 then (fun pc => bif Nat.beq pc 13 then some (.invokevirtual 37, 16, 32, 129) else none) else (fun pc => (bif Nat.ble pc 16 then (fun pc => bif Nat.beq pc 16 then some (.iconst 0, 17, 0, 0) else none) else (fun pc => bif Nat.beq pc 17 then some (.istore_n 3, 18, 0, 0) else none)) pc)) pc)) pc)) pc) else (fun pc => (bif Nat.ble pc 26 then (fun pc => (bif Nat.ble pc 19 then (fun pc => (bif Nat.ble pc 18 then (fun pc => bif Nat.beq pc 18 then some (.iload_n 3, 19, 0, 0) else none) else (fun pc => bif Nat.beq pc 19 then some (.sipush 1000, 22, 1000, 0) else none)) pc) else (fun pc => (bif Nat.ble pc 22 then (fun pc => bif Nat.beq pc 22 then some (.if_icmp .ge 31, 25, 53, 0) else none) else (fun pc => (bif Nat.ble pc 25 then (fun pc => bif Nat.beq pc 25 then some (.aload_n 0, 26, 0, 0) else none) else (fun pc => bif Nat.beq pc 26 then some (.getfield 9, 29, 0, 3) else none)) pc)) pc)) pc) else (fun pc => (bif Nat.ble pc 53 then (fun pc => (bif Nat.ble pc 29 then (fun pc => bif Nat.beq pc 29 then some (.invokevirtual 67, 32, 42, 129) else none) else (fun pc => (bif Nat.ble pc 32 then (fun pc => bif Nat.beq pc 32 then some (.ifCond .eq 21, 35, 53, 0) else none) else (fun pc => bif Nat.beq pc 53 then some (.aload_n 0, 54, 0, 0) else none)) pc)) pc) else (fun pc => (bif Nat.ble pc 54 then (fun pc => bif Nat.beq pc 54 then some (.getfield 9, 57, 0, 3) else none) else (fun pc => (bif Nat.ble pc 57 then (fun pc => bif Nat.beq pc 57 then some (.getfield 78, 60, 1, 8) else none) else (fun pc => bif Nat.beq pc 60 then some (.ireturn, 61, 0, 0) else none)) pc)) pc)) pc)) pc)) pc
/-- PackWeeksModel.weeks()I -/
def kc_54 : Nat → Option en_I := fun pc => (bif Nat.ble pc 27 then (fun pc => (bif Nat.ble pc 11 then (fun pc => (bif Nat.ble pc 5 then (fun pc => (bif Nat.ble pc 1 then (fun pc => (bif Nat.ble pc 0 then (fun pc => bif Nat.beq pc 0 then some (.aload_n 0, 1, 0, 0) else none) else (fun pc => bif Nat.beq pc 1 then some (.iconst 0, 2, 0, 0) else none)) pc) else (fun pc => (bif Nat.ble pc 2 then (fun pc => bif Nat.beq pc 2 then some (.putfield 1, 5, 0, 10) else none) else (fun pc => bif Nat.beq pc 5 then some (.aload_n 0, 6, 0, 0) else none)) pc)) pc) else (fun pc => (bif Nat.ble pc 9 then (fun pc => (bif Nat.ble pc 6 then (fun pc => bif Nat.beq pc 6 then some (.invokevirtual 255, 9, 44, 161) else none) else (fun pc => bif Nat.beq pc 9 then some (.iconst 0, 10, 0, 0) else none)) pc) else (fun pc => (bif Nat.ble pc 10 then (fun pc => bif Nat.beq pc 10 then some (.istore_n 1, 11, 0, 0) else none) else (fun pc => bif Nat.beq pc 11 then some (.aload_n 0, 12, 0, 0) else none)) pc)) pc)) pc) else (fun pc => (bif Nat.ble pc 19 then (fun pc => (bif Nat.ble pc 15 then (fun pc => (bif Nat.ble pc 12 then (fun pc => bif Nat.beq pc 12 then some (.getfield 224, 15, 8, 10) else none) else (fun pc => bif Nat.beq pc 15 then some (.ifCond .ne 116, 18, 131, 0) else none)) pc) else (fun pc => (bif Nat.ble pc 18 then (fun pc => bif Nat.beq pc 18 then some (.aload_n 0, 19, 0, 0) else none) else (fun pc => bif Nat.beq pc 19 then some (.getfield 24, 22, 4, 10) else none)) pc)) pc) else (fun pc => (bif Nat.ble pc 23 then (fun pc => (bif Nat.ble pc 22 then (fun pc => bif Nat.beq pc 22 then some (.aload_n 0, 23, 0, 0) else none) else (fun pc => bif Nat.beq pc 23 then some (.getfield 221, 26, 7, 10) else none)) pc) else (fun pc => (bif Nat.ble pc 26 then (fun pc => bif Nat.beq pc 26 then some (.iaload, 27, 0, 0) else none) else (fun pc => bif Nat.beq pc 27 then some (.ifCond .eq 104, 30, 131, 0) else none)) pc)) pc)) pc)) pc) else (fun pc => (bif Nat.ble pc 149 then (fun pc => (bif Nat.ble pc 143 then (fun pc => (bif Nat.ble pc 132 then (fun pc => (bif Nat.ble pc 131 then (fun pc => bif Nat.beq pc 131 then some (.aload_n 0, 132, 0, 0) else none) else (fun pc => bif Nat.beq pc 132 then some (.getfield 224, 135, 8, 10) else none)) pc) else (fun pc => (bif Nat.ble pc 135 then (fun pc => bif Nat.beq pc 135 then some (.ifCond .le 8, 138, 143, 0) else none) else (fun pc => bif Nat.beq pc 143 then some (.aload_n 0, 144, 0, 0) else none)) pc)) pc) else (fun pc => (bif Nat.ble pc 147 then (fun pc => (bif Nat.ble pc 144 then (fun pc => bif Nat.beq pc 144 then some (.getfield 142, 147, 22, 10) else none) else (fun pc => bif Nat.beq pc 147 then some (.iconst 0, 148, 0, 0) else none)) pc) else (fun pc => (bif Nat.ble pc 148 then (fun pc => bif Nat.beq pc 148 then some (.iload_n 1, 149, 0, 0) else none) else (fun pc => bif Nat.beq pc 149 then some (.iastore, 150, 0, 0) else none)) pc)) pc)) pc) else (fun pc => (bif Nat.ble pc 153 then (fun pc => (bif Nat.ble pc 151 then (fun pc => (bif Nat.ble pc 150 then (fun pc => bif Nat.beq pc 150 then some (.iconst 0, 151, 0, 0) else none) else (fun pc => bif Nat.beq pc 151 then some (.istore_n 2, 152, 0, 0) else none)) pc) else (fun pc => (bif Nat.ble pc 152 then (fun pc => bif Nat.beq pc 152 then some (.iload_n 2, 153, 0, 0) else none) else (fun pc => bif Nat.beq pc 153 then some (.iconst 4, 154, 4, 0) else none)) pc)) pc) else (fun pc => (bif Nat.ble pc 155 then (fun pc => (bif Nat.ble pc 154 then (fun pc => bif Nat.beq pc 154 then some (.iload_n 1, 155, 0, 0) else none) else (fun pc => bif Nat.beq pc 155 then some (.imul, 156, 0, 0) else none)) pc) else (fun pc => (bif Nat.ble pc 156 then (fun pc => bif Nat.beq pc 156 then some (.if_icmp .ge 26, 159, 182, 0) else none) else (fun pc => (bif Nat.ble pc 182 then (fun pc => bif Nat.beq pc 182 then some (.iconst 0, 183, 0, 0) else none) else (fun pc => bif Nat.beq pc 183 then some (.ireturn, 184, 0, 0) else none)) pc)) pc)) pc)) pc)) pc)) pc
/-- PackWeeks.flow(II)I -/
def kc_55 : Nat → Option en_I := fun pc => (bif Nat.ble pc 13 then (fun pc => (bif Nat.ble pc 5 then (fun pc => (bif Nat.ble pc 1 then (fun pc => (bif Nat.ble pc 0 then (fun pc => bif Nat.beq pc 0 then some (.aload_n 0, 1, 0, 0) else none) else (fun pc => bif Nat.beq pc 1 then some (.getfield 71, 4, 10, 9) else none)) pc) else (fun pc => (bif Nat.ble pc 4 then (fun pc => bif Nat.beq pc 4 then some (.iload_n 1, 5, 0, 0) else none) else (fun pc => bif Nat.beq pc 5 then some (.iload_n 2, 6, 0, 0) else none)) pc)) pc) else (fun pc => (bif Nat.ble pc 9 then (fun pc => (bif Nat.ble pc 6 then (fun pc => bif Nat.beq pc 6 then some (.invokevirtual 109, 9, 18, 19) else none) else (fun pc => bif Nat.beq pc 9 then some (.ifCond .eq 19, 12, 28, 0) else none)) pc) else (fun pc => (bif Nat.ble pc 12 then (fun pc => bif Nat.beq pc 12 then some (.aload_n 0, 13, 0, 0) else none) else (fun pc => bif Nat.beq pc 13 then some (.getfield 71, 16, 10, 9) else none)) pc)) pc)) pc) else (fun pc => (bif Nat.ble pc 21 then (fun pc => (bif Nat.ble pc 19 then (fun pc => (bif Nat.ble pc 16 then (fun pc => bif Nat.beq pc 16 then some (.getfield 113, 19, 3, 1) else none) else (fun pc => bif Nat.beq pc 19 then some (.iload_n 1, 20, 0, 0) else none)) pc) else (fun pc => (bif Nat.ble pc 20 then (fun pc => bif Nat.beq pc 20 then some (.iload_n 2, 21, 0, 0) else none) else (fun pc => bif Nat.beq pc 21 then some (.invokestatic 117, 24, 19, 2) else none)) pc)) pc) else (fun pc => (bif Nat.ble pc 25 then (fun pc => (bif Nat.ble pc 24 then (fun pc => bif Nat.beq pc 24 then some (.iaload, 25, 0, 0) else none) else (fun pc => bif Nat.beq pc 25 then some (.goto 4, 28, 29, 0) else none)) pc) else (fun pc => (bif Nat.ble pc 28 then (fun pc => bif Nat.beq pc 28 then some (.iconst (-1), 29, 4294967295, 0) else none) else (fun pc => bif Nat.beq pc 29 then some (.ireturn, 30, 0, 0) else none)) pc)) pc)) pc)) pc
/-- PackWeeksModel.flow(II)I -/
def kc_56 : Nat → Option en_I := fun pc => (bif Nat.ble pc 15 then (fun pc => (bif Nat.ble pc 6 then (fun pc => (bif Nat.ble pc 1 then (fun pc => (bif Nat.ble pc 0 then (fun pc => bif Nat.beq pc 0 then some (.aload_n 0, 1, 0, 0) else none) else (fun pc => bif Nat.beq pc 1 then some (.iconst 0, 2, 0, 0) else none)) pc) else (fun pc => (bif Nat.ble pc 2 then (fun pc => bif Nat.beq pc 2 then some (.putfield 1, 5, 0, 10) else none) else (fun pc => (bif Nat.ble pc 5 then (fun pc => bif Nat.beq pc 5 then some (.aload_n 0, 6, 0, 0) else none) else (fun pc => bif Nat.beq pc 6 then some (.iload_n 1, 7, 0, 0) else none)) pc)) pc)) pc) else (fun pc => (bif Nat.ble pc 8 then (fun pc => (bif Nat.ble pc 7 then (fun pc => bif Nat.beq pc 7 then some (.iload_n 2, 8, 0, 0) else none) else (fun pc => bif Nat.beq pc 8 then some (.invokevirtual 377, 11, 57, 163) else none)) pc) else (fun pc => (bif Nat.ble pc 11 then (fun pc => bif Nat.beq pc 11 then some (.ifCond .eq 20, 14, 31, 0) else none) else (fun pc => (bif Nat.ble pc 14 then (fun pc => bif Nat.beq pc 14 then some (.aload_n 0, 15, 0, 0) else none) else (fun pc => bif Nat.beq pc 15 then some (.getfield 121, 18, 10, 10) else none)) pc)) pc)) pc)) pc) else (fun pc => (bif Nat.ble pc 24 then (fun pc => (bif Nat.ble pc 20 then (fun pc => (bif Nat.ble pc 18 then (fun pc => bif Nat.beq pc 18 then some (.bipush 12, 20, 12, 0) else none) else (fun pc => bif Nat.beq pc 20 then some (.bipush 8, 22, 8, 0) else none)) pc) else (fun pc => (bif Nat.ble pc 22 then (fun pc => bif Nat.beq pc 22 then some (.iload_n 2, 23, 0, 0) else none) else (fun pc => (bif Nat.ble pc 23 then (fun pc => bif Nat.beq pc 23 then some (.imul, 24, 0, 0) else none) else (fun pc => bif Nat.beq pc 24 then some (.iadd, 25, 0, 0) else none)) pc)) pc)) pc) else (fun pc => (bif Nat.ble pc 27 then (fun pc => (bif Nat.ble pc 25 then (fun pc => bif Nat.beq pc 25 then some (.iload_n 1, 26, 0, 0) else none) else (fun pc => (bif Nat.ble pc 26 then (fun pc => bif Nat.beq pc 26 then some (.iadd, 27, 0, 0) else none) else (fun pc => bif Nat.beq pc 27 then some (.iaload, 28, 0, 0) else none)) pc)) pc) else (fun pc => (bif Nat.ble pc 28 then (fun pc => bif Nat.beq pc 28 then some (.goto 4, 31, 32, 0) else none) else (fun pc => (bif Nat.ble pc 31 then (fun pc => bif Nat.beq pc 31 then some (.iconst (-1), 32, 4294967295, 0) else none) else (fun pc => bif Nat.beq pc 32 then some (.ireturn, 33, 0, 0) else none)) pc)) pc)) pc)) pc)) pc
/-- PackWeeksModel.isPlace(II)Z -/
def kc_57 : Nat → Option en_I := fun pc => (bif Nat.ble pc 15 then (fun pc => (bif Nat.ble pc 6 then (fun pc => (bif Nat.ble pc 1 then (fun pc => (bif Nat.ble pc 0 then (fun pc => bif Nat.beq pc 0 then some (.iload_n 1, 1, 0, 0) else none) else (fun pc => bif Nat.beq pc 1 then some (.ifCond .lt 31, 4, 32, 0) else none)) pc) else (fun pc => (bif Nat.ble pc 4 then (fun pc => bif Nat.beq pc 4 then some (.iload_n 1, 5, 0, 0) else none) else (fun pc => (bif Nat.ble pc 5 then (fun pc => bif Nat.beq pc 5 then some (.aload_n 0, 6, 0, 0) else none) else (fun pc => bif Nat.beq pc 6 then some (.getfield 121, 9, 10, 10) else none)) pc)) pc)) pc) else (fun pc => (bif Nat.ble pc 10 then (fun pc => (bif Nat.ble pc 9 then (fun pc => bif Nat.beq pc 9 then some (.iconst 0, 10, 0, 0) else none) else (fun pc => bif Nat.beq pc 10 then some (.iaload, 11, 0, 0) else none)) pc) else (fun pc => (bif Nat.ble pc 11 then (fun pc => bif Nat.beq pc 11 then some (.if_icmp .ge 21, 14, 32, 0) else none) else (fun pc => (bif Nat.ble pc 14 then (fun pc => bif Nat.beq pc 14 then some (.iload_n 2, 15, 0, 0) else none) else (fun pc => bif Nat.beq pc 15 then some (.ifCond .lt 17, 18, 32, 0) else none)) pc)) pc)) pc)) pc) else (fun pc => (bif Nat.ble pc 24 then (fun pc => (bif Nat.ble pc 19 then (fun pc => (bif Nat.ble pc 18 then (fun pc => bif Nat.beq pc 18 then some (.iload_n 2, 19, 0, 0) else none) else (fun pc => bif Nat.beq pc 19 then some (.aload_n 0, 20, 0, 0) else none)) pc) else (fun pc => (bif Nat.ble pc 20 then (fun pc => bif Nat.beq pc 20 then some (.getfield 121, 23, 10, 10) else none) else (fun pc => (bif Nat.ble pc 23 then (fun pc => bif Nat.beq pc 23 then some (.iconst 1, 24, 1, 0) else none) else (fun pc => bif Nat.beq pc 24 then some (.iaload, 25, 0, 0) else none)) pc)) pc)) pc) else (fun pc => (bif Nat.ble pc 28 then (fun pc => (bif Nat.ble pc 25 then (fun pc => bif Nat.beq pc 25 then some (.if_icmp .ge 7, 28, 32, 0) else none) else (fun pc => bif Nat.beq pc 28 then some (.iconst 1, 29, 1, 0) else none)) pc) else (fun pc => (bif Nat.ble pc 29 then (fun pc => bif Nat.beq pc 29 then some (.goto 4, 32, 33, 0) else none) else (fun pc => (bif Nat.ble pc 32 then (fun pc => bif Nat.beq pc 32 then some (.iconst 0, 33, 0, 0) else none) else (fun pc => bif Nat.beq pc 33 then some (.ireturn, 34, 1, 0) else none)) pc)) pc)) pc)) pc)) pc
/-- PackWeeks.open(III)I -/
def kc_58 : Nat → Option en_I := fun pc => (bif Nat.ble pc 25 then (fun pc => (bif Nat.ble pc 12 then (fun pc => (bif Nat.ble pc 4 then (fun pc => (bif Nat.ble pc 0 then (fun pc => bif Nat.beq pc 0 then some (.aload_n 0, 1, 0, 0) else none) else (fun pc => (bif Nat.ble pc 1 then (fun pc => bif Nat.beq pc 1 then some (.getfield 71, 4, 10, 9) else none) else (fun pc => bif Nat.beq pc 4 then some (.iload_n 1, 5, 0, 0) else none)) pc)) pc) else (fun pc => (bif Nat.ble pc 6 then (fun pc => (bif Nat.ble pc 5 then (fun pc => bif Nat.beq pc 5 then some (.iload_n 2, 6, 0, 0) else none) else (fun pc => bif Nat.beq pc 6 then some (.invokevirtual 109, 9, 18, 19) else none)) pc) else (fun pc => (bif Nat.ble pc 9 then (fun pc => bif Nat.beq pc 9 then some (.ifCond .eq 14, 12, 23, 0) else none) else (fun pc => bif Nat.beq pc 12 then some (.iload_n 3, 13, 0, 0) else none)) pc)) pc)) pc) else (fun pc => (bif Nat.ble pc 17 then (fun pc => (bif Nat.ble pc 13 then (fun pc => bif Nat.beq pc 13 then some (.iconst 0, 14, 0, 0) else none) else (fun pc => (bif Nat.ble pc 14 then (fun pc => bif Nat.beq pc 14 then some (.sipush 200, 17, 200, 0) else none) else (fun pc => bif Nat.beq pc 17 then some (.invokestatic 121, 20, 60, 3) else none)) pc)) pc) else (fun pc => (bif Nat.ble pc 23 then (fun pc => (bif Nat.ble pc 20 then (fun pc => bif Nat.beq pc 20 then some (.ifCond .ne 5, 23, 25, 0) else none) else (fun pc => bif Nat.beq pc 23 then some (.iconst (-1), 24, 4294967295, 0) else none)) pc) else (fun pc => (bif Nat.ble pc 24 then (fun pc => bif Nat.beq pc 24 then some (.ireturn, 25, 0, 0) else none) else (fun pc => bif Nat.beq pc 25 then some (.aload_n 0, 26, 0, 0) else none)) pc)) pc)) pc)) pc) else (fun pc => (bif Nat.ble pc 38 then (fun pc => (bif Nat.ble pc 30 then (fun pc => (bif Nat.ble pc 26 then (fun pc => bif Nat.beq pc 26 then some (.getfield 71, 29, 10, 9) else none) else (fun pc => (bif Nat.ble pc 29 then (fun pc => bif Nat.beq pc 29 then some (.aload_n 0, 30, 0, 0) else none) else (fun pc => bif Nat.beq pc 30 then some (.getfield 28, 33, 2, 9) else none)) pc)) pc) else (fun pc => (bif Nat.ble pc 36 then (fun pc => (bif Nat.ble pc 33 then (fun pc => bif Nat.beq pc 33 then some (.getfield 125, 36, 0, 7) else none) else (fun pc => bif Nat.beq pc 36 then some (.iload_n 3, 37, 0, 0) else none)) pc) else (fun pc => (bif Nat.ble pc 37 then (fun pc => bif Nat.beq pc 37 then some (.iadd, 38, 0, 0) else none) else (fun pc => bif Nat.beq pc 38 then some (.invokevirtual 128, 41, 62, 18) else none)) pc)) pc)) pc) else (fun pc => (bif Nat.ble pc 43 then (fun pc => (bif Nat.ble pc 41 then (fun pc => bif Nat.beq pc 41 then some (.iload_n 1, 42, 0, 0) else none) else (fun pc => (bif Nat.ble pc 42 then (fun pc => bif Nat.beq pc 42 then some (.iload_n 2, 43, 0, 0) else none) else (fun pc => bif Nat.beq pc 43 then some (.invokestatic 117, 46, 19, 2) else none)) pc)) pc) else (fun pc => (bif Nat.ble pc 49 then (fun pc => (bif Nat.ble pc 46 then (fun pc => bif Nat.beq pc 46 then some (.invokestatic 132, 49, 63, 2) else none) else (fun pc => bif Nat.beq pc 49 then some (.ifCond .eq 7, 52, 56, 0) else none)) pc) else (fun pc => (bif Nat.ble pc 56 then (fun pc => bif Nat.beq pc 56 then some (.iconst 0, 57, 0, 0) else none) else (fun pc => bif Nat.beq pc 57 then some (.ireturn, 58, 0, 0) else none)) pc)) pc)) pc)) pc)) pc
/-- PackWeeksModel.open(III)I -/
def kc_59 : Nat → Option en_I := fun pc => (bif Nat.ble pc 26 then (fun pc => (bif Nat.ble pc 8 then (fun pc => (bif Nat.ble pc 2 then (fun pc => (bif Nat.ble pc 0 then (fun pc => bif Nat.beq pc 0 then some (.aload_n 0, 1, 0, 0) else none) else (fun pc => (bif Nat.ble pc 1 then (fun pc => bif Nat.beq pc 1 then some (.iconst 0, 2, 0, 0) else none) else (fun pc => bif Nat.beq pc 2 then some (.putfield 1, 5, 0, 10) else none)) pc)) pc) else (fun pc => (bif Nat.ble pc 6 then (fun pc => (bif Nat.ble pc 5 then (fun pc => bif Nat.beq pc 5 then some (.aload_n 0, 6, 0, 0) else none) else (fun pc => bif Nat.beq pc 6 then some (.iload_n 1, 7, 0, 0) else none)) pc) else (fun pc => (bif Nat.ble pc 7 then (fun pc => bif Nat.beq pc 7 then some (.iload_n 2, 8, 0, 0) else none) else (fun pc => bif Nat.beq pc 8 then some (.invokevirtual 377, 11, 57, 163) else none)) pc)) pc)) pc) else (fun pc => (bif Nat.ble pc 16 then (fun pc => (bif Nat.ble pc 14 then (fun pc => (bif Nat.ble pc 11 then (fun pc => bif Nat.beq pc 11 then some (.ifCond .eq 14, 14, 25, 0) else none) else (fun pc => bif Nat.beq pc 14 then some (.iload_n 3, 15, 0, 0) else none)) pc) else (fun pc => (bif Nat.ble pc 15 then (fun pc => bif Nat.beq pc 15 then some (.iconst 0, 16, 0, 0) else none) else (fun pc => bif Nat.beq pc 16 then some (.sipush 200, 19, 200, 0) else none)) pc)) pc) else (fun pc => (bif Nat.ble pc 22 then (fun pc => (bif Nat.ble pc 19 then (fun pc => bif Nat.beq pc 19 then some (.invokestatic 320, 22, 61, 3) else none) else (fun pc => bif Nat.beq pc 22 then some (.ifCond .ne 7, 25, 29, 0) else none)) pc) else (fun pc => (bif Nat.ble pc 25 then (fun pc => bif Nat.beq pc 25 then some (.iconst (-1), 26, 4294967295, 0) else none) else (fun pc => bif Nat.beq pc 26 then some (.goto 29, 29, 55, 0) else none)) pc)) pc)) pc)) pc) else (fun pc => (bif Nat.ble pc 37 then (fun pc => (bif Nat.ble pc 33 then (fun pc => (bif Nat.ble pc 30 then (fun pc => (bif Nat.ble pc 29 then (fun pc => bif Nat.beq pc 29 then some (.aload_n 0, 30, 0, 0) else none) else (fun pc => bif Nat.beq pc 30 then some (.bipush 8, 32, 8, 0) else none)) pc) else (fun pc => (bif Nat.ble pc 32 then (fun pc => bif Nat.beq pc 32 then some (.iload_n 2, 33, 0, 0) else none) else (fun pc => bif Nat.beq pc 33 then some (.imul, 34, 0, 0) else none)) pc)) pc) else (fun pc => (bif Nat.ble pc 35 then (fun pc => (bif Nat.ble pc 34 then (fun pc => bif Nat.beq pc 34 then some (.iload_n 1, 35, 0, 0) else none) else (fun pc => bif Nat.beq pc 35 then some (.iadd, 36, 0, 0) else none)) pc) else (fun pc => (bif Nat.ble pc 36 then (fun pc => bif Nat.beq pc 36 then some (.aload_n 0, 37, 0, 0) else none) else (fun pc => bif Nat.beq pc 37 then some (.getfield 151, 40, 25, 10) else none)) pc)) pc)) pc) else (fun pc => (bif Nat.ble pc 43 then (fun pc => (bif Nat.ble pc 41 then (fun pc => (bif Nat.ble pc 40 then (fun pc => bif Nat.beq pc 40 then some (.iconst 0, 41, 0, 0) else none) else (fun pc => bif Nat.beq pc 41 then some (.iaload, 42, 0, 0) else none)) pc) else (fun pc => (bif Nat.ble pc 42 then (fun pc => bif Nat.beq pc 42 then some (.iload_n 3, 43, 0, 0) else none) else (fun pc => bif Nat.beq pc 43 then some (.iadd, 44, 0, 0) else none)) pc)) pc) else (fun pc => (bif Nat.ble pc 47 then (fun pc => (bif Nat.ble pc 44 then (fun pc => bif Nat.beq pc 44 then some (.invokevirtual 384, 47, 64, 163) else none) else (fun pc => bif Nat.beq pc 47 then some (.ifCond .eq 7, 50, 54, 0) else none)) pc) else (fun pc => (bif Nat.ble pc 54 then (fun pc => bif Nat.beq pc 54 then some (.iconst 0, 55, 0, 0) else none) else (fun pc => bif Nat.beq pc 55 then some (.ireturn, 56, 0, 0) else none)) pc)) pc)) pc)) pc)) pc
/-- PackWeeks.isWithin(III)Z -/
def kc_60 : Nat → Option en_I := fun pc => (bif Nat.ble pc 6 then (fun pc => (bif Nat.ble pc 1 then (fun pc => (bif Nat.ble pc 0 then (fun pc => bif Nat.beq pc 0 then some (.iload_n 0, 1, 0, 0) else none) else (fun pc => bif Nat.beq pc 1 then some (.iload_n 1, 2, 0, 0) else none)) pc) else (fun pc => (bif Nat.ble pc 2 then (fun pc => bif Nat.beq pc 2 then some (.if_icmp .lt 12, 5, 14, 0) else none) else (fun pc => (bif Nat.ble pc 5 then (fun pc => bif Nat.beq pc 5 then some (.iload_n 0, 6, 0, 0) else none) else (fun pc => bif Nat.beq pc 6 then some (.iload_n 2, 7, 0, 0) else none)) pc)) pc)) pc) else (fun pc => (bif Nat.ble pc 10 then (fun pc => (bif Nat.ble pc 7 then (fun pc => bif Nat.beq pc 7 then some (.if_icmp .gt 7, 10, 14, 0) else none) else (fun pc => bif Nat.beq pc 10 then some (.iconst 1, 11, 1, 0) else none)) pc) else (fun pc => (bif Nat.ble pc 11 then (fun pc => bif Nat.beq pc 11 then some (.goto 4, 14, 15, 0) else none) else (fun pc => (bif Nat.ble pc 14 then (fun pc => bif Nat.beq pc 14 then some (.iconst 0, 15, 0, 0) else none) else (fun pc => bif Nat.beq pc 15 then some (.ireturn, 16, 1, 0) else none)) pc)) pc)) pc)) pc
/-- PackWeeksModel.within(III)Z -/
def kc_61 : Nat → Option en_I := fun pc => (bif Nat.ble pc 6 then (fun pc => (bif Nat.ble pc 1 then (fun pc => (bif Nat.ble pc 0 then (fun pc => bif Nat.beq pc 0 then some (.iload_n 0, 1, 0, 0) else none) else (fun pc => bif Nat.beq pc 1 then some (.iload_n 1, 2, 0, 0) else none)) pc) else (fun pc => (bif Nat.ble pc 2 then (fun pc => bif Nat.beq pc 2 then some (.if_icmp .lt 12, 5, 14, 0) else none) else (fun pc => (bif Nat.ble pc 5 then (fun pc => bif Nat.beq pc 5 then some (.iload_n 0, 6, 0, 0) else none) else (fun pc => bif Nat.beq pc 6 then some (.iload_n 2, 7, 0, 0) else none)) pc)) pc)) pc) else (fun pc => (bif Nat.ble pc 10 then (fun pc => (bif Nat.ble pc 7 then (fun pc => bif Nat.beq pc 7 then some (.if_icmp .gt 7, 10, 14, 0) else none) else (fun pc => bif Nat.beq pc 10 then some (.iconst 1, 11, 1, 0) else none)) pc) else (fun pc => (bif Nat.ble pc 11 then (fun pc => bif Nat.beq pc 11 then some (.goto 4, 14, 15, 0) else none) else (fun pc => (bif Nat.ble pc 14 then (fun pc => bif Nat.beq pc 14 then some (.iconst 0, 15, 0, 0) else none) else (fun pc => bif Nat.beq pc 15 then some (.ireturn, 16, 1, 0) else none)) pc)) pc)) pc)) pc
/-- PackWeeks$Pack.openLeads(I)J -/
def kc_62 : Nat → Option en_I := fun pc => (bif Nat.ble pc 5 then (fun pc => (bif Nat.ble pc 1 then (fun pc => (bif Nat.ble pc 0 then (fun pc => bif Nat.beq pc 0 then some (.lconst 0, 1, 0, 0) else none) else (fun pc => bif Nat.beq pc 1 then some (.lstore_n 2, 2, 0, 0) else none)) pc) else (fun pc => (bif Nat.ble pc 2 then (fun pc => bif Nat.beq pc 2 then some (.iconst 0, 3, 0, 0) else none) else (fun pc => (bif Nat.ble pc 3 then (fun pc => bif Nat.beq pc 3 then some (.istore 4, 5, 0, 0) else none) else (fun pc => bif Nat.beq pc 5 then some (.iload 4, 7, 0, 0) else none)) pc)) pc)) pc) else (fun pc => (bif Nat.ble pc 11 then (fun pc => (bif Nat.ble pc 7 then (fun pc => bif Nat.beq pc 7 then some (.aload_n 0, 8, 0, 0) else none) else (fun pc => (bif Nat.ble pc 8 then (fun pc => bif Nat.beq pc 8 then some (.getfield 27, 11, 6, 1) else none) else (fun pc => bif Nat.beq pc 11 then some (.getfield 111, 14, 5, 5) else none)) pc)) pc) else (fun pc => (bif Nat.ble pc 14 then (fun pc => bif Nat.beq pc 14 then some (.if_icmp .ge 72, 17, 86, 0) else none) else (fun pc => (bif Nat.ble pc 86 then (fun pc => bif Nat.beq pc 86 then some (.lload_n 2, 87, 0, 0) else none) else (fun pc => bif Nat.beq pc 87 then some (.lreturn, 88, 0, 0) else none)) pc)) pc)) pc)) pc
/-- PackWeeks.has(JI)Z -/
def kc_63 : Nat → Option en_I := fun pc => (bif Nat.ble pc 6 then (fun pc => (bif Nat.ble pc 1 then (fun pc => (bif Nat.ble pc 0 then (fun pc => bif Nat.beq pc 0 then some (.lload_n 0, 1, 0, 0) else none) else (fun pc => bif Nat.beq pc 1 then some (.iload_n 2, 2, 0, 0) else none)) pc) else (fun pc => (bif Nat.ble pc 2 then (fun pc => bif Nat.beq pc 2 then some (.invokestatic 348, 5, 20, 1) else none) else (fun pc => (bif Nat.ble pc 5 then (fun pc => bif Nat.beq pc 5 then some (.land, 6, 0, 0) else none) else (fun pc => bif Nat.beq pc 6 then some (.lconst 0, 7, 0, 0) else none)) pc)) pc)) pc) else (fun pc => (bif Nat.ble pc 11 then (fun pc => (bif Nat.ble pc 7 then (fun pc => bif Nat.beq pc 7 then some (.lcmp, 8, 0, 0) else none) else (fun pc => (bif Nat.ble pc 8 then (fun pc => bif Nat.beq pc 8 then some (.ifCond .eq 7, 11, 15, 0) else none) else (fun pc => bif Nat.beq pc 11 then some (.iconst 1, 12, 1, 0) else none)) pc)) pc) else (fun pc => (bif Nat.ble pc 12 then (fun pc => bif Nat.beq pc 12 then some (.goto 4, 15, 16, 0) else none) else (fun pc => (bif Nat.ble pc 15 then (fun pc => bif Nat.beq pc 15 then some (.iconst 0, 16, 0, 0) else none) else (fun pc => bif Nat.beq pc 16 then some (.ireturn, 17, 1, 0) else none)) pc)) pc)) pc)) pc
/-- PackWeeksModel.isOpen(II)Z -/
def kc_64 : Nat → Option en_I := fun pc => (bif Nat.ble pc 7 then (fun pc => (bif Nat.ble pc 2 then (fun pc => (bif Nat.ble pc 0 then (fun pc => bif Nat.beq pc 0 then some (.iconst 0, 1, 0, 0) else none) else (fun pc => (bif Nat.ble pc 1 then (fun pc => bif Nat.beq pc 1 then some (.istore_n 3, 2, 0, 0) else none) else (fun pc => bif Nat.beq pc 2 then some (.iconst 0, 3, 0, 0) else none)) pc)) pc) else (fun pc => (bif Nat.ble pc 3 then (fun pc => bif Nat.beq pc 3 then some (.istore 4, 5, 0, 0) else none) else (fun pc => (bif Nat.ble pc 5 then (fun pc => bif Nat.beq pc 5 then some (.iload 4, 7, 0, 0) else none) else (fun pc => bif Nat.beq pc 7 then some (.aload_n 0, 8, 0, 0) else none)) pc)) pc)) pc) else (fun pc => (bif Nat.ble pc 12 then (fun pc => (bif Nat.ble pc 8 then (fun pc => bif Nat.beq pc 8 then some (.getfield 121, 11, 10, 10) else none) else (fun pc => (bif Nat.ble pc 11 then (fun pc => bif Nat.beq pc 11 then some (.iconst 3, 12, 3, 0) else none) else (fun pc => bif Nat.beq pc 12 then some (.iaload, 13, 0, 0) else none)) pc)) pc) else (fun pc => (bif Nat.ble pc 13 then (fun pc => bif Nat.beq pc 13 then some (.if_icmp .ge 100, 16, 113, 0) else none) else (fun pc => (bif Nat.ble pc 113 then (fun pc => bif Nat.beq pc 113 then some (.iload_n 3, 114, 0, 0) else none) else (fun pc => bif Nat.beq pc 114 then some (.ireturn, 115, 1, 0) else none)) pc)) pc)) pc)) pc
/-- PackWeeks.drift(I)I -/
def kc_65 : Nat → Option en_I := fun pc => (bif Nat.ble pc 10 then (fun pc => (bif Nat.ble pc 2 then (fun pc => (bif Nat.ble pc 0 then (fun pc => bif Nat.beq pc 0 then some (.iload_n 1, 1, 0, 0) else none) else (fun pc => (bif Nat.ble pc 1 then (fun pc => bif Nat.beq pc 1 then some (.iconst 1, 2, 1, 0) else none) else (fun pc => bif Nat.beq pc 2 then some (.bipush 30, 4, 30, 0) else none)) pc)) pc) else (fun pc => (bif Nat.ble pc 4 then (fun pc => bif Nat.beq pc 4 then some (.invokestatic 121, 7, 60, 3) else none) else (fun pc => (bif Nat.ble pc 7 then (fun pc => bif Nat.beq pc 7 then some (.ifCond .ne 5, 10, 12, 0) else none) else (fun pc => bif Nat.beq pc 10 then some (.iconst (-1), 11, 4294967295, 0) else none)) pc)) pc)) pc) else (fun pc => (bif Nat.ble pc 13 then (fun pc => (bif Nat.ble pc 11 then (fun pc => bif Nat.beq pc 11 then some (.ireturn, 12, 0, 0) else none) else (fun pc => (bif Nat.ble pc 12 then (fun pc => bif Nat.beq pc 12 then some (.aload_n 0, 13, 0, 0) else none) else (fun pc => bif Nat.beq pc 13 then some (.iconst 0, 14, 0, 0) else none)) pc)) pc) else (fun pc => (bif Nat.ble pc 15 then (fun pc => (bif Nat.ble pc 14 then (fun pc => bif Nat.beq pc 14 then some (.iconst (-1), 15, 4294967295, 0) else none) else (fun pc => bif Nat.beq pc 15 then some (.iload_n 1, 16, 0, 0) else none)) pc) else (fun pc => (bif Nat.ble pc 16 then (fun pc => bif Nat.beq pc 16 then some (.invokevirtual 190, 19, 67, 148) else none) else (fun pc => bif Nat.beq pc 19 then some (.ireturn, 20, 0, 0) else none)) pc)) pc)) pc)) pc
/-- PackWeeksModel.drift(I)I -/
def kc_66 : Nat → Option en_I := fun pc => (bif Nat.ble pc 22 then (fun pc => (bif Nat.ble pc 9 then (fun pc => (bif Nat.ble pc 2 then (fun pc => (bif Nat.ble pc 0 then (fun pc => bif Nat.beq pc 0 then some (.aload_n 0, 1, 0, 0) else none) else (fun pc => (bif Nat.ble pc 1 then (fun pc => bif Nat.beq pc 1 then some (.iconst 0, 2, 0, 0) else none) else (fun pc => bif Nat.beq pc 2 then some (.putfield 1, 5, 0, 10) else none)) pc)) pc) else (fun pc => (bif Nat.ble pc 6 then (fun pc => (bif Nat.ble pc 5 then (fun pc => bif Nat.beq pc 5 then some (.iload_n 1, 6, 0, 0) else none) else (fun pc => bif Nat.beq pc 6 then some (.iconst 1, 7, 1, 0) else none)) pc) else (fun pc => (bif Nat.ble pc 7 then (fun pc => bif Nat.beq pc 7 then some (.bipush 30, 9, 30, 0) else none) else (fun pc => bif Nat.beq pc 9 then some (.invokestatic 320, 12, 61, 3) else none)) pc)) pc)) pc) else (fun pc => (bif Nat.ble pc 16 then (fun pc => (bif Nat.ble pc 12 then (fun pc => bif Nat.beq pc 12 then some (.ifCond .ne 5, 15, 17, 0) else none) else (fun pc => (bif Nat.ble pc 15 then (fun pc => bif Nat.beq pc 15 then some (.iconst (-1), 16, 4294967295, 0) else none) else (fun pc => bif Nat.beq pc 16 then some (.ireturn, 17, 0, 0) else none)) pc)) pc) else (fun pc => (bif Nat.ble pc 18 then (fun pc => (bif Nat.ble pc 17 then (fun pc => bif Nat.beq pc 17 then some (.aload_n 0, 18, 0, 0) else none) else (fun pc => bif Nat.beq pc 18 then some (.invokevirtual 414, 21, 72, 161) else none)) pc) else (fun pc => (bif Nat.ble pc 21 then (fun pc => bif Nat.beq pc 21 then some (.iconst 0, 22, 0, 0) else none) else (fun pc => bif Nat.beq pc 22 then some (.istore_n 2, 23, 0, 0) else none)) pc)) pc)) pc)) pc) else (fun pc => (bif Nat.ble pc 33 then (fun pc => (bif Nat.ble pc 25 then (fun pc => (bif Nat.ble pc 23 then (fun pc => bif Nat.beq pc 23 then some (.iload_n 2, 24, 0, 0) else none) else (fun pc => (bif Nat.ble pc 24 then (fun pc => bif Nat.beq pc 24 then some (.iload_n 1, 25, 0, 0) else none) else (fun pc => bif Nat.beq pc 25 then some (.if_icmp .ge 15, 28, 40, 0) else none)) pc)) pc) else (fun pc => (bif Nat.ble pc 29 then (fun pc => (bif Nat.ble pc 28 then (fun pc => bif Nat.beq pc 28 then some (.aload_n 0, 29, 0, 0) else none) else (fun pc => bif Nat.beq pc 29 then some (.iconst 0, 30, 0, 0) else none)) pc) else (fun pc => (bif Nat.ble pc 30 then (fun pc => bif Nat.beq pc 30 then some (.invokevirtual 417, 33, 74, 162) else none) else (fun pc => bif Nat.beq pc 33 then some (.pop, 34, 0, 0) else none)) pc)) pc)) pc) else (fun pc => (bif Nat.ble pc 40 then (fun pc => (bif Nat.ble pc 34 then (fun pc => bif Nat.beq pc 34 then some (.iinc 2 1, 37, 1, 0) else none) else (fun pc => (bif Nat.ble pc 37 then (fun pc => bif Nat.beq pc 37 then some (.goto (-14), 40, 23, 0) else none) else (fun pc => bif Nat.beq pc 40 then some (.aload_n 0, 41, 0, 0) else none)) pc)) pc) else (fun pc => (bif Nat.ble pc 44 then (fun pc => (bif Nat.ble pc 41 then (fun pc => bif Nat.beq pc 41 then some (.getfield 151, 44, 25, 10) else none) else (fun pc => bif Nat.beq pc 44 then some (.iconst 0, 45, 0, 0) else none)) pc) else (fun pc => (bif Nat.ble pc 45 then (fun pc => bif Nat.beq pc 45 then some (.iaload, 46, 0, 0) else none) else (fun pc => bif Nat.beq pc 46 then some (.ireturn, 47, 0, 0) else none)) pc)) pc)) pc)) pc)) pc
/-- PackWeeks.byHand(III)I -/
def kc_67 : Nat → Option en_I := fun pc => (bif Nat.ble pc 18 then (fun pc => (bif Nat.ble pc 8 then (fun pc => (bif Nat.ble pc 1 then (fun pc => (bif Nat.ble pc 0 then (fun pc => bif Nat.beq pc 0 then some (.aload_n 0, 1, 0, 0) else none) else (fun pc => bif Nat.beq pc 1 then some (.getfield 32, 4, 3, 9) else none)) pc) else (fun pc => (bif Nat.ble pc 4 then (fun pc => bif Nat.beq pc 4 then some (.aload_n 0, 5, 0, 0) else none) else (fun pc => (bif Nat.ble pc 5 then (fun pc => bif Nat.beq pc 5 then some (.getfield 28, 8, 2, 9) else none) else (fun pc => bif Nat.beq pc 8 then some (.invokevirtual 295, 11, 68, 114) else none)) pc)) pc)) pc) else (fun pc => (bif Nat.ble pc 13 then (fun pc => (bif Nat.ble pc 11 then (fun pc => bif Nat.beq pc 11 then some (.aload_n 0, 12, 0, 0) else none) else (fun pc => (bif Nat.ble pc 12 then (fun pc => bif Nat.beq pc 12 then some (.aload_n 0, 13, 0, 0) else none) else (fun pc => bif Nat.beq pc 13 then some (.getfield 28, 16, 2, 9) else none)) pc)) pc) else (fun pc => (bif Nat.ble pc 16 then (fun pc => bif Nat.beq pc 16 then some (.iload_n 1, 17, 0, 0) else none) else (fun pc => (bif Nat.ble pc 17 then (fun pc => bif Nat.beq pc 17 then some (.iload_n 2, 18, 0, 0) else none) else (fun pc => bif Nat.beq pc 18 then some (.iload_n 3, 19, 0, 0) else none)) pc)) pc)) pc)) pc) else (fun pc => (bif Nat.ble pc 30 then (fun pc => (bif Nat.ble pc 24 then (fun pc => (bif Nat.ble pc 19 then (fun pc => bif Nat.beq pc 19 then some (.invokevirtual 208, 22, 69, 149) else none) else (fun pc => (bif Nat.ble pc 22 then (fun pc => bif Nat.beq pc 22 then some (.istore 4, 24, 0, 0) else none) else (fun pc => bif Nat.beq pc 24 then some (.iload 4, 26, 0, 0) else none)) pc)) pc) else (fun pc => (bif Nat.ble pc 26 then (fun pc => bif Nat.beq pc 26 then some (.iconst (-1), 27, 4294967295, 0) else none) else (fun pc => (bif Nat.ble pc 27 then (fun pc => bif Nat.beq pc 27 then some (.if_icmp .eq 14, 30, 41, 0) else none) else (fun pc => bif Nat.beq pc 30 then some (.aload_n 0, 31, 0, 0) else none)) pc)) pc)) pc) else (fun pc => (bif Nat.ble pc 35 then (fun pc => (bif Nat.ble pc 31 then (fun pc => bif Nat.beq pc 31 then some (.getfield 38, 34, 4, 9) else none) else (fun pc => (bif Nat.ble pc 34 then (fun pc => bif Nat.beq pc 34 then some (.aload_n 0, 35, 0, 0) else none) else (fun pc => bif Nat.beq pc 35 then some (.getfield 32, 38, 3, 9) else none)) pc)) pc) else (fun pc => (bif Nat.ble pc 38 then (fun pc => bif Nat.beq pc 38 then some (.invokevirtual 334, 41, 71, 34) else none) else (fun pc => (bif Nat.ble pc 41 then (fun pc => bif Nat.beq pc 41 then some (.iload 4, 43, 0, 0) else none) else (fun pc => bif Nat.beq pc 43 then some (.ireturn, 44, 0, 0) else none)) pc)) pc)) pc)) pc)) pc
/-- PackWeeks$Stand.take(LPackWeeks$Stand;)V -/
def kc_68 : Nat → Option en_I := fun pc => (bif Nat.ble pc 53 then (fun pc => (bif Nat.ble pc 26 then (fun pc => (bif Nat.ble pc 11 then (fun pc => (bif Nat.ble pc 5 then (fun pc => (bif Nat.ble pc 1 then (fun pc => (bif Nat.ble pc 0 then (fun pc => bif Nat.beq pc 0 then some (.aload_n 0, 1, 0, 0) else none) else (fun pc => bif Nat.beq pc 1 then some (.aload_n 1, 2, 0, 0) else none)) pc) else (fun pc => (bif Nat.ble pc 2 then (fun pc => bif Nat.beq pc 2 then some (.getfield 31, 5, 0, 7) else none) else (fun pc => bif Nat.beq pc 5 then some (.putfield 31, 8, 0, 7) else none)) pc)) pc) else (fun pc => (bif Nat.ble pc 9 then (fun pc => (bif Nat.ble pc 8 then (fun pc => bif Nat.beq pc 8 then some (.iconst 0, 9, 0, 0) else none) else (fun pc => bif Nat.beq pc 9 then some (.istore_n 2, 10, 0, 0) else none)) pc) else (fun pc => (bif Nat.ble pc 10 then (fun pc => bif Nat.beq pc 10 then some (.iload_n 2, 11, 0, 0) else none) else (fun pc => bif Nat.beq pc 11 then some (.bipush 6, 13, 6, 0) else none)) pc)) pc)) pc) else (fun pc => (bif Nat.ble pc 20 then (fun pc => (bif Nat.ble pc 16 then (fun pc => (bif Nat.ble pc 13 then (fun pc => bif Nat.beq pc 13 then some (.if_icmp .ge 21, 16, 34, 0) else none) else (fun pc => bif Nat.beq pc 16 then some (.aload_n 0, 17, 0, 0) else none)) pc) else (fun pc => (bif Nat.ble pc 17 then (fun pc => bif Nat.beq pc 17 then some (.getfield 9, 20, 1, 7) else none) else (fun pc => bif Nat.beq pc 20 then some (.iload_n 2, 21, 0, 0) else none)) pc)) pc) else (fun pc => (bif Nat.ble pc 22 then (fun pc => (bif Nat.ble pc 21 then (fun pc => bif Nat.beq pc 21 then some (.aload_n 1, 22, 0, 0) else none) else (fun pc => bif Nat.beq pc 22 then some (.getfield 9, 25, 1, 7) else none)) pc) else (fun pc => (bif Nat.ble pc 25 then (fun pc => bif Nat.beq pc 25 then some (.iload_n 2, 26, 0, 0) else none) else (fun pc => bif Nat.beq pc 26 then some (.iaload, 27, 0, 0) else none)) pc)) pc)) pc)) pc) else (fun pc => (bif Nat.ble pc 38 then (fun pc => (bif Nat.ble pc 34 then (fun pc => (bif Nat.ble pc 28 then (fun pc => (bif Nat.ble pc 27 then (fun pc => bif Nat.beq pc 27 then some (.iastore, 28, 0, 0) else none) else (fun pc => bif Nat.beq pc 28 then some (.iinc 2 1, 31, 1, 0) else none)) pc) else (fun pc => (bif Nat.ble pc 31 then (fun pc => bif Nat.beq pc 31 then some (.goto (-21), 34, 10, 0) else none) else (fun pc => bif Nat.beq pc 34 then some (.iconst 0, 35, 0, 0) else none)) pc)) pc) else (fun pc => (bif Nat.ble pc 36 then (fun pc => (bif Nat.ble pc 35 then (fun pc => bif Nat.beq pc 35 then some (.istore_n 2, 36, 0, 0) else none) else (fun pc => bif Nat.beq pc 36 then some (.iload_n 2, 37, 0, 0) else none)) pc) else (fun pc => (bif Nat.ble pc 37 then (fun pc => bif Nat.beq pc 37 then some (.iconst 2, 38, 2, 0) else none) else (fun pc => bif Nat.beq pc 38 then some (.if_icmp .ge 69, 41, 107, 0) else none)) pc)) pc)) pc) else (fun pc => (bif Nat.ble pc 46 then (fun pc => (bif Nat.ble pc 42 then (fun pc => (bif Nat.ble pc 41 then (fun pc => bif Nat.beq pc 41 then some (.aload_n 0, 42, 0, 0) else none) else (fun pc => bif Nat.beq pc 42 then some (.getfield 15, 45, 2, 7) else none)) pc) else (fun pc => (bif Nat.ble pc 45 then (fun pc => bif Nat.beq pc 45 then some (.iload_n 2, 46, 0, 0) else none) else (fun pc => bif Nat.beq pc 46 then some (.aload_n 1, 47, 0, 0) else none)) pc)) pc) else (fun pc => (bif Nat.ble pc 50 then (fun pc => (bif Nat.ble pc 47 then (fun pc => bif Nat.beq pc 47 then some (.getfield 15, 50, 2, 7) else none) else (fun pc => bif Nat.beq pc 50 then some (.iload_n 2, 51, 0, 0) else none)) pc) else (fun pc => (bif Nat.ble pc 51 then (fun pc => bif Nat.beq pc 51 then some (.iaload, 52, 0, 0) else none) else (fun pc => (bif Nat.ble pc 52 then (fun pc => bif Nat.beq pc 52 then some (.iastore, 53, 0, 0) else none) else (fun pc => bif Nat.beq pc 53 then some (.aload_n 0, 54, 0, 0) else none)) pc)) pc)) pc)) pc)) pc)) pc) else (fun pc => (bif Nat.ble pc 78 then (fun pc => (bif Nat.ble pc 65 then (fun pc => (bif Nat.ble pc 59 then (fun pc => (bif Nat.ble pc 57 then (fun pc => (bif Nat.ble pc 54 then (fun pc => bif Nat.beq pc 54 then some (.getfield 18, 57, 3, 7) else none) else (fun pc => bif Nat.beq pc 57 then some (.iload_n 2, 58, 0, 0) else none)) pc) else (fun pc => (bif Nat.ble pc 58 then (fun pc => bif Nat.beq pc 58 then some (.aload_n 1, 59, 0, 0) else none) else (fun pc => bif Nat.beq pc 59 then some (.getfield 18, 62, 3, 7) else none)) pc)) pc) else (fun pc => (bif Nat.ble pc 63 then (fun pc => (bif Nat.ble pc 62 then (fun pc => bif Nat.beq pc 62 then some (.iload_n 2, 63, 0, 0) else none) else (fun pc => bif Nat.beq pc 63 then some (.iaload, 64, 0, 0) else none)) pc) else (fun pc => (bif Nat.ble pc 64 then (fun pc => bif Nat.beq pc 64 then some (.iastore, 65, 0, 0) else none) else (fun pc => bif Nat.beq pc 65 then some (.aload_n 0, 66, 0, 0) else none)) pc)) pc)) pc) else (fun pc => (bif Nat.ble pc 71 then (fun pc => (bif Nat.ble pc 69 then (fun pc => (bif Nat.ble pc 66 then (fun pc => bif Nat.beq pc 66 then some (.getfield 21, 69, 4, 7) else none) else (fun pc => bif Nat.beq pc 69 then some (.iload_n 2, 70, 0, 0) else none)) pc) else (fun pc => (bif Nat.ble pc 70 then (fun pc => bif Nat.beq pc 70 then some (.aload_n 1, 71, 0, 0) else none) else (fun pc => bif Nat.beq pc 71 then some (.getfield 21, 74, 4, 7) else none)) pc)) pc) else (fun pc => (bif Nat.ble pc 75 then (fun pc => (bif Nat.ble pc 74 then (fun pc => bif Nat.beq pc 74 then some (.iload_n 2, 75, 0, 0) else none) else (fun pc => bif Nat.beq pc 75 then some (.baload, 76, 0, 0) else none)) pc) else (fun pc => (bif Nat.ble pc 76 then (fun pc => bif Nat.beq pc 76 then some (.bastore, 77, 0, 0) else none) else (fun pc => (bif Nat.ble pc 77 then (fun pc => bif Nat.beq pc 77 then some (.aload_n 0, 78, 0, 0) else none) else (fun pc => bif Nat.beq pc 78 then some (.getfield 25, 81, 5, 7) else none)) pc)) pc)) pc)) pc)) pc) else (fun pc => (bif Nat.ble pc 90 then (fun pc => (bif Nat.ble pc 86 then (fun pc => (bif Nat.ble pc 82 then (fun pc => (bif Nat.ble pc 81 then (fun pc => bif Nat.beq pc 81 then some (.iload_n 2, 82, 0, 0) else none) else (fun pc => bif Nat.beq pc 82 then some (.aload_n 1, 83, 0, 0) else none)) pc) else (fun pc => (bif Nat.ble pc 83 then (fun pc => bif Nat.beq pc 83 then some (.getfield 25, 86, 5, 7) else none) else (fun pc => bif Nat.beq pc 86 then some (.iload_n 2, 87, 0, 0) else none)) pc)) pc) else (fun pc => (bif Nat.ble pc 88 then (fun pc => (bif Nat.ble pc 87 then (fun pc => bif Nat.beq pc 87 then some (.baload, 88, 0, 0) else none) else (fun pc => bif Nat.beq pc 88 then some (.bastore, 89, 0, 0) else none)) pc) else (fun pc => (bif Nat.ble pc 89 then (fun pc => bif Nat.beq pc 89 then some (.aload_n 0, 90, 0, 0) else none) else (fun pc => bif Nat.beq pc 90 then some (.getfield 28, 93, 6, 7) else none)) pc)) pc)) pc) else (fun pc => (bif Nat.ble pc 98 then (fun pc => (bif Nat.ble pc 94 then (fun pc => (bif Nat.ble pc 93 then (fun pc => bif Nat.beq pc 93 then some (.iload_n 2, 94, 0, 0) else none) else (fun pc => bif Nat.beq pc 94 then some (.aload_n 1, 95, 0, 0) else none)) pc) else (fun pc => (bif Nat.ble pc 95 then (fun pc => bif Nat.beq pc 95 then some (.getfield 28, 98, 6, 7) else none) else (fun pc => bif Nat.beq pc 98 then some (.iload_n 2, 99, 0, 0) else none)) pc)) pc) else (fun pc => (bif Nat.ble pc 100 then (fun pc => (bif Nat.ble pc 99 then (fun pc => bif Nat.beq pc 99 then some (.iaload, 100, 0, 0) else none) else (fun pc => bif Nat.beq pc 100 then some (.iastore, 101, 0, 0) else none)) pc) else (fun pc => (bif Nat.ble pc 101 then (fun pc => bif Nat.beq pc 101 then some (.iinc 2 1, 104, 1, 0) else none) else (fun pc => (bif Nat.ble pc 104 then (fun pc => bif Nat.beq pc 104 then some (.goto (-68), 107, 36, 0) else none) else (fun pc => bif Nat.beq pc 107 then some (.return_, 108, 0, 0) else none)) pc)) pc)) pc)) pc)) pc)) pc)) pc
/-- PackWeeks.act(LPackWeeks$Stand;III)I -/
def kc_69 : Nat → Option en_I := fun pc => (bif Nat.ble pc 18 then (fun pc => (bif Nat.ble pc 7 then (fun pc => (bif Nat.ble pc 1 then (fun pc => (bif Nat.ble pc 0 then (fun pc => bif Nat.beq pc 0 then some (.iload_n 2, 1, 0, 0) else none) else (fun pc => bif Nat.beq pc 1 then some (.ifCond .ne 40, 4, 41, 0) else none)) pc) else (fun pc => (bif Nat.ble pc 4 then (fun pc => bif Nat.beq pc 4 then some (.iconst 0, 5, 0, 0) else none) else (fun pc => (bif Nat.ble pc 5 then (fun pc => bif Nat.beq pc 5 then some (.istore 5, 7, 0, 0) else none) else (fun pc => bif Nat.beq pc 7 then some (.iload 5, 9, 0, 0) else none)) pc)) pc)) pc) else (fun pc => (bif Nat.ble pc 11 then (fun pc => (bif Nat.ble pc 9 then (fun pc => bif Nat.beq pc 9 then some (.iload 4, 11, 0, 0) else none) else (fun pc => bif Nat.beq pc 11 then some (.if_icmp .ge 25, 14, 36, 0) else none)) pc) else (fun pc => (bif Nat.ble pc 14 then (fun pc => bif Nat.beq pc 14 then some (.iload 5, 16, 0, 0) else none) else (fun pc => (bif Nat.ble pc 16 then (fun pc => bif Nat.beq pc 16 then some (.bipush 30, 18, 30, 0) else none) else (fun pc => bif Nat.beq pc 18 then some (.if_icmp .ge 18, 21, 36, 0) else none)) pc)) pc)) pc)) pc) else (fun pc => (bif Nat.ble pc 29 then (fun pc => (bif Nat.ble pc 22 then (fun pc => (bif Nat.ble pc 21 then (fun pc => bif Nat.beq pc 21 then some (.aload_n 1, 22, 0, 0) else none) else (fun pc => bif Nat.beq pc 22 then some (.aload_n 0, 23, 0, 0) else none)) pc) else (fun pc => (bif Nat.ble pc 23 then (fun pc => bif Nat.beq pc 23 then some (.getfield 71, 26, 10, 9) else none) else (fun pc => (bif Nat.ble pc 26 then (fun pc => bif Nat.beq pc 26 then some (.invokevirtual 303, 29, 70, 114) else none) else (fun pc => bif Nat.beq pc 29 then some (.pop, 30, 0, 0) else none)) pc)) pc)) pc) else (fun pc => (bif Nat.ble pc 33 then (fun pc => (bif Nat.ble pc 30 then (fun pc => bif Nat.beq pc 30 then some (.iinc 5 1, 33, 1, 0) else none) else (fun pc => bif Nat.beq pc 33 then some (.goto (-26), 36, 7, 0) else none)) pc) else (fun pc => (bif Nat.ble pc 36 then (fun pc => bif Nat.beq pc 36 then some (.aload_n 1, 37, 0, 0) else none) else (fun pc => (bif Nat.ble pc 37 then (fun pc => bif Nat.beq pc 37 then some (.getfield 125, 40, 0, 7) else none) else (fun pc => bif Nat.beq pc 40 then some (.ireturn, 41, 0, 0) else none)) pc)) pc)) pc)) pc)) pc
/-- PackWeeks$Stand.passStep(LPackWeeks$Pack;)I -/
def kc_70 : Nat → Option en_I := fun pc => (bif Nat.ble pc 93 then (fun pc => (bif Nat.ble pc 5 then (fun pc => (bif Nat.ble pc 2 then (fun pc => (bif Nat.ble pc 0 then (fun pc => bif Nat.beq pc 0 then some (.iconst 0, 1, 0, 0) else none) else (fun pc => (bif Nat.ble pc 1 then (fun pc => bif Nat.beq pc 1 then some (.istore_n 2, 2, 0, 0) else none) else (fun pc => bif Nat.beq pc 2 then some (.iconst 0, 3, 0, 0) else none)) pc)) pc) else (fun pc => (bif Nat.ble pc 3 then (fun pc => bif Nat.beq pc 3 then some (.istore_n 3, 4, 0, 0) else none) else (fun pc => (bif Nat.ble pc 4 then (fun pc => bif Nat.beq pc 4 then some (.iload_n 3, 5, 0, 0) else none) else (fun pc => bif Nat.beq pc 5 then some (.aload_n 1, 6, 0, 0) else none)) pc)) pc)) pc) else (fun pc => (bif Nat.ble pc 12 then (fun pc => (bif Nat.ble pc 6 then (fun pc => bif Nat.beq pc 6 then some (.getfield 49, 9, 7, 1) else none) else (fun pc => (bif Nat.ble pc 9 then (fun pc => bif Nat.beq pc 9 then some (.getfield 41, 12, 5, 5) else none) else (fun pc => bif Nat.beq pc 12 then some (.if_icmp .ge 79, 15, 91, 0) else none)) pc)) pc) else (fun pc => (bif Nat.ble pc 91 then (fun pc => bif Nat.beq pc 91 then some (.iconst 0, 92, 0, 0) else none) else (fun pc => (bif Nat.ble pc 92 then (fun pc => bif Nat.beq pc 92 then some (.istore_n 3, 93, 0, 0) else none) else (fun pc => bif Nat.beq pc 93 then some (.iload_n 3, 94, 0, 0) else none)) pc)) pc)) pc)) pc) else (fun pc => (bif Nat.ble pc 128 then (fun pc => (bif Nat.ble pc 98 then (fun pc => (bif Nat.ble pc 94 then (fun pc => bif Nat.beq pc 94 then some (.aload_n 1, 95, 0, 0) else none) else (fun pc => (bif Nat.ble pc 95 then (fun pc => bif Nat.beq pc 95 then some (.getfield 35, 98, 5, 1) else none) else (fun pc => bif Nat.beq pc 98 then some (.getfield 41, 101, 5, 5) else none)) pc)) pc) else (fun pc => (bif Nat.ble pc 101 then (fun pc => bif Nat.beq pc 101 then some (.if_icmp .ge 26, 104, 127, 0) else none) else (fun pc => (bif Nat.ble pc 127 then (fun pc => bif Nat.beq pc 127 then some (.aload_n 0, 128, 0, 0) else none) else (fun pc => bif Nat.beq pc 128 then some (.dup, 129, 0, 0) else none)) pc)) pc)) pc) else (fun pc => (bif Nat.ble pc 133 then (fun pc => (bif Nat.ble pc 129 then (fun pc => bif Nat.beq pc 129 then some (.getfield 31, 132, 0, 7) else none) else (fun pc => (bif Nat.ble pc 132 then (fun pc => bif Nat.beq pc 132 then some (.iconst 1, 133, 1, 0) else none) else (fun pc => bif Nat.beq pc 133 then some (.iadd, 134, 0, 0) else none)) pc)) pc) else (fun pc => (bif Nat.ble pc 134 then (fun pc => bif Nat.beq pc 134 then some (.putfield 31, 137, 0, 7) else none) else (fun pc => (bif Nat.ble pc 137 then (fun pc => bif Nat.beq pc 137 then some (.iload_n 2, 138, 0, 0) else none) else (fun pc => bif Nat.beq pc 138 then some (.ireturn, 139, 0, 0) else none)) pc)) pc)) pc)) pc)) pc
/-- PackWeeks$Past.keep(LPackWeeks$Stand;)V -/
def kc_71 : Nat → Option en_I := fun pc => (bif Nat.ble pc 18 then (fun pc => (bif Nat.ble pc 9 then (fun pc => (bif Nat.ble pc 4 then (fun pc => (bif Nat.ble pc 0 then (fun pc => bif Nat.beq pc 0 then some (.aload_n 0, 1, 0, 0) else none) else (fun pc => (bif Nat.ble pc 1 then (fun pc => bif Nat.beq pc 1 then some (.getfield 11, 4, 0, 2) else none) else (fun pc => bif Nat.beq pc 4 then some (.aload_n 0, 5, 0, 0) else none)) pc)) pc) else (fun pc => (bif Nat.ble pc 5 then (fun pc => bif Nat.beq pc 5 then some (.getfield 22, 8, 1, 2) else none) else (fun pc => (bif Nat.ble pc 8 then (fun pc => bif Nat.beq pc 8 then some (.aload_n 0, 9, 0, 0) else none) else (fun pc => bif Nat.beq pc 9 then some (.getfield 18, 12, 2, 2) else none)) pc)) pc)) pc) else (fun pc => (bif Nat.ble pc 15 then (fun pc => (bif Nat.ble pc 12 then (fun pc => bif Nat.beq pc 12 then some (.iadd, 13, 0, 0) else none) else (fun pc => (bif Nat.ble pc 13 then (fun pc => bif Nat.beq pc 13 then some (.bipush 16, 15, 16, 0) else none) else (fun pc => bif Nat.beq pc 15 then some (.irem, 16, 0, 0) else none)) pc)) pc) else (fun pc => (bif Nat.ble pc 16 then (fun pc => bif Nat.beq pc 16 then some (.aaload, 17, 0, 0) else none) else (fun pc => (bif Nat.ble pc 17 then (fun pc => bif Nat.beq pc 17 then some (.aload_n 1, 18, 0, 0) else none) else (fun pc => bif Nat.beq pc 18 then some (.invokevirtual 25, 21, 68, 114) else none)) pc)) pc)) pc)) pc) else (fun pc => (bif Nat.ble pc 31 then (fun pc => (bif Nat.ble pc 25 then (fun pc => (bif Nat.ble pc 21 then (fun pc => bif Nat.beq pc 21 then some (.aload_n 0, 22, 0, 0) else none) else (fun pc => (bif Nat.ble pc 22 then (fun pc => bif Nat.beq pc 22 then some (.getfield 18, 25, 2, 2) else none) else (fun pc => bif Nat.beq pc 25 then some (.bipush 16, 27, 16, 0) else none)) pc)) pc) else (fun pc => (bif Nat.ble pc 27 then (fun pc => bif Nat.beq pc 27 then some (.if_icmp .ge 16, 30, 43, 0) else none) else (fun pc => (bif Nat.ble pc 30 then (fun pc => bif Nat.beq pc 30 then some (.aload_n 0, 31, 0, 0) else none) else (fun pc => bif Nat.beq pc 31 then some (.dup, 32, 0, 0) else none)) pc)) pc)) pc) else (fun pc => (bif Nat.ble pc 36 then (fun pc => (bif Nat.ble pc 32 then (fun pc => bif Nat.beq pc 32 then some (.getfield 18, 35, 2, 2) else none) else (fun pc => (bif Nat.ble pc 35 then (fun pc => bif Nat.beq pc 35 then some (.iconst 1, 36, 1, 0) else none) else (fun pc => bif Nat.beq pc 36 then some (.iadd, 37, 0, 0) else none)) pc)) pc) else (fun pc => (bif Nat.ble pc 37 then (fun pc => bif Nat.beq pc 37 then some (.putfield 18, 40, 2, 2) else none) else (fun pc => (bif Nat.ble pc 40 then (fun pc => bif Nat.beq pc 40 then some (.goto 16, 43, 56, 0) else none) else (fun pc => bif Nat.beq pc 56 then some (.return_, 57, 0, 0) else none)) pc)) pc)) pc)) pc)) pc
/-- PackWeeksModel.keeps()V -/
def kc_72 : Nat → Option en_I := fun pc => (bif Nat.ble pc 59 then (fun pc => (bif Nat.ble pc 53 then (fun pc => (bif Nat.ble pc 1 then (fun pc => (bif Nat.ble pc 0 then (fun pc => bif Nat.beq pc 0 then some (.aload_n 0, 1, 0, 0) else none) else (fun pc => bif Nat.beq pc 1 then some (.getfield 364, 4, 26, 10) else none)) pc) else (fun pc => (bif Nat.ble pc 4 then (fun pc => bif Nat.beq pc 4 then some (.bipush 16, 6, 16, 0) else none) else (fun pc => (bif Nat.ble pc 6 then (fun pc => bif Nat.beq pc 6 then some (.if_icmp .ne 47, 9, 53, 0) else none) else (fun pc => bif Nat.beq pc 53 then some (.aload_n 0, 54, 0, 0) else none)) pc)) pc)) pc) else (fun pc => (bif Nat.ble pc 55 then (fun pc => (bif Nat.ble pc 54 then (fun pc => bif Nat.beq pc 54 then some (.iconst 0, 55, 0, 0) else none) else (fun pc => bif Nat.beq pc 55 then some (.bipush 45, 57, 45, 0) else none)) pc) else (fun pc => (bif Nat.ble pc 57 then (fun pc => bif Nat.beq pc 57 then some (.iconst 5, 58, 5, 0) else none) else (fun pc => (bif Nat.ble pc 58 then (fun pc => bif Nat.beq pc 58 then some (.aload_n 0, 59, 0, 0) else none) else (fun pc => bif Nat.beq pc 59 then some (.getfield 364, 62, 26, 10) else none)) pc)) pc)) pc)) pc) else (fun pc => (bif Nat.ble pc 69 then (fun pc => (bif Nat.ble pc 63 then (fun pc => (bif Nat.ble pc 62 then (fun pc => bif Nat.beq pc 62 then some (.iadd, 63, 0, 0) else none) else (fun pc => bif Nat.beq pc 63 then some (.imul, 64, 0, 0) else none)) pc) else (fun pc => (bif Nat.ble pc 64 then (fun pc => bif Nat.beq pc 64 then some (.bipush 17, 66, 17, 0) else none) else (fun pc => (bif Nat.ble pc 66 then (fun pc => bif Nat.beq pc 66 then some (.invokevirtual 367, 69, 73, 164) else none) else (fun pc => bif Nat.beq pc 69 then some (.aload_n 0, 70, 0, 0) else none)) pc)) pc)) pc) else (fun pc => (bif Nat.ble pc 74 then (fun pc => (bif Nat.ble pc 70 then (fun pc => bif Nat.beq pc 70 then some (.dup, 71, 0, 0) else none) else (fun pc => (bif Nat.ble pc 71 then (fun pc => bif Nat.beq pc 71 then some (.getfield 364, 74, 26, 10) else none) else (fun pc => bif Nat.beq pc 74 then some (.iconst 1, 75, 1, 0) else none)) pc)) pc) else (fun pc => (bif Nat.ble pc 75 then (fun pc => bif Nat.beq pc 75 then some (.iadd, 76, 0, 0) else none) else (fun pc => (bif Nat.ble pc 76 then (fun pc => bif Nat.beq pc 76 then some (.putfield 364, 79, 26, 10) else none) else (fun pc => bif Nat.beq pc 79 then some (.return_, 80, 0, 0) else none)) pc)) pc)) pc)) pc)) pc
/-- PackWeeksModel.copies(III)V -/
def kc_73 : Nat → Option en_I := fun pc => (bif Nat.ble pc 16 then (fun pc => (bif Nat.ble pc 6 then (fun pc => (bif Nat.ble pc 1 then (fun pc => (bif Nat.ble pc 0 then (fun pc => bif Nat.beq pc 0 then some (.iconst 0, 1, 0, 0) else none) else (fun pc => bif Nat.beq pc 1 then some (.istore 4, 3, 0, 0) else none)) pc) else (fun pc => (bif Nat.ble pc 3 then (fun pc => bif Nat.beq pc 3 then some (.iload 4, 5, 0, 0) else none) else (fun pc => (bif Nat.ble pc 5 then (fun pc => bif Nat.beq pc 5 then some (.iload_n 3, 6, 0, 0) else none) else (fun pc => bif Nat.beq pc 6 then some (.if_icmp .ge 27, 9, 33, 0) else none)) pc)) pc)) pc) else (fun pc => (bif Nat.ble pc 10 then (fun pc => (bif Nat.ble pc 9 then (fun pc => bif Nat.beq pc 9 then some (.aload_n 0, 10, 0, 0) else none) else (fun pc => bif Nat.beq pc 10 then some (.getfield 151, 13, 25, 10) else none)) pc) else (fun pc => (bif Nat.ble pc 13 then (fun pc => bif Nat.beq pc 13 then some (.iload_n 2, 14, 0, 0) else none) else (fun pc => (bif Nat.ble pc 14 then (fun pc => bif Nat.beq pc 14 then some (.iload 4, 16, 0, 0) else none) else (fun pc => bif Nat.beq pc 16 then some (.iadd, 17, 0, 0) else none)) pc)) pc)) pc)) pc) else (fun pc => (bif Nat.ble pc 24 then (fun pc => (bif Nat.ble pc 18 then (fun pc => (bif Nat.ble pc 17 then (fun pc => bif Nat.beq pc 17 then some (.aload_n 0, 18, 0, 0) else none) else (fun pc => bif Nat.beq pc 18 then some (.getfield 151, 21, 25, 10) else none)) pc) else (fun pc => (bif Nat.ble pc 21 then (fun pc => bif Nat.beq pc 21 then some (.iload_n 1, 22, 0, 0) else none) else (fun pc => (bif Nat.ble pc 22 then (fun pc => bif Nat.beq pc 22 then some (.iload 4, 24, 0, 0) else none) else (fun pc => bif Nat.beq pc 24 then some (.iadd, 25, 0, 0) else none)) pc)) pc)) pc) else (fun pc => (bif Nat.ble pc 26 then (fun pc => (bif Nat.ble pc 25 then (fun pc => bif Nat.beq pc 25 then some (.iaload, 26, 0, 0) else none) else (fun pc => bif Nat.beq pc 26 then some (.iastore, 27, 0, 0) else none)) pc) else (fun pc => (bif Nat.ble pc 27 then (fun pc => bif Nat.beq pc 27 then some (.iinc 4 1, 30, 1, 0) else none) else (fun pc => (bif Nat.ble pc 30 then (fun pc => bif Nat.beq pc 30 then some (.goto (-27), 33, 3, 0) else none) else (fun pc => bif Nat.beq pc 33 then some (.return_, 34, 0, 0) else none)) pc)) pc)) pc)) pc)) pc
/-- PackWeeksModel.passes(I)I -/
def kc_74 : Nat → Option en_I := fun pc => (bif Nat.ble pc 160 then (fun pc => (bif Nat.ble pc 5 then (fun pc => (bif Nat.ble pc 2 then (fun pc => (bif Nat.ble pc 0 then (fun pc => bif Nat.beq pc 0 then some (.iconst 0, 1, 0, 0) else none) else (fun pc => (bif Nat.ble pc 1 then (fun pc => bif Nat.beq pc 1 then some (.istore_n 2, 2, 0, 0) else none) else (fun pc => bif Nat.beq pc 2 then some (.iconst 0, 3, 0, 0) else none)) pc)) pc) else (fun pc => (bif Nat.ble pc 3 then (fun pc => bif Nat.beq pc 3 then some (.istore_n 3, 4, 0, 0) else none) else (fun pc => (bif Nat.ble pc 4 then (fun pc => bif Nat.beq pc 4 then some (.iload_n 3, 5, 0, 0) else none) else (fun pc => bif Nat.beq pc 5 then some (.aload_n 0, 6, 0, 0) else none)) pc)) pc)) pc) else (fun pc => (bif Nat.ble pc 156 then (fun pc => (bif Nat.ble pc 6 then (fun pc => bif Nat.beq pc 6 then some (.invokevirtual 374, 9, 75, 161) else none) else (fun pc => (bif Nat.ble pc 9 then (fun pc => bif Nat.beq pc 9 then some (.if_icmp .ge 147, 12, 156, 0) else none) else (fun pc => bif Nat.beq pc 156 then some (.iconst 0, 157, 0, 0) else none)) pc)) pc) else (fun pc => (bif Nat.ble pc 158 then (fun pc => (bif Nat.ble pc 157 then (fun pc => bif Nat.beq pc 157 then some (.istore_n 3, 158, 0, 0) else none) else (fun pc => bif Nat.beq pc 158 then some (.iload_n 3, 159, 0, 0) else none)) pc) else (fun pc => (bif Nat.ble pc 159 then (fun pc => bif Nat.beq pc 159 then some (.aload_n 0, 160, 0, 0) else none) else (fun pc => bif Nat.beq pc 160 then some (.invokevirtual 371, 163, 76, 161) else none)) pc)) pc)) pc)) pc) else (fun pc => (bif Nat.ble pc 202 then (fun pc => (bif Nat.ble pc 197 then (fun pc => (bif Nat.ble pc 163 then (fun pc => bif Nat.beq pc 163 then some (.if_icmp .ge 33, 166, 196, 0) else none) else (fun pc => (bif Nat.ble pc 196 then (fun pc => bif Nat.beq pc 196 then some (.aload_n 0, 197, 0, 0) else none) else (fun pc => bif Nat.beq pc 197 then some (.getfield 151, 200, 25, 10) else none)) pc)) pc) else (fun pc => (bif Nat.ble pc 200 then (fun pc => bif Nat.beq pc 200 then some (.iload_n 1, 201, 0, 0) else none) else (fun pc => (bif Nat.ble pc 201 then (fun pc => bif Nat.beq pc 201 then some (.iconst 0, 202, 0, 0) else none) else (fun pc => bif Nat.beq pc 202 then some (.iadd, 203, 0, 0) else none)) pc)) pc)) pc) else (fun pc => (bif Nat.ble pc 205 then (fun pc => (bif Nat.ble pc 203 then (fun pc => bif Nat.beq pc 203 then some (.dup2, 204, 0, 0) else none) else (fun pc => (bif Nat.ble pc 204 then (fun pc => bif Nat.beq pc 204 then some (.iaload, 205, 0, 0) else none) else (fun pc => bif Nat.beq pc 205 then some (.iconst 1, 206, 1, 0) else none)) pc)) pc) else (fun pc => (bif Nat.ble pc 207 then (fun pc => (bif Nat.ble pc 206 then (fun pc => bif Nat.beq pc 206 then some (.iadd, 207, 0, 0) else none) else (fun pc => bif Nat.beq pc 207 then some (.iastore, 208, 0, 0) else none)) pc) else (fun pc => (bif Nat.ble pc 208 then (fun pc => bif Nat.beq pc 208 then some (.iload_n 2, 209, 0, 0) else none) else (fun pc => bif Nat.beq pc 209 then some (.ireturn, 210, 0, 0) else none)) pc)) pc)) pc)) pc)) pc
/-- PackWeeksModel.crews()I -/
def kc_75 : Nat → Option en_I := fun pc => (bif Nat.ble pc 1 then (fun pc => (bif Nat.ble pc 0 then (fun pc => bif Nat.beq pc 0 then some (.aload_n 0, 1, 0, 0) else none) else (fun pc => bif Nat.beq pc 1 then some (.getfield 121, 4, 10, 10) else none)) pc) else (fun pc => (bif Nat.ble pc 4 then (fun pc => bif Nat.beq pc 4 then some (.iconst 4, 5, 4, 0) else none) else (fun pc => (bif Nat.ble pc 5 then (fun pc => bif Nat.beq pc 5 then some (.iaload, 6, 0, 0) else none) else (fun pc => bif Nat.beq pc 6 then some (.ireturn, 7, 0, 0) else none)) pc)) pc)) pc
/-- PackWeeksModel.things()I -/
def kc_76 : Nat → Option en_I := fun pc => (bif Nat.ble pc 1 then (fun pc => (bif Nat.ble pc 0 then (fun pc => bif Nat.beq pc 0 then some (.aload_n 0, 1, 0, 0) else none) else (fun pc => bif Nat.beq pc 1 then some (.getfield 121, 4, 10, 10) else none)) pc) else (fun pc => (bif Nat.ble pc 4 then (fun pc => bif Nat.beq pc 4 then some (.iconst 2, 5, 2, 0) else none) else (fun pc => (bif Nat.ble pc 5 then (fun pc => bif Nat.beq pc 5 then some (.iaload, 6, 0, 0) else none) else (fun pc => bif Nat.beq pc 6 then some (.ireturn, 7, 0, 0) else none)) pc)) pc)) pc
/-- PackWeeks.haul(III)Z -/
def kc_77 : Nat → Option en_I := fun pc => (bif Nat.ble pc 7 then (fun pc => (bif Nat.ble pc 1 then (fun pc => (bif Nat.ble pc 0 then (fun pc => bif Nat.beq pc 0 then some (.aload_n 0, 1, 0, 0) else none) else (fun pc => bif Nat.beq pc 1 then some (.getfield 71, 4, 10, 9) else none)) pc) else (fun pc => (bif Nat.ble pc 4 then (fun pc => bif Nat.beq pc 4 then some (.getfield 166, 7, 7, 1) else none) else (fun pc => bif Nat.beq pc 7 then some (.iload_n 1, 8, 0, 0) else none)) pc)) pc) else (fun pc => (bif Nat.ble pc 11 then (fun pc => (bif Nat.ble pc 8 then (fun pc => bif Nat.beq pc 8 then some (.invokevirtual 139, 11, 23, 82) else none) else (fun pc => bif Nat.beq pc 11 then some (.ifCond .eq 15, 14, 26, 0) else none)) pc) else (fun pc => (bif Nat.ble pc 26 then (fun pc => bif Nat.beq pc 26 then some (.iconst 0, 27, 0, 0) else none) else (fun pc => bif Nat.beq pc 27 then some (.ireturn, 28, 1, 0) else none)) pc)) pc)) pc
/-- PackWeeksModel.haul(III)Z -/
def kc_78 : Nat → Option en_I := fun pc => (bif Nat.ble pc 5 then (fun pc => (bif Nat.ble pc 1 then (fun pc => (bif Nat.ble pc 0 then (fun pc => bif Nat.beq pc 0 then some (.aload_n 0, 1, 0, 0) else none) else (fun pc => bif Nat.beq pc 1 then some (.iconst 0, 2, 0, 0) else none)) pc) else (fun pc => (bif Nat.ble pc 2 then (fun pc => bif Nat.beq pc 2 then some (.putfield 1, 5, 0, 10) else none) else (fun pc => bif Nat.beq pc 5 then some (.aload_n 0, 6, 0, 0) else none)) pc)) pc) else (fun pc => (bif Nat.ble pc 7 then (fun pc => (bif Nat.ble pc 6 then (fun pc => bif Nat.beq pc 6 then some (.iload_n 1, 7, 0, 0) else none) else (fun pc => bif Nat.beq pc 7 then some (.invokevirtual 396, 10, 79, 162) else none)) pc) else (fun pc => (bif Nat.ble pc 10 then (fun pc => bif Nat.beq pc 10 then some (.ifCond .eq 27, 13, 37, 0) else none) else (fun pc => (bif Nat.ble pc 37 then (fun pc => bif Nat.beq pc 37 then some (.iconst 0, 38, 0, 0) else none) else (fun pc => bif Nat.beq pc 38 then some (.ireturn, 39, 1, 0) else none)) pc)) pc)) pc)) pc
/-- PackWeeksModel.isCrew(I)Z -/
def kc_79 : Nat → Option en_I := fun pc => (bif Nat.ble pc 5 then (fun pc => (bif Nat.ble pc 1 then (fun pc => (bif Nat.ble pc 0 then (fun pc => bif Nat.beq pc 0 then some (.iload_n 1, 1, 0, 0) else none) else (fun pc => bif Nat.beq pc 1 then some (.ifCond .lt 15, 4, 16, 0) else none)) pc) else (fun pc => (bif Nat.ble pc 4 then (fun pc => bif Nat.beq pc 4 then some (.iload_n 1, 5, 0, 0) else none) else (fun pc => bif Nat.beq pc 5 then some (.aload_n 0, 6, 0, 0) else none)) pc)) pc) else (fun pc => (bif Nat.ble pc 9 then (fun pc => (bif Nat.ble pc 6 then (fun pc => bif Nat.beq pc 6 then some (.invokevirtual 374, 9, 75, 161) else none) else (fun pc => bif Nat.beq pc 9 then some (.if_icmp .ge 7, 12, 16, 0) else none)) pc) else (fun pc => (bif Nat.ble pc 16 then (fun pc => bif Nat.beq pc 16 then some (.iconst 0, 17, 0, 0) else none) else (fun pc => bif Nat.beq pc 17 then some (.ireturn, 18, 1, 0) else none)) pc)) pc)) pc
/-- PackWeeks.lend(II)I -/
def kc_80 : Nat → Option en_I := fun pc => (bif Nat.ble pc 7 then (fun pc => (bif Nat.ble pc 1 then (fun pc => (bif Nat.ble pc 0 then (fun pc => bif Nat.beq pc 0 then some (.aload_n 0, 1, 0, 0) else none) else (fun pc => bif Nat.beq pc 1 then some (.getfield 71, 4, 10, 9) else none)) pc) else (fun pc => (bif Nat.ble pc 4 then (fun pc => bif Nat.beq pc 4 then some (.getfield 166, 7, 7, 1) else none) else (fun pc => bif Nat.beq pc 7 then some (.iload_n 1, 8, 0, 0) else none)) pc)) pc) else (fun pc => (bif Nat.ble pc 11 then (fun pc => (bif Nat.ble pc 8 then (fun pc => bif Nat.beq pc 8 then some (.invokevirtual 139, 11, 23, 82) else none) else (fun pc => bif Nat.beq pc 11 then some (.ifCond .eq 14, 14, 25, 0) else none)) pc) else (fun pc => (bif Nat.ble pc 25 then (fun pc => bif Nat.beq pc 25 then some (.iconst (-1), 26, 4294967295, 0) else none) else (fun pc => bif Nat.beq pc 26 then some (.ireturn, 27, 0, 0) else none)) pc)) pc)) pc
/-- PackWeeksModel.lend(II)I -/
def kc_81 : Nat → Option en_I := fun pc => (bif Nat.ble pc 5 then (fun pc => (bif Nat.ble pc 1 then (fun pc => (bif Nat.ble pc 0 then (fun pc => bif Nat.beq pc 0 then some (.aload_n 0, 1, 0, 0) else none) else (fun pc => bif Nat.beq pc 1 then some (.iconst 0, 2, 0, 0) else none)) pc) else (fun pc => (bif Nat.ble pc 2 then (fun pc => bif Nat.beq pc 2 then some (.putfield 1, 5, 0, 10) else none) else (fun pc => bif Nat.beq pc 5 then some (.aload_n 0, 6, 0, 0) else none)) pc)) pc) else (fun pc => (bif Nat.ble pc 7 then (fun pc => (bif Nat.ble pc 6 then (fun pc => bif Nat.beq pc 6 then some (.iload_n 1, 7, 0, 0) else none) else (fun pc => bif Nat.beq pc 7 then some (.invokevirtual 396, 10, 79, 162) else none)) pc) else (fun pc => (bif Nat.ble pc 10 then (fun pc => bif Nat.beq pc 10 then some (.ifCond .eq 23, 13, 33, 0) else none) else (fun pc => (bif Nat.ble pc 33 then (fun pc => bif Nat.beq pc 33 then some (.iconst (-1), 34, 4294967295, 0) else none) else (fun pc => bif Nat.beq pc 34 then some (.ireturn, 35, 0, 0) else none)) pc)) pc)) pc)) pc
/-- PackWeeks.home(I)Z -/
def kc_82 : Nat → Option en_I := fun pc => (bif Nat.ble pc 7 then (fun pc => (bif Nat.ble pc 1 then (fun pc => (bif Nat.ble pc 0 then (fun pc => bif Nat.beq pc 0 then some (.aload_n 0, 1, 0, 0) else none) else (fun pc => bif Nat.beq pc 1 then some (.getfield 71, 4, 10, 9) else none)) pc) else (fun pc => (bif Nat.ble pc 4 then (fun pc => bif Nat.beq pc 4 then some (.getfield 166, 7, 7, 1) else none) else (fun pc => bif Nat.beq pc 7 then some (.iload_n 1, 8, 0, 0) else none)) pc)) pc) else (fun pc => (bif Nat.ble pc 11 then (fun pc => (bif Nat.ble pc 8 then (fun pc => bif Nat.beq pc 8 then some (.invokevirtual 139, 11, 23, 82) else none) else (fun pc => bif Nat.beq pc 11 then some (.ifCond .ne 5, 14, 16, 0) else none)) pc) else (fun pc => (bif Nat.ble pc 14 then (fun pc => bif Nat.beq pc 14 then some (.iconst 0, 15, 0, 0) else none) else (fun pc => bif Nat.beq pc 15 then some (.ireturn, 16, 1, 0) else none)) pc)) pc)) pc
/-- PackWeeksModel.home(I)Z -/
def kc_83 : Nat → Option en_I := fun pc => (bif Nat.ble pc 5 then (fun pc => (bif Nat.ble pc 1 then (fun pc => (bif Nat.ble pc 0 then (fun pc => bif Nat.beq pc 0 then some (.aload_n 0, 1, 0, 0) else none) else (fun pc => bif Nat.beq pc 1 then some (.iconst 0, 2, 0, 0) else none)) pc) else (fun pc => (bif Nat.ble pc 2 then (fun pc => bif Nat.beq pc 2 then some (.putfield 1, 5, 0, 10) else none) else (fun pc => bif Nat.beq pc 5 then some (.aload_n 0, 6, 0, 0) else none)) pc)) pc) else (fun pc => (bif Nat.ble pc 7 then (fun pc => (bif Nat.ble pc 6 then (fun pc => bif Nat.beq pc 6 then some (.iload_n 1, 7, 0, 0) else none) else (fun pc => bif Nat.beq pc 7 then some (.invokevirtual 396, 10, 79, 162) else none)) pc) else (fun pc => (bif Nat.ble pc 10 then (fun pc => bif Nat.beq pc 10 then some (.ifCond .eq 12, 13, 22, 0) else none) else (fun pc => (bif Nat.ble pc 22 then (fun pc => bif Nat.beq pc 22 then some (.iconst 0, 23, 0, 0) else none) else (fun pc => bif Nat.beq pc 23 then some (.ireturn, 24, 1, 0) else none)) pc)) pc)) pc)) pc
/-- PackWeeks.undo()Z -/
def kc_84 : Nat → Option en_I := fun pc => (bif Nat.ble pc 4 then (fun pc => (bif Nat.ble pc 0 then (fun pc => bif Nat.beq pc 0 then some (.aload_n 0, 1, 0, 0) else none) else (fun pc => (bif Nat.ble pc 1 then (fun pc => bif Nat.beq pc 1 then some (.getfield 38, 4, 4, 9) else none) else (fun pc => bif Nat.beq pc 4 then some (.aload_n 0, 5, 0, 0) else none)) pc)) pc) else (fun pc => (bif Nat.ble pc 5 then (fun pc => bif Nat.beq pc 5 then some (.getfield 28, 8, 2, 9) else none) else (fun pc => (bif Nat.ble pc 8 then (fun pc => bif Nat.beq pc 8 then some (.invokevirtual 194, 11, 85, 34) else none) else (fun pc => bif Nat.beq pc 11 then some (.ireturn, 12, 1, 0) else none)) pc)) pc)) pc
/-- PackWeeks$Past.giveBack(LPackWeeks$Stand;)Z -/
def kc_85 : Nat → Option en_I := fun pc => (bif Nat.ble pc 1 then (fun pc => (bif Nat.ble pc 0 then (fun pc => bif Nat.beq pc 0 then some (.aload_n 0, 1, 0, 0) else none) else (fun pc => bif Nat.beq pc 1 then some (.getfield 18, 4, 2, 2) else none)) pc) else (fun pc => (bif Nat.ble pc 4 then (fun pc => bif Nat.beq pc 4 then some (.ifCond .ne 5, 7, 9, 0) else none) else (fun pc => (bif Nat.ble pc 7 then (fun pc => bif Nat.beq pc 7 then some (.iconst 0, 8, 0, 0) else none) else (fun pc => bif Nat.beq pc 8 then some (.ireturn, 9, 1, 0) else none)) pc)) pc)) pc
/-- PackWeeksModel.undo()Z -/
def kc_86 : Nat → Option en_I := fun pc => (bif Nat.ble pc 5 then (fun pc => (bif Nat.ble pc 1 then (fun pc => (bif Nat.ble pc 0 then (fun pc => bif Nat.beq pc 0 then some (.aload_n 0, 1, 0, 0) else none) else (fun pc => bif Nat.beq pc 1 then some (.iconst 0, 2, 0, 0) else none)) pc) else (fun pc => (bif Nat.ble pc 2 then (fun pc => bif Nat.beq pc 2 then some (.putfield 1, 5, 0, 10) else none) else (fun pc => bif Nat.beq pc 5 then some (.aload_n 0, 6, 0, 0) else none)) pc)) pc) else (fun pc => (bif Nat.ble pc 9 then (fun pc => (bif Nat.ble pc 6 then (fun pc => bif Nat.beq pc 6 then some (.getfield 364, 9, 26, 10) else none) else (fun pc => bif Nat.beq pc 9 then some (.ifCond .ne 5, 12, 14, 0) else none)) pc) else (fun pc => (bif Nat.ble pc 12 then (fun pc => bif Nat.beq pc 12 then some (.iconst 0, 13, 0, 0) else none) else (fun pc => bif Nat.beq pc 13 then some (.ireturn, 14, 1, 0) else none)) pc)) pc)) pc
/-- PackWeeks.judged(I)I -/
def kc_87 : Nat → Option en_I := fun pc => (bif Nat.ble pc 29 then (fun pc => (bif Nat.ble pc 13 then (fun pc => (bif Nat.ble pc 3 then (fun pc => (bif Nat.ble pc 1 then (fun pc => (bif Nat.ble pc 0 then (fun pc => bif Nat.beq pc 0 then some (.iload_n 1, 1, 0, 0) else none) else (fun pc => bif Nat.beq pc 1 then some (.iconst 0, 2, 0, 0) else none)) pc) else (fun pc => (bif Nat.ble pc 2 then (fun pc => bif Nat.beq pc 2 then some (.iconst 2, 3, 2, 0) else none) else (fun pc => bif Nat.beq pc 3 then some (.invokestatic 121, 6, 60, 3) else none)) pc)) pc) else (fun pc => (bif Nat.ble pc 9 then (fun pc => (bif Nat.ble pc 6 then (fun pc => bif Nat.beq pc 6 then some (.ifCond .ne 6, 9, 12, 0) else none) else (fun pc => bif Nat.beq pc 9 then some (.bipush (-2), 11, 4294967294, 0) else none)) pc) else (fun pc => (bif Nat.ble pc 11 then (fun pc => bif Nat.beq pc 11 then some (.ireturn, 12, 0, 0) else none) else (fun pc => (bif Nat.ble pc 12 then (fun pc => bif Nat.beq pc 12 then some (.aload_n 0, 13, 0, 0) else none) else (fun pc => bif Nat.beq pc 13 then some (.getfield 32, 16, 3, 9) else none)) pc)) pc)) pc)) pc) else (fun pc => (bif Nat.ble pc 24 then (fun pc => (bif Nat.ble pc 17 then (fun pc => (bif Nat.ble pc 16 then (fun pc => bif Nat.beq pc 16 then some (.aload_n 0, 17, 0, 0) else none) else (fun pc => bif Nat.beq pc 17 then some (.getfield 71, 20, 10, 9) else none)) pc) else (fun pc => (bif Nat.ble pc 20 then (fun pc => bif Nat.beq pc 20 then some (.invokevirtual 198, 23, 22, 114) else none) else (fun pc => (bif Nat.ble pc 23 then (fun pc => bif Nat.beq pc 23 then some (.iconst (-1), 24, 4294967295, 0) else none) else (fun pc => bif Nat.beq pc 24 then some (.istore_n 2, 25, 0, 0) else none)) pc)) pc)) pc) else (fun pc => (bif Nat.ble pc 26 then (fun pc => (bif Nat.ble pc 25 then (fun pc => bif Nat.beq pc 25 then some (.iconst 0, 26, 0, 0) else none) else (fun pc => bif Nat.beq pc 26 then some (.istore_n 3, 27, 0, 0) else none)) pc) else (fun pc => (bif Nat.ble pc 27 then (fun pc => bif Nat.beq pc 27 then some (.iload_n 3, 28, 0, 0) else none) else (fun pc => (bif Nat.ble pc 28 then (fun pc => bif Nat.beq pc 28 then some (.aload_n 0, 29, 0, 0) else none) else (fun pc => bif Nat.beq pc 29 then some (.getfield 83, 32, 12, 9) else none)) pc)) pc)) pc)) pc)) pc) else (fun pc => (bif Nat.ble pc 102 then (fun pc => (bif Nat.ble pc 95 then (fun pc => (bif Nat.ble pc 35 then (fun pc => (bif Nat.ble pc 32 then (fun pc => bif Nat.beq pc 32 then some (.getfield 202, 35, 5, 5) else none) else (fun pc => bif Nat.beq pc 35 then some (.if_icmp .ge 59, 38, 94, 0) else none)) pc) else (fun pc => (bif Nat.ble pc 94 then (fun pc => bif Nat.beq pc 94 then some (.iload_n 1, 95, 0, 0) else none) else (fun pc => bif Nat.beq pc 95 then some (.ifCond .ne 5, 98, 100, 0) else none)) pc)) pc) else (fun pc => (bif Nat.ble pc 99 then (fun pc => (bif Nat.ble pc 98 then (fun pc => bif Nat.beq pc 98 then some (.iload_n 2, 99, 0, 0) else none) else (fun pc => bif Nat.beq pc 99 then some (.ireturn, 100, 0, 0) else none)) pc) else (fun pc => (bif Nat.ble pc 100 then (fun pc => bif Nat.beq pc 100 then some (.iload_n 1, 101, 0, 0) else none) else (fun pc => (bif Nat.ble pc 101 then (fun pc => bif Nat.beq pc 101 then some (.iconst 1, 102, 1, 0) else none) else (fun pc => bif Nat.beq pc 102 then some (.if_icmp .ne 13, 105, 115, 0) else none)) pc)) pc)) pc)) pc) else (fun pc => (bif Nat.ble pc 115 then (fun pc => (bif Nat.ble pc 106 then (fun pc => (bif Nat.ble pc 105 then (fun pc => bif Nat.beq pc 105 then some (.aload_n 0, 106, 0, 0) else none) else (fun pc => bif Nat.beq pc 106 then some (.getfield 32, 109, 3, 9) else none)) pc) else (fun pc => (bif Nat.ble pc 109 then (fun pc => bif Nat.beq pc 109 then some (.getfield 125, 112, 0, 7) else none) else (fun pc => (bif Nat.ble pc 112 then (fun pc => bif Nat.beq pc 112 then some (.goto 14, 115, 126, 0) else none) else (fun pc => bif Nat.beq pc 115 then some (.aload_n 0, 116, 0, 0) else none)) pc)) pc)) pc) else (fun pc => (bif Nat.ble pc 119 then (fun pc => (bif Nat.ble pc 116 then (fun pc => bif Nat.beq pc 116 then some (.getfield 32, 119, 3, 9) else none) else (fun pc => bif Nat.beq pc 119 then some (.aload_n 0, 120, 0, 0) else none)) pc) else (fun pc => (bif Nat.ble pc 120 then (fun pc => bif Nat.beq pc 120 then some (.getfield 71, 123, 10, 9) else none) else (fun pc => (bif Nat.ble pc 123 then (fun pc => bif Nat.beq pc 123 then some (.invokevirtual 212, 126, 89, 114) else none) else (fun pc => bif Nat.beq pc 126 then some (.ireturn, 127, 0, 0) else none)) pc)) pc)) pc)) pc)) pc)) pc
/-- PackWeeksModel.judged(I)I -/
def kc_88 : Nat → Option en_I := fun pc => (bif Nat.ble pc 34 then (fun pc => (bif Nat.ble pc 17 then (fun pc => (bif Nat.ble pc 6 then (fun pc => (bif Nat.ble pc 1 then (fun pc => (bif Nat.ble pc 0 then (fun pc => bif Nat.beq pc 0 then some (.aload_n 0, 1, 0, 0) else none) else (fun pc => bif Nat.beq pc 1 then some (.iconst 0, 2, 0, 0) else none)) pc) else (fun pc => (bif Nat.ble pc 2 then (fun pc => bif Nat.beq pc 2 then some (.putfield 1, 5, 0, 10) else none) else (fun pc => (bif Nat.ble pc 5 then (fun pc => bif Nat.beq pc 5 then some (.iload_n 1, 6, 0, 0) else none) else (fun pc => bif Nat.beq pc 6 then some (.iconst 0, 7, 0, 0) else none)) pc)) pc)) pc) else (fun pc => (bif Nat.ble pc 11 then (fun pc => (bif Nat.ble pc 7 then (fun pc => bif Nat.beq pc 7 then some (.iconst 2, 8, 2, 0) else none) else (fun pc => (bif Nat.ble pc 8 then (fun pc => bif Nat.beq pc 8 then some (.invokestatic 320, 11, 61, 3) else none) else (fun pc => bif Nat.beq pc 11 then some (.ifCond .ne 6, 14, 17, 0) else none)) pc)) pc) else (fun pc => (bif Nat.ble pc 14 then (fun pc => bif Nat.beq pc 14 then some (.bipush (-2), 16, 4294967294, 0) else none) else (fun pc => (bif Nat.ble pc 16 then (fun pc => bif Nat.beq pc 16 then some (.ireturn, 17, 0, 0) else none) else (fun pc => bif Nat.beq pc 17 then some (.aload_n 0, 18, 0, 0) else none)) pc)) pc)) pc)) pc) else (fun pc => (bif Nat.ble pc 26 then (fun pc => (bif Nat.ble pc 21 then (fun pc => (bif Nat.ble pc 18 then (fun pc => bif Nat.beq pc 18 then some (.sipush 945, 21, 945, 0) else none) else (fun pc => bif Nat.beq pc 21 then some (.invokevirtual 361, 24, 28, 162) else none)) pc) else (fun pc => (bif Nat.ble pc 24 then (fun pc => bif Nat.beq pc 24 then some (.iconst (-1), 25, 4294967295, 0) else none) else (fun pc => (bif Nat.ble pc 25 then (fun pc => bif Nat.beq pc 25 then some (.istore_n 2, 26, 0, 0) else none) else (fun pc => bif Nat.beq pc 26 then some (.iconst 0, 27, 0, 0) else none)) pc)) pc)) pc) else (fun pc => (bif Nat.ble pc 29 then (fun pc => (bif Nat.ble pc 27 then (fun pc => bif Nat.beq pc 27 then some (.istore_n 3, 28, 0, 0) else none) else (fun pc => (bif Nat.ble pc 28 then (fun pc => bif Nat.beq pc 28 then some (.iload_n 3, 29, 0, 0) else none) else (fun pc => bif Nat.beq pc 29 then some (.aload_n 0, 30, 0, 0) else none)) pc)) pc) else (fun pc => (bif Nat.ble pc 30 then (fun pc => bif Nat.beq pc 30 then some (.getfield 142, 33, 22, 10) else none) else (fun pc => (bif Nat.ble pc 33 then (fun pc => bif Nat.beq pc 33 then some (.iconst 0, 34, 0, 0) else none) else (fun pc => bif Nat.beq pc 34 then some (.iaload, 35, 0, 0) else none)) pc)) pc)) pc)) pc)) pc) else (fun pc => (bif Nat.ble pc 105 then (fun pc => (bif Nat.ble pc 73 then (fun pc => (bif Nat.ble pc 70 then (fun pc => (bif Nat.ble pc 35 then (fun pc => bif Nat.beq pc 35 then some (.if_icmp .ge 35, 38, 70, 0) else none) else (fun pc => bif Nat.beq pc 70 then some (.iconst 0, 71, 0, 0) else none)) pc) else (fun pc => (bif Nat.ble pc 71 then (fun pc => bif Nat.beq pc 71 then some (.istore_n 3, 72, 0, 0) else none) else (fun pc => (bif Nat.ble pc 72 then (fun pc => bif Nat.beq pc 72 then some (.iconst 0, 73, 0, 0) else none) else (fun pc => bif Nat.beq pc 73 then some (.istore 4, 75, 0, 0) else none)) pc)) pc)) pc) else (fun pc => (bif Nat.ble pc 78 then (fun pc => (bif Nat.ble pc 75 then (fun pc => bif Nat.beq pc 75 then some (.iload 4, 77, 0, 0) else none) else (fun pc => (bif Nat.ble pc 77 then (fun pc => bif Nat.beq pc 77 then some (.aload_n 0, 78, 0, 0) else none) else (fun pc => bif Nat.beq pc 78 then some (.invokevirtual 374, 81, 75, 161) else none)) pc)) pc) else (fun pc => (bif Nat.ble pc 81 then (fun pc => bif Nat.beq pc 81 then some (.if_icmp .ge 23, 84, 104, 0) else none) else (fun pc => (bif Nat.ble pc 104 then (fun pc => bif Nat.beq pc 104 then some (.iload_n 1, 105, 0, 0) else none) else (fun pc => bif Nat.beq pc 105 then some (.ifCond .ne 7, 108, 112, 0) else none)) pc)) pc)) pc)) pc) else (fun pc => (bif Nat.ble pc 117 then (fun pc => (bif Nat.ble pc 112 then (fun pc => (bif Nat.ble pc 108 then (fun pc => bif Nat.beq pc 108 then some (.iload_n 2, 109, 0, 0) else none) else (fun pc => (bif Nat.ble pc 109 then (fun pc => bif Nat.beq pc 109 then some (.goto 20, 112, 129, 0) else none) else (fun pc => bif Nat.beq pc 112 then some (.iload_n 1, 113, 0, 0) else none)) pc)) pc) else (fun pc => (bif Nat.ble pc 113 then (fun pc => bif Nat.beq pc 113 then some (.iconst 1, 114, 1, 0) else none) else (fun pc => (bif Nat.ble pc 114 then (fun pc => bif Nat.beq pc 114 then some (.if_icmp .ne 14, 117, 128, 0) else none) else (fun pc => bif Nat.beq pc 117 then some (.aload_n 0, 118, 0, 0) else none)) pc)) pc)) pc) else (fun pc => (bif Nat.ble pc 124 then (fun pc => (bif Nat.ble pc 118 then (fun pc => bif Nat.beq pc 118 then some (.getfield 151, 121, 25, 10) else none) else (fun pc => (bif Nat.ble pc 121 then (fun pc => bif Nat.beq pc 121 then some (.sipush 945, 124, 945, 0) else none) else (fun pc => bif Nat.beq pc 124 then some (.iaload, 125, 0, 0) else none)) pc)) pc) else (fun pc => (bif Nat.ble pc 125 then (fun pc => bif Nat.beq pc 125 then some (.goto 4, 128, 129, 0) else none) else (fun pc => (bif Nat.ble pc 128 then (fun pc => bif Nat.beq pc 128 then some (.iload_n 3, 129, 0, 0) else none) else (fun pc => bif Nat.beq pc 129 then some (.ireturn, 130, 0, 0) else none)) pc)) pc)) pc)) pc)) pc)) pc
/-- PackWeeks$Stand.biscuitOfAll(LPackWeeks$Pack;)I -/
def kc_89 : Nat → Option en_I := fun pc => (bif Nat.ble pc 4 then (fun pc => (bif Nat.ble pc 1 then (fun pc => (bif Nat.ble pc 0 then (fun pc => bif Nat.beq pc 0 then some (.iconst 0, 1, 0, 0) else none) else (fun pc => bif Nat.beq pc 1 then some (.istore_n 2, 2, 0, 0) else none)) pc) else (fun pc => (bif Nat.ble pc 2 then (fun pc => bif Nat.beq pc 2 then some (.iconst 0, 3, 0, 0) else none) else (fun pc => (bif Nat.ble pc 3 then (fun pc => bif Nat.beq pc 3 then some (.istore_n 3, 4, 0, 0) else none) else (fun pc => bif Nat.beq pc 4 then some (.iload_n 3, 5, 0, 0) else none)) pc)) pc)) pc) else (fun pc => (bif Nat.ble pc 9 then (fun pc => (bif Nat.ble pc 5 then (fun pc => bif Nat.beq pc 5 then some (.aload_n 1, 6, 0, 0) else none) else (fun pc => (bif Nat.ble pc 6 then (fun pc => bif Nat.beq pc 6 then some (.getfield 49, 9, 7, 1) else none) else (fun pc => bif Nat.beq pc 9 then some (.getfield 41, 12, 5, 5) else none)) pc)) pc) else (fun pc => (bif Nat.ble pc 12 then (fun pc => bif Nat.beq pc 12 then some (.if_icmp .ge 18, 15, 30, 0) else none) else (fun pc => (bif Nat.ble pc 30 then (fun pc => bif Nat.beq pc 30 then some (.iload_n 2, 31, 0, 0) else none) else (fun pc => bif Nat.beq pc 31 then some (.ireturn, 32, 0, 0) else none)) pc)) pc)) pc)) pc
/-- PackWeeks.where(II)I -/
def kc_90 : Nat → Option en_I := fun pc => (bif Nat.ble pc 7 then (fun pc => (bif Nat.ble pc 1 then (fun pc => (bif Nat.ble pc 0 then (fun pc => bif Nat.beq pc 0 then some (.aload_n 0, 1, 0, 0) else none) else (fun pc => bif Nat.beq pc 1 then some (.getfield 71, 4, 10, 9) else none)) pc) else (fun pc => (bif Nat.ble pc 4 then (fun pc => bif Nat.beq pc 4 then some (.getfield 136, 7, 5, 1) else none) else (fun pc => bif Nat.beq pc 7 then some (.iload_n 1, 8, 0, 0) else none)) pc)) pc) else (fun pc => (bif Nat.ble pc 11 then (fun pc => (bif Nat.ble pc 8 then (fun pc => bif Nat.beq pc 8 then some (.invokevirtual 139, 11, 23, 82) else none) else (fun pc => bif Nat.beq pc 11 then some (.ifCond .eq 14, 14, 25, 0) else none)) pc) else (fun pc => (bif Nat.ble pc 25 then (fun pc => bif Nat.beq pc 25 then some (.iconst (-1), 26, 4294967295, 0) else none) else (fun pc => bif Nat.beq pc 26 then some (.ireturn, 27, 0, 0) else none)) pc)) pc)) pc
/-- PackWeeksModel.where(II)I -/
def kc_91 : Nat → Option en_I := fun pc => (bif Nat.ble pc 5 then (fun pc => (bif Nat.ble pc 1 then (fun pc => (bif Nat.ble pc 0 then (fun pc => bif Nat.beq pc 0 then some (.aload_n 0, 1, 0, 0) else none) else (fun pc => bif Nat.beq pc 1 then some (.iconst 0, 2, 0, 0) else none)) pc) else (fun pc => (bif Nat.ble pc 2 then (fun pc => bif Nat.beq pc 2 then some (.putfield 1, 5, 0, 10) else none) else (fun pc => bif Nat.beq pc 5 then some (.aload_n 0, 6, 0, 0) else none)) pc)) pc) else (fun pc => (bif Nat.ble pc 7 then (fun pc => (bif Nat.ble pc 6 then (fun pc => bif Nat.beq pc 6 then some (.iload_n 1, 7, 0, 0) else none) else (fun pc => bif Nat.beq pc 7 then some (.invokevirtual 387, 10, 92, 162) else none)) pc) else (fun pc => (bif Nat.ble pc 10 then (fun pc => bif Nat.beq pc 10 then some (.ifCond .eq 30, 13, 40, 0) else none) else (fun pc => (bif Nat.ble pc 40 then (fun pc => bif Nat.beq pc 40 then some (.iconst (-1), 41, 4294967295, 0) else none) else (fun pc => bif Nat.beq pc 41 then some (.ireturn, 42, 0, 0) else none)) pc)) pc)) pc)) pc
/-- PackWeeksModel.isThing(I)Z -/
def kc_92 : Nat → Option en_I := fun pc => (bif Nat.ble pc 5 then (fun pc => (bif Nat.ble pc 1 then (fun pc => (bif Nat.ble pc 0 then (fun pc => bif Nat.beq pc 0 then some (.iload_n 1, 1, 0, 0) else none) else (fun pc => bif Nat.beq pc 1 then some (.ifCond .lt 15, 4, 16, 0) else none)) pc) else (fun pc => (bif Nat.ble pc 4 then (fun pc => bif Nat.beq pc 4 then some (.iload_n 1, 5, 0, 0) else none) else (fun pc => bif Nat.beq pc 5 then some (.aload_n 0, 6, 0, 0) else none)) pc)) pc) else (fun pc => (bif Nat.ble pc 9 then (fun pc => (bif Nat.ble pc 6 then (fun pc => bif Nat.beq pc 6 then some (.invokevirtual 371, 9, 76, 161) else none) else (fun pc => bif Nat.beq pc 9 then some (.if_icmp .ge 7, 12, 16, 0) else none)) pc) else (fun pc => (bif Nat.ble pc 16 then (fun pc => bif Nat.beq pc 16 then some (.iconst 0, 17, 0, 0) else none) else (fun pc => bif Nat.beq pc 17 then some (.ireturn, 18, 1, 0) else none)) pc)) pc)) pc
/-- PackWeeks.meet(II)I -/
def kc_93 : Nat → Option en_I := fun pc => (bif Nat.ble pc 2 then (fun pc => (bif Nat.ble pc 0 then (fun pc => bif Nat.beq pc 0 then some (.aload_n 0, 1, 0, 0) else none) else (fun pc => (bif Nat.ble pc 1 then (fun pc => bif Nat.beq pc 1 then some (.iload_n 1, 2, 0, 0) else none) else (fun pc => bif Nat.beq pc 2 then some (.iload_n 2, 3, 0, 0) else none)) pc)) pc) else (fun pc => (bif Nat.ble pc 6 then (fun pc => (bif Nat.ble pc 3 then (fun pc => bif Nat.beq pc 3 then some (.invokevirtual 218, 6, 94, 147) else none) else (fun pc => bif Nat.beq pc 6 then some (.ifCond .ne 5, 9, 11, 0) else none)) pc) else (fun pc => (bif Nat.ble pc 9 then (fun pc => bif Nat.beq pc 9 then some (.iconst (-1), 10, 4294967295, 0) else none) else (fun pc => bif Nat.beq pc 10 then some (.ireturn, 11, 0, 0) else none)) pc)) pc)) pc
/-- PackWeeks.areTwoThings(II)Z -/
def kc_94 : Nat → Option en_I := fun pc => (bif Nat.ble pc 7 then (fun pc => (bif Nat.ble pc 1 then (fun pc => (bif Nat.ble pc 0 then (fun pc => bif Nat.beq pc 0 then some (.aload_n 0, 1, 0, 0) else none) else (fun pc => bif Nat.beq pc 1 then some (.getfield 71, 4, 10, 9) else none)) pc) else (fun pc => (bif Nat.ble pc 4 then (fun pc => bif Nat.beq pc 4 then some (.getfield 136, 7, 5, 1) else none) else (fun pc => bif Nat.beq pc 7 then some (.iload_n 1, 8, 0, 0) else none)) pc)) pc) else (fun pc => (bif Nat.ble pc 11 then (fun pc => (bif Nat.ble pc 8 then (fun pc => bif Nat.beq pc 8 then some (.invokevirtual 139, 11, 23, 82) else none) else (fun pc => bif Nat.beq pc 11 then some (.ifCond .eq 26, 14, 37, 0) else none)) pc) else (fun pc => (bif Nat.ble pc 37 then (fun pc => bif Nat.beq pc 37 then some (.iconst 0, 38, 0, 0) else none) else (fun pc => bif Nat.beq pc 38 then some (.ireturn, 39, 1, 0) else none)) pc)) pc)) pc
/-- PackWeeksModel.meet(II)I -/
def kc_95 : Nat → Option en_I := fun pc => (bif Nat.ble pc 5 then (fun pc => (bif Nat.ble pc 1 then (fun pc => (bif Nat.ble pc 0 then (fun pc => bif Nat.beq pc 0 then some (.aload_n 0, 1, 0, 0) else none) else (fun pc => bif Nat.beq pc 1 then some (.iconst 0, 2, 0, 0) else none)) pc) else (fun pc => (bif Nat.ble pc 2 then (fun pc => bif Nat.beq pc 2 then some (.putfield 1, 5, 0, 10) else none) else (fun pc => bif Nat.beq pc 5 then some (.aload_n 0, 6, 0, 0) else none)) pc)) pc) else (fun pc => (bif Nat.ble pc 7 then (fun pc => (bif Nat.ble pc 6 then (fun pc => bif Nat.beq pc 6 then some (.iload_n 1, 7, 0, 0) else none) else (fun pc => bif Nat.beq pc 7 then some (.invokevirtual 387, 10, 92, 162) else none)) pc) else (fun pc => (bif Nat.ble pc 10 then (fun pc => bif Nat.beq pc 10 then some (.ifCond .eq 16, 13, 26, 0) else none) else (fun pc => (bif Nat.ble pc 26 then (fun pc => bif Nat.beq pc 26 then some (.iconst (-1), 27, 4294967295, 0) else none) else (fun pc => bif Nat.beq pc 27 then some (.ireturn, 28, 0, 0) else none)) pc)) pc)) pc)) pc
/-- PackWeeks.reach(III)I -/
def kc_96 : Nat → Option en_I := fun pc => (bif Nat.ble pc 2 then (fun pc => (bif Nat.ble pc 0 then (fun pc => bif Nat.beq pc 0 then some (.aload_n 0, 1, 0, 0) else none) else (fun pc => (bif Nat.ble pc 1 then (fun pc => bif Nat.beq pc 1 then some (.iload_n 1, 2, 0, 0) else none) else (fun pc => bif Nat.beq pc 2 then some (.iload_n 2, 3, 0, 0) else none)) pc)) pc) else (fun pc => (bif Nat.ble pc 6 then (fun pc => (bif Nat.ble pc 3 then (fun pc => bif Nat.beq pc 3 then some (.invokevirtual 218, 6, 94, 147) else none) else (fun pc => bif Nat.beq pc 6 then some (.ifCond .eq 13, 9, 19, 0) else none)) pc) else (fun pc => (bif Nat.ble pc 19 then (fun pc => bif Nat.beq pc 19 then some (.iconst (-1), 20, 4294967295, 0) else none) else (fun pc => bif Nat.beq pc 20 then some (.ireturn, 21, 0, 0) else none)) pc)) pc)) pc
/-- PackWeeksModel.reach(III)I -/
def kc_97 : Nat → Option en_I := fun pc => (bif Nat.ble pc 5 then (fun pc => (bif Nat.ble pc 1 then (fun pc => (bif Nat.ble pc 0 then (fun pc => bif Nat.beq pc 0 then some (.aload_n 0, 1, 0, 0) else none) else (fun pc => bif Nat.beq pc 1 then some (.iconst 0, 2, 0, 0) else none)) pc) else (fun pc => (bif Nat.ble pc 2 then (fun pc => bif Nat.beq pc 2 then some (.putfield 1, 5, 0, 10) else none) else (fun pc => bif Nat.beq pc 5 then some (.aload_n 0, 6, 0, 0) else none)) pc)) pc) else (fun pc => (bif Nat.ble pc 7 then (fun pc => (bif Nat.ble pc 6 then (fun pc => bif Nat.beq pc 6 then some (.iload_n 1, 7, 0, 0) else none) else (fun pc => bif Nat.beq pc 7 then some (.invokevirtual 387, 10, 92, 162) else none)) pc) else (fun pc => (bif Nat.ble pc 10 then (fun pc => bif Nat.beq pc 10 then some (.ifCond .eq 36, 13, 46, 0) else none) else (fun pc => (bif Nat.ble pc 46 then (fun pc => bif Nat.beq pc 46 then some (.iconst (-1), 47, 4294967295, 0) else none) else (fun pc => bif Nat.beq pc 47 then some (.ireturn, 48, 0, 0) else none)) pc)) pc)) pc)) pc
/-- PackWeeks.setout(II)I -/
def kc_98 : Nat → Option en_I := fun pc => (bif Nat.ble pc 2 then (fun pc => (bif Nat.ble pc 0 then (fun pc => bif Nat.beq pc 0 then some (.aload_n 0, 1, 0, 0) else none) else (fun pc => (bif Nat.ble pc 1 then (fun pc => bif Nat.beq pc 1 then some (.iload_n 1, 2, 0, 0) else none) else (fun pc => bif Nat.beq pc 2 then some (.iload_n 2, 3, 0, 0) else none)) pc)) pc) else (fun pc => (bif Nat.ble pc 6 then (fun pc => (bif Nat.ble pc 3 then (fun pc => bif Nat.beq pc 3 then some (.invokevirtual 218, 6, 94, 147) else none) else (fun pc => bif Nat.beq pc 6 then some (.ifCond .ne 5, 9, 11, 0) else none)) pc) else (fun pc => (bif Nat.ble pc 9 then (fun pc => bif Nat.beq pc 9 then some (.iconst (-1), 10, 4294967295, 0) else none) else (fun pc => bif Nat.beq pc 10 then some (.ireturn, 11, 0, 0) else none)) pc)) pc)) pc
/-- PackWeeksModel.setout(II)I -/
def kc_99 : Nat → Option en_I := fun pc => (bif Nat.ble pc 38 then (fun pc => (bif Nat.ble pc 6 then (fun pc => (bif Nat.ble pc 1 then (fun pc => (bif Nat.ble pc 0 then (fun pc => bif Nat.beq pc 0 then some (.aload_n 0, 1, 0, 0) else none) else (fun pc => bif Nat.beq pc 1 then some (.iconst 0, 2, 0, 0) else none)) pc) else (fun pc => (bif Nat.ble pc 2 then (fun pc => bif Nat.beq pc 2 then some (.putfield 1, 5, 0, 10) else none) else (fun pc => (bif Nat.ble pc 5 then (fun pc => bif Nat.beq pc 5 then some (.aload_n 0, 6, 0, 0) else none) else (fun pc => bif Nat.beq pc 6 then some (.iload_n 1, 7, 0, 0) else none)) pc)) pc)) pc) else (fun pc => (bif Nat.ble pc 10 then (fun pc => (bif Nat.ble pc 7 then (fun pc => bif Nat.beq pc 7 then some (.invokevirtual 387, 10, 92, 162) else none) else (fun pc => bif Nat.beq pc 10 then some (.ifCond .eq 26, 13, 36, 0) else none)) pc) else (fun pc => (bif Nat.ble pc 36 then (fun pc => bif Nat.beq pc 36 then some (.iconst (-1), 37, 4294967295, 0) else none) else (fun pc => (bif Nat.ble pc 37 then (fun pc => bif Nat.beq pc 37 then some (.istore_n 3, 38, 0, 0) else none) else (fun pc => bif Nat.beq pc 38 then some (.iconst (-1), 39, 4294967295, 0) else none)) pc)) pc)) pc)) pc) else (fun pc => (bif Nat.ble pc 46 then (fun pc => (bif Nat.ble pc 41 then (fun pc => (bif Nat.ble pc 39 then (fun pc => bif Nat.beq pc 39 then some (.istore 4, 41, 0, 0) else none) else (fun pc => bif Nat.beq pc 41 then some (.iconst 0, 42, 0, 0) else none)) pc) else (fun pc => (bif Nat.ble pc 42 then (fun pc => bif Nat.beq pc 42 then some (.istore 5, 44, 0, 0) else none) else (fun pc => (bif Nat.ble pc 44 then (fun pc => bif Nat.beq pc 44 then some (.iload 5, 46, 0, 0) else none) else (fun pc => bif Nat.beq pc 46 then some (.bipush 60, 48, 60, 0) else none)) pc)) pc)) pc) else (fun pc => (bif Nat.ble pc 51 then (fun pc => (bif Nat.ble pc 48 then (fun pc => bif Nat.beq pc 48 then some (.if_icmp .gt 43, 51, 91, 0) else none) else (fun pc => bif Nat.beq pc 51 then some (.iload_n 3, 52, 0, 0) else none)) pc) else (fun pc => (bif Nat.ble pc 52 then (fun pc => bif Nat.beq pc 52 then some (.ifCond .lt 39, 55, 91, 0) else none) else (fun pc => (bif Nat.ble pc 91 then (fun pc => bif Nat.beq pc 91 then some (.iload 4, 93, 0, 0) else none) else (fun pc => bif Nat.beq pc 93 then some (.ireturn, 94, 0, 0) else none)) pc)) pc)) pc)) pc)) pc
/-- PackWeeks.see(III)Z -/
def kc_100 : Nat → Option en_I := fun pc => (bif Nat.ble pc 7 then (fun pc => (bif Nat.ble pc 1 then (fun pc => (bif Nat.ble pc 0 then (fun pc => bif Nat.beq pc 0 then some (.aload_n 0, 1, 0, 0) else none) else (fun pc => bif Nat.beq pc 1 then some (.getfield 71, 4, 10, 9) else none)) pc) else (fun pc => (bif Nat.ble pc 4 then (fun pc => bif Nat.beq pc 4 then some (.getfield 136, 7, 5, 1) else none) else (fun pc => bif Nat.beq pc 7 then some (.iload_n 1, 8, 0, 0) else none)) pc)) pc) else (fun pc => (bif Nat.ble pc 11 then (fun pc => (bif Nat.ble pc 8 then (fun pc => bif Nat.beq pc 8 then some (.invokevirtual 139, 11, 23, 82) else none) else (fun pc => bif Nat.beq pc 11 then some (.ifCond .eq 23, 14, 34, 0) else none)) pc) else (fun pc => (bif Nat.ble pc 34 then (fun pc => bif Nat.beq pc 34 then some (.iconst 0, 35, 0, 0) else none) else (fun pc => bif Nat.beq pc 35 then some (.ireturn, 36, 1, 0) else none)) pc)) pc)) pc
/-- PackWeeksModel.see(III)Z -/
def kc_101 : Nat → Option en_I := fun pc => (bif Nat.ble pc 5 then (fun pc => (bif Nat.ble pc 1 then (fun pc => (bif Nat.ble pc 0 then (fun pc => bif Nat.beq pc 0 then some (.aload_n 0, 1, 0, 0) else none) else (fun pc => bif Nat.beq pc 1 then some (.iconst 0, 2, 0, 0) else none)) pc) else (fun pc => (bif Nat.ble pc 2 then (fun pc => bif Nat.beq pc 2 then some (.putfield 1, 5, 0, 10) else none) else (fun pc => bif Nat.beq pc 5 then some (.aload_n 0, 6, 0, 0) else none)) pc)) pc) else (fun pc => (bif Nat.ble pc 7 then (fun pc => (bif Nat.ble pc 6 then (fun pc => bif Nat.beq pc 6 then some (.iload_n 1, 7, 0, 0) else none) else (fun pc => bif Nat.beq pc 7 then some (.invokevirtual 387, 10, 92, 162) else none)) pc) else (fun pc => (bif Nat.ble pc 10 then (fun pc => bif Nat.beq pc 10 then some (.ifCond .eq 35, 13, 45, 0) else none) else (fun pc => (bif Nat.ble pc 45 then (fun pc => bif Nat.beq pc 45 then some (.iconst 0, 46, 0, 0) else none) else (fun pc => bif Nat.beq pc 46 then some (.ireturn, 47, 1, 0) else none)) pc)) pc)) pc)) pc
/-- PackWeeks.fits()J -/
def kc_102 : Nat → Option en_I := fun pc => (bif Nat.ble pc 5 then (fun pc => (bif Nat.ble pc 1 then (fun pc => (bif Nat.ble pc 0 then (fun pc => bif Nat.beq pc 0 then some (.aload_n 0, 1, 0, 0) else none) else (fun pc => bif Nat.beq pc 1 then some (.getfield 57, 4, 8, 9) else none)) pc) else (fun pc => (bif Nat.ble pc 4 then (fun pc => bif Nat.beq pc 4 then some (.aload_n 0, 5, 0, 0) else none) else (fun pc => bif Nat.beq pc 5 then some (.getfield 71, 8, 10, 9) else none)) pc)) pc) else (fun pc => (bif Nat.ble pc 9 then (fun pc => (bif Nat.ble pc 8 then (fun pc => bif Nat.beq pc 8 then some (.aload_n 0, 9, 0, 0) else none) else (fun pc => bif Nat.beq pc 9 then some (.getfield 28, 12, 2, 9) else none)) pc) else (fun pc => (bif Nat.ble pc 12 then (fun pc => bif Nat.beq pc 12 then some (.getfield 125, 15, 0, 7) else none) else (fun pc => (bif Nat.ble pc 15 then (fun pc => bif Nat.beq pc 15 then some (.invokevirtual 231, 18, 103, 99) else none) else (fun pc => bif Nat.beq pc 18 then some (.lreturn, 19, 0, 0) else none)) pc)) pc)) pc)) pc
/-- PackWeeks$Sights.fitting(LPackWeeks$Pack;I)J -/
def kc_103 : Nat → Option en_I := fun pc => (bif Nat.ble pc 32 then (fun pc => (bif Nat.ble pc 12 then (fun pc => (bif Nat.ble pc 5 then (fun pc => (bif Nat.ble pc 1 then (fun pc => (bif Nat.ble pc 0 then (fun pc => bif Nat.beq pc 0 then some (.aload_n 0, 1, 0, 0) else none) else (fun pc => bif Nat.beq pc 1 then some (.iload_n 2, 2, 0, 0) else none)) pc) else (fun pc => (bif Nat.ble pc 2 then (fun pc => bif Nat.beq pc 2 then some (.invokevirtual 28, 5, 104, 98) else none) else (fun pc => bif Nat.beq pc 5 then some (.istore_n 3, 6, 0, 0) else none)) pc)) pc) else (fun pc => (bif Nat.ble pc 7 then (fun pc => (bif Nat.ble pc 6 then (fun pc => bif Nat.beq pc 6 then some (.lconst 0, 7, 0, 0) else none) else (fun pc => bif Nat.beq pc 7 then some (.lstore 4, 9, 0, 0) else none)) pc) else (fun pc => (bif Nat.ble pc 9 then (fun pc => bif Nat.beq pc 9 then some (.iconst 0, 10, 0, 0) else none) else (fun pc => (bif Nat.ble pc 10 then (fun pc => bif Nat.beq pc 10 then some (.istore 6, 12, 0, 0) else none) else (fun pc => bif Nat.beq pc 12 then some (.iload 6, 14, 0, 0) else none)) pc)) pc)) pc)) pc) else (fun pc => (bif Nat.ble pc 20 then (fun pc => (bif Nat.ble pc 16 then (fun pc => (bif Nat.ble pc 14 then (fun pc => bif Nat.beq pc 14 then some (.bipush 64, 16, 64, 0) else none) else (fun pc => bif Nat.beq pc 16 then some (.if_icmp .ge 49, 19, 65, 0) else none)) pc) else (fun pc => (bif Nat.ble pc 19 then (fun pc => bif Nat.beq pc 19 then some (.aload_n 1, 20, 0, 0) else none) else (fun pc => bif Nat.beq pc 20 then some (.invokevirtual 32, 23, 105, 17) else none)) pc)) pc) else (fun pc => (bif Nat.ble pc 25 then (fun pc => (bif Nat.ble pc 23 then (fun pc => bif Nat.beq pc 23 then some (.iload 6, 25, 0, 0) else none) else (fun pc => bif Nat.beq pc 25 then some (.invokestatic 38, 28, 63, 2) else none)) pc) else (fun pc => (bif Nat.ble pc 28 then (fun pc => bif Nat.beq pc 28 then some (.ifCond .eq 31, 31, 59, 0) else none) else (fun pc => (bif Nat.ble pc 31 then (fun pc => bif Nat.beq pc 31 then some (.aload_n 0, 32, 0, 0) else none) else (fun pc => bif Nat.beq pc 32 then some (.aload_n 1, 33, 0, 0) else none)) pc)) pc)) pc)) pc)) pc) else (fun pc => (bif Nat.ble pc 48 then (fun pc => (bif Nat.ble pc 39 then (fun pc => (bif Nat.ble pc 35 then (fun pc => (bif Nat.ble pc 33 then (fun pc => bif Nat.beq pc 33 then some (.iload 6, 35, 0, 0) else none) else (fun pc => bif Nat.beq pc 35 then some (.iload_n 3, 36, 0, 0) else none)) pc) else (fun pc => (bif Nat.ble pc 36 then (fun pc => bif Nat.beq pc 36 then some (.invokevirtual 42, 39, 106, 100) else none) else (fun pc => bif Nat.beq pc 39 then some (.ifCond .eq 20, 42, 59, 0) else none)) pc)) pc) else (fun pc => (bif Nat.ble pc 44 then (fun pc => (bif Nat.ble pc 42 then (fun pc => bif Nat.beq pc 42 then some (.lload 4, 44, 0, 0) else none) else (fun pc => bif Nat.beq pc 44 then some (.aload_n 1, 45, 0, 0) else none)) pc) else (fun pc => (bif Nat.ble pc 45 then (fun pc => bif Nat.beq pc 45 then some (.iload 6, 47, 0, 0) else none) else (fun pc => (bif Nat.ble pc 47 then (fun pc => bif Nat.beq pc 47 then some (.iload_n 2, 48, 0, 0) else none) else (fun pc => bif Nat.beq pc 48 then some (.iload_n 3, 49, 0, 0) else none)) pc)) pc)) pc)) pc) else (fun pc => (bif Nat.ble pc 56 then (fun pc => (bif Nat.ble pc 50 then (fun pc => (bif Nat.ble pc 49 then (fun pc => bif Nat.beq pc 49 then some (.isub, 50, 0, 0) else none) else (fun pc => bif Nat.beq pc 50 then some (.invokevirtual 46, 53, 107, 19) else none)) pc) else (fun pc => (bif Nat.ble pc 53 then (fun pc => bif Nat.beq pc 53 then some (.invokestatic 50, 56, 20, 1) else none) else (fun pc => bif Nat.beq pc 56 then some (.lor, 57, 0, 0) else none)) pc)) pc) else (fun pc => (bif Nat.ble pc 59 then (fun pc => (bif Nat.ble pc 57 then (fun pc => bif Nat.beq pc 57 then some (.lstore 4, 59, 0, 0) else none) else (fun pc => bif Nat.beq pc 59 then some (.iinc 6 1, 62, 1, 0) else none)) pc) else (fun pc => (bif Nat.ble pc 62 then (fun pc => bif Nat.beq pc 62 then some (.goto (-50), 65, 12, 0) else none) else (fun pc => (bif Nat.ble pc 65 then (fun pc => bif Nat.beq pc 65 then some (.lload 4, 67, 0, 0) else none) else (fun pc => bif Nat.beq pc 67 then some (.lreturn, 68, 0, 0) else none)) pc)) pc)) pc)) pc)) pc)) pc
/-- PackWeeks$Sights.firstStep(I)I -/
def kc_104 : Nat → Option en_I := fun pc => (bif Nat.ble pc 4 then (fun pc => (bif Nat.ble pc 1 then (fun pc => (bif Nat.ble pc 0 then (fun pc => bif Nat.beq pc 0 then some (.iload_n 1, 1, 0, 0) else none) else (fun pc => bif Nat.beq pc 1 then some (.istore_n 2, 2, 0, 0) else none)) pc) else (fun pc => (bif Nat.ble pc 2 then (fun pc => bif Nat.beq pc 2 then some (.iconst 0, 3, 0, 0) else none) else (fun pc => (bif Nat.ble pc 3 then (fun pc => bif Nat.beq pc 3 then some (.istore_n 3, 4, 0, 0) else none) else (fun pc => bif Nat.beq pc 4 then some (.iload_n 3, 5, 0, 0) else none)) pc)) pc)) pc) else (fun pc => (bif Nat.ble pc 6 then (fun pc => (bif Nat.ble pc 5 then (fun pc => bif Nat.beq pc 5 then some (.aload_n 0, 6, 0, 0) else none) else (fun pc => bif Nat.beq pc 6 then some (.getfield 24, 9, 0, 6) else none)) pc) else (fun pc => (bif Nat.ble pc 9 then (fun pc => bif Nat.beq pc 9 then some (.if_icmp .ge 20, 12, 29, 0) else none) else (fun pc => (bif Nat.ble pc 29 then (fun pc => bif Nat.beq pc 29 then some (.iload_n 2, 30, 0, 0) else none) else (fun pc => bif Nat.beq pc 30 then some (.ireturn, 31, 0, 0) else none)) pc)) pc)) pc)) pc
/-- PackWeeks$Pack.gridPlaces()J -/
def kc_105 : Nat → Option en_I := fun pc => (bif Nat.ble pc 0 then (fun pc => bif Nat.beq pc 0 then some (.aload_n 0, 1, 0, 0) else none) else (fun pc => (bif Nat.ble pc 1 then (fun pc => bif Nat.beq pc 1 then some (.getfield 85, 4, 16, 1) else none) else (fun pc => bif Nat.beq pc 4 then some (.lreturn, 5, 0, 0) else none)) pc)) pc
/-- PackWeeks$Sights.agrees(LPackWeeks$Pack;II)Z -/
def kc_106 : Nat → Option en_I := fun pc => (bif Nat.ble pc 5 then (fun pc => (bif Nat.ble pc 1 then (fun pc => (bif Nat.ble pc 0 then (fun pc => bif Nat.beq pc 0 then some (.iconst 0, 1, 0, 0) else none) else (fun pc => bif Nat.beq pc 1 then some (.istore 4, 3, 0, 0) else none)) pc) else (fun pc => (bif Nat.ble pc 3 then (fun pc => bif Nat.beq pc 3 then some (.iload 4, 5, 0, 0) else none) else (fun pc => bif Nat.beq pc 5 then some (.aload_n 0, 6, 0, 0) else none)) pc)) pc) else (fun pc => (bif Nat.ble pc 9 then (fun pc => (bif Nat.ble pc 6 then (fun pc => bif Nat.beq pc 6 then some (.getfield 24, 9, 0, 6) else none) else (fun pc => bif Nat.beq pc 9 then some (.if_icmp .ge 68, 12, 77, 0) else none)) pc) else (fun pc => (bif Nat.ble pc 77 then (fun pc => bif Nat.beq pc 77 then some (.iconst 1, 78, 1, 0) else none) else (fun pc => bif Nat.beq pc 78 then some (.ireturn, 79, 1, 0) else none)) pc)) pc)) pc
/-- PackWeeks$Pack.placeAfter(II)I -/
def kc_107 : Nat → Option en_I := fun pc => (bif Nat.ble pc 12 then (fun pc => (bif Nat.ble pc 3 then (fun pc => (bif Nat.ble pc 1 then (fun pc => (bif Nat.ble pc 0 then (fun pc => bif Nat.beq pc 0 then some (.iload_n 1, 1, 0, 0) else none) else (fun pc => bif Nat.beq pc 1 then some (.istore_n 3, 2, 0, 0) else none)) pc) else (fun pc => (bif Nat.ble pc 2 then (fun pc => bif Nat.beq pc 2 then some (.iconst 0, 3, 0, 0) else none) else (fun pc => bif Nat.beq pc 3 then some (.istore 4, 5, 0, 0) else none)) pc)) pc) else (fun pc => (bif Nat.ble pc 7 then (fun pc => (bif Nat.ble pc 5 then (fun pc => bif Nat.beq pc 5 then some (.iload 4, 7, 0, 0) else none) else (fun pc => bif Nat.beq pc 7 then some (.bipush 16, 9, 16, 0) else none)) pc) else (fun pc => (bif Nat.ble pc 9 then (fun pc => bif Nat.beq pc 9 then some (.if_icmp .ge 28, 12, 37, 0) else none) else (fun pc => bif Nat.beq pc 12 then some (.iload_n 2, 13, 0, 0) else none)) pc)) pc)) pc) else (fun pc => (bif Nat.ble pc 17 then (fun pc => (bif Nat.ble pc 15 then (fun pc => (bif Nat.ble pc 13 then (fun pc => bif Nat.beq pc 13 then some (.iload 4, 15, 0, 0) else none) else (fun pc => bif Nat.beq pc 15 then some (.ishr, 16, 0, 0) else none)) pc) else (fun pc => (bif Nat.ble pc 16 then (fun pc => bif Nat.beq pc 16 then some (.iconst 1, 17, 1, 0) else none) else (fun pc => bif Nat.beq pc 17 then some (.iand, 18, 0, 0) else none)) pc)) pc) else (fun pc => (bif Nat.ble pc 31 then (fun pc => (bif Nat.ble pc 18 then (fun pc => bif Nat.beq pc 18 then some (.ifCond .eq 13, 21, 31, 0) else none) else (fun pc => bif Nat.beq pc 31 then some (.iinc 4 1, 34, 1, 0) else none)) pc) else (fun pc => (bif Nat.ble pc 34 then (fun pc => bif Nat.beq pc 34 then some (.goto (-29), 37, 5, 0) else none) else (fun pc => (bif Nat.ble pc 37 then (fun pc => bif Nat.beq pc 37 then some (.iload_n 3, 38, 0, 0) else none) else (fun pc => bif Nat.beq pc 38 then some (.ireturn, 39, 0, 0) else none)) pc)) pc)) pc)) pc)) pc
/-- PackWeeksModel.fits()J -/
def kc_108 : Nat → Option en_I := fun pc => (bif Nat.ble pc 17 then (fun pc => (bif Nat.ble pc 7 then (fun pc => (bif Nat.ble pc 2 then (fun pc => (bif Nat.ble pc 0 then (fun pc => bif Nat.beq pc 0 then some (.aload_n 0, 1, 0, 0) else none) else (fun pc => (bif Nat.ble pc 1 then (fun pc => bif Nat.beq pc 1 then some (.iconst 0, 2, 0, 0) else none) else (fun pc => bif Nat.beq pc 2 then some (.putfield 1, 5, 0, 10) else none)) pc)) pc) else (fun pc => (bif Nat.ble pc 5 then (fun pc => bif Nat.beq pc 5 then some (.lconst 0, 6, 0, 0) else none) else (fun pc => (bif Nat.ble pc 6 then (fun pc => bif Nat.beq pc 6 then some (.lstore_n 1, 7, 0, 0) else none) else (fun pc => bif Nat.beq pc 7 then some (.iconst 0, 8, 0, 0) else none)) pc)) pc)) pc) else (fun pc => (bif Nat.ble pc 10 then (fun pc => (bif Nat.ble pc 8 then (fun pc => bif Nat.beq pc 8 then some (.istore_n 3, 9, 0, 0) else none) else (fun pc => (bif Nat.ble pc 9 then (fun pc => bif Nat.beq pc 9 then some (.iload_n 3, 10, 0, 0) else none) else (fun pc => bif Nat.beq pc 10 then some (.bipush 64, 12, 64, 0) else none)) pc)) pc) else (fun pc => (bif Nat.ble pc 15 then (fun pc => (bif Nat.ble pc 12 then (fun pc => bif Nat.beq pc 12 then some (.if_icmp .ge 27, 15, 39, 0) else none) else (fun pc => bif Nat.beq pc 15 then some (.lload_n 1, 16, 0, 0) else none)) pc) else (fun pc => (bif Nat.ble pc 16 then (fun pc => bif Nat.beq pc 16 then some (.aload_n 0, 17, 0, 0) else none) else (fun pc => bif Nat.beq pc 17 then some (.iload_n 3, 18, 0, 0) else none)) pc)) pc)) pc)) pc) else (fun pc => (bif Nat.ble pc 27 then (fun pc => (bif Nat.ble pc 24 then (fun pc => (bif Nat.ble pc 18 then (fun pc => bif Nat.beq pc 18 then some (.invokevirtual 453, 21, 109, 162) else none) else (fun pc => (bif Nat.ble pc 21 then (fun pc => bif Nat.beq pc 21 then some (.ifCond .eq 9, 24, 30, 0) else none) else (fun pc => bif Nat.beq pc 24 then some (.lconst 1, 25, 1, 0) else none)) pc)) pc) else (fun pc => (bif Nat.ble pc 25 then (fun pc => bif Nat.beq pc 25 then some (.iload_n 3, 26, 0, 0) else none) else (fun pc => (bif Nat.ble pc 26 then (fun pc => bif Nat.beq pc 26 then some (.lshl, 27, 0, 0) else none) else (fun pc => bif Nat.beq pc 27 then some (.goto 4, 30, 31, 0) else none)) pc)) pc)) pc) else (fun pc => (bif Nat.ble pc 32 then (fun pc => (bif Nat.ble pc 30 then (fun pc => bif Nat.beq pc 30 then some (.lconst 0, 31, 0, 0) else none) else (fun pc => (bif Nat.ble pc 31 then (fun pc => bif Nat.beq pc 31 then some (.lor, 32, 0, 0) else none) else (fun pc => bif Nat.beq pc 32 then some (.lstore_n 1, 33, 0, 0) else none)) pc)) pc) else (fun pc => (bif Nat.ble pc 36 then (fun pc => (bif Nat.ble pc 33 then (fun pc => bif Nat.beq pc 33 then some (.iinc 3 1, 36, 1, 0) else none) else (fun pc => bif Nat.beq pc 36 then some (.goto (-27), 39, 9, 0) else none)) pc) else (fun pc => (bif Nat.ble pc 39 then (fun pc => bif Nat.beq pc 39 then some (.lload_n 1, 40, 0, 0) else none) else (fun pc => bif Nat.beq pc 40 then some (.lreturn, 41, 0, 0) else none)) pc)) pc)) pc)) pc)) pc
/-- PackWeeksModel.fitsAt(I)Z -/
def kc_109 : Nat → Option en_I := fun pc => (bif Nat.ble pc 12 then (fun pc => (bif Nat.ble pc 4 then (fun pc => (bif Nat.ble pc 1 then (fun pc => (bif Nat.ble pc 0 then (fun pc => bif Nat.beq pc 0 then some (.aload_n 0, 1, 0, 0) else none) else (fun pc => bif Nat.beq pc 1 then some (.iload_n 1, 2, 0, 0) else none)) pc) else (fun pc => (bif Nat.ble pc 2 then (fun pc => bif Nat.beq pc 2 then some (.bipush 8, 4, 8, 0) else none) else (fun pc => bif Nat.beq pc 4 then some (.irem, 5, 0, 0) else none)) pc)) pc) else (fun pc => (bif Nat.ble pc 6 then (fun pc => (bif Nat.ble pc 5 then (fun pc => bif Nat.beq pc 5 then some (.iload_n 1, 6, 0, 0) else none) else (fun pc => bif Nat.beq pc 6 then some (.bipush 8, 8, 8, 0) else none)) pc) else (fun pc => (bif Nat.ble pc 8 then (fun pc => bif Nat.beq pc 8 then some (.idiv, 9, 0, 0) else none) else (fun pc => (bif Nat.ble pc 9 then (fun pc => bif Nat.beq pc 9 then some (.invokevirtual 377, 12, 57, 163) else none) else (fun pc => bif Nat.beq pc 12 then some (.istore_n 2, 13, 0, 0) else none)) pc)) pc)) pc)) pc) else (fun pc => (bif Nat.ble pc 17 then (fun pc => (bif Nat.ble pc 14 then (fun pc => (bif Nat.ble pc 13 then (fun pc => bif Nat.beq pc 13 then some (.iconst 0, 14, 0, 0) else none) else (fun pc => bif Nat.beq pc 14 then some (.istore_n 3, 15, 0, 0) else none)) pc) else (fun pc => (bif Nat.ble pc 15 then (fun pc => bif Nat.beq pc 15 then some (.iload_n 3, 16, 0, 0) else none) else (fun pc => (bif Nat.ble pc 16 then (fun pc => bif Nat.beq pc 16 then some (.aload_n 0, 17, 0, 0) else none) else (fun pc => bif Nat.beq pc 17 then some (.getfield 151, 20, 25, 10) else none)) pc)) pc)) pc) else (fun pc => (bif Nat.ble pc 22 then (fun pc => (bif Nat.ble pc 20 then (fun pc => bif Nat.beq pc 20 then some (.bipush 17, 22, 17, 0) else none) else (fun pc => bif Nat.beq pc 22 then some (.iaload, 23, 0, 0) else none)) pc) else (fun pc => (bif Nat.ble pc 23 then (fun pc => bif Nat.beq pc 23 then some (.if_icmp .ge 83, 26, 106, 0) else none) else (fun pc => (bif Nat.ble pc 106 then (fun pc => bif Nat.beq pc 106 then some (.iload_n 2, 107, 0, 0) else none) else (fun pc => bif Nat.beq pc 107 then some (.ireturn, 108, 1, 0) else none)) pc)) pc)) pc)) pc)) pc
/-- PackWeeks.tells()I -/
def kc_110 : Nat → Option en_I := fun pc => (bif Nat.ble pc 5 then (fun pc => (bif Nat.ble pc 1 then (fun pc => (bif Nat.ble pc 0 then (fun pc => bif Nat.beq pc 0 then some (.aload_n 0, 1, 0, 0) else none) else (fun pc => bif Nat.beq pc 1 then some (.getfield 57, 4, 8, 9) else none)) pc) else (fun pc => (bif Nat.ble pc 4 then (fun pc => bif Nat.beq pc 4 then some (.aload_n 0, 5, 0, 0) else none) else (fun pc => bif Nat.beq pc 5 then some (.getfield 71, 8, 10, 9) else none)) pc)) pc) else (fun pc => (bif Nat.ble pc 9 then (fun pc => (bif Nat.ble pc 8 then (fun pc => bif Nat.beq pc 8 then some (.aload_n 0, 9, 0, 0) else none) else (fun pc => bif Nat.beq pc 9 then some (.getfield 28, 12, 2, 9) else none)) pc) else (fun pc => (bif Nat.ble pc 12 then (fun pc => bif Nat.beq pc 12 then some (.invokevirtual 235, 15, 111, 99) else none) else (fun pc => bif Nat.beq pc 15 then some (.ireturn, 16, 0, 0) else none)) pc)) pc)) pc
/-- PackWeeks$Sights.mostTelling(LPackWeeks$Pack;LPackWeeks$Stand;)I -/
def kc_111 : Nat → Option en_I := fun pc => (bif Nat.ble pc 16 then (fun pc => (bif Nat.ble pc 6 then (fun pc => (bif Nat.ble pc 1 then (fun pc => (bif Nat.ble pc 0 then (fun pc => bif Nat.beq pc 0 then some (.aload_n 0, 1, 0, 0) else none) else (fun pc => bif Nat.beq pc 1 then some (.aload_n 1, 2, 0, 0) else none)) pc) else (fun pc => (bif Nat.ble pc 2 then (fun pc => bif Nat.beq pc 2 then some (.aload_n 2, 3, 0, 0) else none) else (fun pc => (bif Nat.ble pc 3 then (fun pc => bif Nat.beq pc 3 then some (.getfield 70, 6, 0, 7) else none) else (fun pc => bif Nat.beq pc 6 then some (.invokevirtual 75, 9, 103, 99) else none)) pc)) pc)) pc) else (fun pc => (bif Nat.ble pc 10 then (fun pc => (bif Nat.ble pc 9 then (fun pc => bif Nat.beq pc 9 then some (.lstore_n 3, 10, 0, 0) else none) else (fun pc => bif Nat.beq pc 10 then some (.lload_n 3, 11, 0, 0) else none)) pc) else (fun pc => (bif Nat.ble pc 11 then (fun pc => bif Nat.beq pc 11 then some (.invokestatic 79, 14, 112, 1) else none) else (fun pc => (bif Nat.ble pc 14 then (fun pc => bif Nat.beq pc 14 then some (.istore 5, 16, 0, 0) else none) else (fun pc => bif Nat.beq pc 16 then some (.iconst (-1), 17, 4294967295, 0) else none)) pc)) pc)) pc)) pc) else (fun pc => (bif Nat.ble pc 24 then (fun pc => (bif Nat.ble pc 19 then (fun pc => (bif Nat.ble pc 17 then (fun pc => bif Nat.beq pc 17 then some (.istore 6, 19, 0, 0) else none) else (fun pc => bif Nat.beq pc 19 then some (.iconst 0, 20, 0, 0) else none)) pc) else (fun pc => (bif Nat.ble pc 20 then (fun pc => bif Nat.beq pc 20 then some (.istore 7, 22, 0, 0) else none) else (fun pc => (bif Nat.ble pc 22 then (fun pc => bif Nat.beq pc 22 then some (.iload 7, 24, 0, 0) else none) else (fun pc => bif Nat.beq pc 24 then some (.aload_n 1, 25, 0, 0) else none)) pc)) pc)) pc) else (fun pc => (bif Nat.ble pc 28 then (fun pc => (bif Nat.ble pc 25 then (fun pc => bif Nat.beq pc 25 then some (.getfield 59, 28, 5, 1) else none) else (fun pc => bif Nat.beq pc 28 then some (.getfield 85, 31, 5, 5) else none)) pc) else (fun pc => (bif Nat.ble pc 31 then (fun pc => bif Nat.beq pc 31 then some (.if_icmp .ge 69, 34, 100, 0) else none) else (fun pc => (bif Nat.ble pc 100 then (fun pc => bif Nat.beq pc 100 then some (.iload 6, 102, 0, 0) else none) else (fun pc => bif Nat.beq pc 102 then some (.ireturn, 103, 0, 0) else none)) pc)) pc)) pc)) pc)) pc
/-- java/lang/Long.bitCount(J)I -/
def kc_112 : Nat → Option en_I := fun pc => (bif Nat.ble pc 29 then (fun pc => (bif Nat.ble pc 15 then (fun pc => (bif Nat.ble pc 7 then (fun pc => (bif Nat.ble pc 2 then (fun pc => (bif Nat.ble pc 0 then (fun pc => bif Nat.beq pc 0 then some (.lload_n 0, 1, 0, 0) else none) else (fun pc => (bif Nat.ble pc 1 then (fun pc => bif Nat.beq pc 1 then some (.lload_n 0, 2, 0, 0) else none) else (fun pc => bif Nat.beq pc 2 then some (.iconst 1, 3, 1, 0) else none)) pc)) pc) else (fun pc => (bif Nat.ble pc 3 then (fun pc => bif Nat.beq pc 3 then some (.lushr, 4, 0, 0) else none) else (fun pc => (bif Nat.ble pc 4 then (fun pc => bif Nat.beq pc 4 then some (.ldc2_w 314, 7, 6148914691236517205, 0) else none) else (fun pc => bif Nat.beq pc 7 then some (.land, 8, 0, 0) else none)) pc)) pc)) pc) else (fun pc => (bif Nat.ble pc 10 then (fun pc => (bif Nat.ble pc 8 then (fun pc => bif Nat.beq pc 8 then some (.lsub, 9, 0, 0) else none) else (fun pc => (bif Nat.ble pc 9 then (fun pc => bif Nat.beq pc 9 then some (.lstore_n 0, 10, 0, 0) else none) else (fun pc => bif Nat.beq pc 10 then some (.lload_n 0, 11, 0, 0) else none)) pc)) pc) else (fun pc => (bif Nat.ble pc 11 then (fun pc => bif Nat.beq pc 11 then some (.ldc2_w 316, 14, 3689348814741910323, 0) else none) else (fun pc => (bif Nat.ble pc 14 then (fun pc => bif Nat.beq pc 14 then some (.land, 15, 0, 0) else none) else (fun pc => bif Nat.beq pc 15 then some (.lload_n 0, 16, 0, 0) else none)) pc)) pc)) pc)) pc) else (fun pc => (bif Nat.ble pc 23 then (fun pc => (bif Nat.ble pc 18 then (fun pc => (bif Nat.ble pc 16 then (fun pc => bif Nat.beq pc 16 then some (.iconst 2, 17, 2, 0) else none) else (fun pc => (bif Nat.ble pc 17 then (fun pc => bif Nat.beq pc 17 then some (.lushr, 18, 0, 0) else none) else (fun pc => bif Nat.beq pc 18 then some (.ldc2_w 316, 21, 3689348814741910323, 0) else none)) pc)) pc) else (fun pc => (bif Nat.ble pc 21 then (fun pc => bif Nat.beq pc 21 then some (.land, 22, 0, 0) else none) else (fun pc => (bif Nat.ble pc 22 then (fun pc => bif Nat.beq pc 22 then some (.ladd, 23, 0, 0) else none) else (fun pc => bif Nat.beq pc 23 then some (.lstore_n 0, 24, 0, 0) else none)) pc)) pc)) pc) else (fun pc => (bif Nat.ble pc 26 then (fun pc => (bif Nat.ble pc 24 then (fun pc => bif Nat.beq pc 24 then some (.lload_n 0, 25, 0, 0) else none) else (fun pc => (bif Nat.ble pc 25 then (fun pc => bif Nat.beq pc 25 then some (.lload_n 0, 26, 0, 0) else none) else (fun pc => bif Nat.beq pc 26 then some (.iconst 4, 27, 4, 0) else none)) pc)) pc) else (fun pc => (bif Nat.ble pc 27 then (fun pc => bif Nat.beq pc 27 then some (.lushr, 28, 0, 0) else none) else (fun pc => (bif Nat.ble pc 28 then (fun pc => bif Nat.beq pc 28 then some (.ladd, 29, 0, 0) else none) else (fun pc => bif Nat.beq pc 29 then some (.ldc2_w 318, 32, 1085102592571150095, 0) else none)) pc)) pc)) pc)) pc)) pc) else (fun pc => (bif Nat.ble pc 45 then (fun pc => (bif Nat.ble pc 38 then (fun pc => (bif Nat.ble pc 34 then (fun pc => (bif Nat.ble pc 32 then (fun pc => bif Nat.beq pc 32 then some (.land, 33, 0, 0) else none) else (fun pc => (bif Nat.ble pc 33 then (fun pc => bif Nat.beq pc 33 then some (.lstore_n 0, 34, 0, 0) else none) else (fun pc => bif Nat.beq pc 34 then some (.lload_n 0, 35, 0, 0) else none)) pc)) pc) else (fun pc => (bif Nat.ble pc 35 then (fun pc => bif Nat.beq pc 35 then some (.lload_n 0, 36, 0, 0) else none) else (fun pc => (bif Nat.ble pc 36 then (fun pc => bif Nat.beq pc 36 then some (.bipush 8, 38, 8, 0) else none) else (fun pc => bif Nat.beq pc 38 then some (.lushr, 39, 0, 0) else none)) pc)) pc)) pc) else (fun pc => (bif Nat.ble pc 41 then (fun pc => (bif Nat.ble pc 39 then (fun pc => bif Nat.beq pc 39 then some (.ladd, 40, 0, 0) else none) else (fun pc => (bif Nat.ble pc 40 then (fun pc => bif Nat.beq pc 40 then some (.lstore_n 0, 41, 0, 0) else none) else (fun pc => bif Nat.beq pc 41 then some (.lload_n 0, 42, 0, 0) else none)) pc)) pc) else (fun pc => (bif Nat.ble pc 42 then (fun pc => bif Nat.beq pc 42 then some (.lload_n 0, 43, 0, 0) else none) else (fun pc => (bif Nat.ble pc 43 then (fun pc => bif Nat.beq pc 43 then some (.bipush 16, 45, 16, 0) else none) else (fun pc => bif Nat.beq pc 45 then some (.lushr, 46, 0, 0) else none)) pc)) pc)) pc)) pc) else (fun pc => (bif Nat.ble pc 52 then (fun pc => (bif Nat.ble pc 48 then (fun pc => (bif Nat.ble pc 46 then (fun pc => bif Nat.beq pc 46 then some (.ladd, 47, 0, 0) else none) else (fun pc => (bif Nat.ble pc 47 then (fun pc => bif Nat.beq pc 47 then some (.lstore_n 0, 48, 0, 0) else none) else (fun pc => bif Nat.beq pc 48 then some (.lload_n 0, 49, 0, 0) else none)) pc)) pc) else (fun pc => (bif Nat.ble pc 49 then (fun pc => bif Nat.beq pc 49 then some (.lload_n 0, 50, 0, 0) else none) else (fun pc => (bif Nat.ble pc 50 then (fun pc => bif Nat.beq pc 50 then some (.bipush 32, 52, 32, 0) else none) else (fun pc => bif Nat.beq pc 52 then some (.lushr, 53, 0, 0) else none)) pc)) pc)) pc) else (fun pc => (bif Nat.ble pc 55 then (fun pc => (bif Nat.ble pc 53 then (fun pc => bif Nat.beq pc 53 then some (.ladd, 54, 0, 0) else none) else (fun pc => (bif Nat.ble pc 54 then (fun pc => bif Nat.beq pc 54 then some (.lstore_n 0, 55, 0, 0) else none) else (fun pc => bif Nat.beq pc 55 then some (.lload_n 0, 56, 0, 0) else none)) pc)) pc) else (fun pc => (bif Nat.ble pc 57 then (fun pc => (bif Nat.ble pc 56 then (fun pc => bif Nat.beq pc 56 then some (.l2i, 57, 0, 0) else none) else (fun pc => bif Nat.beq pc 57 then some (.bipush 127, 59, 127, 0) else none)) pc) else (fun pc => (bif Nat.ble pc 59 then (fun pc => bif Nat.beq pc 59 then some (.iand, 60, 0, 0) else none) else (fun pc => bif Nat.beq pc 60 then some (.ireturn, 61, 0, 0) else none)) pc)) pc)) pc)) pc)) pc)) pc
/-- PackWeeksModel.tells()I -/
def kc_113 : Nat → Option en_I := fun pc => (bif Nat.ble pc 32 then (fun pc => (bif Nat.ble pc 15 then (fun pc => (bif Nat.ble pc 6 then (fun pc => (bif Nat.ble pc 1 then (fun pc => (bif Nat.ble pc 0 then (fun pc => bif Nat.beq pc 0 then some (.aload_n 0, 1, 0, 0) else none) else (fun pc => bif Nat.beq pc 1 then some (.iconst 0, 2, 0, 0) else none)) pc) else (fun pc => (bif Nat.ble pc 2 then (fun pc => bif Nat.beq pc 2 then some (.putfield 1, 5, 0, 10) else none) else (fun pc => (bif Nat.ble pc 5 then (fun pc => bif Nat.beq pc 5 then some (.iconst 0, 6, 0, 0) else none) else (fun pc => bif Nat.beq pc 6 then some (.istore_n 1, 7, 0, 0) else none)) pc)) pc)) pc) else (fun pc => (bif Nat.ble pc 9 then (fun pc => (bif Nat.ble pc 7 then (fun pc => bif Nat.beq pc 7 then some (.iconst 0, 8, 0, 0) else none) else (fun pc => (bif Nat.ble pc 8 then (fun pc => bif Nat.beq pc 8 then some (.istore_n 2, 9, 0, 0) else none) else (fun pc => bif Nat.beq pc 9 then some (.iload_n 2, 10, 0, 0) else none)) pc)) pc) else (fun pc => (bif Nat.ble pc 10 then (fun pc => bif Nat.beq pc 10 then some (.bipush 64, 12, 64, 0) else none) else (fun pc => (bif Nat.ble pc 12 then (fun pc => bif Nat.beq pc 12 then some (.if_icmp .ge 37, 15, 49, 0) else none) else (fun pc => bif Nat.beq pc 15 then some (.aload_n 0, 16, 0, 0) else none)) pc)) pc)) pc)) pc) else (fun pc => (bif Nat.ble pc 22 then (fun pc => (bif Nat.ble pc 19 then (fun pc => (bif Nat.ble pc 16 then (fun pc => bif Nat.beq pc 16 then some (.getfield 161, 19, 29, 10) else none) else (fun pc => bif Nat.beq pc 19 then some (.iload_n 2, 20, 0, 0) else none)) pc) else (fun pc => (bif Nat.ble pc 20 then (fun pc => bif Nat.beq pc 20 then some (.aload_n 0, 21, 0, 0) else none) else (fun pc => (bif Nat.ble pc 21 then (fun pc => bif Nat.beq pc 21 then some (.iload_n 2, 22, 0, 0) else none) else (fun pc => bif Nat.beq pc 22 then some (.invokevirtual 453, 25, 109, 162) else none)) pc)) pc)) pc) else (fun pc => (bif Nat.ble pc 27 then (fun pc => (bif Nat.ble pc 25 then (fun pc => bif Nat.beq pc 25 then some (.bastore, 26, 0, 0) else none) else (fun pc => (bif Nat.ble pc 26 then (fun pc => bif Nat.beq pc 26 then some (.iload_n 1, 27, 0, 0) else none) else (fun pc => bif Nat.beq pc 27 then some (.aload_n 0, 28, 0, 0) else none)) pc)) pc) else (fun pc => (bif Nat.ble pc 28 then (fun pc => bif Nat.beq pc 28 then some (.getfield 161, 31, 29, 10) else none) else (fun pc => (bif Nat.ble pc 31 then (fun pc => bif Nat.beq pc 31 then some (.iload_n 2, 32, 0, 0) else none) else (fun pc => bif Nat.beq pc 32 then some (.baload, 33, 0, 0) else none)) pc)) pc)) pc)) pc)) pc) else (fun pc => (bif Nat.ble pc 51 then (fun pc => (bif Nat.ble pc 41 then (fun pc => (bif Nat.ble pc 36 then (fun pc => (bif Nat.ble pc 33 then (fun pc => bif Nat.beq pc 33 then some (.ifCond .eq 7, 36, 40, 0) else none) else (fun pc => bif Nat.beq pc 36 then some (.iconst 1, 37, 1, 0) else none)) pc) else (fun pc => (bif Nat.ble pc 37 then (fun pc => bif Nat.beq pc 37 then some (.goto 4, 40, 41, 0) else none) else (fun pc => (bif Nat.ble pc 40 then (fun pc => bif Nat.beq pc 40 then some (.iconst 0, 41, 0, 0) else none) else (fun pc => bif Nat.beq pc 41 then some (.iadd, 42, 0, 0) else none)) pc)) pc)) pc) else (fun pc => (bif Nat.ble pc 46 then (fun pc => (bif Nat.ble pc 42 then (fun pc => bif Nat.beq pc 42 then some (.istore_n 1, 43, 0, 0) else none) else (fun pc => (bif Nat.ble pc 43 then (fun pc => bif Nat.beq pc 43 then some (.iinc 2 1, 46, 1, 0) else none) else (fun pc => bif Nat.beq pc 46 then some (.goto (-37), 49, 9, 0) else none)) pc)) pc) else (fun pc => (bif Nat.ble pc 49 then (fun pc => bif Nat.beq pc 49 then some (.iconst (-1), 50, 4294967295, 0) else none) else (fun pc => (bif Nat.ble pc 50 then (fun pc => bif Nat.beq pc 50 then some (.istore_n 2, 51, 0, 0) else none) else (fun pc => bif Nat.beq pc 51 then some (.iload_n 1, 52, 0, 0) else none)) pc)) pc)) pc)) pc) else (fun pc => (bif Nat.ble pc 58 then (fun pc => (bif Nat.ble pc 53 then (fun pc => (bif Nat.ble pc 52 then (fun pc => bif Nat.beq pc 52 then some (.istore_n 3, 53, 0, 0) else none) else (fun pc => bif Nat.beq pc 53 then some (.iconst 0, 54, 0, 0) else none)) pc) else (fun pc => (bif Nat.ble pc 54 then (fun pc => bif Nat.beq pc 54 then some (.istore 4, 56, 0, 0) else none) else (fun pc => (bif Nat.ble pc 56 then (fun pc => bif Nat.beq pc 56 then some (.iload 4, 58, 0, 0) else none) else (fun pc => bif Nat.beq pc 58 then some (.bipush 13, 60, 13, 0) else none)) pc)) pc)) pc) else (fun pc => (bif Nat.ble pc 64 then (fun pc => (bif Nat.ble pc 60 then (fun pc => bif Nat.beq pc 60 then some (.aload_n 0, 61, 0, 0) else none) else (fun pc => (bif Nat.ble pc 61 then (fun pc => bif Nat.beq pc 61 then some (.invokevirtual 371, 64, 76, 161) else none) else (fun pc => bif Nat.beq pc 64 then some (.imul, 65, 0, 0) else none)) pc)) pc) else (fun pc => (bif Nat.ble pc 65 then (fun pc => bif Nat.beq pc 65 then some (.if_icmp .ge 166, 68, 231, 0) else none) else (fun pc => (bif Nat.ble pc 231 then (fun pc => bif Nat.beq pc 231 then some (.iload_n 2, 232, 0, 0) else none) else (fun pc => bif Nat.beq pc 232 then some (.ireturn, 233, 0, 0) else none)) pc)) pc)) pc)) pc)) pc)) pc
/-- PackWeeks.lasts(I)I -/
def kc_114 : Nat → Option en_I := fun pc => (bif Nat.ble pc 7 then (fun pc => (bif Nat.ble pc 1 then (fun pc => (bif Nat.ble pc 0 then (fun pc => bif Nat.beq pc 0 then some (.aload_n 0, 1, 0, 0) else none) else (fun pc => bif Nat.beq pc 1 then some (.getfield 71, 4, 10, 9) else none)) pc) else (fun pc => (bif Nat.ble pc 4 then (fun pc => bif Nat.beq pc 4 then some (.getfield 166, 7, 7, 1) else none) else (fun pc => bif Nat.beq pc 7 then some (.iload_n 1, 8, 0, 0) else none)) pc)) pc) else (fun pc => (bif Nat.ble pc 11 then (fun pc => (bif Nat.ble pc 8 then (fun pc => bif Nat.beq pc 8 then some (.invokevirtual 139, 11, 23, 82) else none) else (fun pc => bif Nat.beq pc 11 then some (.ifCond .ne 5, 14, 16, 0) else none)) pc) else (fun pc => (bif Nat.ble pc 14 then (fun pc => bif Nat.beq pc 14 then some (.iconst (-1), 15, 4294967295, 0) else none) else (fun pc => bif Nat.beq pc 15 then some (.ireturn, 16, 0, 0) else none)) pc)) pc)) pc
/-- PackWeeksModel.lasts(I)I -/
def kc_115 : Nat → Option en_I := fun pc => (bif Nat.ble pc 5 then (fun pc => (bif Nat.ble pc 1 then (fun pc => (bif Nat.ble pc 0 then (fun pc => bif Nat.beq pc 0 then some (.aload_n 0, 1, 0, 0) else none) else (fun pc => bif Nat.beq pc 1 then some (.iconst 0, 2, 0, 0) else none)) pc) else (fun pc => (bif Nat.ble pc 2 then (fun pc => bif Nat.beq pc 2 then some (.putfield 1, 5, 0, 10) else none) else (fun pc => bif Nat.beq pc 5 then some (.aload_n 0, 6, 0, 0) else none)) pc)) pc) else (fun pc => (bif Nat.ble pc 7 then (fun pc => (bif Nat.ble pc 6 then (fun pc => bif Nat.beq pc 6 then some (.iload_n 1, 7, 0, 0) else none) else (fun pc => bif Nat.beq pc 7 then some (.invokevirtual 396, 10, 79, 162) else none)) pc) else (fun pc => (bif Nat.ble pc 10 then (fun pc => bif Nat.beq pc 10 then some (.ifCond .eq 20, 13, 30, 0) else none) else (fun pc => (bif Nat.ble pc 30 then (fun pc => bif Nat.beq pc 30 then some (.iconst (-1), 31, 4294967295, 0) else none) else (fun pc => bif Nat.beq pc 31 then some (.ireturn, 32, 0, 0) else none)) pc)) pc)) pc)) pc
/-- PackWeeks.through(II)I -/
def kc_116 : Nat → Option en_I := fun pc => (bif Nat.ble pc 28 then (fun pc => (bif Nat.ble pc 12 then (fun pc => (bif Nat.ble pc 2 then (fun pc => (bif Nat.ble pc 0 then (fun pc => bif Nat.beq pc 0 then some (.iload_n 1, 1, 0, 0) else none) else (fun pc => (bif Nat.ble pc 1 then (fun pc => bif Nat.beq pc 1 then some (.iconst 0, 2, 0, 0) else none) else (fun pc => bif Nat.beq pc 2 then some (.aload_n 0, 3, 0, 0) else none)) pc)) pc) else (fun pc => (bif Nat.ble pc 6 then (fun pc => (bif Nat.ble pc 3 then (fun pc => bif Nat.beq pc 3 then some (.getfield 71, 6, 10, 9) else none) else (fun pc => bif Nat.beq pc 6 then some (.getfield 245, 9, 8, 1) else none)) pc) else (fun pc => (bif Nat.ble pc 9 then (fun pc => bif Nat.beq pc 9 then some (.getfield 202, 12, 5, 5) else none) else (fun pc => bif Nat.beq pc 12 then some (.invokestatic 121, 15, 60, 3) else none)) pc)) pc)) pc) else (fun pc => (bif Nat.ble pc 19 then (fun pc => (bif Nat.ble pc 15 then (fun pc => bif Nat.beq pc 15 then some (.ifCond .eq 13, 18, 28, 0) else none) else (fun pc => (bif Nat.ble pc 18 then (fun pc => bif Nat.beq pc 18 then some (.iload_n 2, 19, 0, 0) else none) else (fun pc => bif Nat.beq pc 19 then some (.iconst 0, 20, 0, 0) else none)) pc)) pc) else (fun pc => (bif Nat.ble pc 22 then (fun pc => (bif Nat.ble pc 20 then (fun pc => bif Nat.beq pc 20 then some (.bipush 40, 22, 40, 0) else none) else (fun pc => bif Nat.beq pc 22 then some (.invokestatic 121, 25, 60, 3) else none)) pc) else (fun pc => (bif Nat.ble pc 25 then (fun pc => bif Nat.beq pc 25 then some (.ifCond .ne 5, 28, 30, 0) else none) else (fun pc => bif Nat.beq pc 28 then some (.iconst (-1), 29, 4294967295, 0) else none)) pc)) pc)) pc)) pc) else (fun pc => (bif Nat.ble pc 41 then (fun pc => (bif Nat.ble pc 31 then (fun pc => (bif Nat.ble pc 29 then (fun pc => bif Nat.beq pc 29 then some (.ireturn, 30, 0, 0) else none) else (fun pc => (bif Nat.ble pc 30 then (fun pc => bif Nat.beq pc 30 then some (.aload_n 0, 31, 0, 0) else none) else (fun pc => bif Nat.beq pc 31 then some (.getfield 64, 34, 9, 9) else none)) pc)) pc) else (fun pc => (bif Nat.ble pc 35 then (fun pc => (bif Nat.ble pc 34 then (fun pc => bif Nat.beq pc 34 then some (.aload_n 0, 35, 0, 0) else none) else (fun pc => bif Nat.beq pc 35 then some (.getfield 71, 38, 10, 9) else none)) pc) else (fun pc => (bif Nat.ble pc 38 then (fun pc => bif Nat.beq pc 38 then some (.getfield 245, 41, 8, 1) else none) else (fun pc => bif Nat.beq pc 41 then some (.iload_n 2, 42, 0, 0) else none)) pc)) pc)) pc) else (fun pc => (bif Nat.ble pc 49 then (fun pc => (bif Nat.ble pc 45 then (fun pc => (bif Nat.ble pc 42 then (fun pc => bif Nat.beq pc 42 then some (.invokevirtual 248, 45, 118, 67) else none) else (fun pc => bif Nat.beq pc 45 then some (.aload_n 0, 46, 0, 0) else none)) pc) else (fun pc => (bif Nat.ble pc 46 then (fun pc => bif Nat.beq pc 46 then some (.getfield 64, 49, 9, 9) else none) else (fun pc => bif Nat.beq pc 49 then some (.iload_n 1, 50, 0, 0) else none)) pc)) pc) else (fun pc => (bif Nat.ble pc 51 then (fun pc => (bif Nat.ble pc 50 then (fun pc => bif Nat.beq pc 50 then some (.iconst 3, 51, 3, 0) else none) else (fun pc => bif Nat.beq pc 51 then some (.iload_n 2, 52, 0, 0) else none)) pc) else (fun pc => (bif Nat.ble pc 52 then (fun pc => bif Nat.beq pc 52 then some (.invokevirtual 252, 55, 120, 68) else none) else (fun pc => bif Nat.beq pc 55 then some (.ireturn, 56, 0, 0) else none)) pc)) pc)) pc)) pc)) pc
/-- PackWeeksModel.through(II)I -/
def kc_117 : Nat → Option en_I := fun pc => (bif Nat.ble pc 21 then (fun pc => (bif Nat.ble pc 7 then (fun pc => (bif Nat.ble pc 2 then (fun pc => (bif Nat.ble pc 0 then (fun pc => bif Nat.beq pc 0 then some (.aload_n 0, 1, 0, 0) else none) else (fun pc => (bif Nat.ble pc 1 then (fun pc => bif Nat.beq pc 1 then some (.iconst 0, 2, 0, 0) else none) else (fun pc => bif Nat.beq pc 2 then some (.putfield 1, 5, 0, 10) else none)) pc)) pc) else (fun pc => (bif Nat.ble pc 5 then (fun pc => bif Nat.beq pc 5 then some (.iload_n 1, 6, 0, 0) else none) else (fun pc => (bif Nat.ble pc 6 then (fun pc => bif Nat.beq pc 6 then some (.iconst 0, 7, 0, 0) else none) else (fun pc => bif Nat.beq pc 7 then some (.aload_n 0, 8, 0, 0) else none)) pc)) pc)) pc) else (fun pc => (bif Nat.ble pc 13 then (fun pc => (bif Nat.ble pc 8 then (fun pc => bif Nat.beq pc 8 then some (.getfield 121, 11, 10, 10) else none) else (fun pc => (bif Nat.ble pc 11 then (fun pc => bif Nat.beq pc 11 then some (.bipush 6, 13, 6, 0) else none) else (fun pc => bif Nat.beq pc 13 then some (.iaload, 14, 0, 0) else none)) pc)) pc) else (fun pc => (bif Nat.ble pc 17 then (fun pc => (bif Nat.ble pc 14 then (fun pc => bif Nat.beq pc 14 then some (.invokestatic 320, 17, 61, 3) else none) else (fun pc => bif Nat.beq pc 17 then some (.ifCond .eq 13, 20, 30, 0) else none)) pc) else (fun pc => (bif Nat.ble pc 20 then (fun pc => bif Nat.beq pc 20 then some (.iload_n 2, 21, 0, 0) else none) else (fun pc => bif Nat.beq pc 21 then some (.iconst 0, 22, 0, 0) else none)) pc)) pc)) pc)) pc) else (fun pc => (bif Nat.ble pc 32 then (fun pc => (bif Nat.ble pc 27 then (fun pc => (bif Nat.ble pc 22 then (fun pc => bif Nat.beq pc 22 then some (.bipush 40, 24, 40, 0) else none) else (fun pc => (bif Nat.ble pc 24 then (fun pc => bif Nat.beq pc 24 then some (.invokestatic 320, 27, 61, 3) else none) else (fun pc => bif Nat.beq pc 27 then some (.ifCond .ne 5, 30, 32, 0) else none)) pc)) pc) else (fun pc => (bif Nat.ble pc 30 then (fun pc => bif Nat.beq pc 30 then some (.iconst (-1), 31, 4294967295, 0) else none) else (fun pc => (bif Nat.ble pc 31 then (fun pc => bif Nat.beq pc 31 then some (.ireturn, 32, 0, 0) else none) else (fun pc => bif Nat.beq pc 32 then some (.aload_n 0, 33, 0, 0) else none)) pc)) pc)) pc) else (fun pc => (bif Nat.ble pc 37 then (fun pc => (bif Nat.ble pc 33 then (fun pc => bif Nat.beq pc 33 then some (.invokevirtual 476, 36, 121, 161) else none) else (fun pc => (bif Nat.ble pc 36 then (fun pc => bif Nat.beq pc 36 then some (.aload_n 0, 37, 0, 0) else none) else (fun pc => bif Nat.beq pc 37 then some (.iload_n 1, 38, 0, 0) else none)) pc)) pc) else (fun pc => (bif Nat.ble pc 39 then (fun pc => (bif Nat.ble pc 38 then (fun pc => bif Nat.beq pc 38 then some (.iconst 0, 39, 0, 0) else none) else (fun pc => bif Nat.beq pc 39 then some (.iload_n 2, 40, 0, 0) else none)) pc) else (fun pc => (bif Nat.ble pc 40 then (fun pc => bif Nat.beq pc 40 then some (.invokevirtual 463, 43, 122, 164) else none) else (fun pc => bif Nat.beq pc 43 then some (.ireturn, 44, 0, 0) else none)) pc)) pc)) pc)) pc)) pc
/-- PackWeeks$Reckoner.fillGaps(LPackWeeks$Rows;I)V -/
def kc_118 : Nat → Option en_I := fun pc => (bif Nat.ble pc 24 then (fun pc => (bif Nat.ble pc 8 then (fun pc => (bif Nat.ble pc 2 then (fun pc => (bif Nat.ble pc 0 then (fun pc => bif Nat.beq pc 0 then some (.iconst 0, 1, 0, 0) else none) else (fun pc => (bif Nat.ble pc 1 then (fun pc => bif Nat.beq pc 1 then some (.istore_n 3, 2, 0, 0) else none) else (fun pc => bif Nat.beq pc 2 then some (.iload_n 3, 3, 0, 0) else none)) pc)) pc) else (fun pc => (bif Nat.ble pc 4 then (fun pc => (bif Nat.ble pc 3 then (fun pc => bif Nat.beq pc 3 then some (.iconst 4, 4, 4, 0) else none) else (fun pc => bif Nat.beq pc 4 then some (.if_icmp .ge 41, 7, 45, 0) else none)) pc) else (fun pc => (bif Nat.ble pc 7 then (fun pc => bif Nat.beq pc 7 then some (.iconst 0, 8, 0, 0) else none) else (fun pc => bif Nat.beq pc 8 then some (.istore 4, 10, 0, 0) else none)) pc)) pc)) pc) else (fun pc => (bif Nat.ble pc 16 then (fun pc => (bif Nat.ble pc 12 then (fun pc => (bif Nat.ble pc 10 then (fun pc => bif Nat.beq pc 10 then some (.iload 4, 12, 0, 0) else none) else (fun pc => bif Nat.beq pc 12 then some (.iload_n 2, 13, 0, 0) else none)) pc) else (fun pc => (bif Nat.ble pc 13 then (fun pc => bif Nat.beq pc 13 then some (.if_icmp .gt 26, 16, 39, 0) else none) else (fun pc => bif Nat.beq pc 16 then some (.aload_n 0, 17, 0, 0) else none)) pc)) pc) else (fun pc => (bif Nat.ble pc 20 then (fun pc => (bif Nat.ble pc 17 then (fun pc => bif Nat.beq pc 17 then some (.getfield 11, 20, 3, 4) else none) else (fun pc => bif Nat.beq pc 20 then some (.aload_n 1, 21, 0, 0) else none)) pc) else (fun pc => (bif Nat.ble pc 21 then (fun pc => bif Nat.beq pc 21 then some (.getfield 60, 24, 5, 5) else none) else (fun pc => bif Nat.beq pc 24 then some (.iload_n 3, 25, 0, 0) else none)) pc)) pc)) pc)) pc) else (fun pc => (bif Nat.ble pc 42 then (fun pc => (bif Nat.ble pc 32 then (fun pc => (bif Nat.ble pc 27 then (fun pc => (bif Nat.ble pc 25 then (fun pc => bif Nat.beq pc 25 then some (.iload 4, 27, 0, 0) else none) else (fun pc => bif Nat.beq pc 27 then some (.invokestatic 38, 30, 119, 3) else none)) pc) else (fun pc => (bif Nat.ble pc 30 then (fun pc => bif Nat.beq pc 30 then some (.ldc 64, 32, 1000000, 0) else none) else (fun pc => bif Nat.beq pc 32 then some (.iastore, 33, 0, 0) else none)) pc)) pc) else (fun pc => (bif Nat.ble pc 36 then (fun pc => (bif Nat.ble pc 33 then (fun pc => bif Nat.beq pc 33 then some (.iinc 4 1, 36, 1, 0) else none) else (fun pc => bif Nat.beq pc 36 then some (.goto (-26), 39, 10, 0) else none)) pc) else (fun pc => (bif Nat.ble pc 39 then (fun pc => bif Nat.beq pc 39 then some (.iinc 3 1, 42, 1, 0) else none) else (fun pc => bif Nat.beq pc 42 then some (.goto (-40), 45, 2, 0) else none)) pc)) pc)) pc) else (fun pc => (bif Nat.ble pc 50 then (fun pc => (bif Nat.ble pc 46 then (fun pc => (bif Nat.ble pc 45 then (fun pc => bif Nat.beq pc 45 then some (.aload_n 1, 46, 0, 0) else none) else (fun pc => bif Nat.beq pc 46 then some (.getfield 60, 49, 5, 5) else none)) pc) else (fun pc => (bif Nat.ble pc 49 then (fun pc => bif Nat.beq pc 49 then some (.iconst 1, 50, 1, 0) else none) else (fun pc => bif Nat.beq pc 50 then some (.isub, 51, 0, 0) else none)) pc)) pc) else (fun pc => (bif Nat.ble pc 52 then (fun pc => (bif Nat.ble pc 51 then (fun pc => bif Nat.beq pc 51 then some (.istore_n 3, 52, 0, 0) else none) else (fun pc => bif Nat.beq pc 52 then some (.iload_n 3, 53, 0, 0) else none)) pc) else (fun pc => (bif Nat.ble pc 53 then (fun pc => bif Nat.beq pc 53 then some (.ifCond .lt 60, 56, 113, 0) else none) else (fun pc => bif Nat.beq pc 113 then some (.return_, 114, 0, 0) else none)) pc)) pc)) pc)) pc)) pc
/-- PackWeeks$Reckoner.gapIndex(III)I -/
def kc_119 : Nat → Option en_I := fun pc => (bif Nat.ble pc 4 then (fun pc => (bif Nat.ble pc 1 then (fun pc => (bif Nat.ble pc 0 then (fun pc => bif Nat.beq pc 0 then some (.iload_n 0, 1, 0, 0) else none) else (fun pc => bif Nat.beq pc 1 then some (.iconst 4, 2, 4, 0) else none)) pc) else (fun pc => (bif Nat.ble pc 2 then (fun pc => bif Nat.beq pc 2 then some (.imul, 3, 0, 0) else none) else (fun pc => (bif Nat.ble pc 3 then (fun pc => bif Nat.beq pc 3 then some (.iload_n 1, 4, 0, 0) else none) else (fun pc => bif Nat.beq pc 4 then some (.iadd, 5, 0, 0) else none)) pc)) pc)) pc) else (fun pc => (bif Nat.ble pc 7 then (fun pc => (bif Nat.ble pc 5 then (fun pc => bif Nat.beq pc 5 then some (.bipush 41, 7, 41, 0) else none) else (fun pc => bif Nat.beq pc 7 then some (.imul, 8, 0, 0) else none)) pc) else (fun pc => (bif Nat.ble pc 8 then (fun pc => bif Nat.beq pc 8 then some (.iload_n 2, 9, 0, 0) else none) else (fun pc => (bif Nat.ble pc 9 then (fun pc => bif Nat.beq pc 9 then some (.iadd, 10, 0, 0) else none) else (fun pc => bif Nat.beq pc 10 then some (.ireturn, 11, 0, 0) else none)) pc)) pc)) pc)) pc
/-- PackWeeks$Reckoner.gapChance(III)I -/
def kc_120 : Nat → Option en_I := fun pc => (bif Nat.ble pc 5 then (fun pc => (bif Nat.ble pc 1 then (fun pc => (bif Nat.ble pc 0 then (fun pc => bif Nat.beq pc 0 then some (.aload_n 0, 1, 0, 0) else none) else (fun pc => bif Nat.beq pc 1 then some (.getfield 11, 4, 3, 4) else none)) pc) else (fun pc => (bif Nat.ble pc 4 then (fun pc => bif Nat.beq pc 4 then some (.iload_n 1, 5, 0, 0) else none) else (fun pc => bif Nat.beq pc 5 then some (.iload_n 2, 6, 0, 0) else none)) pc)) pc) else (fun pc => (bif Nat.ble pc 7 then (fun pc => (bif Nat.ble pc 6 then (fun pc => bif Nat.beq pc 6 then some (.iload_n 3, 7, 0, 0) else none) else (fun pc => bif Nat.beq pc 7 then some (.invokestatic 38, 10, 119, 3) else none)) pc) else (fun pc => (bif Nat.ble pc 10 then (fun pc => bif Nat.beq pc 10 then some (.iaload, 11, 0, 0) else none) else (fun pc => bif Nat.beq pc 11 then some (.ireturn, 12, 0, 0) else none)) pc)) pc)) pc
/-- PackWeeksModel.laysChances()V -/
def kc_121 : Nat → Option en_I := fun pc => (bif Nat.ble pc 7 then (fun pc => (bif Nat.ble pc 1 then (fun pc => (bif Nat.ble pc 0 then (fun pc => bif Nat.beq pc 0 then some (.aload_n 0, 1, 0, 0) else none) else (fun pc => bif Nat.beq pc 1 then some (.getfield 121, 4, 10, 10) else none)) pc) else (fun pc => (bif Nat.ble pc 4 then (fun pc => bif Nat.beq pc 4 then some (.bipush 6, 6, 6, 0) else none) else (fun pc => (bif Nat.ble pc 6 then (fun pc => bif Nat.beq pc 6 then some (.iaload, 7, 0, 0) else none) else (fun pc => bif Nat.beq pc 7 then some (.iconst 1, 8, 1, 0) else none)) pc)) pc)) pc) else (fun pc => (bif Nat.ble pc 9 then (fun pc => (bif Nat.ble pc 8 then (fun pc => bif Nat.beq pc 8 then some (.isub, 9, 0, 0) else none) else (fun pc => bif Nat.beq pc 9 then some (.istore_n 1, 10, 0, 0) else none)) pc) else (fun pc => (bif Nat.ble pc 10 then (fun pc => bif Nat.beq pc 10 then some (.iload_n 1, 11, 0, 0) else none) else (fun pc => (bif Nat.ble pc 11 then (fun pc => bif Nat.beq pc 11 then some (.ifCond .lt 189, 14, 200, 0) else none) else (fun pc => bif Nat.beq pc 200 then some (.return_, 201, 0, 0) else none)) pc)) pc)) pc)) pc
/-- PackWeeksModel.chanceAt(III)I -/
def kc_122 : Nat → Option en_I := fun pc => (bif Nat.ble pc 5 then (fun pc => (bif Nat.ble pc 1 then (fun pc => (bif Nat.ble pc 0 then (fun pc => bif Nat.beq pc 0 then some (.iload_n 1, 1, 0, 0) else none) else (fun pc => bif Nat.beq pc 1 then some (.aload_n 0, 2, 0, 0) else none)) pc) else (fun pc => (bif Nat.ble pc 2 then (fun pc => bif Nat.beq pc 2 then some (.getfield 121, 5, 10, 10) else none) else (fun pc => bif Nat.beq pc 5 then some (.bipush 6, 7, 6, 0) else none)) pc)) pc) else (fun pc => (bif Nat.ble pc 8 then (fun pc => (bif Nat.ble pc 7 then (fun pc => bif Nat.beq pc 7 then some (.iaload, 8, 0, 0) else none) else (fun pc => bif Nat.beq pc 8 then some (.if_icmp .ne 9, 11, 17, 0) else none)) pc) else (fun pc => (bif Nat.ble pc 11 then (fun pc => bif Nat.beq pc 11 then some (.ldc_w 462, 14, 1000000, 0) else none) else (fun pc => (bif Nat.ble pc 14 then (fun pc => bif Nat.beq pc 14 then some (.goto 18, 17, 32, 0) else none) else (fun pc => bif Nat.beq pc 32 then some (.ireturn, 33, 0, 0) else none)) pc)) pc)) pc)) pc
/-- PackWeeks.now(III)I -/
def kc_123 : Nat → Option en_I := fun pc => (bif Nat.ble pc 7 then (fun pc => (bif Nat.ble pc 1 then (fun pc => (bif Nat.ble pc 0 then (fun pc => bif Nat.beq pc 0 then some (.aload_n 0, 1, 0, 0) else none) else (fun pc => bif Nat.beq pc 1 then some (.getfield 71, 4, 10, 9) else none)) pc) else (fun pc => (bif Nat.ble pc 4 then (fun pc => bif Nat.beq pc 4 then some (.getfield 245, 7, 8, 1) else none) else (fun pc => bif Nat.beq pc 7 then some (.iload_n 1, 8, 0, 0) else none)) pc)) pc) else (fun pc => (bif Nat.ble pc 11 then (fun pc => (bif Nat.ble pc 8 then (fun pc => bif Nat.beq pc 8 then some (.invokevirtual 139, 11, 23, 82) else none) else (fun pc => bif Nat.beq pc 11 then some (.ifCond .eq 22, 14, 33, 0) else none)) pc) else (fun pc => (bif Nat.ble pc 33 then (fun pc => bif Nat.beq pc 33 then some (.iconst (-1), 34, 4294967295, 0) else none) else (fun pc => bif Nat.beq pc 34 then some (.ireturn, 35, 0, 0) else none)) pc)) pc)) pc
/-- PackWeeksModel.now(III)I -/
def kc_124 : Nat → Option en_I := fun pc => (bif Nat.ble pc 8 then (fun pc => (bif Nat.ble pc 2 then (fun pc => (bif Nat.ble pc 0 then (fun pc => bif Nat.beq pc 0 then some (.aload_n 0, 1, 0, 0) else none) else (fun pc => (bif Nat.ble pc 1 then (fun pc => bif Nat.beq pc 1 then some (.iconst 0, 2, 0, 0) else none) else (fun pc => bif Nat.beq pc 2 then some (.putfield 1, 5, 0, 10) else none)) pc)) pc) else (fun pc => (bif Nat.ble pc 6 then (fun pc => (bif Nat.ble pc 5 then (fun pc => bif Nat.beq pc 5 then some (.iload_n 1, 6, 0, 0) else none) else (fun pc => bif Nat.beq pc 6 then some (.iconst 0, 7, 0, 0) else none)) pc) else (fun pc => (bif Nat.ble pc 7 then (fun pc => bif Nat.beq pc 7 then some (.aload_n 0, 8, 0, 0) else none) else (fun pc => bif Nat.beq pc 8 then some (.getfield 121, 11, 10, 10) else none)) pc)) pc)) pc) else (fun pc => (bif Nat.ble pc 15 then (fun pc => (bif Nat.ble pc 13 then (fun pc => (bif Nat.ble pc 11 then (fun pc => bif Nat.beq pc 11 then some (.bipush 6, 13, 6, 0) else none) else (fun pc => bif Nat.beq pc 13 then some (.iaload, 14, 0, 0) else none)) pc) else (fun pc => (bif Nat.ble pc 14 then (fun pc => bif Nat.beq pc 14 then some (.iconst 1, 15, 1, 0) else none) else (fun pc => bif Nat.beq pc 15 then some (.isub, 16, 0, 0) else none)) pc)) pc) else (fun pc => (bif Nat.ble pc 19 then (fun pc => (bif Nat.ble pc 16 then (fun pc => bif Nat.beq pc 16 then some (.invokestatic 320, 19, 61, 3) else none) else (fun pc => bif Nat.beq pc 19 then some (.ifCond .eq 22, 22, 41, 0) else none)) pc) else (fun pc => (bif Nat.ble pc 41 then (fun pc => bif Nat.beq pc 41 then some (.iconst (-1), 42, 4294967295, 0) else none) else (fun pc => bif Nat.beq pc 42 then some (.ireturn, 43, 0, 0) else none)) pc)) pc)) pc)) pc
/-- PackWeeks.lost(II)I -/
def kc_125 : Nat → Option en_I := fun pc => (bif Nat.ble pc 25 then (fun pc => (bif Nat.ble pc 11 then (fun pc => (bif Nat.ble pc 2 then (fun pc => (bif Nat.ble pc 0 then (fun pc => bif Nat.beq pc 0 then some (.iload_n 1, 1, 0, 0) else none) else (fun pc => (bif Nat.ble pc 1 then (fun pc => bif Nat.beq pc 1 then some (.iconst 1, 2, 1, 0) else none) else (fun pc => bif Nat.beq pc 2 then some (.bipush 30, 4, 30, 0) else none)) pc)) pc) else (fun pc => (bif Nat.ble pc 7 then (fun pc => (bif Nat.ble pc 4 then (fun pc => bif Nat.beq pc 4 then some (.invokestatic 121, 7, 60, 3) else none) else (fun pc => bif Nat.beq pc 7 then some (.ifCond .eq 12, 10, 19, 0) else none)) pc) else (fun pc => (bif Nat.ble pc 10 then (fun pc => bif Nat.beq pc 10 then some (.iload_n 2, 11, 0, 0) else none) else (fun pc => bif Nat.beq pc 11 then some (.iconst 0, 12, 0, 0) else none)) pc)) pc)) pc) else (fun pc => (bif Nat.ble pc 19 then (fun pc => (bif Nat.ble pc 13 then (fun pc => (bif Nat.ble pc 12 then (fun pc => bif Nat.beq pc 12 then some (.iconst 1, 13, 1, 0) else none) else (fun pc => bif Nat.beq pc 13 then some (.invokestatic 121, 16, 60, 3) else none)) pc) else (fun pc => (bif Nat.ble pc 16 then (fun pc => bif Nat.beq pc 16 then some (.ifCond .ne 5, 19, 21, 0) else none) else (fun pc => bif Nat.beq pc 19 then some (.iconst (-1), 20, 4294967295, 0) else none)) pc)) pc) else (fun pc => (bif Nat.ble pc 21 then (fun pc => (bif Nat.ble pc 20 then (fun pc => bif Nat.beq pc 20 then some (.ireturn, 21, 0, 0) else none) else (fun pc => bif Nat.beq pc 21 then some (.aload_n 0, 22, 0, 0) else none)) pc) else (fun pc => (bif Nat.ble pc 22 then (fun pc => bif Nat.beq pc 22 then some (.getfield 64, 25, 9, 9) else none) else (fun pc => bif Nat.beq pc 25 then some (.aload_n 0, 26, 0, 0) else none)) pc)) pc)) pc)) pc) else (fun pc => (bif Nat.ble pc 41 then (fun pc => (bif Nat.ble pc 33 then (fun pc => (bif Nat.ble pc 29 then (fun pc => (bif Nat.ble pc 26 then (fun pc => bif Nat.beq pc 26 then some (.getfield 71, 29, 10, 9) else none) else (fun pc => bif Nat.beq pc 29 then some (.getfield 259, 32, 12, 1) else none)) pc) else (fun pc => (bif Nat.ble pc 32 then (fun pc => bif Nat.beq pc 32 then some (.iload_n 1, 33, 0, 0) else none) else (fun pc => bif Nat.beq pc 33 then some (.invokevirtual 263, 36, 144, 67) else none)) pc)) pc) else (fun pc => (bif Nat.ble pc 37 then (fun pc => (bif Nat.ble pc 36 then (fun pc => bif Nat.beq pc 36 then some (.iload_n 2, 37, 0, 0) else none) else (fun pc => bif Nat.beq pc 37 then some (.ifCond .ne 15, 40, 52, 0) else none)) pc) else (fun pc => (bif Nat.ble pc 40 then (fun pc => bif Nat.beq pc 40 then some (.aload_n 0, 41, 0, 0) else none) else (fun pc => bif Nat.beq pc 41 then some (.getfield 64, 44, 9, 9) else none)) pc)) pc)) pc) else (fun pc => (bif Nat.ble pc 49 then (fun pc => (bif Nat.ble pc 45 then (fun pc => (bif Nat.ble pc 44 then (fun pc => bif Nat.beq pc 44 then some (.iconst 1, 45, 1, 0) else none) else (fun pc => bif Nat.beq pc 45 then some (.iload_n 1, 46, 0, 0) else none)) pc) else (fun pc => (bif Nat.ble pc 46 then (fun pc => bif Nat.beq pc 46 then some (.invokevirtual 267, 49, 146, 67) else none) else (fun pc => bif Nat.beq pc 49 then some (.goto 10, 52, 59, 0) else none)) pc)) pc) else (fun pc => (bif Nat.ble pc 53 then (fun pc => (bif Nat.ble pc 52 then (fun pc => bif Nat.beq pc 52 then some (.aload_n 0, 53, 0, 0) else none) else (fun pc => bif Nat.beq pc 53 then some (.getfield 64, 56, 9, 9) else none)) pc) else (fun pc => (bif Nat.ble pc 56 then (fun pc => bif Nat.beq pc 56 then some (.getfield 270, 59, 0, 4) else none) else (fun pc => bif Nat.beq pc 59 then some (.ireturn, 60, 0, 0) else none)) pc)) pc)) pc)) pc)) pc
/-- PackWeeksModel.lost(II)I -/
def kc_126 : Nat → Option en_I := fun pc => (bif Nat.ble pc 59 then (fun pc => (bif Nat.ble pc 28 then (fun pc => (bif Nat.ble pc 15 then (fun pc => (bif Nat.ble pc 5 then (fun pc => (bif Nat.ble pc 1 then (fun pc => (bif Nat.ble pc 0 then (fun pc => bif Nat.beq pc 0 then some (.aload_n 0, 1, 0, 0) else none) else (fun pc => bif Nat.beq pc 1 then some (.iconst 0, 2, 0, 0) else none)) pc) else (fun pc => (bif Nat.ble pc 2 then (fun pc => bif Nat.beq pc 2 then some (.putfield 1, 5, 0, 10) else none) else (fun pc => bif Nat.beq pc 5 then some (.iload_n 1, 6, 0, 0) else none)) pc)) pc) else (fun pc => (bif Nat.ble pc 7 then (fun pc => (bif Nat.ble pc 6 then (fun pc => bif Nat.beq pc 6 then some (.iconst 1, 7, 1, 0) else none) else (fun pc => bif Nat.beq pc 7 then some (.bipush 30, 9, 30, 0) else none)) pc) else (fun pc => (bif Nat.ble pc 9 then (fun pc => bif Nat.beq pc 9 then some (.invokestatic 320, 12, 61, 3) else none) else (fun pc => (bif Nat.ble pc 12 then (fun pc => bif Nat.beq pc 12 then some (.ifCond .eq 12, 15, 24, 0) else none) else (fun pc => bif Nat.beq pc 15 then some (.iload_n 2, 16, 0, 0) else none)) pc)) pc)) pc)) pc) else (fun pc => (bif Nat.ble pc 21 then (fun pc => (bif Nat.ble pc 17 then (fun pc => (bif Nat.ble pc 16 then (fun pc => bif Nat.beq pc 16 then some (.iconst 0, 17, 0, 0) else none) else (fun pc => bif Nat.beq pc 17 then some (.iconst 1, 18, 1, 0) else none)) pc) else (fun pc => (bif Nat.ble pc 18 then (fun pc => bif Nat.beq pc 18 then some (.invokestatic 320, 21, 61, 3) else none) else (fun pc => bif Nat.beq pc 21 then some (.ifCond .ne 5, 24, 26, 0) else none)) pc)) pc) else (fun pc => (bif Nat.ble pc 25 then (fun pc => (bif Nat.ble pc 24 then (fun pc => bif Nat.beq pc 24 then some (.iconst (-1), 25, 4294967295, 0) else none) else (fun pc => bif Nat.beq pc 25 then some (.ireturn, 26, 0, 0) else none)) pc) else (fun pc => (bif Nat.ble pc 26 then (fun pc => bif Nat.beq pc 26 then some (.iconst 0, 27, 0, 0) else none) else (fun pc => (bif Nat.ble pc 27 then (fun pc => bif Nat.beq pc 27 then some (.istore_n 3, 28, 0, 0) else none) else (fun pc => bif Nat.beq pc 28 then some (.iload_n 3, 29, 0, 0) else none)) pc)) pc)) pc)) pc)) pc) else (fun pc => (bif Nat.ble pc 41 then (fun pc => (bif Nat.ble pc 34 then (fun pc => (bif Nat.ble pc 30 then (fun pc => (bif Nat.ble pc 29 then (fun pc => bif Nat.beq pc 29 then some (.iload_n 1, 30, 0, 0) else none) else (fun pc => bif Nat.beq pc 30 then some (.if_icmp .ge 69, 33, 99, 0) else none)) pc) else (fun pc => (bif Nat.ble pc 33 then (fun pc => bif Nat.beq pc 33 then some (.iconst 1, 34, 1, 0) else none) else (fun pc => bif Nat.beq pc 34 then some (.istore 4, 36, 0, 0) else none)) pc)) pc) else (fun pc => (bif Nat.ble pc 38 then (fun pc => (bif Nat.ble pc 36 then (fun pc => bif Nat.beq pc 36 then some (.iload 4, 38, 0, 0) else none) else (fun pc => bif Nat.beq pc 38 then some (.iload_n 3, 39, 0, 0) else none)) pc) else (fun pc => (bif Nat.ble pc 39 then (fun pc => bif Nat.beq pc 39 then some (.iadd, 40, 0, 0) else none) else (fun pc => (bif Nat.ble pc 40 then (fun pc => bif Nat.beq pc 40 then some (.iload_n 1, 41, 0, 0) else none) else (fun pc => bif Nat.beq pc 41 then some (.if_icmp .gt 52, 44, 93, 0) else none)) pc)) pc)) pc)) pc) else (fun pc => (bif Nat.ble pc 50 then (fun pc => (bif Nat.ble pc 46 then (fun pc => (bif Nat.ble pc 44 then (fun pc => bif Nat.beq pc 44 then some (.iload 4, 46, 0, 0) else none) else (fun pc => bif Nat.beq pc 46 then some (.iload_n 3, 47, 0, 0) else none)) pc) else (fun pc => (bif Nat.ble pc 47 then (fun pc => bif Nat.beq pc 47 then some (.iadd, 48, 0, 0) else none) else (fun pc => (bif Nat.ble pc 48 then (fun pc => bif Nat.beq pc 48 then some (.istore 5, 50, 0, 0) else none) else (fun pc => bif Nat.beq pc 50 then some (.aload_n 0, 51, 0, 0) else none)) pc)) pc)) pc) else (fun pc => (bif Nat.ble pc 54 then (fun pc => (bif Nat.ble pc 51 then (fun pc => bif Nat.beq pc 51 then some (.getfield 173, 54, 33, 10) else none) else (fun pc => bif Nat.beq pc 54 then some (.bipush 32, 56, 32, 0) else none)) pc) else (fun pc => (bif Nat.ble pc 56 then (fun pc => bif Nat.beq pc 56 then some (.iload 4, 58, 0, 0) else none) else (fun pc => (bif Nat.ble pc 58 then (fun pc => bif Nat.beq pc 58 then some (.imul, 59, 0, 0) else none) else (fun pc => bif Nat.beq pc 59 then some (.iload 5, 61, 0, 0) else none)) pc)) pc)) pc)) pc)) pc)) pc) else (fun pc => (bif Nat.ble pc 96 then (fun pc => (bif Nat.ble pc 75 then (fun pc => (bif Nat.ble pc 66 then (fun pc => (bif Nat.ble pc 62 then (fun pc => (bif Nat.ble pc 61 then (fun pc => bif Nat.beq pc 61 then some (.iadd, 62, 0, 0) else none) else (fun pc => bif Nat.beq pc 62 then some (.iload_n 3, 63, 0, 0) else none)) pc) else (fun pc => (bif Nat.ble pc 63 then (fun pc => bif Nat.beq pc 63 then some (.ifCond .ne 7, 66, 70, 0) else none) else (fun pc => bif Nat.beq pc 66 then some (.iconst 0, 67, 0, 0) else none)) pc)) pc) else (fun pc => (bif Nat.ble pc 70 then (fun pc => (bif Nat.ble pc 67 then (fun pc => bif Nat.beq pc 67 then some (.goto 19, 70, 86, 0) else none) else (fun pc => bif Nat.beq pc 70 then some (.aload_n 0, 71, 0, 0) else none)) pc) else (fun pc => (bif Nat.ble pc 71 then (fun pc => bif Nat.beq pc 71 then some (.iload 4, 73, 0, 0) else none) else (fun pc => (bif Nat.ble pc 73 then (fun pc => bif Nat.beq pc 73 then some (.iload 5, 75, 0, 0) else none) else (fun pc => bif Nat.beq pc 75 then some (.aload_n 0, 76, 0, 0) else none)) pc)) pc)) pc)) pc) else (fun pc => (bif Nat.ble pc 83 then (fun pc => (bif Nat.ble pc 78 then (fun pc => (bif Nat.ble pc 76 then (fun pc => bif Nat.beq pc 76 then some (.iload 4, 78, 0, 0) else none) else (fun pc => bif Nat.beq pc 78 then some (.iload 5, 80, 0, 0) else none)) pc) else (fun pc => (bif Nat.ble pc 80 then (fun pc => bif Nat.beq pc 80 then some (.invokevirtual 485, 83, 147, 163) else none) else (fun pc => bif Nat.beq pc 83 then some (.invokevirtual 482, 86, 148, 164) else none)) pc)) pc) else (fun pc => (bif Nat.ble pc 87 then (fun pc => (bif Nat.ble pc 86 then (fun pc => bif Nat.beq pc 86 then some (.iastore, 87, 0, 0) else none) else (fun pc => bif Nat.beq pc 87 then some (.iinc 4 1, 90, 1, 0) else none)) pc) else (fun pc => (bif Nat.ble pc 90 then (fun pc => bif Nat.beq pc 90 then some (.goto (-54), 93, 36, 0) else none) else (fun pc => (bif Nat.ble pc 93 then (fun pc => bif Nat.beq pc 93 then some (.iinc 3 1, 96, 1, 0) else none) else (fun pc => bif Nat.beq pc 96 then some (.goto (-68), 99, 28, 0) else none)) pc)) pc)) pc)) pc)) pc) else (fun pc => (bif Nat.ble pc 112 then (fun pc => (bif Nat.ble pc 104 then (fun pc => (bif Nat.ble pc 100 then (fun pc => (bif Nat.ble pc 99 then (fun pc => bif Nat.beq pc 99 then some (.iload_n 2, 100, 0, 0) else none) else (fun pc => bif Nat.beq pc 100 then some (.ifCond .ne 15, 103, 115, 0) else none)) pc) else (fun pc => (bif Nat.ble pc 103 then (fun pc => bif Nat.beq pc 103 then some (.aload_n 0, 104, 0, 0) else none) else (fun pc => bif Nat.beq pc 104 then some (.getfield 173, 107, 33, 10) else none)) pc)) pc) else (fun pc => (bif Nat.ble pc 109 then (fun pc => (bif Nat.ble pc 107 then (fun pc => bif Nat.beq pc 107 then some (.bipush 32, 109, 32, 0) else none) else (fun pc => bif Nat.beq pc 109 then some (.iload_n 1, 110, 0, 0) else none)) pc) else (fun pc => (bif Nat.ble pc 110 then (fun pc => bif Nat.beq pc 110 then some (.iadd, 111, 0, 0) else none) else (fun pc => (bif Nat.ble pc 111 then (fun pc => bif Nat.beq pc 111 then some (.iaload, 112, 0, 0) else none) else (fun pc => bif Nat.beq pc 112 then some (.goto 18, 115, 130, 0) else none)) pc)) pc)) pc)) pc) else (fun pc => (bif Nat.ble pc 121 then (fun pc => (bif Nat.ble pc 116 then (fun pc => (bif Nat.ble pc 115 then (fun pc => bif Nat.beq pc 115 then some (.iload_n 1, 116, 0, 0) else none) else (fun pc => bif Nat.beq pc 116 then some (.iconst 1, 117, 1, 0) else none)) pc) else (fun pc => (bif Nat.ble pc 117 then (fun pc => bif Nat.beq pc 117 then some (.if_icmp .ne 7, 120, 124, 0) else none) else (fun pc => (bif Nat.ble pc 120 then (fun pc => bif Nat.beq pc 120 then some (.iconst (-1), 121, 4294967295, 0) else none) else (fun pc => bif Nat.beq pc 121 then some (.goto 9, 124, 130, 0) else none)) pc)) pc)) pc) else (fun pc => (bif Nat.ble pc 125 then (fun pc => (bif Nat.ble pc 124 then (fun pc => bif Nat.beq pc 124 then some (.aload_n 0, 125, 0, 0) else none) else (fun pc => bif Nat.beq pc 125 then some (.iconst 1, 126, 1, 0) else none)) pc) else (fun pc => (bif Nat.ble pc 126 then (fun pc => bif Nat.beq pc 126 then some (.iload_n 1, 127, 0, 0) else none) else (fun pc => (bif Nat.ble pc 127 then (fun pc => bif Nat.beq pc 127 then some (.invokevirtual 485, 130, 147, 163) else none) else (fun pc => bif Nat.beq pc 130 then some (.ireturn, 131, 0, 0) else none)) pc)) pc)) pc)) pc)) pc)) pc)) pc
/-- PackWeeks.code(I)I -/
def kc_127 : Nat → Option en_I := fun pc => (bif Nat.ble pc 4 then (fun pc => (bif Nat.ble pc 0 then (fun pc => bif Nat.beq pc 0 then some (.aload_n 0, 1, 0, 0) else none) else (fun pc => (bif Nat.ble pc 1 then (fun pc => bif Nat.beq pc 1 then some (.getfield 71, 4, 10, 9) else none) else (fun pc => bif Nat.beq pc 4 then some (.getfield 273, 7, 9, 1) else none)) pc)) pc) else (fun pc => (bif Nat.ble pc 10 then (fun pc => (bif Nat.ble pc 7 then (fun pc => bif Nat.beq pc 7 then some (.getfield 202, 10, 5, 5) else none) else (fun pc => bif Nat.beq pc 10 then some (.ifCond .eq 22, 13, 32, 0) else none)) pc) else (fun pc => (bif Nat.ble pc 32 then (fun pc => bif Nat.beq pc 32 then some (.bipush (-2), 34, 4294967294, 0) else none) else (fun pc => bif Nat.beq pc 34 then some (.ireturn, 35, 0, 0) else none)) pc)) pc)) pc
/-- PackWeeksModel.code(I)I -/
def kc_128 : Nat → Option en_I := fun pc => (bif Nat.ble pc 9 then (fun pc => (bif Nat.ble pc 2 then (fun pc => (bif Nat.ble pc 0 then (fun pc => bif Nat.beq pc 0 then some (.aload_n 0, 1, 0, 0) else none) else (fun pc => (bif Nat.ble pc 1 then (fun pc => bif Nat.beq pc 1 then some (.iconst 0, 2, 0, 0) else none) else (fun pc => bif Nat.beq pc 2 then some (.putfield 1, 5, 0, 10) else none)) pc)) pc) else (fun pc => (bif Nat.ble pc 5 then (fun pc => bif Nat.beq pc 5 then some (.aload_n 0, 6, 0, 0) else none) else (fun pc => (bif Nat.ble pc 6 then (fun pc => bif Nat.beq pc 6 then some (.getfield 121, 9, 10, 10) else none) else (fun pc => bif Nat.beq pc 9 then some (.bipush 7, 11, 7, 0) else none)) pc)) pc)) pc) else (fun pc => (bif Nat.ble pc 13 then (fun pc => (bif Nat.ble pc 11 then (fun pc => bif Nat.beq pc 11 then some (.iaload, 12, 0, 0) else none) else (fun pc => (bif Nat.ble pc 12 then (fun pc => bif Nat.beq pc 12 then some (.istore_n 2, 13, 0, 0) else none) else (fun pc => bif Nat.beq pc 13 then some (.iload_n 2, 14, 0, 0) else none)) pc)) pc) else (fun pc => (bif Nat.ble pc 14 then (fun pc => bif Nat.beq pc 14 then some (.ifCond .eq 14, 17, 28, 0) else none) else (fun pc => (bif Nat.ble pc 28 then (fun pc => bif Nat.beq pc 28 then some (.bipush (-2), 30, 4294967294, 0) else none) else (fun pc => bif Nat.beq pc 30 then some (.ireturn, 31, 0, 0) else none)) pc)) pc)) pc)) pc
/-- PackWeeks.carry(I)I -/
def kc_129 : Nat → Option en_I := fun pc => (bif Nat.ble pc 17 then (fun pc => (bif Nat.ble pc 6 then (fun pc => (bif Nat.ble pc 1 then (fun pc => (bif Nat.ble pc 0 then (fun pc => bif Nat.beq pc 0 then some (.iload_n 1, 1, 0, 0) else none) else (fun pc => bif Nat.beq pc 1 then some (.iconst 0, 2, 0, 0) else none)) pc) else (fun pc => (bif Nat.ble pc 2 then (fun pc => bif Nat.beq pc 2 then some (.iconst 1, 3, 1, 0) else none) else (fun pc => (bif Nat.ble pc 3 then (fun pc => bif Nat.beq pc 3 then some (.invokestatic 121, 6, 60, 3) else none) else (fun pc => bif Nat.beq pc 6 then some (.ifCond .ne 6, 9, 12, 0) else none)) pc)) pc)) pc) else (fun pc => (bif Nat.ble pc 12 then (fun pc => (bif Nat.ble pc 9 then (fun pc => bif Nat.beq pc 9 then some (.bipush (-2), 11, 4294967294, 0) else none) else (fun pc => (bif Nat.ble pc 11 then (fun pc => bif Nat.beq pc 11 then some (.ireturn, 12, 0, 0) else none) else (fun pc => bif Nat.beq pc 12 then some (.aload_n 0, 13, 0, 0) else none)) pc)) pc) else (fun pc => (bif Nat.ble pc 13 then (fun pc => bif Nat.beq pc 13 then some (.getfield 64, 16, 9, 9) else none) else (fun pc => (bif Nat.ble pc 16 then (fun pc => bif Nat.beq pc 16 then some (.aload_n 0, 17, 0, 0) else none) else (fun pc => bif Nat.beq pc 17 then some (.getfield 71, 20, 10, 9) else none)) pc)) pc)) pc)) pc) else (fun pc => (bif Nat.ble pc 31 then (fun pc => (bif Nat.ble pc 24 then (fun pc => (bif Nat.ble pc 20 then (fun pc => bif Nat.beq pc 20 then some (.invokevirtual 286, 23, 131, 66) else none) else (fun pc => (bif Nat.ble pc 23 then (fun pc => bif Nat.beq pc 23 then some (.iload_n 1, 24, 0, 0) else none) else (fun pc => bif Nat.beq pc 24 then some (.ifCond .ne 14, 27, 38, 0) else none)) pc)) pc) else (fun pc => (bif Nat.ble pc 27 then (fun pc => bif Nat.beq pc 27 then some (.aload_n 0, 28, 0, 0) else none) else (fun pc => (bif Nat.ble pc 28 then (fun pc => bif Nat.beq pc 28 then some (.getfield 64, 31, 9, 9) else none) else (fun pc => bif Nat.beq pc 31 then some (.iconst 0, 32, 0, 0) else none)) pc)) pc)) pc) else (fun pc => (bif Nat.ble pc 38 then (fun pc => (bif Nat.ble pc 32 then (fun pc => bif Nat.beq pc 32 then some (.invokevirtual 289, 35, 135, 66) else none) else (fun pc => (bif Nat.ble pc 35 then (fun pc => bif Nat.beq pc 35 then some (.goto 10, 38, 45, 0) else none) else (fun pc => bif Nat.beq pc 38 then some (.aload_n 0, 39, 0, 0) else none)) pc)) pc) else (fun pc => (bif Nat.ble pc 39 then (fun pc => bif Nat.beq pc 39 then some (.getfield 64, 42, 9, 9) else none) else (fun pc => (bif Nat.ble pc 42 then (fun pc => bif Nat.beq pc 42 then some (.getfield 292, 45, 2, 4) else none) else (fun pc => bif Nat.beq pc 45 then some (.ireturn, 46, 0, 0) else none)) pc)) pc)) pc)) pc)) pc
/-- PackWeeksModel.carry(I)I -/
def kc_130 : Nat → Option en_I := fun pc => (bif Nat.ble pc 29 then (fun pc => (bif Nat.ble pc 16 then (fun pc => (bif Nat.ble pc 6 then (fun pc => (bif Nat.ble pc 1 then (fun pc => (bif Nat.ble pc 0 then (fun pc => bif Nat.beq pc 0 then some (.aload_n 0, 1, 0, 0) else none) else (fun pc => bif Nat.beq pc 1 then some (.iconst 0, 2, 0, 0) else none)) pc) else (fun pc => (bif Nat.ble pc 2 then (fun pc => bif Nat.beq pc 2 then some (.putfield 1, 5, 0, 10) else none) else (fun pc => (bif Nat.ble pc 5 then (fun pc => bif Nat.beq pc 5 then some (.iload_n 1, 6, 0, 0) else none) else (fun pc => bif Nat.beq pc 6 then some (.iconst 0, 7, 0, 0) else none)) pc)) pc)) pc) else (fun pc => (bif Nat.ble pc 8 then (fun pc => (bif Nat.ble pc 7 then (fun pc => bif Nat.beq pc 7 then some (.iconst 1, 8, 1, 0) else none) else (fun pc => bif Nat.beq pc 8 then some (.invokestatic 320, 11, 61, 3) else none)) pc) else (fun pc => (bif Nat.ble pc 11 then (fun pc => bif Nat.beq pc 11 then some (.ifCond .ne 6, 14, 17, 0) else none) else (fun pc => (bif Nat.ble pc 14 then (fun pc => bif Nat.beq pc 14 then some (.bipush (-2), 16, 4294967294, 0) else none) else (fun pc => bif Nat.beq pc 16 then some (.ireturn, 17, 0, 0) else none)) pc)) pc)) pc)) pc) else (fun pc => (bif Nat.ble pc 24 then (fun pc => (bif Nat.ble pc 18 then (fun pc => (bif Nat.ble pc 17 then (fun pc => bif Nat.beq pc 17 then some (.iconst 1, 18, 1, 0) else none) else (fun pc => bif Nat.beq pc 18 then some (.aload_n 0, 19, 0, 0) else none)) pc) else (fun pc => (bif Nat.ble pc 19 then (fun pc => bif Nat.beq pc 19 then some (.getfield 121, 22, 10, 10) else none) else (fun pc => (bif Nat.ble pc 22 then (fun pc => bif Nat.beq pc 22 then some (.bipush 8, 24, 8, 0) else none) else (fun pc => bif Nat.beq pc 24 then some (.iaload, 25, 0, 0) else none)) pc)) pc)) pc) else (fun pc => (bif Nat.ble pc 26 then (fun pc => (bif Nat.ble pc 25 then (fun pc => bif Nat.beq pc 25 then some (.ishl, 26, 0, 0) else none) else (fun pc => bif Nat.beq pc 26 then some (.iconst 1, 27, 1, 0) else none)) pc) else (fun pc => (bif Nat.ble pc 27 then (fun pc => bif Nat.beq pc 27 then some (.isub, 28, 0, 0) else none) else (fun pc => (bif Nat.ble pc 28 then (fun pc => bif Nat.beq pc 28 then some (.istore_n 2, 29, 0, 0) else none) else (fun pc => bif Nat.beq pc 29 then some (.aload_n 0, 30, 0, 0) else none)) pc)) pc)) pc)) pc)) pc) else (fun pc => (bif Nat.ble pc 41 then (fun pc => (bif Nat.ble pc 36 then (fun pc => (bif Nat.ble pc 33 then (fun pc => (bif Nat.ble pc 30 then (fun pc => bif Nat.beq pc 30 then some (.getfield 188, 33, 39, 10) else none) else (fun pc => bif Nat.beq pc 33 then some (.iload_n 2, 34, 0, 0) else none)) pc) else (fun pc => (bif Nat.ble pc 34 then (fun pc => bif Nat.beq pc 34 then some (.iconst 0, 35, 0, 0) else none) else (fun pc => (bif Nat.ble pc 35 then (fun pc => bif Nat.beq pc 35 then some (.iastore, 36, 0, 0) else none) else (fun pc => bif Nat.beq pc 36 then some (.iload_n 2, 37, 0, 0) else none)) pc)) pc)) pc) else (fun pc => (bif Nat.ble pc 38 then (fun pc => (bif Nat.ble pc 37 then (fun pc => bif Nat.beq pc 37 then some (.iconst 1, 38, 1, 0) else none) else (fun pc => bif Nat.beq pc 38 then some (.isub, 39, 0, 0) else none)) pc) else (fun pc => (bif Nat.ble pc 39 then (fun pc => bif Nat.beq pc 39 then some (.istore_n 3, 40, 0, 0) else none) else (fun pc => (bif Nat.ble pc 40 then (fun pc => bif Nat.beq pc 40 then some (.iload_n 3, 41, 0, 0) else none) else (fun pc => bif Nat.beq pc 41 then some (.ifCond .lt 25, 44, 66, 0) else none)) pc)) pc)) pc)) pc) else (fun pc => (bif Nat.ble pc 74 then (fun pc => (bif Nat.ble pc 67 then (fun pc => (bif Nat.ble pc 66 then (fun pc => bif Nat.beq pc 66 then some (.iload_n 1, 67, 0, 0) else none) else (fun pc => bif Nat.beq pc 67 then some (.ifCond .ne 12, 70, 79, 0) else none)) pc) else (fun pc => (bif Nat.ble pc 70 then (fun pc => bif Nat.beq pc 70 then some (.aload_n 0, 71, 0, 0) else none) else (fun pc => (bif Nat.ble pc 71 then (fun pc => bif Nat.beq pc 71 then some (.getfield 188, 74, 39, 10) else none) else (fun pc => bif Nat.beq pc 74 then some (.iconst 0, 75, 0, 0) else none)) pc)) pc)) pc) else (fun pc => (bif Nat.ble pc 79 then (fun pc => (bif Nat.ble pc 75 then (fun pc => bif Nat.beq pc 75 then some (.iaload, 76, 0, 0) else none) else (fun pc => (bif Nat.ble pc 76 then (fun pc => bif Nat.beq pc 76 then some (.goto 8, 79, 84, 0) else none) else (fun pc => bif Nat.beq pc 79 then some (.aload_n 0, 80, 0, 0) else none)) pc)) pc) else (fun pc => (bif Nat.ble pc 80 then (fun pc => bif Nat.beq pc 80 then some (.iconst 0, 81, 0, 0) else none) else (fun pc => (bif Nat.ble pc 81 then (fun pc => bif Nat.beq pc 81 then some (.invokevirtual 505, 84, 136, 162) else none) else (fun pc => bif Nat.beq pc 84 then some (.ireturn, 85, 0, 0) else none)) pc)) pc)) pc)) pc)) pc)) pc
/-- PackWeeks$Reckoner.fillLoads(LPackWeeks$Pack;)V -/
def kc_131 : Nat → Option en_I := fun pc => (bif Nat.ble pc 29 then (fun pc => (bif Nat.ble pc 13 then (fun pc => (bif Nat.ble pc 3 then (fun pc => (bif Nat.ble pc 1 then (fun pc => (bif Nat.ble pc 0 then (fun pc => bif Nat.beq pc 0 then some (.iconst 0, 1, 0, 0) else none) else (fun pc => bif Nat.beq pc 1 then some (.istore_n 2, 2, 0, 0) else none)) pc) else (fun pc => (bif Nat.ble pc 2 then (fun pc => bif Nat.beq pc 2 then some (.iload_n 2, 3, 0, 0) else none) else (fun pc => bif Nat.beq pc 3 then some (.bipush 54, 5, 54, 0) else none)) pc)) pc) else (fun pc => (bif Nat.ble pc 8 then (fun pc => (bif Nat.ble pc 5 then (fun pc => bif Nat.beq pc 5 then some (.if_icmp .ge 30, 8, 35, 0) else none) else (fun pc => bif Nat.beq pc 8 then some (.aload_n 0, 9, 0, 0) else none)) pc) else (fun pc => (bif Nat.ble pc 9 then (fun pc => bif Nat.beq pc 9 then some (.getfield 32, 12, 9, 4) else none) else (fun pc => (bif Nat.ble pc 12 then (fun pc => bif Nat.beq pc 12 then some (.iload_n 2, 13, 0, 0) else none) else (fun pc => bif Nat.beq pc 13 then some (.bipush 10, 15, 10, 0) else none)) pc)) pc)) pc)) pc) else (fun pc => (bif Nat.ble pc 22 then (fun pc => (bif Nat.ble pc 16 then (fun pc => (bif Nat.ble pc 15 then (fun pc => bif Nat.beq pc 15 then some (.aload_n 1, 16, 0, 0) else none) else (fun pc => bif Nat.beq pc 16 then some (.getfield 118, 19, 13, 1) else none)) pc) else (fun pc => (bif Nat.ble pc 19 then (fun pc => bif Nat.beq pc 19 then some (.bipush 10, 21, 10, 0) else none) else (fun pc => (bif Nat.ble pc 21 then (fun pc => bif Nat.beq pc 21 then some (.iconst 0, 22, 0, 0) else none) else (fun pc => bif Nat.beq pc 22 then some (.iload_n 2, 23, 0, 0) else none)) pc)) pc)) pc) else (fun pc => (bif Nat.ble pc 24 then (fun pc => (bif Nat.ble pc 23 then (fun pc => bif Nat.beq pc 23 then some (.iconst 0, 24, 0, 0) else none) else (fun pc => bif Nat.beq pc 24 then some (.invokevirtual 81, 27, 132, 5) else none)) pc) else (fun pc => (bif Nat.ble pc 27 then (fun pc => bif Nat.beq pc 27 then some (.isub, 28, 0, 0) else none) else (fun pc => (bif Nat.ble pc 28 then (fun pc => bif Nat.beq pc 28 then some (.iastore, 29, 0, 0) else none) else (fun pc => bif Nat.beq pc 29 then some (.iinc 2 1, 32, 1, 0) else none)) pc)) pc)) pc)) pc)) pc) else (fun pc => (bif Nat.ble pc 46 then (fun pc => (bif Nat.ble pc 37 then (fun pc => (bif Nat.ble pc 35 then (fun pc => (bif Nat.ble pc 32 then (fun pc => bif Nat.beq pc 32 then some (.goto (-30), 35, 2, 0) else none) else (fun pc => bif Nat.beq pc 35 then some (.iconst 1, 36, 1, 0) else none)) pc) else (fun pc => (bif Nat.ble pc 36 then (fun pc => bif Nat.beq pc 36 then some (.aload_n 1, 37, 0, 0) else none) else (fun pc => bif Nat.beq pc 37 then some (.getfield 124, 40, 10, 1) else none)) pc)) pc) else (fun pc => (bif Nat.ble pc 43 then (fun pc => (bif Nat.ble pc 40 then (fun pc => bif Nat.beq pc 40 then some (.getfield 60, 43, 5, 5) else none) else (fun pc => bif Nat.beq pc 43 then some (.ishl, 44, 0, 0) else none)) pc) else (fun pc => (bif Nat.ble pc 44 then (fun pc => bif Nat.beq pc 44 then some (.iconst 1, 45, 1, 0) else none) else (fun pc => (bif Nat.ble pc 45 then (fun pc => bif Nat.beq pc 45 then some (.isub, 46, 0, 0) else none) else (fun pc => bif Nat.beq pc 46 then some (.istore_n 2, 47, 0, 0) else none)) pc)) pc)) pc)) pc) else (fun pc => (bif Nat.ble pc 53 then (fun pc => (bif Nat.ble pc 48 then (fun pc => (bif Nat.ble pc 47 then (fun pc => bif Nat.beq pc 47 then some (.iload_n 2, 48, 0, 0) else none) else (fun pc => bif Nat.beq pc 48 then some (.ifCond .lt 18, 51, 66, 0) else none)) pc) else (fun pc => (bif Nat.ble pc 51 then (fun pc => bif Nat.beq pc 51 then some (.aload_n 0, 52, 0, 0) else none) else (fun pc => (bif Nat.ble pc 52 then (fun pc => bif Nat.beq pc 52 then some (.aload_n 1, 53, 0, 0) else none) else (fun pc => bif Nat.beq pc 53 then some (.getfield 124, 56, 10, 1) else none)) pc)) pc)) pc) else (fun pc => (bif Nat.ble pc 57 then (fun pc => (bif Nat.ble pc 56 then (fun pc => bif Nat.beq pc 56 then some (.iload_n 2, 57, 0, 0) else none) else (fun pc => bif Nat.beq pc 57 then some (.invokevirtual 128, 60, 134, 67) else none)) pc) else (fun pc => (bif Nat.ble pc 60 then (fun pc => bif Nat.beq pc 60 then some (.iinc 2 (-1), 63, 4294967295, 0) else none) else (fun pc => (bif Nat.ble pc 63 then (fun pc => bif Nat.beq pc 63 then some (.goto (-16), 66, 47, 0) else none) else (fun pc => bif Nat.beq pc 66 then some (.return_, 67, 0, 0) else none)) pc)) pc)) pc)) pc)) pc)) pc
/-- PackWeeks$Law.valueWithin(IIII)I -/
def kc_132 : Nat → Option en_I := fun pc => (bif Nat.ble pc 125 then (fun pc => (bif Nat.ble pc 19 then (fun pc => (bif Nat.ble pc 6 then (fun pc => (bif Nat.ble pc 1 then (fun pc => (bif Nat.ble pc 0 then (fun pc => bif Nat.beq pc 0 then some (.iconst 0, 1, 0, 0) else none) else (fun pc => bif Nat.beq pc 1 then some (.istore 5, 3, 0, 0) else none)) pc) else (fun pc => (bif Nat.ble pc 3 then (fun pc => bif Nat.beq pc 3 then some (.iconst 0, 4, 0, 0) else none) else (fun pc => (bif Nat.ble pc 4 then (fun pc => bif Nat.beq pc 4 then some (.istore 6, 6, 0, 0) else none) else (fun pc => bif Nat.beq pc 6 then some (.iload 6, 8, 0, 0) else none)) pc)) pc)) pc) else (fun pc => (bif Nat.ble pc 12 then (fun pc => (bif Nat.ble pc 8 then (fun pc => bif Nat.beq pc 8 then some (.aload_n 0, 9, 0, 0) else none) else (fun pc => (bif Nat.ble pc 9 then (fun pc => bif Nat.beq pc 9 then some (.getfield 18, 12, 2, 0) else none) else (fun pc => bif Nat.beq pc 12 then some (.if_icmp .ge 141, 15, 153, 0) else none)) pc)) pc) else (fun pc => (bif Nat.ble pc 15 then (fun pc => bif Nat.beq pc 15 then some (.aload_n 0, 16, 0, 0) else none) else (fun pc => (bif Nat.ble pc 16 then (fun pc => bif Nat.beq pc 16 then some (.getfield 15, 19, 1, 0) else none) else (fun pc => bif Nat.beq pc 19 then some (.iload 6, 21, 0, 0) else none)) pc)) pc)) pc)) pc) else (fun pc => (bif Nat.ble pc 64 then (fun pc => (bif Nat.ble pc 24 then (fun pc => (bif Nat.ble pc 21 then (fun pc => bif Nat.beq pc 21 then some (.iaload, 22, 0, 0) else none) else (fun pc => (bif Nat.ble pc 22 then (fun pc => bif Nat.beq pc 22 then some (.istore 7, 24, 0, 0) else none) else (fun pc => bif Nat.beq pc 24 then some (.iload 7, 26, 0, 0) else none)) pc)) pc) else (fun pc => (bif Nat.ble pc 26 then (fun pc => bif Nat.beq pc 26 then some (.iconst (-1), 27, 4294967295, 0) else none) else (fun pc => (bif Nat.ble pc 27 then (fun pc => bif Nat.beq pc 27 then some (.if_icmp .ne 37, 30, 64, 0) else none) else (fun pc => bif Nat.beq pc 64 then some (.iload 7, 66, 0, 0) else none)) pc)) pc)) pc) else (fun pc => (bif Nat.ble pc 120 then (fun pc => (bif Nat.ble pc 66 then (fun pc => bif Nat.beq pc 66 then some (.ifCond .ge 52, 69, 118, 0) else none) else (fun pc => (bif Nat.ble pc 118 then (fun pc => bif Nat.beq pc 118 then some (.iload 5, 120, 0, 0) else none) else (fun pc => bif Nat.beq pc 120 then some (.aload_n 0, 121, 0, 0) else none)) pc)) pc) else (fun pc => (bif Nat.ble pc 121 then (fun pc => bif Nat.beq pc 121 then some (.getfield 9, 124, 0, 0) else none) else (fun pc => (bif Nat.ble pc 124 then (fun pc => bif Nat.beq pc 124 then some (.arraylength, 125, 0, 0) else none) else (fun pc => bif Nat.beq pc 125 then some (.if_icmp .ge 22, 128, 147, 0) else none)) pc)) pc)) pc)) pc)) pc) else (fun pc => (bif Nat.ble pc 150 then (fun pc => (bif Nat.ble pc 137 then (fun pc => (bif Nat.ble pc 132 then (fun pc => (bif Nat.ble pc 128 then (fun pc => bif Nat.beq pc 128 then some (.aload_n 0, 129, 0, 0) else none) else (fun pc => (bif Nat.ble pc 129 then (fun pc => bif Nat.beq pc 129 then some (.getfield 9, 132, 0, 0) else none) else (fun pc => bif Nat.beq pc 132 then some (.iload 5, 134, 0, 0) else none)) pc)) pc) else (fun pc => (bif Nat.ble pc 134 then (fun pc => bif Nat.beq pc 134 then some (.iload 7, 136, 0, 0) else none) else (fun pc => (bif Nat.ble pc 136 then (fun pc => bif Nat.beq pc 136 then some (.iload_n 2, 137, 0, 0) else none) else (fun pc => bif Nat.beq pc 137 then some (.iload_n 3, 138, 0, 0) else none)) pc)) pc)) pc) else (fun pc => (bif Nat.ble pc 143 then (fun pc => (bif Nat.ble pc 138 then (fun pc => bif Nat.beq pc 138 then some (.iload 4, 140, 0, 0) else none) else (fun pc => (bif Nat.ble pc 140 then (fun pc => bif Nat.beq pc 140 then some (.invokestatic 26, 143, 133, 4) else none) else (fun pc => bif Nat.beq pc 143 then some (.iastore, 144, 0, 0) else none)) pc)) pc) else (fun pc => (bif Nat.ble pc 144 then (fun pc => bif Nat.beq pc 144 then some (.iinc 5 1, 147, 1, 0) else none) else (fun pc => (bif Nat.ble pc 147 then (fun pc => bif Nat.beq pc 147 then some (.iinc 6 1, 150, 1, 0) else none) else (fun pc => bif Nat.beq pc 150 then some (.goto (-144), 153, 6, 0) else none)) pc)) pc)) pc)) pc) else (fun pc => (bif Nat.ble pc 161 then (fun pc => (bif Nat.ble pc 158 then (fun pc => (bif Nat.ble pc 153 then (fun pc => bif Nat.beq pc 153 then some (.iload 5, 155, 0, 0) else none) else (fun pc => (bif Nat.ble pc 155 then (fun pc => bif Nat.beq pc 155 then some (.ifCond .le 20, 158, 175, 0) else none) else (fun pc => bif Nat.beq pc 158 then some (.iconst 0, 159, 0, 0) else none)) pc)) pc) else (fun pc => (bif Nat.ble pc 159 then (fun pc => bif Nat.beq pc 159 then some (.iload_n 1, 160, 0, 0) else none) else (fun pc => (bif Nat.ble pc 160 then (fun pc => bif Nat.beq pc 160 then some (.aload_n 0, 161, 0, 0) else none) else (fun pc => bif Nat.beq pc 161 then some (.getfield 9, 164, 0, 0) else none)) pc)) pc)) pc) else (fun pc => (bif Nat.ble pc 166 then (fun pc => (bif Nat.ble pc 164 then (fun pc => bif Nat.beq pc 164 then some (.iconst 0, 165, 0, 0) else none) else (fun pc => (bif Nat.ble pc 165 then (fun pc => bif Nat.beq pc 165 then some (.iaload, 166, 0, 0) else none) else (fun pc => bif Nat.beq pc 166 then some (.invokestatic 30, 169, 9992, 0) else none)) pc)) pc) else (fun pc => (bif Nat.ble pc 169 then (fun pc => bif Nat.beq pc 169 then some (.invokestatic 36, 172, 9991, 0) else none) else (fun pc => (bif Nat.ble pc 172 then (fun pc => bif Nat.beq pc 172 then some (.goto 4, 175, 176, 0) else none) else (fun pc => bif Nat.beq pc 176 then some (.ireturn, 177, 0, 0) else none)) pc)) pc)) pc)) pc)) pc)) pc
/-- PackWeeks$Law.part(IIII)I -/
def kc_133 : Nat → Option en_I := fun pc => (bif Nat.ble pc 1 then (fun pc => (bif Nat.ble pc 0 then (fun pc => bif Nat.beq pc 0 then some (.iload_n 0, 1, 0, 0) else none) else (fun pc => bif Nat.beq pc 1 then some (.tableswitch 33 (-11) (-9) #[31, 29, 27], 28, 0, 0) else none)) pc) else (fun pc => (bif Nat.ble pc 34 then (fun pc => bif Nat.beq pc 34 then some (.iload_n 0, 35, 0, 0) else none) else (fun pc => bif Nat.beq pc 35 then some (.ireturn, 36, 0, 0) else none)) pc)) pc
/-- PackWeeks$Reckoner.fillLoad(LPackWeeks$Rows;I)V -/
def kc_134 : Nat → Option en_I := fun pc => (bif Nat.ble pc 45 then (fun pc => (bif Nat.ble pc 5 then (fun pc => (bif Nat.ble pc 1 then (fun pc => (bif Nat.ble pc 0 then (fun pc => bif Nat.beq pc 0 then some (.iconst 0, 1, 0, 0) else none) else (fun pc => bif Nat.beq pc 1 then some (.istore_n 3, 2, 0, 0) else none)) pc) else (fun pc => (bif Nat.ble pc 2 then (fun pc => bif Nat.beq pc 2 then some (.iconst 0, 3, 0, 0) else none) else (fun pc => (bif Nat.ble pc 3 then (fun pc => bif Nat.beq pc 3 then some (.istore 4, 5, 0, 0) else none) else (fun pc => bif Nat.beq pc 5 then some (.iload 4, 7, 0, 0) else none)) pc)) pc)) pc) else (fun pc => (bif Nat.ble pc 11 then (fun pc => (bif Nat.ble pc 7 then (fun pc => bif Nat.beq pc 7 then some (.aload_n 1, 8, 0, 0) else none) else (fun pc => (bif Nat.ble pc 8 then (fun pc => bif Nat.beq pc 8 then some (.getfield 60, 11, 5, 5) else none) else (fun pc => bif Nat.beq pc 11 then some (.if_icmp .ge 32, 14, 43, 0) else none)) pc)) pc) else (fun pc => (bif Nat.ble pc 43 then (fun pc => bif Nat.beq pc 43 then some (.aload_n 0, 44, 0, 0) else none) else (fun pc => (bif Nat.ble pc 44 then (fun pc => bif Nat.beq pc 44 then some (.iconst (-1), 45, 4294967295, 0) else none) else (fun pc => bif Nat.beq pc 45 then some (.putfield 131, 48, 2, 4) else none)) pc)) pc)) pc)) pc) else (fun pc => (bif Nat.ble pc 55 then (fun pc => (bif Nat.ble pc 52 then (fun pc => (bif Nat.ble pc 48 then (fun pc => bif Nat.beq pc 48 then some (.aload_n 0, 49, 0, 0) else none) else (fun pc => (bif Nat.ble pc 49 then (fun pc => bif Nat.beq pc 49 then some (.getfield 35, 52, 10, 4) else none) else (fun pc => bif Nat.beq pc 52 then some (.iload_n 2, 53, 0, 0) else none)) pc)) pc) else (fun pc => (bif Nat.ble pc 53 then (fun pc => bif Nat.beq pc 53 then some (.iconst 0, 54, 0, 0) else none) else (fun pc => (bif Nat.ble pc 54 then (fun pc => bif Nat.beq pc 54 then some (.iastore, 55, 0, 0) else none) else (fun pc => bif Nat.beq pc 55 then some (.iconst 0, 56, 0, 0) else none)) pc)) pc)) pc) else (fun pc => (bif Nat.ble pc 60 then (fun pc => (bif Nat.ble pc 56 then (fun pc => bif Nat.beq pc 56 then some (.istore 4, 58, 0, 0) else none) else (fun pc => (bif Nat.ble pc 58 then (fun pc => bif Nat.beq pc 58 then some (.iload 4, 60, 0, 0) else none) else (fun pc => bif Nat.beq pc 60 then some (.aload_n 1, 61, 0, 0) else none)) pc)) pc) else (fun pc => (bif Nat.ble pc 61 then (fun pc => bif Nat.beq pc 61 then some (.getfield 60, 64, 5, 5) else none) else (fun pc => (bif Nat.ble pc 64 then (fun pc => bif Nat.beq pc 64 then some (.if_icmp .ge 72, 67, 136, 0) else none) else (fun pc => bif Nat.beq pc 136 then some (.return_, 137, 0, 0) else none)) pc)) pc)) pc)) pc)) pc
/-- PackWeeks$Reckoner.loadWorth(I)I -/
def kc_135 : Nat → Option en_I := fun pc => (bif Nat.ble pc 1 then (fun pc => (bif Nat.ble pc 0 then (fun pc => bif Nat.beq pc 0 then some (.aload_n 0, 1, 0, 0) else none) else (fun pc => bif Nat.beq pc 1 then some (.getfield 35, 4, 10, 4) else none)) pc) else (fun pc => (bif Nat.ble pc 4 then (fun pc => bif Nat.beq pc 4 then some (.iload_n 1, 5, 0, 0) else none) else (fun pc => (bif Nat.ble pc 5 then (fun pc => bif Nat.beq pc 5 then some (.iaload, 6, 0, 0) else none) else (fun pc => bif Nat.beq pc 6 then some (.ireturn, 7, 0, 0) else none)) pc)) pc)) pc
/-- PackWeeksModel.bestLoad(I)I -/
def kc_136 : Nat → Option en_I := fun pc => (bif Nat.ble pc 5 then (fun pc => (bif Nat.ble pc 2 then (fun pc => (bif Nat.ble pc 0 then (fun pc => bif Nat.beq pc 0 then some (.iconst (-1), 1, 4294967295, 0) else none) else (fun pc => (bif Nat.ble pc 1 then (fun pc => bif Nat.beq pc 1 then some (.istore_n 2, 2, 0, 0) else none) else (fun pc => bif Nat.beq pc 2 then some (.iconst 0, 3, 0, 0) else none)) pc)) pc) else (fun pc => (bif Nat.ble pc 3 then (fun pc => bif Nat.beq pc 3 then some (.istore_n 3, 4, 0, 0) else none) else (fun pc => (bif Nat.ble pc 4 then (fun pc => bif Nat.beq pc 4 then some (.iload_n 3, 5, 0, 0) else none) else (fun pc => bif Nat.beq pc 5 then some (.aload_n 0, 6, 0, 0) else none)) pc)) pc)) pc) else (fun pc => (bif Nat.ble pc 11 then (fun pc => (bif Nat.ble pc 6 then (fun pc => bif Nat.beq pc 6 then some (.getfield 121, 9, 10, 10) else none) else (fun pc => (bif Nat.ble pc 9 then (fun pc => bif Nat.beq pc 9 then some (.bipush 8, 11, 8, 0) else none) else (fun pc => bif Nat.beq pc 11 then some (.iaload, 12, 0, 0) else none)) pc)) pc) else (fun pc => (bif Nat.ble pc 12 then (fun pc => bif Nat.beq pc 12 then some (.if_icmp .ge 54, 15, 66, 0) else none) else (fun pc => (bif Nat.ble pc 66 then (fun pc => bif Nat.beq pc 66 then some (.iload_n 2, 67, 0, 0) else none) else (fun pc => bif Nat.beq pc 67 then some (.ireturn, 68, 0, 0) else none)) pc)) pc)) pc)) pc
/-- PackWeeks.months(III)I -/
def kc_137 : Nat → Option en_I := fun pc => (bif Nat.ble pc 75 then (fun pc => (bif Nat.ble pc 37 then (fun pc => (bif Nat.ble pc 18 then (fun pc => (bif Nat.ble pc 8 then (fun pc => (bif Nat.ble pc 1 then (fun pc => (bif Nat.ble pc 0 then (fun pc => bif Nat.beq pc 0 then some (.iload_n 1, 1, 0, 0) else none) else (fun pc => bif Nat.beq pc 1 then some (.iconst 0, 2, 0, 0) else none)) pc) else (fun pc => (bif Nat.ble pc 2 then (fun pc => bif Nat.beq pc 2 then some (.sipush 9999, 5, 9999, 0) else none) else (fun pc => (bif Nat.ble pc 5 then (fun pc => bif Nat.beq pc 5 then some (.invokestatic 121, 8, 60, 3) else none) else (fun pc => bif Nat.beq pc 8 then some (.ifCond .eq 22, 11, 30, 0) else none)) pc)) pc)) pc) else (fun pc => (bif Nat.ble pc 12 then (fun pc => (bif Nat.ble pc 11 then (fun pc => bif Nat.beq pc 11 then some (.iload_n 2, 12, 0, 0) else none) else (fun pc => bif Nat.beq pc 12 then some (.iconst 1, 13, 1, 0) else none)) pc) else (fun pc => (bif Nat.ble pc 13 then (fun pc => bif Nat.beq pc 13 then some (.bipush 100, 15, 100, 0) else none) else (fun pc => (bif Nat.ble pc 15 then (fun pc => bif Nat.beq pc 15 then some (.invokestatic 121, 18, 60, 3) else none) else (fun pc => bif Nat.beq pc 18 then some (.ifCond .eq 12, 21, 30, 0) else none)) pc)) pc)) pc)) pc) else (fun pc => (bif Nat.ble pc 27 then (fun pc => (bif Nat.ble pc 22 then (fun pc => (bif Nat.ble pc 21 then (fun pc => bif Nat.beq pc 21 then some (.iload_n 3, 22, 0, 0) else none) else (fun pc => bif Nat.beq pc 22 then some (.iconst 0, 23, 0, 0) else none)) pc) else (fun pc => (bif Nat.ble pc 23 then (fun pc => bif Nat.beq pc 23 then some (.iconst 2, 24, 2, 0) else none) else (fun pc => (bif Nat.ble pc 24 then (fun pc => bif Nat.beq pc 24 then some (.invokestatic 121, 27, 60, 3) else none) else (fun pc => bif Nat.beq pc 27 then some (.ifCond .ne 5, 30, 32, 0) else none)) pc)) pc)) pc) else (fun pc => (bif Nat.ble pc 32 then (fun pc => (bif Nat.ble pc 30 then (fun pc => bif Nat.beq pc 30 then some (.iconst (-1), 31, 4294967295, 0) else none) else (fun pc => (bif Nat.ble pc 31 then (fun pc => bif Nat.beq pc 31 then some (.ireturn, 32, 0, 0) else none) else (fun pc => bif Nat.beq pc 32 then some (.aload_n 0, 33, 0, 0) else none)) pc)) pc) else (fun pc => (bif Nat.ble pc 33 then (fun pc => bif Nat.beq pc 33 then some (.getfield 32, 36, 3, 9) else none) else (fun pc => (bif Nat.ble pc 36 then (fun pc => bif Nat.beq pc 36 then some (.aload_n 0, 37, 0, 0) else none) else (fun pc => bif Nat.beq pc 37 then some (.getfield 28, 40, 2, 9) else none)) pc)) pc)) pc)) pc)) pc) else (fun pc => (bif Nat.ble pc 54 then (fun pc => (bif Nat.ble pc 47 then (fun pc => (bif Nat.ble pc 43 then (fun pc => (bif Nat.ble pc 40 then (fun pc => bif Nat.beq pc 40 then some (.invokevirtual 295, 43, 68, 114) else none) else (fun pc => bif Nat.beq pc 43 then some (.iload_n 1, 44, 0, 0) else none)) pc) else (fun pc => (bif Nat.ble pc 44 then (fun pc => bif Nat.beq pc 44 then some (.i2l, 45, 0, 0) else none) else (fun pc => (bif Nat.ble pc 45 then (fun pc => bif Nat.beq pc 45 then some (.lstore 4, 47, 0, 0) else none) else (fun pc => bif Nat.beq pc 47 then some (.iconst 0, 48, 0, 0) else none)) pc)) pc)) pc) else (fun pc => (bif Nat.ble pc 50 then (fun pc => (bif Nat.ble pc 48 then (fun pc => bif Nat.beq pc 48 then some (.istore 6, 50, 0, 0) else none) else (fun pc => bif Nat.beq pc 50 then some (.iconst 0, 51, 0, 0) else none)) pc) else (fun pc => (bif Nat.ble pc 51 then (fun pc => bif Nat.beq pc 51 then some (.istore 7, 53, 0, 0) else none) else (fun pc => (bif Nat.ble pc 53 then (fun pc => bif Nat.beq pc 53 then some (.iconst 0, 54, 0, 0) else none) else (fun pc => bif Nat.beq pc 54 then some (.istore 8, 56, 0, 0) else none)) pc)) pc)) pc)) pc) else (fun pc => (bif Nat.ble pc 62 then (fun pc => (bif Nat.ble pc 57 then (fun pc => (bif Nat.ble pc 56 then (fun pc => bif Nat.beq pc 56 then some (.iconst 0, 57, 0, 0) else none) else (fun pc => bif Nat.beq pc 57 then some (.istore 9, 59, 0, 0) else none)) pc) else (fun pc => (bif Nat.ble pc 59 then (fun pc => bif Nat.beq pc 59 then some (.iload 9, 61, 0, 0) else none) else (fun pc => (bif Nat.ble pc 61 then (fun pc => bif Nat.beq pc 61 then some (.iload_n 2, 62, 0, 0) else none) else (fun pc => bif Nat.beq pc 62 then some (.if_icmp .ge 80, 65, 142, 0) else none)) pc)) pc)) pc) else (fun pc => (bif Nat.ble pc 69 then (fun pc => (bif Nat.ble pc 65 then (fun pc => bif Nat.beq pc 65 then some (.aload_n 0, 66, 0, 0) else none) else (fun pc => (bif Nat.ble pc 66 then (fun pc => bif Nat.beq pc 66 then some (.getfield 32, 69, 3, 9) else none) else (fun pc => bif Nat.beq pc 69 then some (.aload_n 0, 70, 0, 0) else none)) pc)) pc) else (fun pc => (bif Nat.ble pc 70 then (fun pc => bif Nat.beq pc 70 then some (.getfield 71, 73, 10, 9) else none) else (fun pc => (bif Nat.ble pc 73 then (fun pc => bif Nat.beq pc 73 then some (.lload 4, 75, 0, 0) else none) else (fun pc => bif Nat.beq pc 75 then some (.invokevirtual 299, 78, 151, 115) else none)) pc)) pc)) pc)) pc)) pc)) pc) else (fun pc => (bif Nat.ble pc 118 then (fun pc => (bif Nat.ble pc 96 then (fun pc => (bif Nat.ble pc 86 then (fun pc => (bif Nat.ble pc 80 then (fun pc => (bif Nat.ble pc 78 then (fun pc => bif Nat.beq pc 78 then some (.lstore 4, 80, 0, 0) else none) else (fun pc => bif Nat.beq pc 80 then some (.iload 7, 82, 0, 0) else none)) pc) else (fun pc => (bif Nat.ble pc 82 then (fun pc => bif Nat.beq pc 82 then some (.aload_n 0, 83, 0, 0) else none) else (fun pc => (bif Nat.ble pc 83 then (fun pc => bif Nat.beq pc 83 then some (.getfield 32, 86, 3, 9) else none) else (fun pc => bif Nat.beq pc 86 then some (.aload_n 0, 87, 0, 0) else none)) pc)) pc)) pc) else (fun pc => (bif Nat.ble pc 90 then (fun pc => (bif Nat.ble pc 87 then (fun pc => bif Nat.beq pc 87 then some (.getfield 71, 90, 10, 9) else none) else (fun pc => bif Nat.beq pc 90 then some (.invokevirtual 303, 93, 70, 114) else none)) pc) else (fun pc => (bif Nat.ble pc 93 then (fun pc => bif Nat.beq pc 93 then some (.iadd, 94, 0, 0) else none) else (fun pc => (bif Nat.ble pc 94 then (fun pc => bif Nat.beq pc 94 then some (.istore 7, 96, 0, 0) else none) else (fun pc => bif Nat.beq pc 96 then some (.iload 6, 98, 0, 0) else none)) pc)) pc)) pc)) pc) else (fun pc => (bif Nat.ble pc 106 then (fun pc => (bif Nat.ble pc 99 then (fun pc => (bif Nat.ble pc 98 then (fun pc => bif Nat.beq pc 98 then some (.aload_n 0, 99, 0, 0) else none) else (fun pc => bif Nat.beq pc 99 then some (.getfield 32, 102, 3, 9) else none)) pc) else (fun pc => (bif Nat.ble pc 102 then (fun pc => bif Nat.beq pc 102 then some (.aload_n 0, 103, 0, 0) else none) else (fun pc => (bif Nat.ble pc 103 then (fun pc => bif Nat.beq pc 103 then some (.getfield 71, 106, 10, 9) else none) else (fun pc => bif Nat.beq pc 106 then some (.invokevirtual 306, 109, 152, 114) else none)) pc)) pc)) pc) else (fun pc => (bif Nat.ble pc 112 then (fun pc => (bif Nat.ble pc 109 then (fun pc => bif Nat.beq pc 109 then some (.iadd, 110, 0, 0) else none) else (fun pc => (bif Nat.ble pc 110 then (fun pc => bif Nat.beq pc 110 then some (.istore 6, 112, 0, 0) else none) else (fun pc => bif Nat.beq pc 112 then some (.iload 8, 114, 0, 0) else none)) pc)) pc) else (fun pc => (bif Nat.ble pc 114 then (fun pc => bif Nat.beq pc 114 then some (.aload_n 0, 115, 0, 0) else none) else (fun pc => (bif Nat.ble pc 115 then (fun pc => bif Nat.beq pc 115 then some (.getfield 32, 118, 3, 9) else none) else (fun pc => bif Nat.beq pc 118 then some (.aload_n 0, 119, 0, 0) else none)) pc)) pc)) pc)) pc)) pc) else (fun pc => (bif Nat.ble pc 139 then (fun pc => (bif Nat.ble pc 129 then (fun pc => (bif Nat.ble pc 122 then (fun pc => (bif Nat.ble pc 119 then (fun pc => bif Nat.beq pc 119 then some (.getfield 71, 122, 10, 9) else none) else (fun pc => bif Nat.beq pc 122 then some (.invokevirtual 309, 125, 153, 114) else none)) pc) else (fun pc => (bif Nat.ble pc 125 then (fun pc => bif Nat.beq pc 125 then some (.ifCond .eq 7, 128, 132, 0) else none) else (fun pc => (bif Nat.ble pc 128 then (fun pc => bif Nat.beq pc 128 then some (.iconst 1, 129, 1, 0) else none) else (fun pc => bif Nat.beq pc 129 then some (.goto 4, 132, 133, 0) else none)) pc)) pc)) pc) else (fun pc => (bif Nat.ble pc 133 then (fun pc => (bif Nat.ble pc 132 then (fun pc => bif Nat.beq pc 132 then some (.iconst 0, 133, 0, 0) else none) else (fun pc => bif Nat.beq pc 133 then some (.iadd, 134, 0, 0) else none)) pc) else (fun pc => (bif Nat.ble pc 134 then (fun pc => bif Nat.beq pc 134 then some (.istore 8, 136, 0, 0) else none) else (fun pc => (bif Nat.ble pc 136 then (fun pc => bif Nat.beq pc 136 then some (.iinc 9 1, 139, 1, 0) else none) else (fun pc => bif Nat.beq pc 139 then some (.goto (-80), 142, 59, 0) else none)) pc)) pc)) pc)) pc) else (fun pc => (bif Nat.ble pc 149 then (fun pc => (bif Nat.ble pc 143 then (fun pc => (bif Nat.ble pc 142 then (fun pc => bif Nat.beq pc 142 then some (.iload_n 3, 143, 0, 0) else none) else (fun pc => bif Nat.beq pc 143 then some (.ifCond .ne 6, 146, 149, 0) else none)) pc) else (fun pc => (bif Nat.ble pc 146 then (fun pc => bif Nat.beq pc 146 then some (.iload 6, 148, 0, 0) else none) else (fun pc => (bif Nat.ble pc 148 then (fun pc => bif Nat.beq pc 148 then some (.ireturn, 149, 0, 0) else none) else (fun pc => bif Nat.beq pc 149 then some (.iload_n 3, 150, 0, 0) else none)) pc)) pc)) pc) else (fun pc => (bif Nat.ble pc 154 then (fun pc => (bif Nat.ble pc 150 then (fun pc => bif Nat.beq pc 150 then some (.iconst 1, 151, 1, 0) else none) else (fun pc => (bif Nat.ble pc 151 then (fun pc => bif Nat.beq pc 151 then some (.if_icmp .ne 8, 154, 159, 0) else none) else (fun pc => bif Nat.beq pc 154 then some (.iload 7, 156, 0, 0) else none)) pc)) pc) else (fun pc => (bif Nat.ble pc 156 then (fun pc => bif Nat.beq pc 156 then some (.goto 5, 159, 161, 0) else none) else (fun pc => (bif Nat.ble pc 159 then (fun pc => bif Nat.beq pc 159 then some (.iload 8, 161, 0, 0) else none) else (fun pc => bif Nat.beq pc 161 then some (.ireturn, 162, 0, 0) else none)) pc)) pc)) pc)) pc)) pc)) pc)) pc
/-- PackWeeksModel.months(III)I -/
def kc_138 : Nat → Option en_I := fun pc => (bif Nat.ble pc 142 then (fun pc => (bif Nat.ble pc 63 then (fun pc => (bif Nat.ble pc 32 then (fun pc => (bif Nat.ble pc 16 then (fun pc => (bif Nat.ble pc 5 then (fun pc => (bif Nat.ble pc 1 then (fun pc => (bif Nat.ble pc 0 then (fun pc => bif Nat.beq pc 0 then some (.aload_n 0, 1, 0, 0) else none) else (fun pc => bif Nat.beq pc 1 then some (.iconst 0, 2, 0, 0) else none)) pc) else (fun pc => (bif Nat.ble pc 2 then (fun pc => bif Nat.beq pc 2 then some (.putfield 1, 5, 0, 10) else none) else (fun pc => bif Nat.beq pc 5 then some (.iload_n 1, 6, 0, 0) else none)) pc)) pc) else (fun pc => (bif Nat.ble pc 7 then (fun pc => (bif Nat.ble pc 6 then (fun pc => bif Nat.beq pc 6 then some (.iconst 0, 7, 0, 0) else none) else (fun pc => bif Nat.beq pc 7 then some (.sipush 9999, 10, 9999, 0) else none)) pc) else (fun pc => (bif Nat.ble pc 10 then (fun pc => bif Nat.beq pc 10 then some (.invokestatic 320, 13, 61, 3) else none) else (fun pc => (bif Nat.ble pc 13 then (fun pc => bif Nat.beq pc 13 then some (.ifCond .eq 22, 16, 35, 0) else none) else (fun pc => bif Nat.beq pc 16 then some (.iload_n 2, 17, 0, 0) else none)) pc)) pc)) pc)) pc) else (fun pc => (bif Nat.ble pc 23 then (fun pc => (bif Nat.ble pc 18 then (fun pc => (bif Nat.ble pc 17 then (fun pc => bif Nat.beq pc 17 then some (.iconst 1, 18, 1, 0) else none) else (fun pc => bif Nat.beq pc 18 then some (.bipush 100, 20, 100, 0) else none)) pc) else (fun pc => (bif Nat.ble pc 20 then (fun pc => bif Nat.beq pc 20 then some (.invokestatic 320, 23, 61, 3) else none) else (fun pc => bif Nat.beq pc 23 then some (.ifCond .eq 12, 26, 35, 0) else none)) pc)) pc) else (fun pc => (bif Nat.ble pc 27 then (fun pc => (bif Nat.ble pc 26 then (fun pc => bif Nat.beq pc 26 then some (.iload_n 3, 27, 0, 0) else none) else (fun pc => bif Nat.beq pc 27 then some (.iconst 0, 28, 0, 0) else none)) pc) else (fun pc => (bif Nat.ble pc 28 then (fun pc => bif Nat.beq pc 28 then some (.iconst 2, 29, 2, 0) else none) else (fun pc => (bif Nat.ble pc 29 then (fun pc => bif Nat.beq pc 29 then some (.invokestatic 320, 32, 61, 3) else none) else (fun pc => bif Nat.beq pc 32 then some (.ifCond .ne 5, 35, 37, 0) else none)) pc)) pc)) pc)) pc)) pc) else (fun pc => (bif Nat.ble pc 48 then (fun pc => (bif Nat.ble pc 38 then (fun pc => (bif Nat.ble pc 36 then (fun pc => (bif Nat.ble pc 35 then (fun pc => bif Nat.beq pc 35 then some (.iconst (-1), 36, 4294967295, 0) else none) else (fun pc => bif Nat.beq pc 36 then some (.ireturn, 37, 0, 0) else none)) pc) else (fun pc => (bif Nat.ble pc 37 then (fun pc => bif Nat.beq pc 37 then some (.aload_n 0, 38, 0, 0) else none) else (fun pc => bif Nat.beq pc 38 then some (.iconst 0, 39, 0, 0) else none)) pc)) pc) else (fun pc => (bif Nat.ble pc 42 then (fun pc => (bif Nat.ble pc 39 then (fun pc => bif Nat.beq pc 39 then some (.sipush 990, 42, 990, 0) else none) else (fun pc => bif Nat.beq pc 42 then some (.bipush 17, 44, 17, 0) else none)) pc) else (fun pc => (bif Nat.ble pc 44 then (fun pc => bif Nat.beq pc 44 then some (.invokevirtual 367, 47, 73, 164) else none) else (fun pc => (bif Nat.ble pc 47 then (fun pc => bif Nat.beq pc 47 then some (.aload_n 0, 48, 0, 0) else none) else (fun pc => bif Nat.beq pc 48 then some (.iload_n 1, 49, 0, 0) else none)) pc)) pc)) pc)) pc) else (fun pc => (bif Nat.ble pc 56 then (fun pc => (bif Nat.ble pc 50 then (fun pc => (bif Nat.ble pc 49 then (fun pc => bif Nat.beq pc 49 then some (.i2l, 50, 0, 0) else none) else (fun pc => bif Nat.beq pc 50 then some (.putfield 508, 53, 40, 26) else none)) pc) else (fun pc => (bif Nat.ble pc 53 then (fun pc => bif Nat.beq pc 53 then some (.iconst 0, 54, 0, 0) else none) else (fun pc => (bif Nat.ble pc 54 then (fun pc => bif Nat.beq pc 54 then some (.istore 4, 56, 0, 0) else none) else (fun pc => bif Nat.beq pc 56 then some (.iconst 0, 57, 0, 0) else none)) pc)) pc)) pc) else (fun pc => (bif Nat.ble pc 59 then (fun pc => (bif Nat.ble pc 57 then (fun pc => bif Nat.beq pc 57 then some (.istore 5, 59, 0, 0) else none) else (fun pc => bif Nat.beq pc 59 then some (.iconst 0, 60, 0, 0) else none)) pc) else (fun pc => (bif Nat.ble pc 60 then (fun pc => bif Nat.beq pc 60 then some (.istore 6, 62, 0, 0) else none) else (fun pc => (bif Nat.ble pc 62 then (fun pc => bif Nat.beq pc 62 then some (.iconst 0, 63, 0, 0) else none) else (fun pc => bif Nat.beq pc 63 then some (.istore 7, 65, 0, 0) else none)) pc)) pc)) pc)) pc)) pc)) pc) else (fun pc => (bif Nat.ble pc 103 then (fun pc => (bif Nat.ble pc 80 then (fun pc => (bif Nat.ble pc 71 then (fun pc => (bif Nat.ble pc 67 then (fun pc => (bif Nat.ble pc 65 then (fun pc => bif Nat.beq pc 65 then some (.iload 7, 67, 0, 0) else none) else (fun pc => bif Nat.beq pc 67 then some (.iload_n 2, 68, 0, 0) else none)) pc) else (fun pc => (bif Nat.ble pc 68 then (fun pc => bif Nat.beq pc 68 then some (.if_icmp .ge 210, 71, 278, 0) else none) else (fun pc => bif Nat.beq pc 71 then some (.iconst 0, 72, 0, 0) else none)) pc)) pc) else (fun pc => (bif Nat.ble pc 74 then (fun pc => (bif Nat.ble pc 72 then (fun pc => bif Nat.beq pc 72 then some (.istore 8, 74, 0, 0) else none) else (fun pc => bif Nat.beq pc 74 then some (.iload 8, 76, 0, 0) else none)) pc) else (fun pc => (bif Nat.ble pc 76 then (fun pc => bif Nat.beq pc 76 then some (.aload_n 0, 77, 0, 0) else none) else (fun pc => (bif Nat.ble pc 77 then (fun pc => bif Nat.beq pc 77 then some (.invokevirtual 371, 80, 76, 161) else none) else (fun pc => bif Nat.beq pc 80 then some (.if_icmp .ge 59, 83, 139, 0) else none)) pc)) pc)) pc)) pc) else (fun pc => (bif Nat.ble pc 90 then (fun pc => (bif Nat.ble pc 84 then (fun pc => (bif Nat.ble pc 83 then (fun pc => bif Nat.beq pc 83 then some (.aload_n 0, 84, 0, 0) else none) else (fun pc => bif Nat.beq pc 84 then some (.iload 8, 86, 0, 0) else none)) pc) else (fun pc => (bif Nat.ble pc 89 then (fun pc => bif Nat.beq pc 89 then some (.iconst 2, 90, 2, 0) else none) else (fun pc => bif Nat.beq pc 90 then some (.if_icmp .ne 12, 93, 102, 0) else none)) pc)) pc) else (fun pc => (bif Nat.ble pc 94 then (fun pc => (bif Nat.ble pc 93 then (fun pc => bif Nat.beq pc 93 then some (.aload_n 0, 94, 0, 0) else none) else (fun pc => bif Nat.beq pc 94 then some (.bipush 10, 96, 10, 0) else none)) pc) else (fun pc => (bif Nat.ble pc 99 then (fun pc => bif Nat.beq pc 99 then some (.goto 4, 102, 103, 0) else none) else (fun pc => (bif Nat.ble pc 102 then (fun pc => bif Nat.beq pc 102 then some (.iconst 4, 103, 4, 0) else none) else (fun pc => bif Nat.beq pc 103 then some (.istore 9, 105, 0, 0) else none)) pc)) pc)) pc)) pc)) pc) else (fun pc => (bif Nat.ble pc 120 then (fun pc => (bif Nat.ble pc 112 then (fun pc => (bif Nat.ble pc 106 then (fun pc => (bif Nat.ble pc 105 then (fun pc => bif Nat.beq pc 105 then some (.aload_n 0, 106, 0, 0) else none) else (fun pc => bif Nat.beq pc 106 then some (.getfield 151, 109, 25, 10) else none)) pc) else (fun pc => (bif Nat.ble pc 109 then (fun pc => bif Nat.beq pc 109 then some (.sipush 991, 112, 991, 0) else none) else (fun pc => bif Nat.beq pc 112 then some (.iload 8, 114, 0, 0) else none)) pc)) pc) else (fun pc => (bif Nat.ble pc 115 then (fun pc => (bif Nat.ble pc 114 then (fun pc => bif Nat.beq pc 114 then some (.iadd, 115, 0, 0) else none) else (fun pc => bif Nat.beq pc 115 then some (.aload_n 0, 116, 0, 0) else none)) pc) else (fun pc => (bif Nat.ble pc 116 then (fun pc => bif Nat.beq pc 116 then some (.aload_n 0, 117, 0, 0) else none) else (fun pc => (bif Nat.ble pc 117 then (fun pc => bif Nat.beq pc 117 then some (.getfield 151, 120, 25, 10) else none) else (fun pc => bif Nat.beq pc 120 then some (.sipush 991, 123, 991, 0) else none)) pc)) pc)) pc)) pc) else (fun pc => (bif Nat.ble pc 132 then (fun pc => (bif Nat.ble pc 125 then (fun pc => (bif Nat.ble pc 123 then (fun pc => bif Nat.beq pc 123 then some (.iload 8, 125, 0, 0) else none) else (fun pc => bif Nat.beq pc 125 then some (.iadd, 126, 0, 0) else none)) pc) else (fun pc => (bif Nat.ble pc 126 then (fun pc => bif Nat.beq pc 126 then some (.iaload, 127, 0, 0) else none) else (fun pc => (bif Nat.ble pc 127 then (fun pc => bif Nat.beq pc 127 then some (.iload 9, 129, 0, 0) else none) else (fun pc => bif Nat.beq pc 132 then some (.iastore, 133, 0, 0) else none)) pc)) pc)) pc) else (fun pc => (bif Nat.ble pc 136 then (fun pc => (bif Nat.ble pc 133 then (fun pc => bif Nat.beq pc 133 then some (.iinc 8 1, 136, 1, 0) else none) else (fun pc => bif Nat.beq pc 136 then some (.goto (-62), 139, 74, 0) else none)) pc) else (fun pc => (bif Nat.ble pc 139 then (fun pc => bif Nat.beq pc 139 then some (.iload 5, 141, 0, 0) else none) else (fun pc => (bif Nat.ble pc 141 then (fun pc => bif Nat.beq pc 141 then some (.aload_n 0, 142, 0, 0) else none) else (fun pc => bif Nat.beq pc 142 then some (.sipush 990, 145, 990, 0) else none)) pc)) pc)) pc)) pc)) pc)) pc)) pc) else (fun pc => (bif Nat.ble pc 219 then (fun pc => (bif Nat.ble pc 180 then (fun pc => (bif Nat.ble pc 160 then (fun pc => (bif Nat.ble pc 151 then (fun pc => (bif Nat.ble pc 148 then (fun pc => (bif Nat.ble pc 145 then (fun pc => bif Nat.beq pc 145 then some (.invokevirtual 417, 148, 74, 162) else none) else (fun pc => bif Nat.beq pc 148 then some (.iadd, 149, 0, 0) else none)) pc) else (fun pc => (bif Nat.ble pc 149 then (fun pc => bif Nat.beq pc 149 then some (.istore 5, 151, 0, 0) else none) else (fun pc => bif Nat.beq pc 151 then some (.iconst 0, 152, 0, 0) else none)) pc)) pc) else (fun pc => (bif Nat.ble pc 154 then (fun pc => (bif Nat.ble pc 152 then (fun pc => bif Nat.beq pc 152 then some (.istore 8, 154, 0, 0) else none) else (fun pc => bif Nat.beq pc 154 then some (.iload 8, 156, 0, 0) else none)) pc) else (fun pc => (bif Nat.ble pc 156 then (fun pc => bif Nat.beq pc 156 then some (.aload_n 0, 157, 0, 0) else none) else (fun pc => (bif Nat.ble pc 157 then (fun pc => bif Nat.beq pc 157 then some (.invokevirtual 371, 160, 76, 161) else none) else (fun pc => bif Nat.beq pc 160 then some (.if_icmp .ge 50, 163, 210, 0) else none)) pc)) pc)) pc)) pc) else (fun pc => (bif Nat.ble pc 171 then (fun pc => (bif Nat.ble pc 165 then (fun pc => (bif Nat.ble pc 163 then (fun pc => bif Nat.beq pc 163 then some (.iload 4, 165, 0, 0) else none) else (fun pc => bif Nat.beq pc 165 then some (.aload_n 0, 166, 0, 0) else none)) pc) else (fun pc => (bif Nat.ble pc 166 then (fun pc => bif Nat.beq pc 166 then some (.iload 8, 168, 0, 0) else none) else (fun pc => bif Nat.beq pc 171 then some (.iconst 2, 172, 2, 0) else none)) pc)) pc) else (fun pc => (bif Nat.ble pc 175 then (fun pc => (bif Nat.ble pc 172 then (fun pc => bif Nat.beq pc 172 then some (.if_icmp .ne 28, 175, 200, 0) else none) else (fun pc => bif Nat.beq pc 175 then some (.aload_n 0, 176, 0, 0) else none)) pc) else (fun pc => (bif Nat.ble pc 176 then (fun pc => bif Nat.beq pc 176 then some (.sipush 990, 179, 990, 0) else none) else (fun pc => (bif Nat.ble pc 179 then (fun pc => bif Nat.beq pc 179 then some (.aload_n 0, 180, 0, 0) else none) else (fun pc => bif Nat.beq pc 180 then some (.getfield 151, 183, 25, 10) else none)) pc)) pc)) pc)) pc)) pc) else (fun pc => (bif Nat.ble pc 201 then (fun pc => (bif Nat.ble pc 189 then (fun pc => (bif Nat.ble pc 186 then (fun pc => (bif Nat.ble pc 183 then (fun pc => bif Nat.beq pc 183 then some (.sipush 991, 186, 991, 0) else none) else (fun pc => bif Nat.beq pc 186 then some (.iload 8, 188, 0, 0) else none)) pc) else (fun pc => (bif Nat.ble pc 188 then (fun pc => bif Nat.beq pc 188 then some (.iadd, 189, 0, 0) else none) else (fun pc => bif Nat.beq pc 189 then some (.iaload, 190, 0, 0) else none)) pc)) pc) else (fun pc => (bif Nat.ble pc 196 then (fun pc => (bif Nat.ble pc 193 then (fun pc => bif Nat.beq pc 193 then some (.ifCond .eq 7, 196, 200, 0) else none) else (fun pc => bif Nat.beq pc 196 then some (.iconst 1, 197, 1, 0) else none)) pc) else (fun pc => (bif Nat.ble pc 197 then (fun pc => bif Nat.beq pc 197 then some (.goto 4, 200, 201, 0) else none) else (fun pc => (bif Nat.ble pc 200 then (fun pc => bif Nat.beq pc 200 then some (.iconst 0, 201, 0, 0) else none) else (fun pc => bif Nat.beq pc 201 then some (.iadd, 202, 0, 0) else none)) pc)) pc)) pc)) pc) else (fun pc => (bif Nat.ble pc 211 then (fun pc => (bif Nat.ble pc 204 then (fun pc => (bif Nat.ble pc 202 then (fun pc => bif Nat.beq pc 202 then some (.istore 4, 204, 0, 0) else none) else (fun pc => bif Nat.beq pc 204 then some (.iinc 8 1, 207, 1, 0) else none)) pc) else (fun pc => (bif Nat.ble pc 207 then (fun pc => bif Nat.beq pc 207 then some (.goto (-53), 210, 154, 0) else none) else (fun pc => (bif Nat.ble pc 210 then (fun pc => bif Nat.beq pc 210 then some (.iconst 0, 211, 0, 0) else none) else (fun pc => bif Nat.beq pc 211 then some (.istore 8, 213, 0, 0) else none)) pc)) pc)) pc) else (fun pc => (bif Nat.ble pc 214 then (fun pc => (bif Nat.ble pc 213 then (fun pc => bif Nat.beq pc 213 then some (.iconst 0, 214, 0, 0) else none) else (fun pc => bif Nat.beq pc 214 then some (.istore 9, 216, 0, 0) else none)) pc) else (fun pc => (bif Nat.ble pc 216 then (fun pc => bif Nat.beq pc 216 then some (.iload 9, 218, 0, 0) else none) else (fun pc => (bif Nat.ble pc 218 then (fun pc => bif Nat.beq pc 218 then some (.aload_n 0, 219, 0, 0) else none) else (fun pc => bif Nat.beq pc 219 then some (.invokevirtual 374, 222, 75, 161) else none)) pc)) pc)) pc)) pc)) pc)) pc) else (fun pc => (bif Nat.ble pc 259 then (fun pc => (bif Nat.ble pc 240 then (fun pc => (bif Nat.ble pc 230 then (fun pc => (bif Nat.ble pc 225 then (fun pc => (bif Nat.ble pc 222 then (fun pc => bif Nat.beq pc 222 then some (.if_icmp .ge 35, 225, 257, 0) else none) else (fun pc => bif Nat.beq pc 225 then some (.iload 8, 227, 0, 0) else none)) pc) else (fun pc => (bif Nat.ble pc 227 then (fun pc => bif Nat.beq pc 227 then some (.ifCond .ne 17, 230, 244, 0) else none) else (fun pc => bif Nat.beq pc 230 then some (.aload_n 0, 231, 0, 0) else none)) pc)) pc) else (fun pc => (bif Nat.ble pc 234 then (fun pc => (bif Nat.ble pc 231 then (fun pc => bif Nat.beq pc 231 then some (.getfield 151, 234, 25, 10) else none) else (fun pc => bif Nat.beq pc 234 then some (.sipush 997, 237, 997, 0) else none)) pc) else (fun pc => (bif Nat.ble pc 237 then (fun pc => bif Nat.beq pc 237 then some (.iload 9, 239, 0, 0) else none) else (fun pc => (bif Nat.ble pc 239 then (fun pc => bif Nat.beq pc 239 then some (.iadd, 240, 0, 0) else none) else (fun pc => bif Nat.beq pc 240 then some (.iaload, 241, 0, 0) else none)) pc)) pc)) pc)) pc) else (fun pc => (bif Nat.ble pc 248 then (fun pc => (bif Nat.ble pc 244 then (fun pc => (bif Nat.ble pc 241 then (fun pc => bif Nat.beq pc 241 then some (.ifCond .ne 7, 244, 248, 0) else none) else (fun pc => bif Nat.beq pc 244 then some (.iconst 1, 245, 1, 0) else none)) pc) else (fun pc => (bif Nat.ble pc 245 then (fun pc => bif Nat.beq pc 245 then some (.goto 4, 248, 249, 0) else none) else (fun pc => bif Nat.beq pc 248 then some (.iconst 0, 249, 0, 0) else none)) pc)) pc) else (fun pc => (bif Nat.ble pc 251 then (fun pc => (bif Nat.ble pc 249 then (fun pc => bif Nat.beq pc 249 then some (.istore 8, 251, 0, 0) else none) else (fun pc => bif Nat.beq pc 251 then some (.iinc 9 1, 254, 1, 0) else none)) pc) else (fun pc => (bif Nat.ble pc 254 then (fun pc => bif Nat.beq pc 254 then some (.goto (-38), 257, 216, 0) else none) else (fun pc => (bif Nat.ble pc 257 then (fun pc => bif Nat.beq pc 257 then some (.iload 6, 259, 0, 0) else none) else (fun pc => bif Nat.beq pc 259 then some (.iload 8, 261, 0, 0) else none)) pc)) pc)) pc)) pc)) pc) else (fun pc => (bif Nat.ble pc 278 then (fun pc => (bif Nat.ble pc 268 then (fun pc => (bif Nat.ble pc 264 then (fun pc => (bif Nat.ble pc 261 then (fun pc => bif Nat.beq pc 261 then some (.ifCond .eq 7, 264, 268, 0) else none) else (fun pc => bif Nat.beq pc 264 then some (.iconst 1, 265, 1, 0) else none)) pc) else (fun pc => (bif Nat.ble pc 265 then (fun pc => bif Nat.beq pc 265 then some (.goto 4, 268, 269, 0) else none) else (fun pc => bif Nat.beq pc 268 then some (.iconst 0, 269, 0, 0) else none)) pc)) pc) else (fun pc => (bif Nat.ble pc 270 then (fun pc => (bif Nat.ble pc 269 then (fun pc => bif Nat.beq pc 269 then some (.iadd, 270, 0, 0) else none) else (fun pc => bif Nat.beq pc 270 then some (.istore 6, 272, 0, 0) else none)) pc) else (fun pc => (bif Nat.ble pc 272 then (fun pc => bif Nat.beq pc 272 then some (.iinc 7 1, 275, 1, 0) else none) else (fun pc => (bif Nat.ble pc 275 then (fun pc => bif Nat.beq pc 275 then some (.goto (-210), 278, 65, 0) else none) else (fun pc => bif Nat.beq pc 278 then some (.iload_n 3, 279, 0, 0) else none)) pc)) pc)) pc)) pc) else (fun pc => (bif Nat.ble pc 288 then (fun pc => (bif Nat.ble pc 282 then (fun pc => (bif Nat.ble pc 279 then (fun pc => bif Nat.beq pc 279 then some (.ifCond .ne 8, 282, 287, 0) else none) else (fun pc => bif Nat.beq pc 282 then some (.iload 4, 284, 0, 0) else none)) pc) else (fun pc => (bif Nat.ble pc 284 then (fun pc => bif Nat.beq pc 284 then some (.goto 15, 287, 299, 0) else none) else (fun pc => (bif Nat.ble pc 287 then (fun pc => bif Nat.beq pc 287 then some (.iload_n 3, 288, 0, 0) else none) else (fun pc => bif Nat.beq pc 288 then some (.iconst 1, 289, 1, 0) else none)) pc)) pc)) pc) else (fun pc => (bif Nat.ble pc 292 then (fun pc => (bif Nat.ble pc 289 then (fun pc => bif Nat.beq pc 289 then some (.if_icmp .ne 8, 292, 297, 0) else none) else (fun pc => bif Nat.beq pc 292 then some (.iload 5, 294, 0, 0) else none)) pc) else (fun pc => (bif Nat.ble pc 294 then (fun pc => bif Nat.beq pc 294 then some (.goto 5, 297, 299, 0) else none) else (fun pc => (bif Nat.ble pc 297 then (fun pc => bif Nat.beq pc 297 then some (.iload 6, 299, 0, 0) else none) else (fun pc => bif Nat.beq pc 299 then some (.ireturn, 300, 0, 0) else none)) pc)) pc)) pc)) pc)) pc)) pc)) pc)) pc
/-- PackWeeks.mark(IZ)Z -/
def kc_139 : Nat → Option en_I := fun pc => (bif Nat.ble pc 65 then (fun pc => (bif Nat.ble pc 14 then (fun pc => (bif Nat.ble pc 3 then (fun pc => (bif Nat.ble pc 1 then (fun pc => (bif Nat.ble pc 0 then (fun pc => bif Nat.beq pc 0 then some (.iload_n 1, 1, 0, 0) else none) else (fun pc => bif Nat.beq pc 1 then some (.iconst 0, 2, 0, 0) else none)) pc) else (fun pc => (bif Nat.ble pc 2 then (fun pc => bif Nat.beq pc 2 then some (.iconst 3, 3, 3, 0) else none) else (fun pc => bif Nat.beq pc 3 then some (.invokestatic 121, 6, 60, 3) else none)) pc)) pc) else (fun pc => (bif Nat.ble pc 9 then (fun pc => (bif Nat.ble pc 6 then (fun pc => bif Nat.beq pc 6 then some (.ifCond .eq 16, 9, 22, 0) else none) else (fun pc => bif Nat.beq pc 9 then some (.iload_n 2, 10, 0, 0) else none)) pc) else (fun pc => (bif Nat.ble pc 10 then (fun pc => bif Nat.beq pc 10 then some (.ifCond .eq 14, 13, 24, 0) else none) else (fun pc => (bif Nat.ble pc 13 then (fun pc => bif Nat.beq pc 13 then some (.aload_n 0, 14, 0, 0) else none) else (fun pc => bif Nat.beq pc 14 then some (.getfield 52, 17, 7, 9) else none)) pc)) pc)) pc)) pc) else (fun pc => (bif Nat.ble pc 22 then (fun pc => (bif Nat.ble pc 18 then (fun pc => (bif Nat.ble pc 17 then (fun pc => bif Nat.beq pc 17 then some (.iload_n 1, 18, 0, 0) else none) else (fun pc => bif Nat.beq pc 18 then some (.baload, 19, 0, 0) else none)) pc) else (fun pc => (bif Nat.ble pc 19 then (fun pc => bif Nat.beq pc 19 then some (.ifCond .ne 5, 22, 24, 0) else none) else (fun pc => bif Nat.beq pc 22 then some (.iconst 0, 23, 0, 0) else none)) pc)) pc) else (fun pc => (bif Nat.ble pc 24 then (fun pc => (bif Nat.ble pc 23 then (fun pc => bif Nat.beq pc 23 then some (.ireturn, 24, 1, 0) else none) else (fun pc => bif Nat.beq pc 24 then some (.iload_n 2, 25, 0, 0) else none)) pc) else (fun pc => (bif Nat.ble pc 25 then (fun pc => bif Nat.beq pc 25 then some (.ifCond .eq 39, 28, 64, 0) else none) else (fun pc => (bif Nat.ble pc 64 then (fun pc => bif Nat.beq pc 64 then some (.aload_n 0, 65, 0, 0) else none) else (fun pc => bif Nat.beq pc 65 then some (.getfield 42, 68, 5, 9) else none)) pc)) pc)) pc)) pc)) pc) else (fun pc => (bif Nat.ble pc 82 then (fun pc => (bif Nat.ble pc 71 then (fun pc => (bif Nat.ble pc 69 then (fun pc => (bif Nat.ble pc 68 then (fun pc => bif Nat.beq pc 68 then some (.iload_n 1, 69, 0, 0) else none) else (fun pc => bif Nat.beq pc 69 then some (.aaload, 70, 0, 0) else none)) pc) else (fun pc => (bif Nat.ble pc 70 then (fun pc => bif Nat.beq pc 70 then some (.aload_n 0, 71, 0, 0) else none) else (fun pc => bif Nat.beq pc 71 then some (.getfield 28, 74, 2, 9) else none)) pc)) pc) else (fun pc => (bif Nat.ble pc 77 then (fun pc => (bif Nat.ble pc 74 then (fun pc => bif Nat.beq pc 74 then some (.invokevirtual 295, 77, 68, 114) else none) else (fun pc => bif Nat.beq pc 77 then some (.aload_n 0, 78, 0, 0) else none)) pc) else (fun pc => (bif Nat.ble pc 78 then (fun pc => bif Nat.beq pc 78 then some (.getfield 48, 81, 6, 9) else none) else (fun pc => (bif Nat.ble pc 81 then (fun pc => bif Nat.beq pc 81 then some (.iload_n 1, 82, 0, 0) else none) else (fun pc => bif Nat.beq pc 82 then some (.aaload, 83, 0, 0) else none)) pc)) pc)) pc)) pc) else (fun pc => (bif Nat.ble pc 91 then (fun pc => (bif Nat.ble pc 84 then (fun pc => (bif Nat.ble pc 83 then (fun pc => bif Nat.beq pc 83 then some (.aload_n 0, 84, 0, 0) else none) else (fun pc => bif Nat.beq pc 84 then some (.getfield 57, 87, 8, 9) else none)) pc) else (fun pc => (bif Nat.ble pc 87 then (fun pc => bif Nat.beq pc 87 then some (.invokevirtual 313, 90, 141, 98) else none) else (fun pc => (bif Nat.ble pc 90 then (fun pc => bif Nat.beq pc 90 then some (.aload_n 0, 91, 0, 0) else none) else (fun pc => bif Nat.beq pc 91 then some (.getfield 52, 94, 7, 9) else none)) pc)) pc)) pc) else (fun pc => (bif Nat.ble pc 95 then (fun pc => (bif Nat.ble pc 94 then (fun pc => bif Nat.beq pc 94 then some (.iload_n 1, 95, 0, 0) else none) else (fun pc => bif Nat.beq pc 95 then some (.iconst 1, 96, 1, 0) else none)) pc) else (fun pc => (bif Nat.ble pc 96 then (fun pc => bif Nat.beq pc 96 then some (.bastore, 97, 0, 0) else none) else (fun pc => (bif Nat.ble pc 97 then (fun pc => bif Nat.beq pc 97 then some (.iconst 1, 98, 1, 0) else none) else (fun pc => bif Nat.beq pc 98 then some (.ireturn, 99, 1, 0) else none)) pc)) pc)) pc)) pc)) pc)) pc
/-- PackWeeksModel.mark(IZ)Z -/
def kc_140 : Nat → Option en_I := fun pc => (bif Nat.ble pc 34 then (fun pc => (bif Nat.ble pc 15 then (fun pc => (bif Nat.ble pc 6 then (fun pc => (bif Nat.ble pc 1 then (fun pc => (bif Nat.ble pc 0 then (fun pc => bif Nat.beq pc 0 then some (.aload_n 0, 1, 0, 0) else none) else (fun pc => bif Nat.beq pc 1 then some (.iconst 0, 2, 0, 0) else none)) pc) else (fun pc => (bif Nat.ble pc 2 then (fun pc => bif Nat.beq pc 2 then some (.putfield 1, 5, 0, 10) else none) else (fun pc => (bif Nat.ble pc 5 then (fun pc => bif Nat.beq pc 5 then some (.iload_n 1, 6, 0, 0) else none) else (fun pc => bif Nat.beq pc 6 then some (.iconst 0, 7, 0, 0) else none)) pc)) pc)) pc) else (fun pc => (bif Nat.ble pc 8 then (fun pc => (bif Nat.ble pc 7 then (fun pc => bif Nat.beq pc 7 then some (.iconst 3, 8, 3, 0) else none) else (fun pc => bif Nat.beq pc 8 then some (.invokestatic 320, 11, 61, 3) else none)) pc) else (fun pc => (bif Nat.ble pc 11 then (fun pc => bif Nat.beq pc 11 then some (.ifCond .eq 16, 14, 27, 0) else none) else (fun pc => (bif Nat.ble pc 14 then (fun pc => bif Nat.beq pc 14 then some (.iload_n 2, 15, 0, 0) else none) else (fun pc => bif Nat.beq pc 15 then some (.ifCond .eq 14, 18, 29, 0) else none)) pc)) pc)) pc)) pc) else (fun pc => (bif Nat.ble pc 24 then (fun pc => (bif Nat.ble pc 19 then (fun pc => (bif Nat.ble pc 18 then (fun pc => bif Nat.beq pc 18 then some (.aload_n 0, 19, 0, 0) else none) else (fun pc => bif Nat.beq pc 19 then some (.getfield 154, 22, 27, 10) else none)) pc) else (fun pc => (bif Nat.ble pc 22 then (fun pc => bif Nat.beq pc 22 then some (.iload_n 1, 23, 0, 0) else none) else (fun pc => (bif Nat.ble pc 23 then (fun pc => bif Nat.beq pc 23 then some (.baload, 24, 0, 0) else none) else (fun pc => bif Nat.beq pc 24 then some (.ifCond .ne 5, 27, 29, 0) else none)) pc)) pc)) pc) else (fun pc => (bif Nat.ble pc 29 then (fun pc => (bif Nat.ble pc 27 then (fun pc => bif Nat.beq pc 27 then some (.iconst 0, 28, 0, 0) else none) else (fun pc => (bif Nat.ble pc 28 then (fun pc => bif Nat.beq pc 28 then some (.ireturn, 29, 1, 0) else none) else (fun pc => bif Nat.beq pc 29 then some (.aload_n 0, 30, 0, 0) else none)) pc)) pc) else (fun pc => (bif Nat.ble pc 30 then (fun pc => bif Nat.beq pc 30 then some (.getfield 154, 33, 27, 10) else none) else (fun pc => (bif Nat.ble pc 33 then (fun pc => bif Nat.beq pc 33 then some (.iload_n 1, 34, 0, 0) else none) else (fun pc => bif Nat.beq pc 34 then some (.iconst 1, 35, 1, 0) else none)) pc)) pc)) pc)) pc)) pc) else (fun pc => (bif Nat.ble pc 63 then (fun pc => (bif Nat.ble pc 50 then (fun pc => (bif Nat.ble pc 36 then (fun pc => (bif Nat.ble pc 35 then (fun pc => bif Nat.beq pc 35 then some (.bastore, 36, 0, 0) else none) else (fun pc => bif Nat.beq pc 36 then some (.aload_n 0, 37, 0, 0) else none)) pc) else (fun pc => (bif Nat.ble pc 37 then (fun pc => bif Nat.beq pc 37 then some (.iload_n 2, 38, 0, 0) else none) else (fun pc => (bif Nat.ble pc 38 then (fun pc => bif Nat.beq pc 38 then some (.ifCond .eq 12, 41, 50, 0) else none) else (fun pc => bif Nat.beq pc 50 then some (.iconst 0, 51, 0, 0) else none)) pc)) pc)) pc) else (fun pc => (bif Nat.ble pc 59 then (fun pc => (bif Nat.ble pc 51 then (fun pc => bif Nat.beq pc 51 then some (.iload_n 2, 52, 0, 0) else none) else (fun pc => (bif Nat.ble pc 52 then (fun pc => bif Nat.beq pc 52 then some (.ifCond .eq 7, 55, 59, 0) else none) else (fun pc => bif Nat.beq pc 59 then some (.bipush 45, 61, 45, 0) else none)) pc)) pc) else (fun pc => (bif Nat.ble pc 61 then (fun pc => bif Nat.beq pc 61 then some (.iconst 1, 62, 1, 0) else none) else (fun pc => (bif Nat.ble pc 62 then (fun pc => bif Nat.beq pc 62 then some (.iload_n 1, 63, 0, 0) else none) else (fun pc => bif Nat.beq pc 63 then some (.iadd, 64, 0, 0) else none)) pc)) pc)) pc)) pc) else (fun pc => (bif Nat.ble pc 71 then (fun pc => (bif Nat.ble pc 65 then (fun pc => (bif Nat.ble pc 64 then (fun pc => bif Nat.beq pc 64 then some (.imul, 65, 0, 0) else none) else (fun pc => bif Nat.beq pc 65 then some (.bipush 45, 67, 45, 0) else none)) pc) else (fun pc => (bif Nat.ble pc 67 then (fun pc => bif Nat.beq pc 67 then some (.invokevirtual 367, 70, 73, 164) else none) else (fun pc => (bif Nat.ble pc 70 then (fun pc => bif Nat.beq pc 70 then some (.aload_n 0, 71, 0, 0) else none) else (fun pc => bif Nat.beq pc 71 then some (.iload_n 2, 72, 0, 0) else none)) pc)) pc)) pc) else (fun pc => (bif Nat.ble pc 80 then (fun pc => (bif Nat.ble pc 72 then (fun pc => bif Nat.beq pc 72 then some (.ifCond .eq 7, 75, 79, 0) else none) else (fun pc => (bif Nat.ble pc 79 then (fun pc => bif Nat.beq pc 79 then some (.aload_n 0, 80, 0, 0) else none) else (fun pc => bif Nat.beq pc 80 then some (.getfield 364, 83, 26, 10) else none)) pc)) pc) else (fun pc => (bif Nat.ble pc 83 then (fun pc => bif Nat.beq pc 83 then some (.putfield 364, 86, 26, 10) else none) else (fun pc => (bif Nat.ble pc 86 then (fun pc => bif Nat.beq pc 86 then some (.iconst 1, 87, 1, 0) else none) else (fun pc => bif Nat.beq pc 87 then some (.ireturn, 88, 1, 0) else none)) pc)) pc)) pc)) pc)) pc)) pc
/-- PackWeeks$Sights.take(LPackWeeks$Sights;)V -/
def kc_141 : Nat → Option en_I := fun pc => (bif Nat.ble pc 28 then (fun pc => (bif Nat.ble pc 13 then (fun pc => (bif Nat.ble pc 5 then (fun pc => (bif Nat.ble pc 1 then (fun pc => (bif Nat.ble pc 0 then (fun pc => bif Nat.beq pc 0 then some (.aload_n 0, 1, 0, 0) else none) else (fun pc => bif Nat.beq pc 1 then some (.aload_n 1, 2, 0, 0) else none)) pc) else (fun pc => (bif Nat.ble pc 2 then (fun pc => bif Nat.beq pc 2 then some (.getfield 24, 5, 0, 6) else none) else (fun pc => bif Nat.beq pc 5 then some (.putfield 24, 8, 0, 6) else none)) pc)) pc) else (fun pc => (bif Nat.ble pc 9 then (fun pc => (bif Nat.ble pc 8 then (fun pc => bif Nat.beq pc 8 then some (.iconst 0, 9, 0, 0) else none) else (fun pc => bif Nat.beq pc 9 then some (.istore_n 2, 10, 0, 0) else none)) pc) else (fun pc => (bif Nat.ble pc 10 then (fun pc => bif Nat.beq pc 10 then some (.iload_n 2, 11, 0, 0) else none) else (fun pc => (bif Nat.ble pc 11 then (fun pc => bif Nat.beq pc 11 then some (.bipush 8, 13, 8, 0) else none) else (fun pc => bif Nat.beq pc 13 then some (.if_icmp .ge 45, 16, 58, 0) else none)) pc)) pc)) pc)) pc) else (fun pc => (bif Nat.ble pc 21 then (fun pc => (bif Nat.ble pc 17 then (fun pc => (bif Nat.ble pc 16 then (fun pc => bif Nat.beq pc 16 then some (.aload_n 0, 17, 0, 0) else none) else (fun pc => bif Nat.beq pc 17 then some (.getfield 9, 20, 1, 6) else none)) pc) else (fun pc => (bif Nat.ble pc 20 then (fun pc => bif Nat.beq pc 20 then some (.iload_n 2, 21, 0, 0) else none) else (fun pc => bif Nat.beq pc 21 then some (.aload_n 1, 22, 0, 0) else none)) pc)) pc) else (fun pc => (bif Nat.ble pc 25 then (fun pc => (bif Nat.ble pc 22 then (fun pc => bif Nat.beq pc 22 then some (.getfield 9, 25, 1, 6) else none) else (fun pc => bif Nat.beq pc 25 then some (.iload_n 2, 26, 0, 0) else none)) pc) else (fun pc => (bif Nat.ble pc 26 then (fun pc => bif Nat.beq pc 26 then some (.iaload, 27, 0, 0) else none) else (fun pc => (bif Nat.ble pc 27 then (fun pc => bif Nat.beq pc 27 then some (.iastore, 28, 0, 0) else none) else (fun pc => bif Nat.beq pc 28 then some (.aload_n 0, 29, 0, 0) else none)) pc)) pc)) pc)) pc)) pc) else (fun pc => (bif Nat.ble pc 41 then (fun pc => (bif Nat.ble pc 34 then (fun pc => (bif Nat.ble pc 32 then (fun pc => (bif Nat.ble pc 29 then (fun pc => bif Nat.beq pc 29 then some (.getfield 15, 32, 2, 6) else none) else (fun pc => bif Nat.beq pc 32 then some (.iload_n 2, 33, 0, 0) else none)) pc) else (fun pc => (bif Nat.ble pc 33 then (fun pc => bif Nat.beq pc 33 then some (.aload_n 1, 34, 0, 0) else none) else (fun pc => bif Nat.beq pc 34 then some (.getfield 15, 37, 2, 6) else none)) pc)) pc) else (fun pc => (bif Nat.ble pc 38 then (fun pc => (bif Nat.ble pc 37 then (fun pc => bif Nat.beq pc 37 then some (.iload_n 2, 38, 0, 0) else none) else (fun pc => bif Nat.beq pc 38 then some (.iaload, 39, 0, 0) else none)) pc) else (fun pc => (bif Nat.ble pc 39 then (fun pc => bif Nat.beq pc 39 then some (.iastore, 40, 0, 0) else none) else (fun pc => (bif Nat.ble pc 40 then (fun pc => bif Nat.beq pc 40 then some (.aload_n 0, 41, 0, 0) else none) else (fun pc => bif Nat.beq pc 41 then some (.getfield 18, 44, 3, 6) else none)) pc)) pc)) pc)) pc) else (fun pc => (bif Nat.ble pc 49 then (fun pc => (bif Nat.ble pc 45 then (fun pc => (bif Nat.ble pc 44 then (fun pc => bif Nat.beq pc 44 then some (.iload_n 2, 45, 0, 0) else none) else (fun pc => bif Nat.beq pc 45 then some (.aload_n 1, 46, 0, 0) else none)) pc) else (fun pc => (bif Nat.ble pc 46 then (fun pc => bif Nat.beq pc 46 then some (.getfield 18, 49, 3, 6) else none) else (fun pc => bif Nat.beq pc 49 then some (.iload_n 2, 50, 0, 0) else none)) pc)) pc) else (fun pc => (bif Nat.ble pc 51 then (fun pc => (bif Nat.ble pc 50 then (fun pc => bif Nat.beq pc 50 then some (.iaload, 51, 0, 0) else none) else (fun pc => bif Nat.beq pc 51 then some (.iastore, 52, 0, 0) else none)) pc) else (fun pc => (bif Nat.ble pc 52 then (fun pc => bif Nat.beq pc 52 then some (.iinc 2 1, 55, 1, 0) else none) else (fun pc => (bif Nat.ble pc 55 then (fun pc => bif Nat.beq pc 55 then some (.goto (-45), 58, 10, 0) else none) else (fun pc => bif Nat.beq pc 58 then some (.return_, 59, 0, 0) else none)) pc)) pc)) pc)) pc)) pc)) pc
/-- PackWeeks.count(I)I -/
def kc_142 : Nat → Option en_I := fun pc => (bif Nat.ble pc 126 then (fun pc => (bif Nat.ble pc 94 then (fun pc => (bif Nat.ble pc 76 then (fun pc => (bif Nat.ble pc 68 then (fun pc => (bif Nat.ble pc 0 then (fun pc => bif Nat.beq pc 0 then some (.iload_n 1, 1, 0, 0) else none) else (fun pc => (bif Nat.ble pc 1 then (fun pc => bif Nat.beq pc 1 then some (.tableswitch 189 0 12 #[67, 75, 83, 94, 105, 116, 124, 135, 146, 157, 165, 173, 181], 68, 0, 0) else none) else (fun pc => bif Nat.beq pc 68 then some (.aload_n 0, 69, 0, 0) else none)) pc)) pc) else (fun pc => (bif Nat.ble pc 72 then (fun pc => (bif Nat.ble pc 69 then (fun pc => bif Nat.beq pc 69 then some (.getfield 71, 72, 10, 9) else none) else (fun pc => bif Nat.beq pc 72 then some (.getfield 319, 75, 0, 1) else none)) pc) else (fun pc => (bif Nat.ble pc 75 then (fun pc => bif Nat.beq pc 75 then some (.ireturn, 76, 0, 0) else none) else (fun pc => bif Nat.beq pc 76 then some (.aload_n 0, 77, 0, 0) else none)) pc)) pc)) pc) else (fun pc => (bif Nat.ble pc 84 then (fun pc => (bif Nat.ble pc 80 then (fun pc => (bif Nat.ble pc 77 then (fun pc => bif Nat.beq pc 77 then some (.getfield 71, 80, 10, 9) else none) else (fun pc => bif Nat.beq pc 80 then some (.getfield 322, 83, 1, 1) else none)) pc) else (fun pc => (bif Nat.ble pc 83 then (fun pc => bif Nat.beq pc 83 then some (.ireturn, 84, 0, 0) else none) else (fun pc => bif Nat.beq pc 84 then some (.aload_n 0, 85, 0, 0) else none)) pc)) pc) else (fun pc => (bif Nat.ble pc 88 then (fun pc => (bif Nat.ble pc 85 then (fun pc => bif Nat.beq pc 85 then some (.getfield 71, 88, 10, 9) else none) else (fun pc => bif Nat.beq pc 88 then some (.getfield 136, 91, 5, 1) else none)) pc) else (fun pc => (bif Nat.ble pc 91 then (fun pc => bif Nat.beq pc 91 then some (.getfield 202, 94, 5, 5) else none) else (fun pc => bif Nat.beq pc 94 then some (.ireturn, 95, 0, 0) else none)) pc)) pc)) pc)) pc) else (fun pc => (bif Nat.ble pc 110 then (fun pc => (bif Nat.ble pc 102 then (fun pc => (bif Nat.ble pc 96 then (fun pc => (bif Nat.ble pc 95 then (fun pc => bif Nat.beq pc 95 then some (.aload_n 0, 96, 0, 0) else none) else (fun pc => bif Nat.beq pc 96 then some (.getfield 71, 99, 10, 9) else none)) pc) else (fun pc => (bif Nat.ble pc 99 then (fun pc => bif Nat.beq pc 99 then some (.getfield 325, 102, 6, 1) else none) else (fun pc => bif Nat.beq pc 102 then some (.getfield 202, 105, 5, 5) else none)) pc)) pc) else (fun pc => (bif Nat.ble pc 106 then (fun pc => (bif Nat.ble pc 105 then (fun pc => bif Nat.beq pc 105 then some (.ireturn, 106, 0, 0) else none) else (fun pc => bif Nat.beq pc 106 then some (.aload_n 0, 107, 0, 0) else none)) pc) else (fun pc => (bif Nat.ble pc 107 then (fun pc => bif Nat.beq pc 107 then some (.getfield 71, 110, 10, 9) else none) else (fun pc => bif Nat.beq pc 110 then some (.getfield 166, 113, 7, 1) else none)) pc)) pc)) pc) else (fun pc => (bif Nat.ble pc 118 then (fun pc => (bif Nat.ble pc 116 then (fun pc => (bif Nat.ble pc 113 then (fun pc => bif Nat.beq pc 113 then some (.getfield 202, 116, 5, 5) else none) else (fun pc => bif Nat.beq pc 116 then some (.ireturn, 117, 0, 0) else none)) pc) else (fun pc => (bif Nat.ble pc 117 then (fun pc => bif Nat.beq pc 117 then some (.aload_n 0, 118, 0, 0) else none) else (fun pc => bif Nat.beq pc 118 then some (.getfield 28, 121, 2, 9) else none)) pc)) pc) else (fun pc => (bif Nat.ble pc 124 then (fun pc => (bif Nat.ble pc 121 then (fun pc => bif Nat.beq pc 121 then some (.getfield 125, 124, 0, 7) else none) else (fun pc => bif Nat.beq pc 124 then some (.ireturn, 125, 0, 0) else none)) pc) else (fun pc => (bif Nat.ble pc 125 then (fun pc => bif Nat.beq pc 125 then some (.aload_n 0, 126, 0, 0) else none) else (fun pc => bif Nat.beq pc 126 then some (.getfield 71, 129, 10, 9) else none)) pc)) pc)) pc)) pc)) pc) else (fun pc => (bif Nat.ble pc 159 then (fun pc => (bif Nat.ble pc 143 then (fun pc => (bif Nat.ble pc 135 then (fun pc => (bif Nat.ble pc 129 then (fun pc => bif Nat.beq pc 129 then some (.getfield 245, 132, 8, 1) else none) else (fun pc => (bif Nat.ble pc 132 then (fun pc => bif Nat.beq pc 132 then some (.getfield 202, 135, 5, 5) else none) else (fun pc => bif Nat.beq pc 135 then some (.ireturn, 136, 0, 0) else none)) pc)) pc) else (fun pc => (bif Nat.ble pc 137 then (fun pc => (bif Nat.ble pc 136 then (fun pc => bif Nat.beq pc 136 then some (.aload_n 0, 137, 0, 0) else none) else (fun pc => bif Nat.beq pc 137 then some (.getfield 71, 140, 10, 9) else none)) pc) else (fun pc => (bif Nat.ble pc 140 then (fun pc => bif Nat.beq pc 140 then some (.getfield 273, 143, 9, 1) else none) else (fun pc => bif Nat.beq pc 143 then some (.getfield 202, 146, 5, 5) else none)) pc)) pc)) pc) else (fun pc => (bif Nat.ble pc 151 then (fun pc => (bif Nat.ble pc 147 then (fun pc => (bif Nat.ble pc 146 then (fun pc => bif Nat.beq pc 146 then some (.ireturn, 147, 0, 0) else none) else (fun pc => bif Nat.beq pc 147 then some (.aload_n 0, 148, 0, 0) else none)) pc) else (fun pc => (bif Nat.ble pc 148 then (fun pc => bif Nat.beq pc 148 then some (.getfield 71, 151, 10, 9) else none) else (fun pc => bif Nat.beq pc 151 then some (.getfield 328, 154, 10, 1) else none)) pc)) pc) else (fun pc => (bif Nat.ble pc 157 then (fun pc => (bif Nat.ble pc 154 then (fun pc => bif Nat.beq pc 154 then some (.getfield 202, 157, 5, 5) else none) else (fun pc => bif Nat.beq pc 157 then some (.ireturn, 158, 0, 0) else none)) pc) else (fun pc => (bif Nat.ble pc 158 then (fun pc => bif Nat.beq pc 158 then some (.aload_n 0, 159, 0, 0) else none) else (fun pc => bif Nat.beq pc 159 then some (.getfield 83, 162, 12, 9) else none)) pc)) pc)) pc)) pc) else (fun pc => (bif Nat.ble pc 175 then (fun pc => (bif Nat.ble pc 167 then (fun pc => (bif Nat.ble pc 165 then (fun pc => (bif Nat.ble pc 162 then (fun pc => bif Nat.beq pc 162 then some (.getfield 202, 165, 5, 5) else none) else (fun pc => bif Nat.beq pc 165 then some (.ireturn, 166, 0, 0) else none)) pc) else (fun pc => (bif Nat.ble pc 166 then (fun pc => bif Nat.beq pc 166 then some (.aload_n 0, 167, 0, 0) else none) else (fun pc => bif Nat.beq pc 167 then some (.getfield 57, 170, 8, 9) else none)) pc)) pc) else (fun pc => (bif Nat.ble pc 173 then (fun pc => (bif Nat.ble pc 170 then (fun pc => bif Nat.beq pc 170 then some (.getfield 331, 173, 0, 6) else none) else (fun pc => bif Nat.beq pc 173 then some (.ireturn, 174, 0, 0) else none)) pc) else (fun pc => (bif Nat.ble pc 174 then (fun pc => bif Nat.beq pc 174 then some (.aload_n 0, 175, 0, 0) else none) else (fun pc => bif Nat.beq pc 175 then some (.getfield 38, 178, 4, 9) else none)) pc)) pc)) pc) else (fun pc => (bif Nat.ble pc 183 then (fun pc => (bif Nat.ble pc 181 then (fun pc => (bif Nat.ble pc 178 then (fun pc => bif Nat.beq pc 178 then some (.getfield 332, 181, 2, 2) else none) else (fun pc => bif Nat.beq pc 181 then some (.ireturn, 182, 0, 0) else none)) pc) else (fun pc => (bif Nat.ble pc 182 then (fun pc => bif Nat.beq pc 182 then some (.aload_n 0, 183, 0, 0) else none) else (fun pc => bif Nat.beq pc 183 then some (.getfield 10, 186, 0, 9) else none)) pc)) pc) else (fun pc => (bif Nat.ble pc 189 then (fun pc => (bif Nat.ble pc 186 then (fun pc => bif Nat.beq pc 186 then some (.getfield 97, 189, 0, 8) else none) else (fun pc => bif Nat.beq pc 189 then some (.ireturn, 190, 0, 0) else none)) pc) else (fun pc => (bif Nat.ble pc 190 then (fun pc => bif Nat.beq pc 190 then some (.iconst (-1), 191, 4294967295, 0) else none) else (fun pc => bif Nat.beq pc 191 then some (.ireturn, 192, 0, 0) else none)) pc)) pc)) pc)) pc)) pc)) pc
/-- PackWeeksModel.count(I)I -/
def kc_143 : Nat → Option en_I := fun pc => (bif Nat.ble pc 110 then (fun pc => (bif Nat.ble pc 86 then (fun pc => (bif Nat.ble pc 76 then (fun pc => (bif Nat.ble pc 5 then (fun pc => (bif Nat.ble pc 1 then (fun pc => (bif Nat.ble pc 0 then (fun pc => bif Nat.beq pc 0 then some (.aload_n 0, 1, 0, 0) else none) else (fun pc => bif Nat.beq pc 1 then some (.iconst 0, 2, 0, 0) else none)) pc) else (fun pc => (bif Nat.ble pc 2 then (fun pc => bif Nat.beq pc 2 then some (.putfield 1, 5, 0, 10) else none) else (fun pc => bif Nat.beq pc 5 then some (.iload_n 1, 6, 0, 0) else none)) pc)) pc) else (fun pc => (bif Nat.ble pc 72 then (fun pc => (bif Nat.ble pc 6 then (fun pc => bif Nat.beq pc 6 then some (.tableswitch 153 0 12 #[66, 73, 80, 85, 92, 97, 104, 112, 120, 128, 135, 143, 148], 72, 0, 0) else none) else (fun pc => bif Nat.beq pc 72 then some (.aload_n 0, 73, 0, 0) else none)) pc) else (fun pc => (bif Nat.ble pc 73 then (fun pc => bif Nat.beq pc 73 then some (.getfield 121, 76, 10, 10) else none) else (fun pc => bif Nat.beq pc 76 then some (.iconst 0, 77, 0, 0) else none)) pc)) pc)) pc) else (fun pc => (bif Nat.ble pc 80 then (fun pc => (bif Nat.ble pc 78 then (fun pc => (bif Nat.ble pc 77 then (fun pc => bif Nat.beq pc 77 then some (.iaload, 78, 0, 0) else none) else (fun pc => bif Nat.beq pc 78 then some (.ireturn, 79, 0, 0) else none)) pc) else (fun pc => (bif Nat.ble pc 79 then (fun pc => bif Nat.beq pc 79 then some (.aload_n 0, 80, 0, 0) else none) else (fun pc => bif Nat.beq pc 80 then some (.getfield 121, 83, 10, 10) else none)) pc)) pc) else (fun pc => (bif Nat.ble pc 84 then (fun pc => (bif Nat.ble pc 83 then (fun pc => bif Nat.beq pc 83 then some (.iconst 1, 84, 1, 0) else none) else (fun pc => bif Nat.beq pc 84 then some (.iaload, 85, 0, 0) else none)) pc) else (fun pc => (bif Nat.ble pc 85 then (fun pc => bif Nat.beq pc 85 then some (.ireturn, 86, 0, 0) else none) else (fun pc => bif Nat.beq pc 86 then some (.aload_n 0, 87, 0, 0) else none)) pc)) pc)) pc)) pc) else (fun pc => (bif Nat.ble pc 98 then (fun pc => (bif Nat.ble pc 92 then (fun pc => (bif Nat.ble pc 90 then (fun pc => (bif Nat.ble pc 87 then (fun pc => bif Nat.beq pc 87 then some (.invokevirtual 371, 90, 76, 161) else none) else (fun pc => bif Nat.beq pc 90 then some (.ireturn, 91, 0, 0) else none)) pc) else (fun pc => (bif Nat.ble pc 91 then (fun pc => bif Nat.beq pc 91 then some (.aload_n 0, 92, 0, 0) else none) else (fun pc => bif Nat.beq pc 92 then some (.getfield 121, 95, 10, 10) else none)) pc)) pc) else (fun pc => (bif Nat.ble pc 96 then (fun pc => (bif Nat.ble pc 95 then (fun pc => bif Nat.beq pc 95 then some (.iconst 3, 96, 3, 0) else none) else (fun pc => bif Nat.beq pc 96 then some (.iaload, 97, 0, 0) else none)) pc) else (fun pc => (bif Nat.ble pc 97 then (fun pc => bif Nat.beq pc 97 then some (.ireturn, 98, 0, 0) else none) else (fun pc => bif Nat.beq pc 98 then some (.aload_n 0, 99, 0, 0) else none)) pc)) pc)) pc) else (fun pc => (bif Nat.ble pc 104 then (fun pc => (bif Nat.ble pc 102 then (fun pc => (bif Nat.ble pc 99 then (fun pc => bif Nat.beq pc 99 then some (.invokevirtual 374, 102, 75, 161) else none) else (fun pc => bif Nat.beq pc 102 then some (.ireturn, 103, 0, 0) else none)) pc) else (fun pc => (bif Nat.ble pc 103 then (fun pc => bif Nat.beq pc 103 then some (.aload_n 0, 104, 0, 0) else none) else (fun pc => bif Nat.beq pc 104 then some (.getfield 151, 107, 25, 10) else none)) pc)) pc) else (fun pc => (bif Nat.ble pc 108 then (fun pc => (bif Nat.ble pc 107 then (fun pc => bif Nat.beq pc 107 then some (.iconst 0, 108, 0, 0) else none) else (fun pc => bif Nat.beq pc 108 then some (.iaload, 109, 0, 0) else none)) pc) else (fun pc => (bif Nat.ble pc 109 then (fun pc => bif Nat.beq pc 109 then some (.ireturn, 110, 0, 0) else none) else (fun pc => bif Nat.beq pc 110 then some (.aload_n 0, 111, 0, 0) else none)) pc)) pc)) pc)) pc)) pc) else (fun pc => (bif Nat.ble pc 135 then (fun pc => (bif Nat.ble pc 124 then (fun pc => (bif Nat.ble pc 117 then (fun pc => (bif Nat.ble pc 114 then (fun pc => (bif Nat.ble pc 111 then (fun pc => bif Nat.beq pc 111 then some (.getfield 121, 114, 10, 10) else none) else (fun pc => bif Nat.beq pc 114 then some (.bipush 6, 116, 6, 0) else none)) pc) else (fun pc => (bif Nat.ble pc 116 then (fun pc => bif Nat.beq pc 116 then some (.iaload, 117, 0, 0) else none) else (fun pc => bif Nat.beq pc 117 then some (.ireturn, 118, 0, 0) else none)) pc)) pc) else (fun pc => (bif Nat.ble pc 119 then (fun pc => (bif Nat.ble pc 118 then (fun pc => bif Nat.beq pc 118 then some (.aload_n 0, 119, 0, 0) else none) else (fun pc => bif Nat.beq pc 119 then some (.getfield 121, 122, 10, 10) else none)) pc) else (fun pc => (bif Nat.ble pc 122 then (fun pc => bif Nat.beq pc 122 then some (.bipush 7, 124, 7, 0) else none) else (fun pc => bif Nat.beq pc 124 then some (.iaload, 125, 0, 0) else none)) pc)) pc)) pc) else (fun pc => (bif Nat.ble pc 130 then (fun pc => (bif Nat.ble pc 126 then (fun pc => (bif Nat.ble pc 125 then (fun pc => bif Nat.beq pc 125 then some (.ireturn, 126, 0, 0) else none) else (fun pc => bif Nat.beq pc 126 then some (.aload_n 0, 127, 0, 0) else none)) pc) else (fun pc => (bif Nat.ble pc 127 then (fun pc => bif Nat.beq pc 127 then some (.getfield 121, 130, 10, 10) else none) else (fun pc => bif Nat.beq pc 130 then some (.bipush 8, 132, 8, 0) else none)) pc)) pc) else (fun pc => (bif Nat.ble pc 133 then (fun pc => (bif Nat.ble pc 132 then (fun pc => bif Nat.beq pc 132 then some (.iaload, 133, 0, 0) else none) else (fun pc => bif Nat.beq pc 133 then some (.ireturn, 134, 0, 0) else none)) pc) else (fun pc => (bif Nat.ble pc 134 then (fun pc => bif Nat.beq pc 134 then some (.aload_n 0, 135, 0, 0) else none) else (fun pc => bif Nat.beq pc 135 then some (.getfield 142, 138, 22, 10) else none)) pc)) pc)) pc)) pc) else (fun pc => (bif Nat.ble pc 148 then (fun pc => (bif Nat.ble pc 141 then (fun pc => (bif Nat.ble pc 139 then (fun pc => (bif Nat.ble pc 138 then (fun pc => bif Nat.beq pc 138 then some (.iconst 0, 139, 0, 0) else none) else (fun pc => bif Nat.beq pc 139 then some (.iaload, 140, 0, 0) else none)) pc) else (fun pc => (bif Nat.ble pc 140 then (fun pc => bif Nat.beq pc 140 then some (.ireturn, 141, 0, 0) else none) else (fun pc => bif Nat.beq pc 141 then some (.aload_n 0, 142, 0, 0) else none)) pc)) pc) else (fun pc => (bif Nat.ble pc 145 then (fun pc => (bif Nat.ble pc 142 then (fun pc => bif Nat.beq pc 142 then some (.getfield 151, 145, 25, 10) else none) else (fun pc => bif Nat.beq pc 145 then some (.bipush 17, 147, 17, 0) else none)) pc) else (fun pc => (bif Nat.ble pc 147 then (fun pc => bif Nat.beq pc 147 then some (.iaload, 148, 0, 0) else none) else (fun pc => bif Nat.beq pc 148 then some (.ireturn, 149, 0, 0) else none)) pc)) pc)) pc) else (fun pc => (bif Nat.ble pc 154 then (fun pc => (bif Nat.ble pc 150 then (fun pc => (bif Nat.ble pc 149 then (fun pc => bif Nat.beq pc 149 then some (.aload_n 0, 150, 0, 0) else none) else (fun pc => bif Nat.beq pc 150 then some (.getfield 364, 153, 26, 10) else none)) pc) else (fun pc => (bif Nat.ble pc 153 then (fun pc => bif Nat.beq pc 153 then some (.ireturn, 154, 0, 0) else none) else (fun pc => bif Nat.beq pc 154 then some (.aload_n 0, 155, 0, 0) else none)) pc)) pc) else (fun pc => (bif Nat.ble pc 158 then (fun pc => (bif Nat.ble pc 155 then (fun pc => bif Nat.beq pc 155 then some (.getfield 11, 158, 2, 10) else none) else (fun pc => bif Nat.beq pc 158 then some (.ireturn, 159, 0, 0) else none)) pc) else (fun pc => (bif Nat.ble pc 159 then (fun pc => bif Nat.beq pc 159 then some (.iconst (-1), 160, 4294967295, 0) else none) else (fun pc => bif Nat.beq pc 160 then some (.ireturn, 161, 0, 0) else none)) pc)) pc)) pc)) pc)) pc)) pc
/-- PackWeeks$Reckoner.fillLooks(LPackWeeks$Law;I)V -/
def kc_144 : Nat → Option en_I := fun pc => (bif Nat.ble pc 36 then (fun pc => (bif Nat.ble pc 18 then (fun pc => (bif Nat.ble pc 7 then (fun pc => (bif Nat.ble pc 2 then (fun pc => (bif Nat.ble pc 0 then (fun pc => bif Nat.beq pc 0 then some (.aload_n 0, 1, 0, 0) else none) else (fun pc => (bif Nat.ble pc 1 then (fun pc => bif Nat.beq pc 1 then some (.iconst (-1), 2, 4294967295, 0) else none) else (fun pc => bif Nat.beq pc 2 then some (.putfield 78, 5, 0, 4) else none)) pc)) pc) else (fun pc => (bif Nat.ble pc 5 then (fun pc => bif Nat.beq pc 5 then some (.iconst 1, 6, 1, 0) else none) else (fun pc => (bif Nat.ble pc 6 then (fun pc => bif Nat.beq pc 6 then some (.istore_n 3, 7, 0, 0) else none) else (fun pc => bif Nat.beq pc 7 then some (.iload_n 3, 8, 0, 0) else none)) pc)) pc)) pc) else (fun pc => (bif Nat.ble pc 12 then (fun pc => (bif Nat.ble pc 8 then (fun pc => bif Nat.beq pc 8 then some (.iload_n 2, 9, 0, 0) else none) else (fun pc => (bif Nat.ble pc 9 then (fun pc => bif Nat.beq pc 9 then some (.if_icmp .gt 33, 12, 42, 0) else none) else (fun pc => bif Nat.beq pc 12 then some (.aload_n 0, 13, 0, 0) else none)) pc)) pc) else (fun pc => (bif Nat.ble pc 16 then (fun pc => (bif Nat.ble pc 13 then (fun pc => bif Nat.beq pc 13 then some (.getfield 15, 16, 4, 4) else none) else (fun pc => bif Nat.beq pc 16 then some (.iload_n 3, 17, 0, 0) else none)) pc) else (fun pc => (bif Nat.ble pc 17 then (fun pc => bif Nat.beq pc 17 then some (.aload_n 1, 18, 0, 0) else none) else (fun pc => bif Nat.beq pc 18 then some (.bipush 99, 20, 99, 0) else none)) pc)) pc)) pc)) pc) else (fun pc => (bif Nat.ble pc 27 then (fun pc => (bif Nat.ble pc 22 then (fun pc => (bif Nat.ble pc 20 then (fun pc => bif Nat.beq pc 20 then some (.iconst 0, 21, 0, 0) else none) else (fun pc => (bif Nat.ble pc 21 then (fun pc => bif Nat.beq pc 21 then some (.iload_n 3, 22, 0, 0) else none) else (fun pc => bif Nat.beq pc 22 then some (.iconst 0, 23, 0, 0) else none)) pc)) pc) else (fun pc => (bif Nat.ble pc 23 then (fun pc => bif Nat.beq pc 23 then some (.invokevirtual 81, 26, 132, 5) else none) else (fun pc => (bif Nat.ble pc 26 then (fun pc => bif Nat.beq pc 26 then some (.iastore, 27, 0, 0) else none) else (fun pc => bif Nat.beq pc 27 then some (.aload_n 0, 28, 0, 0) else none)) pc)) pc)) pc) else (fun pc => (bif Nat.ble pc 32 then (fun pc => (bif Nat.ble pc 28 then (fun pc => bif Nat.beq pc 28 then some (.getfield 20, 31, 5, 4) else none) else (fun pc => (bif Nat.ble pc 31 then (fun pc => bif Nat.beq pc 31 then some (.iload_n 3, 32, 0, 0) else none) else (fun pc => bif Nat.beq pc 32 then some (.aaload, 33, 0, 0) else none)) pc)) pc) else (fun pc => (bif Nat.ble pc 34 then (fun pc => (bif Nat.ble pc 33 then (fun pc => bif Nat.beq pc 33 then some (.iload_n 3, 34, 0, 0) else none) else (fun pc => bif Nat.beq pc 34 then some (.iconst 0, 35, 0, 0) else none)) pc) else (fun pc => (bif Nat.ble pc 35 then (fun pc => bif Nat.beq pc 35 then some (.iastore, 36, 0, 0) else none) else (fun pc => bif Nat.beq pc 36 then some (.iinc 3 1, 39, 1, 0) else none)) pc)) pc)) pc)) pc)) pc) else (fun pc => (bif Nat.ble pc 57 then (fun pc => (bif Nat.ble pc 46 then (fun pc => (bif Nat.ble pc 43 then (fun pc => (bif Nat.ble pc 39 then (fun pc => bif Nat.beq pc 39 then some (.goto (-32), 42, 7, 0) else none) else (fun pc => (bif Nat.ble pc 42 then (fun pc => bif Nat.beq pc 42 then some (.iconst 1, 43, 1, 0) else none) else (fun pc => bif Nat.beq pc 43 then some (.istore_n 3, 44, 0, 0) else none)) pc)) pc) else (fun pc => (bif Nat.ble pc 44 then (fun pc => bif Nat.beq pc 44 then some (.iload_n 3, 45, 0, 0) else none) else (fun pc => (bif Nat.ble pc 45 then (fun pc => bif Nat.beq pc 45 then some (.iload_n 2, 46, 0, 0) else none) else (fun pc => bif Nat.beq pc 46 then some (.if_icmp .ge 40, 49, 86, 0) else none)) pc)) pc)) pc) else (fun pc => (bif Nat.ble pc 52 then (fun pc => (bif Nat.ble pc 49 then (fun pc => bif Nat.beq pc 49 then some (.iconst 1, 50, 1, 0) else none) else (fun pc => (bif Nat.ble pc 50 then (fun pc => bif Nat.beq pc 50 then some (.istore 4, 52, 0, 0) else none) else (fun pc => bif Nat.beq pc 52 then some (.iload 4, 54, 0, 0) else none)) pc)) pc) else (fun pc => (bif Nat.ble pc 55 then (fun pc => (bif Nat.ble pc 54 then (fun pc => bif Nat.beq pc 54 then some (.iload_n 3, 55, 0, 0) else none) else (fun pc => bif Nat.beq pc 55 then some (.iadd, 56, 0, 0) else none)) pc) else (fun pc => (bif Nat.ble pc 56 then (fun pc => bif Nat.beq pc 56 then some (.iload_n 2, 57, 0, 0) else none) else (fun pc => bif Nat.beq pc 57 then some (.if_icmp .gt 23, 60, 80, 0) else none)) pc)) pc)) pc)) pc) else (fun pc => (bif Nat.ble pc 67 then (fun pc => (bif Nat.ble pc 62 then (fun pc => (bif Nat.ble pc 60 then (fun pc => bif Nat.beq pc 60 then some (.aload_n 0, 61, 0, 0) else none) else (fun pc => (bif Nat.ble pc 61 then (fun pc => bif Nat.beq pc 61 then some (.aload_n 0, 62, 0, 0) else none) else (fun pc => bif Nat.beq pc 62 then some (.iload 4, 64, 0, 0) else none)) pc)) pc) else (fun pc => (bif Nat.ble pc 64 then (fun pc => bif Nat.beq pc 64 then some (.iload 4, 66, 0, 0) else none) else (fun pc => (bif Nat.ble pc 66 then (fun pc => bif Nat.beq pc 66 then some (.iload_n 3, 67, 0, 0) else none) else (fun pc => bif Nat.beq pc 67 then some (.iadd, 68, 0, 0) else none)) pc)) pc)) pc) else (fun pc => (bif Nat.ble pc 74 then (fun pc => (bif Nat.ble pc 68 then (fun pc => bif Nat.beq pc 68 then some (.invokevirtual 87, 71, 145, 67) else none) else (fun pc => (bif Nat.ble pc 71 then (fun pc => bif Nat.beq pc 71 then some (.putfield 78, 74, 0, 4) else none) else (fun pc => bif Nat.beq pc 74 then some (.iinc 4 1, 77, 1, 0) else none)) pc)) pc) else (fun pc => (bif Nat.ble pc 80 then (fun pc => (bif Nat.ble pc 77 then (fun pc => bif Nat.beq pc 77 then some (.goto (-25), 80, 52, 0) else none) else (fun pc => bif Nat.beq pc 80 then some (.iinc 3 1, 83, 1, 0) else none)) pc) else (fun pc => (bif Nat.ble pc 83 then (fun pc => bif Nat.beq pc 83 then some (.goto (-39), 86, 44, 0) else none) else (fun pc => bif Nat.beq pc 86 then some (.return_, 87, 0, 0) else none)) pc)) pc)) pc)) pc)) pc)) pc
/-- PackWeeks$Reckoner.fillLook(II)I -/
def kc_145 : Nat → Option en_I := fun pc => (bif Nat.ble pc 38 then (fun pc => (bif Nat.ble pc 19 then (fun pc => (bif Nat.ble pc 7 then (fun pc => (bif Nat.ble pc 3 then (fun pc => (bif Nat.ble pc 0 then (fun pc => bif Nat.beq pc 0 then some (.ldc 90, 2, 1000000000, 0) else none) else (fun pc => (bif Nat.ble pc 2 then (fun pc => bif Nat.beq pc 2 then some (.istore_n 3, 3, 0, 0) else none) else (fun pc => bif Nat.beq pc 3 then some (.iconst (-1), 4, 4294967295, 0) else none)) pc)) pc) else (fun pc => (bif Nat.ble pc 4 then (fun pc => bif Nat.beq pc 4 then some (.istore 4, 6, 0, 0) else none) else (fun pc => (bif Nat.ble pc 6 then (fun pc => bif Nat.beq pc 6 then some (.iload_n 1, 7, 0, 0) else none) else (fun pc => bif Nat.beq pc 7 then some (.istore 5, 9, 0, 0) else none)) pc)) pc)) pc) else (fun pc => (bif Nat.ble pc 12 then (fun pc => (bif Nat.ble pc 9 then (fun pc => bif Nat.beq pc 9 then some (.iload 5, 11, 0, 0) else none) else (fun pc => (bif Nat.ble pc 11 then (fun pc => bif Nat.beq pc 11 then some (.iload_n 2, 12, 0, 0) else none) else (fun pc => bif Nat.beq pc 12 then some (.if_icmp .ge 55, 15, 67, 0) else none)) pc)) pc) else (fun pc => (bif Nat.ble pc 15 then (fun pc => bif Nat.beq pc 15 then some (.aload_n 0, 16, 0, 0) else none) else (fun pc => (bif Nat.ble pc 16 then (fun pc => bif Nat.beq pc 16 then some (.getfield 15, 19, 4, 4) else none) else (fun pc => bif Nat.beq pc 19 then some (.iload 5, 21, 0, 0) else none)) pc)) pc)) pc)) pc) else (fun pc => (bif Nat.ble pc 28 then (fun pc => (bif Nat.ble pc 23 then (fun pc => (bif Nat.ble pc 21 then (fun pc => bif Nat.beq pc 21 then some (.iaload, 22, 0, 0) else none) else (fun pc => (bif Nat.ble pc 22 then (fun pc => bif Nat.beq pc 22 then some (.aload_n 0, 23, 0, 0) else none) else (fun pc => bif Nat.beq pc 23 then some (.getfield 20, 26, 5, 4) else none)) pc)) pc) else (fun pc => (bif Nat.ble pc 26 then (fun pc => bif Nat.beq pc 26 then some (.iload_n 1, 27, 0, 0) else none) else (fun pc => (bif Nat.ble pc 27 then (fun pc => bif Nat.beq pc 27 then some (.aaload, 28, 0, 0) else none) else (fun pc => bif Nat.beq pc 28 then some (.iload 5, 30, 0, 0) else none)) pc)) pc)) pc) else (fun pc => (bif Nat.ble pc 32 then (fun pc => (bif Nat.ble pc 30 then (fun pc => bif Nat.beq pc 30 then some (.iaload, 31, 0, 0) else none) else (fun pc => (bif Nat.ble pc 31 then (fun pc => bif Nat.beq pc 31 then some (.aload_n 0, 32, 0, 0) else none) else (fun pc => bif Nat.beq pc 32 then some (.getfield 20, 35, 5, 4) else none)) pc)) pc) else (fun pc => (bif Nat.ble pc 35 then (fun pc => bif Nat.beq pc 35 then some (.iload 5, 37, 0, 0) else none) else (fun pc => (bif Nat.ble pc 37 then (fun pc => bif Nat.beq pc 37 then some (.iconst 1, 38, 1, 0) else none) else (fun pc => bif Nat.beq pc 38 then some (.iadd, 39, 0, 0) else none)) pc)) pc)) pc)) pc)) pc) else (fun pc => (bif Nat.ble pc 57 then (fun pc => (bif Nat.ble pc 46 then (fun pc => (bif Nat.ble pc 41 then (fun pc => (bif Nat.ble pc 39 then (fun pc => bif Nat.beq pc 39 then some (.aaload, 40, 0, 0) else none) else (fun pc => (bif Nat.ble pc 40 then (fun pc => bif Nat.beq pc 40 then some (.iload_n 2, 41, 0, 0) else none) else (fun pc => bif Nat.beq pc 41 then some (.iaload, 42, 0, 0) else none)) pc)) pc) else (fun pc => (bif Nat.ble pc 42 then (fun pc => bif Nat.beq pc 42 then some (.invokestatic 47, 45, 9991, 0) else none) else (fun pc => (bif Nat.ble pc 45 then (fun pc => bif Nat.beq pc 45 then some (.iadd, 46, 0, 0) else none) else (fun pc => bif Nat.beq pc 46 then some (.istore 6, 48, 0, 0) else none)) pc)) pc)) pc) else (fun pc => (bif Nat.ble pc 51 then (fun pc => (bif Nat.ble pc 48 then (fun pc => bif Nat.beq pc 48 then some (.iload 6, 50, 0, 0) else none) else (fun pc => (bif Nat.ble pc 50 then (fun pc => bif Nat.beq pc 50 then some (.iload_n 3, 51, 0, 0) else none) else (fun pc => bif Nat.beq pc 51 then some (.if_icmp .ge 10, 54, 61, 0) else none)) pc)) pc) else (fun pc => (bif Nat.ble pc 54 then (fun pc => bif Nat.beq pc 54 then some (.iload 6, 56, 0, 0) else none) else (fun pc => (bif Nat.ble pc 56 then (fun pc => bif Nat.beq pc 56 then some (.istore_n 3, 57, 0, 0) else none) else (fun pc => bif Nat.beq pc 57 then some (.iload 5, 59, 0, 0) else none)) pc)) pc)) pc)) pc) else (fun pc => (bif Nat.ble pc 71 then (fun pc => (bif Nat.ble pc 64 then (fun pc => (bif Nat.ble pc 59 then (fun pc => bif Nat.beq pc 59 then some (.istore 4, 61, 0, 0) else none) else (fun pc => (bif Nat.ble pc 61 then (fun pc => bif Nat.beq pc 61 then some (.iinc 5 1, 64, 1, 0) else none) else (fun pc => bif Nat.beq pc 64 then some (.goto (-55), 67, 9, 0) else none)) pc)) pc) else (fun pc => (bif Nat.ble pc 67 then (fun pc => bif Nat.beq pc 67 then some (.aload_n 0, 68, 0, 0) else none) else (fun pc => (bif Nat.ble pc 68 then (fun pc => bif Nat.beq pc 68 then some (.getfield 20, 71, 5, 4) else none) else (fun pc => bif Nat.beq pc 71 then some (.iload_n 1, 72, 0, 0) else none)) pc)) pc)) pc) else (fun pc => (bif Nat.ble pc 74 then (fun pc => (bif Nat.ble pc 72 then (fun pc => bif Nat.beq pc 72 then some (.aaload, 73, 0, 0) else none) else (fun pc => (bif Nat.ble pc 73 then (fun pc => bif Nat.beq pc 73 then some (.iload_n 2, 74, 0, 0) else none) else (fun pc => bif Nat.beq pc 74 then some (.iload_n 3, 75, 0, 0) else none)) pc)) pc) else (fun pc => (bif Nat.ble pc 75 then (fun pc => bif Nat.beq pc 75 then some (.iastore, 76, 0, 0) else none) else (fun pc => (bif Nat.ble pc 76 then (fun pc => bif Nat.beq pc 76 then some (.iload 4, 78, 0, 0) else none) else (fun pc => bif Nat.beq pc 78 then some (.ireturn, 79, 0, 0) else none)) pc)) pc)) pc)) pc)) pc)) pc
/-- PackWeeks$Reckoner.lookCost(II)I -/
def kc_146 : Nat → Option en_I := fun pc => (bif Nat.ble pc 4 then (fun pc => (bif Nat.ble pc 0 then (fun pc => bif Nat.beq pc 0 then some (.aload_n 0, 1, 0, 0) else none) else (fun pc => (bif Nat.ble pc 1 then (fun pc => bif Nat.beq pc 1 then some (.getfield 20, 4, 5, 4) else none) else (fun pc => bif Nat.beq pc 4 then some (.iload_n 1, 5, 0, 0) else none)) pc)) pc) else (fun pc => (bif Nat.ble pc 6 then (fun pc => (bif Nat.ble pc 5 then (fun pc => bif Nat.beq pc 5 then some (.aaload, 6, 0, 0) else none) else (fun pc => bif Nat.beq pc 6 then some (.iload_n 2, 7, 0, 0) else none)) pc) else (fun pc => (bif Nat.ble pc 7 then (fun pc => bif Nat.beq pc 7 then some (.iaload, 8, 0, 0) else none) else (fun pc => bif Nat.beq pc 8 then some (.ireturn, 9, 0, 0) else none)) pc)) pc)) pc
/-- PackWeeksModel.bestLook(II)I -/
def kc_147 : Nat → Option en_I := fun pc => (bif Nat.ble pc 18 then (fun pc => (bif Nat.ble pc 7 then (fun pc => (bif Nat.ble pc 2 then (fun pc => (bif Nat.ble pc 0 then (fun pc => bif Nat.beq pc 0 then some (.iload_n 1, 1, 0, 0) else none) else (fun pc => (bif Nat.ble pc 1 then (fun pc => bif Nat.beq pc 1 then some (.istore_n 3, 2, 0, 0) else none) else (fun pc => bif Nat.beq pc 2 then some (.iload_n 1, 3, 0, 0) else none)) pc)) pc) else (fun pc => (bif Nat.ble pc 4 then (fun pc => (bif Nat.ble pc 3 then (fun pc => bif Nat.beq pc 3 then some (.iconst 1, 4, 1, 0) else none) else (fun pc => bif Nat.beq pc 4 then some (.iadd, 5, 0, 0) else none)) pc) else (fun pc => (bif Nat.ble pc 5 then (fun pc => bif Nat.beq pc 5 then some (.istore 4, 7, 0, 0) else none) else (fun pc => bif Nat.beq pc 7 then some (.iload 4, 9, 0, 0) else none)) pc)) pc)) pc) else (fun pc => (bif Nat.ble pc 13 then (fun pc => (bif Nat.ble pc 9 then (fun pc => bif Nat.beq pc 9 then some (.iload_n 2, 10, 0, 0) else none) else (fun pc => (bif Nat.ble pc 10 then (fun pc => bif Nat.beq pc 10 then some (.if_icmp .ge 34, 13, 44, 0) else none) else (fun pc => bif Nat.beq pc 13 then some (.aload_n 0, 14, 0, 0) else none)) pc)) pc) else (fun pc => (bif Nat.ble pc 15 then (fun pc => (bif Nat.ble pc 14 then (fun pc => bif Nat.beq pc 14 then some (.iload_n 1, 15, 0, 0) else none) else (fun pc => bif Nat.beq pc 15 then some (.iload_n 2, 16, 0, 0) else none)) pc) else (fun pc => (bif Nat.ble pc 16 then (fun pc => bif Nat.beq pc 16 then some (.iload 4, 18, 0, 0) else none) else (fun pc => bif Nat.beq pc 18 then some (.invokevirtual 482, 21, 148, 164) else none)) pc)) pc)) pc)) pc) else (fun pc => (bif Nat.ble pc 31 then (fun pc => (bif Nat.ble pc 23 then (fun pc => (bif Nat.ble pc 21 then (fun pc => bif Nat.beq pc 21 then some (.aload_n 0, 22, 0, 0) else none) else (fun pc => (bif Nat.ble pc 22 then (fun pc => bif Nat.beq pc 22 then some (.iload_n 1, 23, 0, 0) else none) else (fun pc => bif Nat.beq pc 23 then some (.iload_n 2, 24, 0, 0) else none)) pc)) pc) else (fun pc => (bif Nat.ble pc 25 then (fun pc => (bif Nat.ble pc 24 then (fun pc => bif Nat.beq pc 24 then some (.iload_n 3, 25, 0, 0) else none) else (fun pc => bif Nat.beq pc 25 then some (.invokevirtual 482, 28, 148, 164) else none)) pc) else (fun pc => (bif Nat.ble pc 28 then (fun pc => bif Nat.beq pc 28 then some (.if_icmp .ge 8, 31, 36, 0) else none) else (fun pc => bif Nat.beq pc 31 then some (.iload 4, 33, 0, 0) else none)) pc)) pc)) pc) else (fun pc => (bif Nat.ble pc 37 then (fun pc => (bif Nat.ble pc 33 then (fun pc => bif Nat.beq pc 33 then some (.goto 4, 36, 37, 0) else none) else (fun pc => (bif Nat.ble pc 36 then (fun pc => bif Nat.beq pc 36 then some (.iload_n 3, 37, 0, 0) else none) else (fun pc => bif Nat.beq pc 37 then some (.istore_n 3, 38, 0, 0) else none)) pc)) pc) else (fun pc => (bif Nat.ble pc 41 then (fun pc => (bif Nat.ble pc 38 then (fun pc => bif Nat.beq pc 38 then some (.iinc 4 1, 41, 1, 0) else none) else (fun pc => bif Nat.beq pc 41 then some (.goto (-34), 44, 7, 0) else none)) pc) else (fun pc => (bif Nat.ble pc 44 then (fun pc => bif Nat.beq pc 44 then some (.iload_n 3, 45, 0, 0) else none) else (fun pc => bif Nat.beq pc 45 then some (.ireturn, 46, 0, 0) else none)) pc)) pc)) pc)) pc)) pc
/-- PackWeeksModel.costOf(III)I -/
def kc_148 : Nat → Option en_I := fun pc => (bif Nat.ble pc 21 then (fun pc => (bif Nat.ble pc 9 then (fun pc => (bif Nat.ble pc 4 then (fun pc => (bif Nat.ble pc 0 then (fun pc => bif Nat.beq pc 0 then some (.aload_n 0, 1, 0, 0) else none) else (fun pc => (bif Nat.ble pc 1 then (fun pc => bif Nat.beq pc 1 then some (.getfield 173, 4, 33, 10) else none) else (fun pc => bif Nat.beq pc 4 then some (.bipush 32, 6, 32, 0) else none)) pc)) pc) else (fun pc => (bif Nat.ble pc 7 then (fun pc => (bif Nat.ble pc 6 then (fun pc => bif Nat.beq pc 6 then some (.iload_n 1, 7, 0, 0) else none) else (fun pc => bif Nat.beq pc 7 then some (.imul, 8, 0, 0) else none)) pc) else (fun pc => (bif Nat.ble pc 8 then (fun pc => bif Nat.beq pc 8 then some (.iload_n 3, 9, 0, 0) else none) else (fun pc => bif Nat.beq pc 9 then some (.iadd, 10, 0, 0) else none)) pc)) pc)) pc) else (fun pc => (bif Nat.ble pc 14 then (fun pc => (bif Nat.ble pc 11 then (fun pc => (bif Nat.ble pc 10 then (fun pc => bif Nat.beq pc 10 then some (.iaload, 11, 0, 0) else none) else (fun pc => bif Nat.beq pc 11 then some (.istore 4, 13, 0, 0) else none)) pc) else (fun pc => (bif Nat.ble pc 13 then (fun pc => bif Nat.beq pc 13 then some (.aload_n 0, 14, 0, 0) else none) else (fun pc => bif Nat.beq pc 14 then some (.getfield 173, 17, 33, 10) else none)) pc)) pc) else (fun pc => (bif Nat.ble pc 19 then (fun pc => (bif Nat.ble pc 17 then (fun pc => bif Nat.beq pc 17 then some (.bipush 32, 19, 32, 0) else none) else (fun pc => bif Nat.beq pc 19 then some (.iload_n 3, 20, 0, 0) else none)) pc) else (fun pc => (bif Nat.ble pc 20 then (fun pc => bif Nat.beq pc 20 then some (.iconst 1, 21, 1, 0) else none) else (fun pc => bif Nat.beq pc 21 then some (.iadd, 22, 0, 0) else none)) pc)) pc)) pc)) pc) else (fun pc => (bif Nat.ble pc 30 then (fun pc => (bif Nat.ble pc 25 then (fun pc => (bif Nat.ble pc 23 then (fun pc => (bif Nat.ble pc 22 then (fun pc => bif Nat.beq pc 22 then some (.imul, 23, 0, 0) else none) else (fun pc => bif Nat.beq pc 23 then some (.iload_n 2, 24, 0, 0) else none)) pc) else (fun pc => (bif Nat.ble pc 24 then (fun pc => bif Nat.beq pc 24 then some (.iadd, 25, 0, 0) else none) else (fun pc => bif Nat.beq pc 25 then some (.iaload, 26, 0, 0) else none)) pc)) pc) else (fun pc => (bif Nat.ble pc 28 then (fun pc => (bif Nat.ble pc 26 then (fun pc => bif Nat.beq pc 26 then some (.istore 5, 28, 0, 0) else none) else (fun pc => bif Nat.beq pc 28 then some (.aload_n 0, 29, 0, 0) else none)) pc) else (fun pc => (bif Nat.ble pc 29 then (fun pc => bif Nat.beq pc 29 then some (.iload_n 3, 30, 0, 0) else none) else (fun pc => bif Nat.beq pc 30 then some (.invokevirtual 479, 33, 149, 162) else none)) pc)) pc)) pc) else (fun pc => (bif Nat.ble pc 40 then (fun pc => (bif Nat.ble pc 35 then (fun pc => (bif Nat.ble pc 33 then (fun pc => bif Nat.beq pc 33 then some (.iload 4, 35, 0, 0) else none) else (fun pc => bif Nat.beq pc 35 then some (.iload 5, 37, 0, 0) else none)) pc) else (fun pc => (bif Nat.ble pc 37 then (fun pc => bif Nat.beq pc 37 then some (.if_icmp .le 8, 40, 45, 0) else none) else (fun pc => bif Nat.beq pc 40 then some (.iload 4, 42, 0, 0) else none)) pc)) pc) else (fun pc => (bif Nat.ble pc 45 then (fun pc => (bif Nat.ble pc 42 then (fun pc => bif Nat.beq pc 42 then some (.goto 5, 45, 47, 0) else none) else (fun pc => bif Nat.beq pc 45 then some (.iload 5, 47, 0, 0) else none)) pc) else (fun pc => (bif Nat.ble pc 47 then (fun pc => bif Nat.beq pc 47 then some (.iadd, 48, 0, 0) else none) else (fun pc => bif Nat.beq pc 48 then some (.ireturn, 49, 0, 0) else none)) pc)) pc)) pc)) pc)) pc
/-- PackWeeksModel.lookAt(I)I -/
def kc_149 : Nat → Option en_I := fun pc => (bif Nat.ble pc 6 then (fun pc => (bif Nat.ble pc 1 then (fun pc => (bif Nat.ble pc 0 then (fun pc => bif Nat.beq pc 0 then some (.aload_n 0, 1, 0, 0) else none) else (fun pc => bif Nat.beq pc 1 then some (.getfield 145, 4, 23, 10) else none)) pc) else (fun pc => (bif Nat.ble pc 4 then (fun pc => bif Nat.beq pc 4 then some (.iconst 3, 5, 3, 0) else none) else (fun pc => (bif Nat.ble pc 5 then (fun pc => bif Nat.beq pc 5 then some (.iload_n 1, 6, 0, 0) else none) else (fun pc => bif Nat.beq pc 6 then some (.iastore, 7, 0, 0) else none)) pc)) pc)) pc) else (fun pc => (bif Nat.ble pc 9 then (fun pc => (bif Nat.ble pc 7 then (fun pc => bif Nat.beq pc 7 then some (.aload_n 0, 8, 0, 0) else none) else (fun pc => (bif Nat.ble pc 8 then (fun pc => bif Nat.beq pc 8 then some (.iconst 1, 9, 1, 0) else none) else (fun pc => bif Nat.beq pc 9 then some (.bipush 99, 11, 99, 0) else none)) pc)) pc) else (fun pc => (bif Nat.ble pc 11 then (fun pc => bif Nat.beq pc 11 then some (.iconst 1, 12, 1, 0) else none) else (fun pc => (bif Nat.ble pc 12 then (fun pc => bif Nat.beq pc 12 then some (.invokevirtual 405, 15, 150, 164) else none) else (fun pc => bif Nat.beq pc 15 then some (.ireturn, 16, 0, 0) else none)) pc)) pc)) pc)) pc
/-- PackWeeksModel.lawOf(III)I -/
def kc_150 : Nat → Option en_I := fun pc => (bif Nat.ble pc 23 then (fun pc => (bif Nat.ble pc 9 then (fun pc => (bif Nat.ble pc 4 then (fun pc => (bif Nat.ble pc 0 then (fun pc => bif Nat.beq pc 0 then some (.aload_n 0, 1, 0, 0) else none) else (fun pc => (bif Nat.ble pc 1 then (fun pc => bif Nat.beq pc 1 then some (.getfield 121, 4, 10, 10) else none) else (fun pc => bif Nat.beq pc 4 then some (.bipush 9, 6, 9, 0) else none)) pc)) pc) else (fun pc => (bif Nat.ble pc 7 then (fun pc => (bif Nat.ble pc 6 then (fun pc => bif Nat.beq pc 6 then some (.iload_n 1, 7, 0, 0) else none) else (fun pc => bif Nat.beq pc 7 then some (.iadd, 8, 0, 0) else none)) pc) else (fun pc => (bif Nat.ble pc 8 then (fun pc => bif Nat.beq pc 8 then some (.iaload, 9, 0, 0) else none) else (fun pc => bif Nat.beq pc 9 then some (.ifCond .ge 7, 12, 16, 0) else none)) pc)) pc)) pc) else (fun pc => (bif Nat.ble pc 16 then (fun pc => (bif Nat.ble pc 12 then (fun pc => bif Nat.beq pc 12 then some (.iload_n 3, 13, 0, 0) else none) else (fun pc => (bif Nat.ble pc 13 then (fun pc => bif Nat.beq pc 13 then some (.goto 16, 16, 29, 0) else none) else (fun pc => bif Nat.beq pc 16 then some (.aload_n 0, 17, 0, 0) else none)) pc)) pc) else (fun pc => (bif Nat.ble pc 18 then (fun pc => (bif Nat.ble pc 17 then (fun pc => bif Nat.beq pc 17 then some (.aload_n 0, 18, 0, 0) else none) else (fun pc => bif Nat.beq pc 18 then some (.getfield 121, 21, 10, 10) else none)) pc) else (fun pc => (bif Nat.ble pc 21 then (fun pc => bif Nat.beq pc 21 then some (.bipush 9, 23, 9, 0) else none) else (fun pc => bif Nat.beq pc 23 then some (.iload_n 1, 24, 0, 0) else none)) pc)) pc)) pc)) pc) else (fun pc => (bif Nat.ble pc 37 then (fun pc => (bif Nat.ble pc 29 then (fun pc => (bif Nat.ble pc 24 then (fun pc => bif Nat.beq pc 24 then some (.iadd, 25, 0, 0) else none) else (fun pc => (bif Nat.ble pc 25 then (fun pc => bif Nat.beq pc 25 then some (.iaload, 26, 0, 0) else none) else (fun pc => bif Nat.beq pc 29 then some (.istore 4, 31, 0, 0) else none)) pc)) pc) else (fun pc => (bif Nat.ble pc 33 then (fun pc => (bif Nat.ble pc 31 then (fun pc => bif Nat.beq pc 31 then some (.iload 4, 33, 0, 0) else none) else (fun pc => bif Nat.beq pc 33 then some (.ifCond .ge 7, 36, 40, 0) else none)) pc) else (fun pc => (bif Nat.ble pc 36 then (fun pc => bif Nat.beq pc 36 then some (.iconst 0, 37, 0, 0) else none) else (fun pc => bif Nat.beq pc 37 then some (.goto 15, 40, 52, 0) else none)) pc)) pc)) pc) else (fun pc => (bif Nat.ble pc 43 then (fun pc => (bif Nat.ble pc 40 then (fun pc => bif Nat.beq pc 40 then some (.iload 4, 42, 0, 0) else none) else (fun pc => (bif Nat.ble pc 42 then (fun pc => bif Nat.beq pc 42 then some (.iload_n 2, 43, 0, 0) else none) else (fun pc => bif Nat.beq pc 43 then some (.if_icmp .le 7, 46, 50, 0) else none)) pc)) pc) else (fun pc => (bif Nat.ble pc 47 then (fun pc => (bif Nat.ble pc 46 then (fun pc => bif Nat.beq pc 46 then some (.iload_n 2, 47, 0, 0) else none) else (fun pc => bif Nat.beq pc 47 then some (.goto 5, 50, 52, 0) else none)) pc) else (fun pc => (bif Nat.ble pc 50 then (fun pc => bif Nat.beq pc 50 then some (.iload 4, 52, 0, 0) else none) else (fun pc => bif Nat.beq pc 52 then some (.ireturn, 53, 0, 0) else none)) pc)) pc)) pc)) pc)) pc
/-- PackWeeks$Stand.strayBears(LPackWeeks$Pack;J)J -/
def kc_151 : Nat → Option en_I := fun pc => (bif Nat.ble pc 6 then (fun pc => (bif Nat.ble pc 1 then (fun pc => (bif Nat.ble pc 0 then (fun pc => bif Nat.beq pc 0 then some (.lload_n 2, 1, 0, 0) else none) else (fun pc => bif Nat.beq pc 1 then some (.lstore 4, 3, 0, 0) else none)) pc) else (fun pc => (bif Nat.ble pc 3 then (fun pc => bif Nat.beq pc 3 then some (.iconst 0, 4, 0, 0) else none) else (fun pc => (bif Nat.ble pc 4 then (fun pc => bif Nat.beq pc 4 then some (.istore 6, 6, 0, 0) else none) else (fun pc => bif Nat.beq pc 6 then some (.iload 6, 8, 0, 0) else none)) pc)) pc)) pc) else (fun pc => (bif Nat.ble pc 12 then (fun pc => (bif Nat.ble pc 8 then (fun pc => bif Nat.beq pc 8 then some (.aload_n 1, 9, 0, 0) else none) else (fun pc => (bif Nat.ble pc 9 then (fun pc => bif Nat.beq pc 9 then some (.getfield 35, 12, 5, 1) else none) else (fun pc => bif Nat.beq pc 12 then some (.getfield 41, 15, 5, 5) else none)) pc)) pc) else (fun pc => (bif Nat.ble pc 15 then (fun pc => bif Nat.beq pc 15 then some (.if_icmp .ge 78, 18, 93, 0) else none) else (fun pc => (bif Nat.ble pc 93 then (fun pc => bif Nat.beq pc 93 then some (.lload 4, 95, 0, 0) else none) else (fun pc => bif Nat.beq pc 95 then some (.lreturn, 96, 0, 0) else none)) pc)) pc)) pc)) pc
/-- PackWeeks$Stand.bearVisits(LPackWeeks$Pack;)I -/
def kc_152 : Nat → Option en_I := fun pc => (bif Nat.ble pc 4 then (fun pc => (bif Nat.ble pc 1 then (fun pc => (bif Nat.ble pc 0 then (fun pc => bif Nat.beq pc 0 then some (.iconst 0, 1, 0, 0) else none) else (fun pc => bif Nat.beq pc 1 then some (.istore_n 2, 2, 0, 0) else none)) pc) else (fun pc => (bif Nat.ble pc 2 then (fun pc => bif Nat.beq pc 2 then some (.iconst 0, 3, 0, 0) else none) else (fun pc => (bif Nat.ble pc 3 then (fun pc => bif Nat.beq pc 3 then some (.istore_n 3, 4, 0, 0) else none) else (fun pc => bif Nat.beq pc 4 then some (.iload_n 3, 5, 0, 0) else none)) pc)) pc)) pc) else (fun pc => (bif Nat.ble pc 9 then (fun pc => (bif Nat.ble pc 5 then (fun pc => bif Nat.beq pc 5 then some (.aload_n 1, 6, 0, 0) else none) else (fun pc => (bif Nat.ble pc 6 then (fun pc => bif Nat.beq pc 6 then some (.getfield 35, 9, 5, 1) else none) else (fun pc => bif Nat.beq pc 9 then some (.getfield 41, 12, 5, 5) else none)) pc)) pc) else (fun pc => (bif Nat.ble pc 12 then (fun pc => bif Nat.beq pc 12 then some (.if_icmp .ge 39, 15, 51, 0) else none) else (fun pc => (bif Nat.ble pc 51 then (fun pc => bif Nat.beq pc 51 then some (.iload_n 2, 52, 0, 0) else none) else (fun pc => bif Nat.beq pc 52 then some (.ireturn, 53, 0, 0) else none)) pc)) pc)) pc)) pc
/-- PackWeeks$Stand.hasHungryCrew(LPackWeeks$Pack;)Z -/
def kc_153 : Nat → Option en_I := fun pc => (bif Nat.ble pc 3 then (fun pc => (bif Nat.ble pc 1 then (fun pc => (bif Nat.ble pc 0 then (fun pc => bif Nat.beq pc 0 then some (.iconst 0, 1, 0, 0) else none) else (fun pc => bif Nat.beq pc 1 then some (.istore_n 2, 2, 0, 0) else none)) pc) else (fun pc => (bif Nat.ble pc 2 then (fun pc => bif Nat.beq pc 2 then some (.iload_n 2, 3, 0, 0) else none) else (fun pc => bif Nat.beq pc 3 then some (.aload_n 1, 4, 0, 0) else none)) pc)) pc) else (fun pc => (bif Nat.ble pc 7 then (fun pc => (bif Nat.ble pc 4 then (fun pc => bif Nat.beq pc 4 then some (.getfield 49, 7, 7, 1) else none) else (fun pc => bif Nat.beq pc 7 then some (.getfield 41, 10, 5, 5) else none)) pc) else (fun pc => (bif Nat.ble pc 10 then (fun pc => bif Nat.beq pc 10 then some (.if_icmp .ge 20, 13, 30, 0) else none) else (fun pc => (bif Nat.ble pc 30 then (fun pc => bif Nat.beq pc 30 then some (.iconst 0, 31, 0, 0) else none) else (fun pc => bif Nat.beq pc 31 then some (.ireturn, 32, 1, 0) else none)) pc)) pc)) pc)) pc
/-- PackWeeks.feed(JJJ)I -/
def kc_154 : Nat → Option en_I := fun pc => (bif Nat.ble pc 13 then (fun pc => (bif Nat.ble pc 5 then (fun pc => (bif Nat.ble pc 1 then (fun pc => (bif Nat.ble pc 0 then (fun pc => bif Nat.beq pc 0 then some (.aload_n 0, 1, 0, 0) else none) else (fun pc => bif Nat.beq pc 1 then some (.getfield 10, 4, 0, 9) else none)) pc) else (fun pc => (bif Nat.ble pc 4 then (fun pc => bif Nat.beq pc 4 then some (.lload_n 1, 5, 0, 0) else none) else (fun pc => bif Nat.beq pc 5 then some (.invokevirtual 93, 8, 155, 130) else none)) pc)) pc) else (fun pc => (bif Nat.ble pc 9 then (fun pc => (bif Nat.ble pc 8 then (fun pc => bif Nat.beq pc 8 then some (.aload_n 0, 9, 0, 0) else none) else (fun pc => bif Nat.beq pc 9 then some (.getfield 10, 12, 0, 9) else none)) pc) else (fun pc => (bif Nat.ble pc 12 then (fun pc => bif Nat.beq pc 12 then some (.lload_n 3, 13, 0, 0) else none) else (fun pc => bif Nat.beq pc 13 then some (.invokevirtual 93, 16, 155, 130) else none)) pc)) pc)) pc) else (fun pc => (bif Nat.ble pc 22 then (fun pc => (bif Nat.ble pc 17 then (fun pc => (bif Nat.ble pc 16 then (fun pc => bif Nat.beq pc 16 then some (.aload_n 0, 17, 0, 0) else none) else (fun pc => bif Nat.beq pc 17 then some (.getfield 10, 20, 0, 9) else none)) pc) else (fun pc => (bif Nat.ble pc 20 then (fun pc => bif Nat.beq pc 20 then some (.lload 5, 22, 0, 0) else none) else (fun pc => bif Nat.beq pc 22 then some (.invokevirtual 93, 25, 155, 130) else none)) pc)) pc) else (fun pc => (bif Nat.ble pc 26 then (fun pc => (bif Nat.ble pc 25 then (fun pc => bif Nat.beq pc 25 then some (.aload_n 0, 26, 0, 0) else none) else (fun pc => bif Nat.beq pc 26 then some (.getfield 10, 29, 0, 9) else none)) pc) else (fun pc => (bif Nat.ble pc 29 then (fun pc => bif Nat.beq pc 29 then some (.getfield 97, 32, 0, 8) else none) else (fun pc => bif Nat.beq pc 32 then some (.ireturn, 33, 0, 0) else none)) pc)) pc)) pc)) pc
/-- PackWeeks$Tape.put(J)V -/
def kc_155 : Nat → Option en_I := fun pc => (bif Nat.ble pc 36 then (fun pc => (bif Nat.ble pc 14 then (fun pc => (bif Nat.ble pc 7 then (fun pc => (bif Nat.ble pc 2 then (fun pc => (bif Nat.ble pc 0 then (fun pc => bif Nat.beq pc 0 then some (.bipush 56, 2, 56, 0) else none) else (fun pc => bif Nat.beq pc 2 then some (.istore_n 3, 3, 0, 0) else none)) pc) else (fun pc => (bif Nat.ble pc 3 then (fun pc => bif Nat.beq pc 3 then some (.iload_n 3, 4, 0, 0) else none) else (fun pc => (bif Nat.ble pc 4 then (fun pc => bif Nat.beq pc 4 then some (.ifCond .lt 72, 7, 76, 0) else none) else (fun pc => bif Nat.beq pc 7 then some (.lload_n 1, 8, 0, 0) else none)) pc)) pc)) pc) else (fun pc => (bif Nat.ble pc 9 then (fun pc => (bif Nat.ble pc 8 then (fun pc => bif Nat.beq pc 8 then some (.iload_n 3, 9, 0, 0) else none) else (fun pc => bif Nat.beq pc 9 then some (.lshr, 10, 0, 0) else none)) pc) else (fun pc => (bif Nat.ble pc 10 then (fun pc => bif Nat.beq pc 10 then some (.ldc2_w 32, 13, 255, 0) else none) else (fun pc => (bif Nat.ble pc 13 then (fun pc => bif Nat.beq pc 13 then some (.land, 14, 0, 0) else none) else (fun pc => bif Nat.beq pc 14 then some (.l2i, 15, 0, 0) else none)) pc)) pc)) pc)) pc) else (fun pc => (bif Nat.ble pc 24 then (fun pc => (bif Nat.ble pc 17 then (fun pc => (bif Nat.ble pc 15 then (fun pc => bif Nat.beq pc 15 then some (.istore 4, 17, 0, 0) else none) else (fun pc => bif Nat.beq pc 17 then some (.aload_n 0, 18, 0, 0) else none)) pc) else (fun pc => (bif Nat.ble pc 18 then (fun pc => bif Nat.beq pc 18 then some (.getfield 34, 21, 0, 8) else none) else (fun pc => (bif Nat.ble pc 21 then (fun pc => bif Nat.beq pc 21 then some (.sipush 1000, 24, 1000, 0) else none) else (fun pc => bif Nat.beq pc 24 then some (.if_icmp .ge 46, 27, 70, 0) else none)) pc)) pc)) pc) else (fun pc => (bif Nat.ble pc 29 then (fun pc => (bif Nat.ble pc 27 then (fun pc => bif Nat.beq pc 27 then some (.iload 4, 29, 0, 0) else none) else (fun pc => bif Nat.beq pc 29 then some (.bipush 10, 31, 10, 0) else none)) pc) else (fun pc => (bif Nat.ble pc 31 then (fun pc => bif Nat.beq pc 31 then some (.if_icmp .eq 17, 34, 48, 0) else none) else (fun pc => (bif Nat.ble pc 34 then (fun pc => bif Nat.beq pc 34 then some (.iload 4, 36, 0, 0) else none) else (fun pc => bif Nat.beq pc 36 then some (.bipush 32, 38, 32, 0) else none)) pc)) pc)) pc)) pc)) pc) else (fun pc => (bif Nat.ble pc 58 then (fun pc => (bif Nat.ble pc 48 then (fun pc => (bif Nat.ble pc 41 then (fun pc => (bif Nat.ble pc 38 then (fun pc => bif Nat.beq pc 38 then some (.if_icmp .lt 32, 41, 70, 0) else none) else (fun pc => bif Nat.beq pc 41 then some (.iload 4, 43, 0, 0) else none)) pc) else (fun pc => (bif Nat.ble pc 43 then (fun pc => bif Nat.beq pc 43 then some (.bipush 126, 45, 126, 0) else none) else (fun pc => (bif Nat.ble pc 45 then (fun pc => bif Nat.beq pc 45 then some (.if_icmp .gt 25, 48, 70, 0) else none) else (fun pc => bif Nat.beq pc 48 then some (.aload_n 0, 49, 0, 0) else none)) pc)) pc)) pc) else (fun pc => (bif Nat.ble pc 52 then (fun pc => (bif Nat.ble pc 49 then (fun pc => bif Nat.beq pc 49 then some (.getfield 9, 52, 2, 8) else none) else (fun pc => bif Nat.beq pc 52 then some (.aload_n 0, 53, 0, 0) else none)) pc) else (fun pc => (bif Nat.ble pc 53 then (fun pc => bif Nat.beq pc 53 then some (.getfield 34, 56, 0, 8) else none) else (fun pc => (bif Nat.ble pc 56 then (fun pc => bif Nat.beq pc 56 then some (.iload 4, 58, 0, 0) else none) else (fun pc => bif Nat.beq pc 58 then some (.i2b, 59, 0, 0) else none)) pc)) pc)) pc)) pc) else (fun pc => (bif Nat.ble pc 65 then (fun pc => (bif Nat.ble pc 60 then (fun pc => (bif Nat.ble pc 59 then (fun pc => bif Nat.beq pc 59 then some (.bastore, 60, 0, 0) else none) else (fun pc => bif Nat.beq pc 60 then some (.aload_n 0, 61, 0, 0) else none)) pc) else (fun pc => (bif Nat.ble pc 61 then (fun pc => bif Nat.beq pc 61 then some (.dup, 62, 0, 0) else none) else (fun pc => (bif Nat.ble pc 62 then (fun pc => bif Nat.beq pc 62 then some (.getfield 34, 65, 0, 8) else none) else (fun pc => bif Nat.beq pc 65 then some (.iconst 1, 66, 1, 0) else none)) pc)) pc)) pc) else (fun pc => (bif Nat.ble pc 67 then (fun pc => (bif Nat.ble pc 66 then (fun pc => bif Nat.beq pc 66 then some (.iadd, 67, 0, 0) else none) else (fun pc => bif Nat.beq pc 67 then some (.putfield 34, 70, 0, 8) else none)) pc) else (fun pc => (bif Nat.ble pc 70 then (fun pc => bif Nat.beq pc 70 then some (.iinc 3 (-8), 73, 4294967288, 0) else none) else (fun pc => (bif Nat.ble pc 73 then (fun pc => bif Nat.beq pc 73 then some (.goto (-70), 76, 3, 0) else none) else (fun pc => bif Nat.beq pc 76 then some (.return_, 77, 0, 0) else none)) pc)) pc)) pc)) pc)) pc)) pc
/-- PackWeeksModel.feed(JJJ)I -/
def kc_156 : Nat → Option en_I := fun pc => (bif Nat.ble pc 10 then (fun pc => (bif Nat.ble pc 2 then (fun pc => (bif Nat.ble pc 0 then (fun pc => bif Nat.beq pc 0 then some (.aload_n 0, 1, 0, 0) else none) else (fun pc => (bif Nat.ble pc 1 then (fun pc => bif Nat.beq pc 1 then some (.iconst 0, 2, 0, 0) else none) else (fun pc => bif Nat.beq pc 2 then some (.putfield 1, 5, 0, 10) else none)) pc)) pc) else (fun pc => (bif Nat.ble pc 6 then (fun pc => (bif Nat.ble pc 5 then (fun pc => bif Nat.beq pc 5 then some (.aload_n 0, 6, 0, 0) else none) else (fun pc => bif Nat.beq pc 6 then some (.lload_n 1, 7, 0, 0) else none)) pc) else (fun pc => (bif Nat.ble pc 7 then (fun pc => bif Nat.beq pc 7 then some (.invokevirtual 7, 10, 157, 162) else none) else (fun pc => bif Nat.beq pc 10 then some (.aload_n 0, 11, 0, 0) else none)) pc)) pc)) pc) else (fun pc => (bif Nat.ble pc 16 then (fun pc => (bif Nat.ble pc 12 then (fun pc => (bif Nat.ble pc 11 then (fun pc => bif Nat.beq pc 11 then some (.lload_n 3, 12, 0, 0) else none) else (fun pc => bif Nat.beq pc 12 then some (.invokevirtual 7, 15, 157, 162) else none)) pc) else (fun pc => (bif Nat.ble pc 15 then (fun pc => bif Nat.beq pc 15 then some (.aload_n 0, 16, 0, 0) else none) else (fun pc => bif Nat.beq pc 16 then some (.lload 5, 18, 0, 0) else none)) pc)) pc) else (fun pc => (bif Nat.ble pc 21 then (fun pc => (bif Nat.ble pc 18 then (fun pc => bif Nat.beq pc 18 then some (.invokevirtual 7, 21, 157, 162) else none) else (fun pc => bif Nat.beq pc 21 then some (.aload_n 0, 22, 0, 0) else none)) pc) else (fun pc => (bif Nat.ble pc 22 then (fun pc => bif Nat.beq pc 22 then some (.getfield 11, 25, 2, 10) else none) else (fun pc => bif Nat.beq pc 25 then some (.ireturn, 26, 0, 0) else none)) pc)) pc)) pc)) pc
/-- PackWeeksModel.lay(J)V -/
def kc_157 : Nat → Option en_I := fun pc => (bif Nat.ble pc 33 then (fun pc => (bif Nat.ble pc 11 then (fun pc => (bif Nat.ble pc 4 then (fun pc => (bif Nat.ble pc 2 then (fun pc => (bif Nat.ble pc 0 then (fun pc => bif Nat.beq pc 0 then some (.bipush 56, 2, 56, 0) else none) else (fun pc => bif Nat.beq pc 2 then some (.istore_n 3, 3, 0, 0) else none)) pc) else (fun pc => (bif Nat.ble pc 3 then (fun pc => bif Nat.beq pc 3 then some (.iload_n 3, 4, 0, 0) else none) else (fun pc => bif Nat.beq pc 4 then some (.ifCond .lt 71, 7, 75, 0) else none)) pc)) pc) else (fun pc => (bif Nat.ble pc 8 then (fun pc => (bif Nat.ble pc 7 then (fun pc => bif Nat.beq pc 7 then some (.lload_n 1, 8, 0, 0) else none) else (fun pc => bif Nat.beq pc 8 then some (.iload_n 3, 9, 0, 0) else none)) pc) else (fun pc => (bif Nat.ble pc 9 then (fun pc => bif Nat.beq pc 9 then some (.lshr, 10, 0, 0) else none) else (fun pc => (bif Nat.ble pc 10 then (fun pc => bif Nat.beq pc 10 then some (.l2i, 11, 0, 0) else none) else (fun pc => bif Nat.beq pc 11 then some (.sipush 255, 14, 255, 0) else none)) pc)) pc)) pc)) pc) else (fun pc => (bif Nat.ble pc 21 then (fun pc => (bif Nat.ble pc 15 then (fun pc => (bif Nat.ble pc 14 then (fun pc => bif Nat.beq pc 14 then some (.iand, 15, 0, 0) else none) else (fun pc => bif Nat.beq pc 15 then some (.istore 4, 17, 0, 0) else none)) pc) else (fun pc => (bif Nat.ble pc 17 then (fun pc => bif Nat.beq pc 17 then some (.iload 4, 19, 0, 0) else none) else (fun pc => (bif Nat.ble pc 19 then (fun pc => bif Nat.beq pc 19 then some (.bipush 10, 21, 10, 0) else none) else (fun pc => bif Nat.beq pc 21 then some (.if_icmp .eq 17, 24, 38, 0) else none)) pc)) pc)) pc) else (fun pc => (bif Nat.ble pc 26 then (fun pc => (bif Nat.ble pc 24 then (fun pc => bif Nat.beq pc 24 then some (.iload 4, 26, 0, 0) else none) else (fun pc => bif Nat.beq pc 26 then some (.bipush 32, 28, 32, 0) else none)) pc) else (fun pc => (bif Nat.ble pc 28 then (fun pc => bif Nat.beq pc 28 then some (.if_icmp .lt 41, 31, 69, 0) else none) else (fun pc => (bif Nat.ble pc 31 then (fun pc => bif Nat.beq pc 31 then some (.iload 4, 33, 0, 0) else none) else (fun pc => bif Nat.beq pc 33 then some (.bipush 126, 35, 126, 0) else none)) pc)) pc)) pc)) pc)) pc) else (fun pc => (bif Nat.ble pc 56 then (fun pc => (bif Nat.ble pc 45 then (fun pc => (bif Nat.ble pc 38 then (fun pc => (bif Nat.ble pc 35 then (fun pc => bif Nat.beq pc 35 then some (.if_icmp .gt 34, 38, 69, 0) else none) else (fun pc => bif Nat.beq pc 38 then some (.aload_n 0, 39, 0, 0) else none)) pc) else (fun pc => (bif Nat.ble pc 39 then (fun pc => bif Nat.beq pc 39 then some (.getfield 11, 42, 2, 10) else none) else (fun pc => (bif Nat.ble pc 42 then (fun pc => bif Nat.beq pc 42 then some (.sipush 1000, 45, 1000, 0) else none) else (fun pc => bif Nat.beq pc 45 then some (.if_icmp .ge 24, 48, 69, 0) else none)) pc)) pc)) pc) else (fun pc => (bif Nat.ble pc 49 then (fun pc => (bif Nat.ble pc 48 then (fun pc => bif Nat.beq pc 48 then some (.aload_n 0, 49, 0, 0) else none) else (fun pc => bif Nat.beq pc 49 then some (.getfield 14, 52, 1, 10) else none)) pc) else (fun pc => (bif Nat.ble pc 52 then (fun pc => bif Nat.beq pc 52 then some (.aload_n 0, 53, 0, 0) else none) else (fun pc => (bif Nat.ble pc 53 then (fun pc => bif Nat.beq pc 53 then some (.getfield 11, 56, 2, 10) else none) else (fun pc => bif Nat.beq pc 56 then some (.iload 4, 58, 0, 0) else none)) pc)) pc)) pc)) pc) else (fun pc => (bif Nat.ble pc 64 then (fun pc => (bif Nat.ble pc 59 then (fun pc => (bif Nat.ble pc 58 then (fun pc => bif Nat.beq pc 58 then some (.iastore, 59, 0, 0) else none) else (fun pc => bif Nat.beq pc 59 then some (.aload_n 0, 60, 0, 0) else none)) pc) else (fun pc => (bif Nat.ble pc 60 then (fun pc => bif Nat.beq pc 60 then some (.dup, 61, 0, 0) else none) else (fun pc => (bif Nat.ble pc 61 then (fun pc => bif Nat.beq pc 61 then some (.getfield 11, 64, 2, 10) else none) else (fun pc => bif Nat.beq pc 64 then some (.iconst 1, 65, 1, 0) else none)) pc)) pc)) pc) else (fun pc => (bif Nat.ble pc 66 then (fun pc => (bif Nat.ble pc 65 then (fun pc => bif Nat.beq pc 65 then some (.iadd, 66, 0, 0) else none) else (fun pc => bif Nat.beq pc 66 then some (.putfield 11, 69, 2, 10) else none)) pc) else (fun pc => (bif Nat.ble pc 69 then (fun pc => bif Nat.beq pc 69 then some (.iinc 3 (-8), 72, 4294967288, 0) else none) else (fun pc => (bif Nat.ble pc 72 then (fun pc => bif Nat.beq pc 72 then some (.goto (-69), 75, 3, 0) else none) else (fun pc => bif Nat.beq pc 75 then some (.return_, 76, 0, 0) else none)) pc)) pc)) pc)) pc)) pc)) pc
/-- PackWeeks.thing(II)I -/
def kc_158 : Nat → Option en_I := fun pc => (bif Nat.ble pc 4 then (fun pc => (bif Nat.ble pc 0 then (fun pc => bif Nat.beq pc 0 then some (.aload_n 0, 1, 0, 0) else none) else (fun pc => (bif Nat.ble pc 1 then (fun pc => bif Nat.beq pc 1 then some (.getfield 71, 4, 10, 9) else none) else (fun pc => bif Nat.beq pc 4 then some (.getfield 136, 7, 5, 1) else none)) pc)) pc) else (fun pc => (bif Nat.ble pc 7 then (fun pc => bif Nat.beq pc 7 then some (.iload_n 1, 8, 0, 0) else none) else (fun pc => (bif Nat.ble pc 8 then (fun pc => bif Nat.beq pc 8 then some (.invokevirtual 139, 11, 23, 82) else none) else (fun pc => bif Nat.beq pc 11 then some (.ifCond .eq 12, 14, 23, 0) else none)) pc)) pc)) pc
/-- PackWeeksModel.thing(II)I -/
def kc_159 : Nat → Option en_I := fun pc => (bif Nat.ble pc 22 then (fun pc => (bif Nat.ble pc 2 then (fun pc => (bif Nat.ble pc 0 then (fun pc => bif Nat.beq pc 0 then some (.aload_n 0, 1, 0, 0) else none) else (fun pc => (bif Nat.ble pc 1 then (fun pc => bif Nat.beq pc 1 then some (.aload_n 0, 2, 0, 0) else none) else (fun pc => bif Nat.beq pc 2 then some (.iload_n 1, 3, 0, 0) else none)) pc)) pc) else (fun pc => (bif Nat.ble pc 3 then (fun pc => bif Nat.beq pc 3 then some (.invokevirtual 387, 6, 92, 162) else none) else (fun pc => (bif Nat.ble pc 6 then (fun pc => bif Nat.beq pc 6 then some (.ifCond .eq 16, 9, 22, 0) else none) else (fun pc => bif Nat.beq pc 22 then some (.iconst 1, 23, 1, 0) else none)) pc)) pc)) pc) else (fun pc => (bif Nat.ble pc 27 then (fun pc => (bif Nat.ble pc 23 then (fun pc => bif Nat.beq pc 23 then some (.putfield 1, 26, 0, 10) else none) else (fun pc => (bif Nat.ble pc 26 then (fun pc => bif Nat.beq pc 26 then some (.aload_n 0, 27, 0, 0) else none) else (fun pc => bif Nat.beq pc 27 then some (.getfield 1, 30, 0, 10) else none)) pc)) pc) else (fun pc => (bif Nat.ble pc 30 then (fun pc => bif Nat.beq pc 30 then some (.ifCond .le 5, 33, 35, 0) else none) else (fun pc => (bif Nat.ble pc 33 then (fun pc => bif Nat.beq pc 33 then some (.iconst 0, 34, 0, 0) else none) else (fun pc => bif Nat.beq pc 34 then some (.ireturn, 35, 0, 0) else none)) pc)) pc)) pc)) pc
/-- PackWeeks.crew(II)I -/
def kc_160 : Nat → Option en_I := fun pc => (bif Nat.ble pc 4 then (fun pc => (bif Nat.ble pc 0 then (fun pc => bif Nat.beq pc 0 then some (.aload_n 0, 1, 0, 0) else none) else (fun pc => (bif Nat.ble pc 1 then (fun pc => bif Nat.beq pc 1 then some (.getfield 71, 4, 10, 9) else none) else (fun pc => bif Nat.beq pc 4 then some (.getfield 166, 7, 7, 1) else none)) pc)) pc) else (fun pc => (bif Nat.ble pc 7 then (fun pc => bif Nat.beq pc 7 then some (.iload_n 1, 8, 0, 0) else none) else (fun pc => (bif Nat.ble pc 8 then (fun pc => bif Nat.beq pc 8 then some (.invokevirtual 139, 11, 23, 82) else none) else (fun pc => bif Nat.beq pc 11 then some (.ifCond .eq 13, 14, 24, 0) else none)) pc)) pc)) pc
/-- PackWeeksModel.crew(II)I -/
def kc_161 : Nat → Option en_I := fun pc => (bif Nat.ble pc 23 then (fun pc => (bif Nat.ble pc 2 then (fun pc => (bif Nat.ble pc 0 then (fun pc => bif Nat.beq pc 0 then some (.aload_n 0, 1, 0, 0) else none) else (fun pc => (bif Nat.ble pc 1 then (fun pc => bif Nat.beq pc 1 then some (.aload_n 0, 2, 0, 0) else none) else (fun pc => bif Nat.beq pc 2 then some (.iload_n 1, 3, 0, 0) else none)) pc)) pc) else (fun pc => (bif Nat.ble pc 3 then (fun pc => bif Nat.beq pc 3 then some (.invokevirtual 396, 6, 79, 162) else none) else (fun pc => (bif Nat.ble pc 6 then (fun pc => bif Nat.beq pc 6 then some (.ifCond .eq 17, 9, 23, 0) else none) else (fun pc => bif Nat.beq pc 23 then some (.iconst 1, 24, 1, 0) else none)) pc)) pc)) pc) else (fun pc => (bif Nat.ble pc 28 then (fun pc => (bif Nat.ble pc 24 then (fun pc => bif Nat.beq pc 24 then some (.putfield 1, 27, 0, 10) else none) else (fun pc => (bif Nat.ble pc 27 then (fun pc => bif Nat.beq pc 27 then some (.aload_n 0, 28, 0, 0) else none) else (fun pc => bif Nat.beq pc 28 then some (.getfield 1, 31, 0, 10) else none)) pc)) pc) else (fun pc => (bif Nat.ble pc 31 then (fun pc => bif Nat.beq pc 31 then some (.ifCond .le 5, 34, 36, 0) else none) else (fun pc => (bif Nat.ble pc 34 then (fun pc => bif Nat.beq pc 34 then some (.iconst 0, 35, 0, 0) else none) else (fun pc => bif Nat.beq pc 35 then some (.ireturn, 36, 0, 0) else none)) pc)) pc)) pc)) pc
/-- PackWeeks.share()I -/
def kc_162 : Nat → Option en_I := fun pc => (bif Nat.ble pc 4 then (fun pc => (bif Nat.ble pc 0 then (fun pc => bif Nat.beq pc 0 then some (.aload_n 0, 1, 0, 0) else none) else (fun pc => (bif Nat.ble pc 1 then (fun pc => bif Nat.beq pc 1 then some (.getfield 71, 4, 10, 9) else none) else (fun pc => bif Nat.beq pc 4 then some (.getfield 166, 7, 7, 1) else none)) pc)) pc) else (fun pc => (bif Nat.ble pc 7 then (fun pc => bif Nat.beq pc 7 then some (.getfield 202, 10, 5, 5) else none) else (fun pc => (bif Nat.ble pc 10 then (fun pc => bif Nat.beq pc 10 then some (.iconst 2, 11, 2, 0) else none) else (fun pc => bif Nat.beq pc 11 then some (.if_icmp .eq 13, 14, 24, 0) else none)) pc)) pc)) pc
/-- PackWeeksModel.share()I -/
def kc_163 : Nat → Option en_I := fun pc => (bif Nat.ble pc 13 then (fun pc => (bif Nat.ble pc 2 then (fun pc => (bif Nat.ble pc 0 then (fun pc => bif Nat.beq pc 0 then some (.aload_n 0, 1, 0, 0) else none) else (fun pc => (bif Nat.ble pc 1 then (fun pc => bif Nat.beq pc 1 then some (.aload_n 0, 2, 0, 0) else none) else (fun pc => bif Nat.beq pc 2 then some (.invokevirtual 374, 5, 75, 161) else none)) pc)) pc) else (fun pc => (bif Nat.ble pc 5 then (fun pc => bif Nat.beq pc 5 then some (.iconst 2, 6, 2, 0) else none) else (fun pc => (bif Nat.ble pc 6 then (fun pc => bif Nat.beq pc 6 then some (.if_icmp .ne 7, 9, 13, 0) else none) else (fun pc => bif Nat.beq pc 13 then some (.iconst 1, 14, 1, 0) else none)) pc)) pc)) pc) else (fun pc => (bif Nat.ble pc 18 then (fun pc => (bif Nat.ble pc 14 then (fun pc => bif Nat.beq pc 14 then some (.putfield 1, 17, 0, 10) else none) else (fun pc => (bif Nat.ble pc 17 then (fun pc => bif Nat.beq pc 17 then some (.aload_n 0, 18, 0, 0) else none) else (fun pc => bif Nat.beq pc 18 then some (.getfield 1, 21, 0, 10) else none)) pc)) pc) else (fun pc => (bif Nat.ble pc 21 then (fun pc => bif Nat.beq pc 21 then some (.ifCond .le 5, 24, 26, 0) else none) else (fun pc => (bif Nat.ble pc 24 then (fun pc => bif Nat.beq pc 24 then some (.iconst 0, 25, 0, 0) else none) else (fun pc => bif Nat.beq pc 25 then some (.ireturn, 26, 0, 0) else none)) pc)) pc)) pc)) pc
/-- PackWeeksModel.thrown()I -/
def kc_164 : Nat → Option en_I := fun pc => (bif Nat.ble pc 0 then (fun pc => bif Nat.beq pc 0 then some (.aload_n 0, 1, 0, 0) else none) else (fun pc => (bif Nat.ble pc 1 then (fun pc => bif Nat.beq pc 1 then some (.getfield 1, 4, 0, 10) else none) else (fun pc => bif Nat.beq pc 4 then some (.ireturn, 5, 0, 0) else none)) pc)) pc
/-- the law itself (its calls of its own methods are left out) -/
def kc_law : Nat → Option en_I := fun pc => (bif Nat.ble pc 747 then (fun pc => (bif Nat.ble pc 434 then (fun pc => (bif Nat.ble pc 281 then (fun pc => (bif Nat.ble pc 210 then (fun pc => (bif Nat.ble pc 176 then (fun pc => (bif Nat.ble pc 21 then (fun pc => (bif Nat.ble pc 11 then (fun pc => (bif Nat.ble pc 4 then (fun pc => (bif Nat.ble pc 0 then (fun pc => bif Nat.beq pc 0 then some (.new 8, 3, 9, 0) else none) else (fun pc => (bif Nat.ble pc 3 then (fun pc => bif Nat.beq pc 3 then some (.dup, 4, 0, 0) else none) else (fun pc => bif Nat.beq pc 4 then some (.invokespecial 22, 7, 0, 1) else none)) pc)) pc) else (fun pc => (bif Nat.ble pc 7 then (fun pc => bif Nat.beq pc 7 then some (.astore_n 1, 8, 0, 0) else none) else (fun pc => (bif Nat.ble pc 8 then (fun pc => bif Nat.beq pc 8 then some (.new 23, 11, 10, 0) else none) else (fun pc => bif Nat.beq pc 11 then some (.dup, 12, 0, 0) else none)) pc)) pc)) pc) else (fun pc => (bif Nat.ble pc 16 then (fun pc => (bif Nat.ble pc 12 then (fun pc => bif Nat.beq pc 12 then some (.invokespecial 25, 15, 25, 1) else none) else (fun pc => (bif Nat.ble pc 15 then (fun pc => bif Nat.beq pc 15 then some (.astore_n 2, 16, 0, 0) else none) else (fun pc => bif Nat.beq pc 16 then some (.iconst 1, 17, 1, 0) else none)) pc)) pc) else (fun pc => (bif Nat.ble pc 19 then (fun pc => (bif Nat.ble pc 17 then (fun pc => bif Nat.beq pc 17 then some (.newarray .long, 19, 3, 0) else none) else (fun pc => bif Nat.beq pc 19 then some (.astore_n 3, 20, 0, 0) else none)) pc) else (fun pc => (bif Nat.ble pc 20 then (fun pc => bif Nat.beq pc 20 then some (.iconst 0, 21, 0, 0) else none) else (fun pc => bif Nat.beq pc 21 then some (.istore 4, 23, 0, 0) else none)) pc)) pc)) pc)) pc) else (fun pc => (bif Nat.ble pc 30 then (fun pc => (bif Nat.ble pc 26 then (fun pc => (bif Nat.ble pc 23 then (fun pc => bif Nat.beq pc 23 then some (.iload 4, 25, 0, 0) else none) else (fun pc => (bif Nat.ble pc 25 then (fun pc => bif Nat.beq pc 25 then some (.aload_n 0, 26, 0, 0) else none) else (fun pc => bif Nat.beq pc 26 then some (.arraylength, 27, 0, 0) else none)) pc)) pc) else (fun pc => (bif Nat.ble pc 27 then (fun pc => bif Nat.beq pc 27 then some (.bipush 7, 29, 7, 0) else none) else (fun pc => (bif Nat.ble pc 29 then (fun pc => bif Nat.beq pc 29 then some (.isub, 30, 0, 0) else none) else (fun pc => bif Nat.beq pc 30 then some (.if_icmp .gt 1326, 33, 1356, 0) else none)) pc)) pc)) pc) else (fun pc => (bif Nat.ble pc 36 then (fun pc => (bif Nat.ble pc 33 then (fun pc => bif Nat.beq pc 33 then some (.aload_n 0, 34, 0, 0) else none) else (fun pc => (bif Nat.ble pc 34 then (fun pc => bif Nat.beq pc 34 then some (.iload 4, 36, 0, 0) else none) else (fun pc => bif Nat.beq pc 36 then some (.iaload, 37, 0, 0) else none)) pc)) pc) else (fun pc => (bif Nat.ble pc 39 then (fun pc => (bif Nat.ble pc 37 then (fun pc => bif Nat.beq pc 37 then some (.bipush 31, 39, 31, 0) else none) else (fun pc => bif Nat.beq pc 39 then some (.iand, 40, 0, 0) else none)) pc) else (fun pc => (bif Nat.ble pc 40 then (fun pc => bif Nat.beq pc 40 then some (.tableswitch 1310 0 29 #[136, 283, 296, 309, 346, 395, 463, 531, 556, 605, 642, 667, 680, 705, 742, 779, 828, 865, 914, 928, 941, 966, 1010, 1047, 1096, 1133, 1158, 1183, 1232, 1285], 176, 0, 0) else none) else (fun pc => bif Nat.beq pc 176 then some (.aload_n 1, 177, 0, 0) else none)) pc)) pc)) pc)) pc)) pc) else (fun pc => (bif Nat.ble pc 192 then (fun pc => (bif Nat.ble pc 183 then (fun pc => (bif Nat.ble pc 180 then (fun pc => (bif Nat.ble pc 177 then (fun pc => bif Nat.beq pc 177 then some (.aload_n 0, 178, 0, 0) else none) else (fun pc => (bif Nat.ble pc 178 then (fun pc => bif Nat.beq pc 178 then some (.iload 4, 180, 0, 0) else none) else (fun pc => bif Nat.beq pc 180 then some (.iconst 1, 181, 1, 0) else none)) pc)) pc) else (fun pc => (bif Nat.ble pc 181 then (fun pc => bif Nat.beq pc 181 then some (.iadd, 182, 0, 0) else none) else (fun pc => (bif Nat.ble pc 182 then (fun pc => bif Nat.beq pc 182 then some (.iaload, 183, 0, 0) else none) else (fun pc => bif Nat.beq pc 183 then some (.i2l, 184, 0, 0) else none)) pc)) pc)) pc) else (fun pc => (bif Nat.ble pc 187 then (fun pc => (bif Nat.ble pc 184 then (fun pc => bif Nat.beq pc 184 then some (.bipush 32, 186, 32, 0) else none) else (fun pc => (bif Nat.ble pc 186 then (fun pc => bif Nat.beq pc 186 then some (.lshl, 187, 0, 0) else none) else (fun pc => bif Nat.beq pc 187 then some (.aload_n 0, 188, 0, 0) else none)) pc)) pc) else (fun pc => (bif Nat.ble pc 190 then (fun pc => (bif Nat.ble pc 188 then (fun pc => bif Nat.beq pc 188 then some (.iload 4, 190, 0, 0) else none) else (fun pc => bif Nat.beq pc 190 then some (.iconst 2, 191, 2, 0) else none)) pc) else (fun pc => (bif Nat.ble pc 191 then (fun pc => bif Nat.beq pc 191 then some (.iadd, 192, 0, 0) else none) else (fun pc => bif Nat.beq pc 192 then some (.iaload, 193, 0, 0) else none)) pc)) pc)) pc)) pc) else (fun pc => (bif Nat.ble pc 202 then (fun pc => (bif Nat.ble pc 197 then (fun pc => (bif Nat.ble pc 193 then (fun pc => bif Nat.beq pc 193 then some (.i2l, 194, 0, 0) else none) else (fun pc => (bif Nat.ble pc 194 then (fun pc => bif Nat.beq pc 194 then some (.ldc2_w 26, 197, 4294967295, 0) else none) else (fun pc => bif Nat.beq pc 197 then some (.land, 198, 0, 0) else none)) pc)) pc) else (fun pc => (bif Nat.ble pc 199 then (fun pc => (bif Nat.ble pc 198 then (fun pc => bif Nat.beq pc 198 then some (.lor, 199, 0, 0) else none) else (fun pc => bif Nat.beq pc 199 then some (.aload_n 0, 200, 0, 0) else none)) pc) else (fun pc => (bif Nat.ble pc 200 then (fun pc => bif Nat.beq pc 200 then some (.iload 4, 202, 0, 0) else none) else (fun pc => bif Nat.beq pc 202 then some (.iconst 3, 203, 3, 0) else none)) pc)) pc)) pc) else (fun pc => (bif Nat.ble pc 205 then (fun pc => (bif Nat.ble pc 203 then (fun pc => bif Nat.beq pc 203 then some (.iadd, 204, 0, 0) else none) else (fun pc => (bif Nat.ble pc 204 then (fun pc => bif Nat.beq pc 204 then some (.iaload, 205, 0, 0) else none) else (fun pc => bif Nat.beq pc 205 then some (.i2l, 206, 0, 0) else none)) pc)) pc) else (fun pc => (bif Nat.ble pc 208 then (fun pc => (bif Nat.ble pc 206 then (fun pc => bif Nat.beq pc 206 then some (.bipush 32, 208, 32, 0) else none) else (fun pc => bif Nat.beq pc 208 then some (.lshl, 209, 0, 0) else none)) pc) else (fun pc => (bif Nat.ble pc 209 then (fun pc => bif Nat.beq pc 209 then some (.aload_n 0, 210, 0, 0) else none) else (fun pc => bif Nat.beq pc 210 then some (.iload 4, 212, 0, 0) else none)) pc)) pc)) pc)) pc)) pc)) pc) else (fun pc => (bif Nat.ble pc 247 then (fun pc => (bif Nat.ble pc 227 then (fun pc => (bif Nat.ble pc 219 then (fun pc => (bif Nat.ble pc 214 then (fun pc => (bif Nat.ble pc 212 then (fun pc => bif Nat.beq pc 212 then some (.iconst 4, 213, 4, 0) else none) else (fun pc => (bif Nat.ble pc 213 then (fun pc => bif Nat.beq pc 213 then some (.iadd, 214, 0, 0) else none) else (fun pc => bif Nat.beq pc 214 then some (.iaload, 215, 0, 0) else none)) pc)) pc) else (fun pc => (bif Nat.ble pc 215 then (fun pc => bif Nat.beq pc 215 then some (.i2l, 216, 0, 0) else none) else (fun pc => (bif Nat.ble pc 216 then (fun pc => bif Nat.beq pc 216 then some (.ldc2_w 26, 219, 4294967295, 0) else none) else (fun pc => bif Nat.beq pc 219 then some (.land, 220, 0, 0) else none)) pc)) pc)) pc) else (fun pc => (bif Nat.ble pc 222 then (fun pc => (bif Nat.ble pc 220 then (fun pc => bif Nat.beq pc 220 then some (.lor, 221, 0, 0) else none) else (fun pc => (bif Nat.ble pc 221 then (fun pc => bif Nat.beq pc 221 then some (.aload_n 0, 222, 0, 0) else none) else (fun pc => bif Nat.beq pc 222 then some (.iload 4, 224, 0, 0) else none)) pc)) pc) else (fun pc => (bif Nat.ble pc 225 then (fun pc => (bif Nat.ble pc 224 then (fun pc => bif Nat.beq pc 224 then some (.iconst 5, 225, 5, 0) else none) else (fun pc => bif Nat.beq pc 225 then some (.iadd, 226, 0, 0) else none)) pc) else (fun pc => (bif Nat.ble pc 226 then (fun pc => bif Nat.beq pc 226 then some (.iaload, 227, 0, 0) else none) else (fun pc => bif Nat.beq pc 227 then some (.i2l, 228, 0, 0) else none)) pc)) pc)) pc)) pc) else (fun pc => (bif Nat.ble pc 236 then (fun pc => (bif Nat.ble pc 231 then (fun pc => (bif Nat.ble pc 228 then (fun pc => bif Nat.beq pc 228 then some (.bipush 32, 230, 32, 0) else none) else (fun pc => (bif Nat.ble pc 230 then (fun pc => bif Nat.beq pc 230 then some (.lshl, 231, 0, 0) else none) else (fun pc => bif Nat.beq pc 231 then some (.aload_n 0, 232, 0, 0) else none)) pc)) pc) else (fun pc => (bif Nat.ble pc 232 then (fun pc => bif Nat.beq pc 232 then some (.iload 4, 234, 0, 0) else none) else (fun pc => (bif Nat.ble pc 234 then (fun pc => bif Nat.beq pc 234 then some (.bipush 6, 236, 6, 0) else none) else (fun pc => bif Nat.beq pc 236 then some (.iadd, 237, 0, 0) else none)) pc)) pc)) pc) else (fun pc => (bif Nat.ble pc 239 then (fun pc => (bif Nat.ble pc 237 then (fun pc => bif Nat.beq pc 237 then some (.iaload, 238, 0, 0) else none) else (fun pc => (bif Nat.ble pc 238 then (fun pc => bif Nat.beq pc 238 then some (.i2l, 239, 0, 0) else none) else (fun pc => bif Nat.beq pc 239 then some (.ldc2_w 26, 242, 4294967295, 0) else none)) pc)) pc) else (fun pc => (bif Nat.ble pc 243 then (fun pc => (bif Nat.ble pc 242 then (fun pc => bif Nat.beq pc 242 then some (.land, 243, 0, 0) else none) else (fun pc => bif Nat.beq pc 243 then some (.lor, 244, 0, 0) else none)) pc) else (fun pc => (bif Nat.ble pc 244 then (fun pc => bif Nat.beq pc 244 then some (.invokevirtual 28, 247, 154, 148) else none) else (fun pc => bif Nat.beq pc 247 then some (.aload_n 2, 248, 0, 0) else none)) pc)) pc)) pc)) pc)) pc) else (fun pc => (bif Nat.ble pc 263 then (fun pc => (bif Nat.ble pc 254 then (fun pc => (bif Nat.ble pc 251 then (fun pc => (bif Nat.ble pc 248 then (fun pc => bif Nat.beq pc 248 then some (.aload_n 0, 249, 0, 0) else none) else (fun pc => (bif Nat.ble pc 249 then (fun pc => bif Nat.beq pc 249 then some (.iload 4, 251, 0, 0) else none) else (fun pc => bif Nat.beq pc 251 then some (.iconst 1, 252, 1, 0) else none)) pc)) pc) else (fun pc => (bif Nat.ble pc 252 then (fun pc => bif Nat.beq pc 252 then some (.iadd, 253, 0, 0) else none) else (fun pc => (bif Nat.ble pc 253 then (fun pc => bif Nat.beq pc 253 then some (.iaload, 254, 0, 0) else none) else (fun pc => bif Nat.beq pc 254 then some (.i2l, 255, 0, 0) else none)) pc)) pc)) pc) else (fun pc => (bif Nat.ble pc 258 then (fun pc => (bif Nat.ble pc 255 then (fun pc => bif Nat.beq pc 255 then some (.bipush 32, 257, 32, 0) else none) else (fun pc => (bif Nat.ble pc 257 then (fun pc => bif Nat.beq pc 257 then some (.lshl, 258, 0, 0) else none) else (fun pc => bif Nat.beq pc 258 then some (.aload_n 0, 259, 0, 0) else none)) pc)) pc) else (fun pc => (bif Nat.ble pc 261 then (fun pc => (bif Nat.ble pc 259 then (fun pc => bif Nat.beq pc 259 then some (.iload 4, 261, 0, 0) else none) else (fun pc => bif Nat.beq pc 261 then some (.iconst 2, 262, 2, 0) else none)) pc) else (fun pc => (bif Nat.ble pc 262 then (fun pc => bif Nat.beq pc 262 then some (.iadd, 263, 0, 0) else none) else (fun pc => bif Nat.beq pc 263 then some (.iaload, 264, 0, 0) else none)) pc)) pc)) pc)) pc) else (fun pc => (bif Nat.ble pc 273 then (fun pc => (bif Nat.ble pc 268 then (fun pc => (bif Nat.ble pc 264 then (fun pc => bif Nat.beq pc 264 then some (.i2l, 265, 0, 0) else none) else (fun pc => (bif Nat.ble pc 265 then (fun pc => bif Nat.beq pc 265 then some (.ldc2_w 26, 268, 4294967295, 0) else none) else (fun pc => bif Nat.beq pc 268 then some (.land, 269, 0, 0) else none)) pc)) pc) else (fun pc => (bif Nat.ble pc 270 then (fun pc => (bif Nat.ble pc 269 then (fun pc => bif Nat.beq pc 269 then some (.lor, 270, 0, 0) else none) else (fun pc => bif Nat.beq pc 270 then some (.aload_n 0, 271, 0, 0) else none)) pc) else (fun pc => (bif Nat.ble pc 271 then (fun pc => bif Nat.beq pc 271 then some (.iload 4, 273, 0, 0) else none) else (fun pc => bif Nat.beq pc 273 then some (.iconst 3, 274, 3, 0) else none)) pc)) pc)) pc) else (fun pc => (bif Nat.ble pc 276 then (fun pc => (bif Nat.ble pc 274 then (fun pc => bif Nat.beq pc 274 then some (.iadd, 275, 0, 0) else none) else (fun pc => (bif Nat.ble pc 275 then (fun pc => bif Nat.beq pc 275 then some (.iaload, 276, 0, 0) else none) else (fun pc => bif Nat.beq pc 276 then some (.i2l, 277, 0, 0) else none)) pc)) pc) else (fun pc => (bif Nat.ble pc 279 then (fun pc => (bif Nat.ble pc 277 then (fun pc => bif Nat.beq pc 277 then some (.bipush 32, 279, 32, 0) else none) else (fun pc => bif Nat.beq pc 279 then some (.lshl, 280, 0, 0) else none)) pc) else (fun pc => (bif Nat.ble pc 280 then (fun pc => bif Nat.beq pc 280 then some (.aload_n 0, 281, 0, 0) else none) else (fun pc => bif Nat.beq pc 281 then some (.iload 4, 283, 0, 0) else none)) pc)) pc)) pc)) pc)) pc)) pc)) pc) else (fun pc => (bif Nat.ble pc 361 then (fun pc => (bif Nat.ble pc 318 then (fun pc => (bif Nat.ble pc 298 then (fun pc => (bif Nat.ble pc 290 then (fun pc => (bif Nat.ble pc 285 then (fun pc => (bif Nat.ble pc 283 then (fun pc => bif Nat.beq pc 283 then some (.iconst 4, 284, 4, 0) else none) else (fun pc => (bif Nat.ble pc 284 then (fun pc => bif Nat.beq pc 284 then some (.iadd, 285, 0, 0) else none) else (fun pc => bif Nat.beq pc 285 then some (.iaload, 286, 0, 0) else none)) pc)) pc) else (fun pc => (bif Nat.ble pc 286 then (fun pc => bif Nat.beq pc 286 then some (.i2l, 287, 0, 0) else none) else (fun pc => (bif Nat.ble pc 287 then (fun pc => bif Nat.beq pc 287 then some (.ldc2_w 26, 290, 4294967295, 0) else none) else (fun pc => bif Nat.beq pc 290 then some (.land, 291, 0, 0) else none)) pc)) pc)) pc) else (fun pc => (bif Nat.ble pc 293 then (fun pc => (bif Nat.ble pc 291 then (fun pc => bif Nat.beq pc 291 then some (.lor, 292, 0, 0) else none) else (fun pc => (bif Nat.ble pc 292 then (fun pc => bif Nat.beq pc 292 then some (.aload_n 0, 293, 0, 0) else none) else (fun pc => bif Nat.beq pc 293 then some (.iload 4, 295, 0, 0) else none)) pc)) pc) else (fun pc => (bif Nat.ble pc 296 then (fun pc => (bif Nat.ble pc 295 then (fun pc => bif Nat.beq pc 295 then some (.iconst 5, 296, 5, 0) else none) else (fun pc => bif Nat.beq pc 296 then some (.iadd, 297, 0, 0) else none)) pc) else (fun pc => (bif Nat.ble pc 297 then (fun pc => bif Nat.beq pc 297 then some (.iaload, 298, 0, 0) else none) else (fun pc => bif Nat.beq pc 298 then some (.i2l, 299, 0, 0) else none)) pc)) pc)) pc)) pc) else (fun pc => (bif Nat.ble pc 307 then (fun pc => (bif Nat.ble pc 302 then (fun pc => (bif Nat.ble pc 299 then (fun pc => bif Nat.beq pc 299 then some (.bipush 32, 301, 32, 0) else none) else (fun pc => (bif Nat.ble pc 301 then (fun pc => bif Nat.beq pc 301 then some (.lshl, 302, 0, 0) else none) else (fun pc => bif Nat.beq pc 302 then some (.aload_n 0, 303, 0, 0) else none)) pc)) pc) else (fun pc => (bif Nat.ble pc 303 then (fun pc => bif Nat.beq pc 303 then some (.iload 4, 305, 0, 0) else none) else (fun pc => (bif Nat.ble pc 305 then (fun pc => bif Nat.beq pc 305 then some (.bipush 6, 307, 6, 0) else none) else (fun pc => bif Nat.beq pc 307 then some (.iadd, 308, 0, 0) else none)) pc)) pc)) pc) else (fun pc => (bif Nat.ble pc 310 then (fun pc => (bif Nat.ble pc 308 then (fun pc => bif Nat.beq pc 308 then some (.iaload, 309, 0, 0) else none) else (fun pc => (bif Nat.ble pc 309 then (fun pc => bif Nat.beq pc 309 then some (.i2l, 310, 0, 0) else none) else (fun pc => bif Nat.beq pc 310 then some (.ldc2_w 26, 313, 4294967295, 0) else none)) pc)) pc) else (fun pc => (bif Nat.ble pc 314 then (fun pc => (bif Nat.ble pc 313 then (fun pc => bif Nat.beq pc 313 then some (.land, 314, 0, 0) else none) else (fun pc => bif Nat.beq pc 314 then some (.lor, 315, 0, 0) else none)) pc) else (fun pc => (bif Nat.ble pc 315 then (fun pc => bif Nat.beq pc 315 then some (.invokevirtual 32, 318, 156, 164) else none) else (fun pc => bif Nat.beq pc 318 then some (.if_icmp .eq 1032, 321, 1350, 0) else none)) pc)) pc)) pc)) pc)) pc) else (fun pc => (bif Nat.ble pc 341 then (fun pc => (bif Nat.ble pc 328 then (fun pc => (bif Nat.ble pc 323 then (fun pc => (bif Nat.ble pc 321 then (fun pc => bif Nat.beq pc 321 then some (.iconst 0, 322, 0, 0) else none) else (fun pc => (bif Nat.ble pc 322 then (fun pc => bif Nat.beq pc 322 then some (.ireturn, 323, 1, 0) else none) else (fun pc => bif Nat.beq pc 323 then some (.aload_n 1, 324, 0, 0) else none)) pc)) pc) else (fun pc => (bif Nat.ble pc 324 then (fun pc => bif Nat.beq pc 324 then some (.invokevirtual 33, 327, 30, 145) else none) else (fun pc => (bif Nat.ble pc 327 then (fun pc => bif Nat.beq pc 327 then some (.aload_n 2, 328, 0, 0) else none) else (fun pc => bif Nat.beq pc 328 then some (.invokevirtual 36, 331, 43, 161) else none)) pc)) pc)) pc) else (fun pc => (bif Nat.ble pc 335 then (fun pc => (bif Nat.ble pc 331 then (fun pc => bif Nat.beq pc 331 then some (.if_icmp .eq 1019, 334, 1350, 0) else none) else (fun pc => (bif Nat.ble pc 334 then (fun pc => bif Nat.beq pc 334 then some (.iconst 0, 335, 0, 0) else none) else (fun pc => bif Nat.beq pc 335 then some (.ireturn, 336, 1, 0) else none)) pc)) pc) else (fun pc => (bif Nat.ble pc 337 then (fun pc => (bif Nat.ble pc 336 then (fun pc => bif Nat.beq pc 336 then some (.aload_n 1, 337, 0, 0) else none) else (fun pc => bif Nat.beq pc 337 then some (.invokevirtual 37, 340, 52, 145) else none)) pc) else (fun pc => (bif Nat.ble pc 340 then (fun pc => bif Nat.beq pc 340 then some (.aload_n 2, 341, 0, 0) else none) else (fun pc => bif Nat.beq pc 341 then some (.invokevirtual 40, 344, 54, 161) else none)) pc)) pc)) pc)) pc) else (fun pc => (bif Nat.ble pc 353 then (fun pc => (bif Nat.ble pc 348 then (fun pc => (bif Nat.ble pc 344 then (fun pc => bif Nat.beq pc 344 then some (.if_icmp .eq 1006, 347, 1350, 0) else none) else (fun pc => (bif Nat.ble pc 347 then (fun pc => bif Nat.beq pc 347 then some (.iconst 0, 348, 0, 0) else none) else (fun pc => bif Nat.beq pc 348 then some (.ireturn, 349, 1, 0) else none)) pc)) pc) else (fun pc => (bif Nat.ble pc 350 then (fun pc => (bif Nat.ble pc 349 then (fun pc => bif Nat.beq pc 349 then some (.aload_n 1, 350, 0, 0) else none) else (fun pc => bif Nat.beq pc 350 then some (.aload_n 0, 351, 0, 0) else none)) pc) else (fun pc => (bif Nat.ble pc 351 then (fun pc => bif Nat.beq pc 351 then some (.iload 4, 353, 0, 0) else none) else (fun pc => bif Nat.beq pc 353 then some (.iconst 1, 354, 1, 0) else none)) pc)) pc)) pc) else (fun pc => (bif Nat.ble pc 356 then (fun pc => (bif Nat.ble pc 354 then (fun pc => bif Nat.beq pc 354 then some (.iadd, 355, 0, 0) else none) else (fun pc => (bif Nat.ble pc 355 then (fun pc => bif Nat.beq pc 355 then some (.iaload, 356, 0, 0) else none) else (fun pc => bif Nat.beq pc 356 then some (.aload_n 0, 357, 0, 0) else none)) pc)) pc) else (fun pc => (bif Nat.ble pc 359 then (fun pc => (bif Nat.ble pc 357 then (fun pc => bif Nat.beq pc 357 then some (.iload 4, 359, 0, 0) else none) else (fun pc => bif Nat.beq pc 359 then some (.iconst 2, 360, 2, 0) else none)) pc) else (fun pc => (bif Nat.ble pc 360 then (fun pc => bif Nat.beq pc 360 then some (.iadd, 361, 0, 0) else none) else (fun pc => bif Nat.beq pc 361 then some (.iaload, 362, 0, 0) else none)) pc)) pc)) pc)) pc)) pc)) pc) else (fun pc => (bif Nat.ble pc 397 then (fun pc => (bif Nat.ble pc 378 then (fun pc => (bif Nat.ble pc 370 then (fun pc => (bif Nat.ble pc 366 then (fun pc => (bif Nat.ble pc 362 then (fun pc => bif Nat.beq pc 362 then some (.invokevirtual 41, 365, 55, 147) else none) else (fun pc => (bif Nat.ble pc 365 then (fun pc => bif Nat.beq pc 365 then some (.aload_n 2, 366, 0, 0) else none) else (fun pc => bif Nat.beq pc 366 then some (.aload_n 0, 367, 0, 0) else none)) pc)) pc) else (fun pc => (bif Nat.ble pc 367 then (fun pc => bif Nat.beq pc 367 then some (.iload 4, 369, 0, 0) else none) else (fun pc => (bif Nat.ble pc 369 then (fun pc => bif Nat.beq pc 369 then some (.iconst 1, 370, 1, 0) else none) else (fun pc => bif Nat.beq pc 370 then some (.iadd, 371, 0, 0) else none)) pc)) pc)) pc) else (fun pc => (bif Nat.ble pc 373 then (fun pc => (bif Nat.ble pc 371 then (fun pc => bif Nat.beq pc 371 then some (.iaload, 372, 0, 0) else none) else (fun pc => (bif Nat.ble pc 372 then (fun pc => bif Nat.beq pc 372 then some (.aload_n 0, 373, 0, 0) else none) else (fun pc => bif Nat.beq pc 373 then some (.iload 4, 375, 0, 0) else none)) pc)) pc) else (fun pc => (bif Nat.ble pc 376 then (fun pc => (bif Nat.ble pc 375 then (fun pc => bif Nat.beq pc 375 then some (.iconst 2, 376, 2, 0) else none) else (fun pc => bif Nat.beq pc 376 then some (.iadd, 377, 0, 0) else none)) pc) else (fun pc => (bif Nat.ble pc 377 then (fun pc => bif Nat.beq pc 377 then some (.iaload, 378, 0, 0) else none) else (fun pc => bif Nat.beq pc 378 then some (.invokevirtual 44, 381, 56, 163) else none)) pc)) pc)) pc)) pc) else (fun pc => (bif Nat.ble pc 388 then (fun pc => (bif Nat.ble pc 385 then (fun pc => (bif Nat.ble pc 381 then (fun pc => bif Nat.beq pc 381 then some (.if_icmp .eq 969, 384, 1350, 0) else none) else (fun pc => (bif Nat.ble pc 384 then (fun pc => bif Nat.beq pc 384 then some (.iconst 0, 385, 0, 0) else none) else (fun pc => bif Nat.beq pc 385 then some (.ireturn, 386, 1, 0) else none)) pc)) pc) else (fun pc => (bif Nat.ble pc 386 then (fun pc => bif Nat.beq pc 386 then some (.aload_n 1, 387, 0, 0) else none) else (fun pc => (bif Nat.ble pc 387 then (fun pc => bif Nat.beq pc 387 then some (.aload_n 0, 388, 0, 0) else none) else (fun pc => bif Nat.beq pc 388 then some (.iload 4, 390, 0, 0) else none)) pc)) pc)) pc) else (fun pc => (bif Nat.ble pc 392 then (fun pc => (bif Nat.ble pc 390 then (fun pc => bif Nat.beq pc 390 then some (.iconst 1, 391, 1, 0) else none) else (fun pc => (bif Nat.ble pc 391 then (fun pc => bif Nat.beq pc 391 then some (.iadd, 392, 0, 0) else none) else (fun pc => bif Nat.beq pc 392 then some (.iaload, 393, 0, 0) else none)) pc)) pc) else (fun pc => (bif Nat.ble pc 394 then (fun pc => (bif Nat.ble pc 393 then (fun pc => bif Nat.beq pc 393 then some (.aload_n 0, 394, 0, 0) else none) else (fun pc => bif Nat.beq pc 394 then some (.iload 4, 396, 0, 0) else none)) pc) else (fun pc => (bif Nat.ble pc 396 then (fun pc => bif Nat.beq pc 396 then some (.iconst 2, 397, 2, 0) else none) else (fun pc => bif Nat.beq pc 397 then some (.iadd, 398, 0, 0) else none)) pc)) pc)) pc)) pc)) pc) else (fun pc => (bif Nat.ble pc 414 then (fun pc => (bif Nat.ble pc 404 then (fun pc => (bif Nat.ble pc 400 then (fun pc => (bif Nat.ble pc 398 then (fun pc => bif Nat.beq pc 398 then some (.iaload, 399, 0, 0) else none) else (fun pc => (bif Nat.ble pc 399 then (fun pc => bif Nat.beq pc 399 then some (.aload_n 0, 400, 0, 0) else none) else (fun pc => bif Nat.beq pc 400 then some (.iload 4, 402, 0, 0) else none)) pc)) pc) else (fun pc => (bif Nat.ble pc 402 then (fun pc => bif Nat.beq pc 402 then some (.iconst 3, 403, 3, 0) else none) else (fun pc => (bif Nat.ble pc 403 then (fun pc => bif Nat.beq pc 403 then some (.iadd, 404, 0, 0) else none) else (fun pc => bif Nat.beq pc 404 then some (.iaload, 405, 0, 0) else none)) pc)) pc)) pc) else (fun pc => (bif Nat.ble pc 409 then (fun pc => (bif Nat.ble pc 405 then (fun pc => bif Nat.beq pc 405 then some (.invokevirtual 45, 408, 58, 148) else none) else (fun pc => (bif Nat.ble pc 408 then (fun pc => bif Nat.beq pc 408 then some (.aload_n 2, 409, 0, 0) else none) else (fun pc => bif Nat.beq pc 409 then some (.aload_n 0, 410, 0, 0) else none)) pc)) pc) else (fun pc => (bif Nat.ble pc 412 then (fun pc => (bif Nat.ble pc 410 then (fun pc => bif Nat.beq pc 410 then some (.iload 4, 412, 0, 0) else none) else (fun pc => bif Nat.beq pc 412 then some (.iconst 1, 413, 1, 0) else none)) pc) else (fun pc => (bif Nat.ble pc 413 then (fun pc => bif Nat.beq pc 413 then some (.iadd, 414, 0, 0) else none) else (fun pc => bif Nat.beq pc 414 then some (.iaload, 415, 0, 0) else none)) pc)) pc)) pc)) pc) else (fun pc => (bif Nat.ble pc 422 then (fun pc => (bif Nat.ble pc 418 then (fun pc => (bif Nat.ble pc 415 then (fun pc => bif Nat.beq pc 415 then some (.aload_n 0, 416, 0, 0) else none) else (fun pc => (bif Nat.ble pc 416 then (fun pc => bif Nat.beq pc 416 then some (.iload 4, 418, 0, 0) else none) else (fun pc => bif Nat.beq pc 418 then some (.iconst 2, 419, 2, 0) else none)) pc)) pc) else (fun pc => (bif Nat.ble pc 420 then (fun pc => (bif Nat.ble pc 419 then (fun pc => bif Nat.beq pc 419 then some (.iadd, 420, 0, 0) else none) else (fun pc => bif Nat.beq pc 420 then some (.iaload, 421, 0, 0) else none)) pc) else (fun pc => (bif Nat.ble pc 421 then (fun pc => bif Nat.beq pc 421 then some (.aload_n 0, 422, 0, 0) else none) else (fun pc => bif Nat.beq pc 422 then some (.iload 4, 424, 0, 0) else none)) pc)) pc)) pc) else (fun pc => (bif Nat.ble pc 426 then (fun pc => (bif Nat.ble pc 424 then (fun pc => bif Nat.beq pc 424 then some (.iconst 3, 425, 3, 0) else none) else (fun pc => (bif Nat.ble pc 425 then (fun pc => bif Nat.beq pc 425 then some (.iadd, 426, 0, 0) else none) else (fun pc => bif Nat.beq pc 426 then some (.iaload, 427, 0, 0) else none)) pc)) pc) else (fun pc => (bif Nat.ble pc 430 then (fun pc => (bif Nat.ble pc 427 then (fun pc => bif Nat.beq pc 427 then some (.invokevirtual 49, 430, 59, 164) else none) else (fun pc => bif Nat.beq pc 430 then some (.if_icmp .eq 920, 433, 1350, 0) else none)) pc) else (fun pc => (bif Nat.ble pc 433 then (fun pc => bif Nat.beq pc 433 then some (.iconst 0, 434, 0, 0) else none) else (fun pc => bif Nat.beq pc 434 then some (.ireturn, 435, 1, 0) else none)) pc)) pc)) pc)) pc)) pc)) pc)) pc)) pc) else (fun pc => (bif Nat.ble pc 596 then (fun pc => (bif Nat.ble pc 513 then (fun pc => (bif Nat.ble pc 470 then (fun pc => (bif Nat.ble pc 452 then (fun pc => (bif Nat.ble pc 441 then (fun pc => (bif Nat.ble pc 437 then (fun pc => (bif Nat.ble pc 435 then (fun pc => bif Nat.beq pc 435 then some (.aload_n 1, 436, 0, 0) else none) else (fun pc => (bif Nat.ble pc 436 then (fun pc => bif Nat.beq pc 436 then some (.aload_n 0, 437, 0, 0) else none) else (fun pc => bif Nat.beq pc 437 then some (.iload 4, 439, 0, 0) else none)) pc)) pc) else (fun pc => (bif Nat.ble pc 439 then (fun pc => bif Nat.beq pc 439 then some (.iconst 1, 440, 1, 0) else none) else (fun pc => (bif Nat.ble pc 440 then (fun pc => bif Nat.beq pc 440 then some (.iadd, 441, 0, 0) else none) else (fun pc => bif Nat.beq pc 441 then some (.iaload, 442, 0, 0) else none)) pc)) pc)) pc) else (fun pc => (bif Nat.ble pc 445 then (fun pc => (bif Nat.ble pc 442 then (fun pc => bif Nat.beq pc 442 then some (.aload_n 0, 443, 0, 0) else none) else (fun pc => (bif Nat.ble pc 443 then (fun pc => bif Nat.beq pc 443 then some (.iload 4, 445, 0, 0) else none) else (fun pc => bif Nat.beq pc 445 then some (.iconst 2, 446, 2, 0) else none)) pc)) pc) else (fun pc => (bif Nat.ble pc 447 then (fun pc => (bif Nat.ble pc 446 then (fun pc => bif Nat.beq pc 446 then some (.iadd, 447, 0, 0) else none) else (fun pc => bif Nat.beq pc 447 then some (.iaload, 448, 0, 0) else none)) pc) else (fun pc => (bif Nat.ble pc 448 then (fun pc => bif Nat.beq pc 448 then some (.aload_n 3, 449, 0, 0) else none) else (fun pc => bif Nat.beq pc 452 then some (.istore 5, 454, 0, 0) else none)) pc)) pc)) pc)) pc) else (fun pc => (bif Nat.ble pc 460 then (fun pc => (bif Nat.ble pc 456 then (fun pc => (bif Nat.ble pc 454 then (fun pc => bif Nat.beq pc 454 then some (.aload_n 2, 455, 0, 0) else none) else (fun pc => (bif Nat.ble pc 455 then (fun pc => bif Nat.beq pc 455 then some (.aload_n 0, 456, 0, 0) else none) else (fun pc => bif Nat.beq pc 456 then some (.iload 4, 458, 0, 0) else none)) pc)) pc) else (fun pc => (bif Nat.ble pc 458 then (fun pc => bif Nat.beq pc 458 then some (.iconst 1, 459, 1, 0) else none) else (fun pc => (bif Nat.ble pc 459 then (fun pc => bif Nat.beq pc 459 then some (.iadd, 460, 0, 0) else none) else (fun pc => bif Nat.beq pc 460 then some (.iaload, 461, 0, 0) else none)) pc)) pc)) pc) else (fun pc => (bif Nat.ble pc 464 then (fun pc => (bif Nat.ble pc 461 then (fun pc => bif Nat.beq pc 461 then some (.aload_n 0, 462, 0, 0) else none) else (fun pc => (bif Nat.ble pc 462 then (fun pc => bif Nat.beq pc 462 then some (.iload 4, 464, 0, 0) else none) else (fun pc => bif Nat.beq pc 464 then some (.iconst 2, 465, 2, 0) else none)) pc)) pc) else (fun pc => (bif Nat.ble pc 466 then (fun pc => (bif Nat.ble pc 465 then (fun pc => bif Nat.beq pc 465 then some (.iadd, 466, 0, 0) else none) else (fun pc => bif Nat.beq pc 466 then some (.iaload, 467, 0, 0) else none)) pc) else (fun pc => (bif Nat.ble pc 467 then (fun pc => bif Nat.beq pc 467 then some (.invokevirtual 55, 470, 159, 163) else none) else (fun pc => bif Nat.beq pc 470 then some (.istore 6, 472, 0, 0) else none)) pc)) pc)) pc)) pc)) pc) else (fun pc => (bif Nat.ble pc 493 then (fun pc => (bif Nat.ble pc 482 then (fun pc => (bif Nat.ble pc 476 then (fun pc => (bif Nat.ble pc 472 then (fun pc => bif Nat.beq pc 472 then some (.aload_n 2, 473, 0, 0) else none) else (fun pc => (bif Nat.ble pc 473 then (fun pc => bif Nat.beq pc 473 then some (.invokevirtual 56, 476, 164, 161) else none) else (fun pc => bif Nat.beq pc 476 then some (.iload 5, 478, 0, 0) else none)) pc)) pc) else (fun pc => (bif Nat.ble pc 478 then (fun pc => bif Nat.beq pc 478 then some (.if_icmp .eq 5, 481, 483, 0) else none) else (fun pc => (bif Nat.ble pc 481 then (fun pc => bif Nat.beq pc 481 then some (.iconst 0, 482, 0, 0) else none) else (fun pc => bif Nat.beq pc 482 then some (.ireturn, 483, 1, 0) else none)) pc)) pc)) pc) else (fun pc => (bif Nat.ble pc 488 then (fun pc => (bif Nat.ble pc 483 then (fun pc => bif Nat.beq pc 483 then some (.iload 5, 485, 0, 0) else none) else (fun pc => (bif Nat.ble pc 485 then (fun pc => bif Nat.beq pc 485 then some (.ifCond .ne 15, 488, 500, 0) else none) else (fun pc => bif Nat.beq pc 488 then some (.aload_n 3, 489, 0, 0) else none)) pc)) pc) else (fun pc => (bif Nat.ble pc 490 then (fun pc => (bif Nat.ble pc 489 then (fun pc => bif Nat.beq pc 489 then some (.iconst 0, 490, 0, 0) else none) else (fun pc => bif Nat.beq pc 490 then some (.laload, 491, 0, 0) else none)) pc) else (fun pc => (bif Nat.ble pc 491 then (fun pc => bif Nat.beq pc 491 then some (.iload 6, 493, 0, 0) else none) else (fun pc => bif Nat.beq pc 493 then some (.i2l, 494, 0, 0) else none)) pc)) pc)) pc)) pc) else (fun pc => (bif Nat.ble pc 504 then (fun pc => (bif Nat.ble pc 498 then (fun pc => (bif Nat.ble pc 494 then (fun pc => bif Nat.beq pc 494 then some (.lcmp, 495, 0, 0) else none) else (fun pc => (bif Nat.ble pc 495 then (fun pc => bif Nat.beq pc 495 then some (.ifCond .eq 5, 498, 500, 0) else none) else (fun pc => bif Nat.beq pc 498 then some (.iconst 0, 499, 0, 0) else none)) pc)) pc) else (fun pc => (bif Nat.ble pc 500 then (fun pc => (bif Nat.ble pc 499 then (fun pc => bif Nat.beq pc 499 then some (.ireturn, 500, 1, 0) else none) else (fun pc => bif Nat.beq pc 500 then some (.goto 850, 503, 1350, 0) else none)) pc) else (fun pc => (bif Nat.ble pc 503 then (fun pc => bif Nat.beq pc 503 then some (.aload_n 1, 504, 0, 0) else none) else (fun pc => bif Nat.beq pc 504 then some (.aload_n 0, 505, 0, 0) else none)) pc)) pc)) pc) else (fun pc => (bif Nat.ble pc 508 then (fun pc => (bif Nat.ble pc 505 then (fun pc => bif Nat.beq pc 505 then some (.iload 4, 507, 0, 0) else none) else (fun pc => (bif Nat.ble pc 507 then (fun pc => bif Nat.beq pc 507 then some (.iconst 1, 508, 1, 0) else none) else (fun pc => bif Nat.beq pc 508 then some (.iadd, 509, 0, 0) else none)) pc)) pc) else (fun pc => (bif Nat.ble pc 510 then (fun pc => (bif Nat.ble pc 509 then (fun pc => bif Nat.beq pc 509 then some (.iaload, 510, 0, 0) else none) else (fun pc => bif Nat.beq pc 510 then some (.aload_n 0, 511, 0, 0) else none)) pc) else (fun pc => (bif Nat.ble pc 511 then (fun pc => bif Nat.beq pc 511 then some (.iload 4, 513, 0, 0) else none) else (fun pc => bif Nat.beq pc 513 then some (.iconst 2, 514, 2, 0) else none)) pc)) pc)) pc)) pc)) pc)) pc) else (fun pc => (bif Nat.ble pc 556 then (fun pc => (bif Nat.ble pc 532 then (fun pc => (bif Nat.ble pc 523 then (fun pc => (bif Nat.ble pc 516 then (fun pc => (bif Nat.ble pc 514 then (fun pc => bif Nat.beq pc 514 then some (.iadd, 515, 0, 0) else none) else (fun pc => (bif Nat.ble pc 515 then (fun pc => bif Nat.beq pc 515 then some (.iaload, 516, 0, 0) else none) else (fun pc => bif Nat.beq pc 516 then some (.aload_n 3, 517, 0, 0) else none)) pc)) pc) else (fun pc => (bif Nat.ble pc 520 then (fun pc => bif Nat.beq pc 520 then some (.istore 5, 522, 0, 0) else none) else (fun pc => (bif Nat.ble pc 522 then (fun pc => bif Nat.beq pc 522 then some (.aload_n 2, 523, 0, 0) else none) else (fun pc => bif Nat.beq pc 523 then some (.aload_n 0, 524, 0, 0) else none)) pc)) pc)) pc) else (fun pc => (bif Nat.ble pc 527 then (fun pc => (bif Nat.ble pc 524 then (fun pc => bif Nat.beq pc 524 then some (.iload 4, 526, 0, 0) else none) else (fun pc => (bif Nat.ble pc 526 then (fun pc => bif Nat.beq pc 526 then some (.iconst 1, 527, 1, 0) else none) else (fun pc => bif Nat.beq pc 527 then some (.iadd, 528, 0, 0) else none)) pc)) pc) else (fun pc => (bif Nat.ble pc 529 then (fun pc => (bif Nat.ble pc 528 then (fun pc => bif Nat.beq pc 528 then some (.iaload, 529, 0, 0) else none) else (fun pc => bif Nat.beq pc 529 then some (.aload_n 0, 530, 0, 0) else none)) pc) else (fun pc => (bif Nat.ble pc 530 then (fun pc => bif Nat.beq pc 530 then some (.iload 4, 532, 0, 0) else none) else (fun pc => bif Nat.beq pc 532 then some (.iconst 2, 533, 2, 0) else none)) pc)) pc)) pc)) pc) else (fun pc => (bif Nat.ble pc 541 then (fun pc => (bif Nat.ble pc 535 then (fun pc => (bif Nat.ble pc 533 then (fun pc => bif Nat.beq pc 533 then some (.iadd, 534, 0, 0) else none) else (fun pc => (bif Nat.ble pc 534 then (fun pc => bif Nat.beq pc 534 then some (.iaload, 535, 0, 0) else none) else (fun pc => bif Nat.beq pc 535 then some (.invokevirtual 61, 538, 161, 163) else none)) pc)) pc) else (fun pc => (bif Nat.ble pc 538 then (fun pc => bif Nat.beq pc 538 then some (.istore 6, 540, 0, 0) else none) else (fun pc => (bif Nat.ble pc 540 then (fun pc => bif Nat.beq pc 540 then some (.aload_n 2, 541, 0, 0) else none) else (fun pc => bif Nat.beq pc 541 then some (.invokevirtual 56, 544, 164, 161) else none)) pc)) pc)) pc) else (fun pc => (bif Nat.ble pc 549 then (fun pc => (bif Nat.ble pc 544 then (fun pc => bif Nat.beq pc 544 then some (.iload 5, 546, 0, 0) else none) else (fun pc => (bif Nat.ble pc 546 then (fun pc => bif Nat.beq pc 546 then some (.if_icmp .eq 5, 549, 551, 0) else none) else (fun pc => bif Nat.beq pc 549 then some (.iconst 0, 550, 0, 0) else none)) pc)) pc) else (fun pc => (bif Nat.ble pc 551 then (fun pc => (bif Nat.ble pc 550 then (fun pc => bif Nat.beq pc 550 then some (.ireturn, 551, 1, 0) else none) else (fun pc => bif Nat.beq pc 551 then some (.iload 5, 553, 0, 0) else none)) pc) else (fun pc => (bif Nat.ble pc 553 then (fun pc => bif Nat.beq pc 553 then some (.ifCond .ne 15, 556, 568, 0) else none) else (fun pc => bif Nat.beq pc 556 then some (.aload_n 3, 557, 0, 0) else none)) pc)) pc)) pc)) pc)) pc) else (fun pc => (bif Nat.ble pc 575 then (fun pc => (bif Nat.ble pc 563 then (fun pc => (bif Nat.ble pc 559 then (fun pc => (bif Nat.ble pc 557 then (fun pc => bif Nat.beq pc 557 then some (.iconst 0, 558, 0, 0) else none) else (fun pc => (bif Nat.ble pc 558 then (fun pc => bif Nat.beq pc 558 then some (.laload, 559, 0, 0) else none) else (fun pc => bif Nat.beq pc 559 then some (.iload 6, 561, 0, 0) else none)) pc)) pc) else (fun pc => (bif Nat.ble pc 561 then (fun pc => bif Nat.beq pc 561 then some (.i2l, 562, 0, 0) else none) else (fun pc => (bif Nat.ble pc 562 then (fun pc => bif Nat.beq pc 562 then some (.lcmp, 563, 0, 0) else none) else (fun pc => bif Nat.beq pc 563 then some (.ifCond .eq 5, 566, 568, 0) else none)) pc)) pc)) pc) else (fun pc => (bif Nat.ble pc 568 then (fun pc => (bif Nat.ble pc 566 then (fun pc => bif Nat.beq pc 566 then some (.iconst 0, 567, 0, 0) else none) else (fun pc => (bif Nat.ble pc 567 then (fun pc => bif Nat.beq pc 567 then some (.ireturn, 568, 1, 0) else none) else (fun pc => bif Nat.beq pc 568 then some (.goto 782, 571, 1350, 0) else none)) pc)) pc) else (fun pc => (bif Nat.ble pc 572 then (fun pc => (bif Nat.ble pc 571 then (fun pc => bif Nat.beq pc 571 then some (.aload_n 1, 572, 0, 0) else none) else (fun pc => bif Nat.beq pc 572 then some (.aload_n 0, 573, 0, 0) else none)) pc) else (fun pc => (bif Nat.ble pc 573 then (fun pc => bif Nat.beq pc 573 then some (.iload 4, 575, 0, 0) else none) else (fun pc => bif Nat.beq pc 575 then some (.iconst 1, 576, 1, 0) else none)) pc)) pc)) pc)) pc) else (fun pc => (bif Nat.ble pc 585 then (fun pc => (bif Nat.ble pc 578 then (fun pc => (bif Nat.ble pc 576 then (fun pc => bif Nat.beq pc 576 then some (.iadd, 577, 0, 0) else none) else (fun pc => (bif Nat.ble pc 577 then (fun pc => bif Nat.beq pc 577 then some (.iaload, 578, 0, 0) else none) else (fun pc => bif Nat.beq pc 578 then some (.invokevirtual 62, 581, 65, 146) else none)) pc)) pc) else (fun pc => (bif Nat.ble pc 582 then (fun pc => (bif Nat.ble pc 581 then (fun pc => bif Nat.beq pc 581 then some (.aload_n 2, 582, 0, 0) else none) else (fun pc => bif Nat.beq pc 582 then some (.aload_n 0, 583, 0, 0) else none)) pc) else (fun pc => (bif Nat.ble pc 583 then (fun pc => bif Nat.beq pc 583 then some (.iload 4, 585, 0, 0) else none) else (fun pc => bif Nat.beq pc 585 then some (.iconst 1, 586, 1, 0) else none)) pc)) pc)) pc) else (fun pc => (bif Nat.ble pc 588 then (fun pc => (bif Nat.ble pc 586 then (fun pc => bif Nat.beq pc 586 then some (.iadd, 587, 0, 0) else none) else (fun pc => (bif Nat.ble pc 587 then (fun pc => bif Nat.beq pc 587 then some (.iaload, 588, 0, 0) else none) else (fun pc => bif Nat.beq pc 588 then some (.invokevirtual 66, 591, 66, 162) else none)) pc)) pc) else (fun pc => (bif Nat.ble pc 594 then (fun pc => (bif Nat.ble pc 591 then (fun pc => bif Nat.beq pc 591 then some (.if_icmp .eq 759, 594, 1350, 0) else none) else (fun pc => bif Nat.beq pc 594 then some (.iconst 0, 595, 0, 0) else none)) pc) else (fun pc => (bif Nat.ble pc 595 then (fun pc => bif Nat.beq pc 595 then some (.ireturn, 596, 1, 0) else none) else (fun pc => bif Nat.beq pc 596 then some (.aload_n 1, 597, 0, 0) else none)) pc)) pc)) pc)) pc)) pc)) pc)) pc) else (fun pc => (bif Nat.ble pc 666 then (fun pc => (bif Nat.ble pc 629 then (fun pc => (bif Nat.ble pc 612 then (fun pc => (bif Nat.ble pc 603 then (fun pc => (bif Nat.ble pc 600 then (fun pc => (bif Nat.ble pc 597 then (fun pc => bif Nat.beq pc 597 then some (.aload_n 0, 598, 0, 0) else none) else (fun pc => (bif Nat.ble pc 598 then (fun pc => bif Nat.beq pc 598 then some (.iload 4, 600, 0, 0) else none) else (fun pc => bif Nat.beq pc 600 then some (.iconst 1, 601, 1, 0) else none)) pc)) pc) else (fun pc => (bif Nat.ble pc 601 then (fun pc => bif Nat.beq pc 601 then some (.iadd, 602, 0, 0) else none) else (fun pc => (bif Nat.ble pc 602 then (fun pc => bif Nat.beq pc 602 then some (.iaload, 603, 0, 0) else none) else (fun pc => bif Nat.beq pc 603 then some (.aload_n 0, 604, 0, 0) else none)) pc)) pc)) pc) else (fun pc => (bif Nat.ble pc 607 then (fun pc => (bif Nat.ble pc 604 then (fun pc => bif Nat.beq pc 604 then some (.iload 4, 606, 0, 0) else none) else (fun pc => (bif Nat.ble pc 606 then (fun pc => bif Nat.beq pc 606 then some (.iconst 2, 607, 2, 0) else none) else (fun pc => bif Nat.beq pc 607 then some (.iadd, 608, 0, 0) else none)) pc)) pc) else (fun pc => (bif Nat.ble pc 609 then (fun pc => (bif Nat.ble pc 608 then (fun pc => bif Nat.beq pc 608 then some (.iaload, 609, 0, 0) else none) else (fun pc => bif Nat.beq pc 609 then some (.aload_n 0, 610, 0, 0) else none)) pc) else (fun pc => (bif Nat.ble pc 610 then (fun pc => bif Nat.beq pc 610 then some (.iload 4, 612, 0, 0) else none) else (fun pc => bif Nat.beq pc 612 then some (.iconst 3, 613, 3, 0) else none)) pc)) pc)) pc)) pc) else (fun pc => (bif Nat.ble pc 620 then (fun pc => (bif Nat.ble pc 615 then (fun pc => (bif Nat.ble pc 613 then (fun pc => bif Nat.beq pc 613 then some (.iadd, 614, 0, 0) else none) else (fun pc => (bif Nat.ble pc 614 then (fun pc => bif Nat.beq pc 614 then some (.iaload, 615, 0, 0) else none) else (fun pc => bif Nat.beq pc 615 then some (.invokevirtual 67, 618, 77, 148) else none)) pc)) pc) else (fun pc => (bif Nat.ble pc 618 then (fun pc => bif Nat.beq pc 618 then some (.aload_n 2, 619, 0, 0) else none) else (fun pc => (bif Nat.ble pc 619 then (fun pc => bif Nat.beq pc 619 then some (.aload_n 0, 620, 0, 0) else none) else (fun pc => bif Nat.beq pc 620 then some (.iload 4, 622, 0, 0) else none)) pc)) pc)) pc) else (fun pc => (bif Nat.ble pc 624 then (fun pc => (bif Nat.ble pc 622 then (fun pc => bif Nat.beq pc 622 then some (.iconst 1, 623, 1, 0) else none) else (fun pc => (bif Nat.ble pc 623 then (fun pc => bif Nat.beq pc 623 then some (.iadd, 624, 0, 0) else none) else (fun pc => bif Nat.beq pc 624 then some (.iaload, 625, 0, 0) else none)) pc)) pc) else (fun pc => (bif Nat.ble pc 626 then (fun pc => (bif Nat.ble pc 625 then (fun pc => bif Nat.beq pc 625 then some (.aload_n 0, 626, 0, 0) else none) else (fun pc => bif Nat.beq pc 626 then some (.iload 4, 628, 0, 0) else none)) pc) else (fun pc => (bif Nat.ble pc 628 then (fun pc => bif Nat.beq pc 628 then some (.iconst 2, 629, 2, 0) else none) else (fun pc => bif Nat.beq pc 629 then some (.iadd, 630, 0, 0) else none)) pc)) pc)) pc)) pc)) pc) else (fun pc => (bif Nat.ble pc 647 then (fun pc => (bif Nat.ble pc 636 then (fun pc => (bif Nat.ble pc 632 then (fun pc => (bif Nat.ble pc 630 then (fun pc => bif Nat.beq pc 630 then some (.iaload, 631, 0, 0) else none) else (fun pc => (bif Nat.ble pc 631 then (fun pc => bif Nat.beq pc 631 then some (.aload_n 0, 632, 0, 0) else none) else (fun pc => bif Nat.beq pc 632 then some (.iload 4, 634, 0, 0) else none)) pc)) pc) else (fun pc => (bif Nat.ble pc 634 then (fun pc => bif Nat.beq pc 634 then some (.iconst 3, 635, 3, 0) else none) else (fun pc => (bif Nat.ble pc 635 then (fun pc => bif Nat.beq pc 635 then some (.iadd, 636, 0, 0) else none) else (fun pc => bif Nat.beq pc 636 then some (.iaload, 637, 0, 0) else none)) pc)) pc)) pc) else (fun pc => (bif Nat.ble pc 643 then (fun pc => (bif Nat.ble pc 637 then (fun pc => bif Nat.beq pc 637 then some (.invokevirtual 71, 640, 78, 164) else none) else (fun pc => (bif Nat.ble pc 640 then (fun pc => bif Nat.beq pc 640 then some (.if_icmp .eq 710, 643, 1350, 0) else none) else (fun pc => bif Nat.beq pc 643 then some (.iconst 0, 644, 0, 0) else none)) pc)) pc) else (fun pc => (bif Nat.ble pc 645 then (fun pc => (bif Nat.ble pc 644 then (fun pc => bif Nat.beq pc 644 then some (.ireturn, 645, 1, 0) else none) else (fun pc => bif Nat.beq pc 645 then some (.aload_n 1, 646, 0, 0) else none)) pc) else (fun pc => (bif Nat.ble pc 646 then (fun pc => bif Nat.beq pc 646 then some (.aload_n 0, 647, 0, 0) else none) else (fun pc => bif Nat.beq pc 647 then some (.iload 4, 649, 0, 0) else none)) pc)) pc)) pc)) pc) else (fun pc => (bif Nat.ble pc 656 then (fun pc => (bif Nat.ble pc 651 then (fun pc => (bif Nat.ble pc 649 then (fun pc => bif Nat.beq pc 649 then some (.iconst 1, 650, 1, 0) else none) else (fun pc => (bif Nat.ble pc 650 then (fun pc => bif Nat.beq pc 650 then some (.iadd, 651, 0, 0) else none) else (fun pc => bif Nat.beq pc 651 then some (.iaload, 652, 0, 0) else none)) pc)) pc) else (fun pc => (bif Nat.ble pc 653 then (fun pc => (bif Nat.ble pc 652 then (fun pc => bif Nat.beq pc 652 then some (.aload_n 0, 653, 0, 0) else none) else (fun pc => bif Nat.beq pc 653 then some (.iload 4, 655, 0, 0) else none)) pc) else (fun pc => (bif Nat.ble pc 655 then (fun pc => bif Nat.beq pc 655 then some (.iconst 2, 656, 2, 0) else none) else (fun pc => bif Nat.beq pc 656 then some (.iadd, 657, 0, 0) else none)) pc)) pc)) pc) else (fun pc => (bif Nat.ble pc 661 then (fun pc => (bif Nat.ble pc 657 then (fun pc => bif Nat.beq pc 657 then some (.iaload, 658, 0, 0) else none) else (fun pc => (bif Nat.ble pc 658 then (fun pc => bif Nat.beq pc 658 then some (.invokevirtual 72, 661, 80, 147) else none) else (fun pc => bif Nat.beq pc 661 then some (.aload_n 2, 662, 0, 0) else none)) pc)) pc) else (fun pc => (bif Nat.ble pc 663 then (fun pc => (bif Nat.ble pc 662 then (fun pc => bif Nat.beq pc 662 then some (.aload_n 0, 663, 0, 0) else none) else (fun pc => bif Nat.beq pc 663 then some (.iload 4, 665, 0, 0) else none)) pc) else (fun pc => (bif Nat.ble pc 665 then (fun pc => bif Nat.beq pc 665 then some (.iconst 1, 666, 1, 0) else none) else (fun pc => bif Nat.beq pc 666 then some (.iadd, 667, 0, 0) else none)) pc)) pc)) pc)) pc)) pc)) pc) else (fun pc => (bif Nat.ble pc 706 then (fun pc => (bif Nat.ble pc 684 then (fun pc => (bif Nat.ble pc 673 then (fun pc => (bif Nat.ble pc 669 then (fun pc => (bif Nat.ble pc 667 then (fun pc => bif Nat.beq pc 667 then some (.iaload, 668, 0, 0) else none) else (fun pc => (bif Nat.ble pc 668 then (fun pc => bif Nat.beq pc 668 then some (.aload_n 0, 669, 0, 0) else none) else (fun pc => bif Nat.beq pc 669 then some (.iload 4, 671, 0, 0) else none)) pc)) pc) else (fun pc => (bif Nat.ble pc 671 then (fun pc => bif Nat.beq pc 671 then some (.iconst 2, 672, 2, 0) else none) else (fun pc => (bif Nat.ble pc 672 then (fun pc => bif Nat.beq pc 672 then some (.iadd, 673, 0, 0) else none) else (fun pc => bif Nat.beq pc 673 then some (.iaload, 674, 0, 0) else none)) pc)) pc)) pc) else (fun pc => (bif Nat.ble pc 680 then (fun pc => (bif Nat.ble pc 674 then (fun pc => bif Nat.beq pc 674 then some (.invokevirtual 75, 677, 81, 163) else none) else (fun pc => (bif Nat.ble pc 677 then (fun pc => bif Nat.beq pc 677 then some (.if_icmp .eq 673, 680, 1350, 0) else none) else (fun pc => bif Nat.beq pc 680 then some (.iconst 0, 681, 0, 0) else none)) pc)) pc) else (fun pc => (bif Nat.ble pc 682 then (fun pc => (bif Nat.ble pc 681 then (fun pc => bif Nat.beq pc 681 then some (.ireturn, 682, 1, 0) else none) else (fun pc => bif Nat.beq pc 682 then some (.aload_n 1, 683, 0, 0) else none)) pc) else (fun pc => (bif Nat.ble pc 683 then (fun pc => bif Nat.beq pc 683 then some (.aload_n 0, 684, 0, 0) else none) else (fun pc => bif Nat.beq pc 684 then some (.iload 4, 686, 0, 0) else none)) pc)) pc)) pc)) pc) else (fun pc => (bif Nat.ble pc 694 then (fun pc => (bif Nat.ble pc 688 then (fun pc => (bif Nat.ble pc 686 then (fun pc => bif Nat.beq pc 686 then some (.iconst 1, 687, 1, 0) else none) else (fun pc => (bif Nat.ble pc 687 then (fun pc => bif Nat.beq pc 687 then some (.iadd, 688, 0, 0) else none) else (fun pc => bif Nat.beq pc 688 then some (.iaload, 689, 0, 0) else none)) pc)) pc) else (fun pc => (bif Nat.ble pc 692 then (fun pc => (bif Nat.ble pc 689 then (fun pc => bif Nat.beq pc 689 then some (.invokevirtual 76, 692, 82, 146) else none) else (fun pc => bif Nat.beq pc 692 then some (.aload_n 2, 693, 0, 0) else none)) pc) else (fun pc => (bif Nat.ble pc 693 then (fun pc => bif Nat.beq pc 693 then some (.aload_n 0, 694, 0, 0) else none) else (fun pc => bif Nat.beq pc 694 then some (.iload 4, 696, 0, 0) else none)) pc)) pc)) pc) else (fun pc => (bif Nat.ble pc 698 then (fun pc => (bif Nat.ble pc 696 then (fun pc => bif Nat.beq pc 696 then some (.iconst 1, 697, 1, 0) else none) else (fun pc => (bif Nat.ble pc 697 then (fun pc => bif Nat.beq pc 697 then some (.iadd, 698, 0, 0) else none) else (fun pc => bif Nat.beq pc 698 then some (.iaload, 699, 0, 0) else none)) pc)) pc) else (fun pc => (bif Nat.ble pc 702 then (fun pc => (bif Nat.ble pc 699 then (fun pc => bif Nat.beq pc 699 then some (.invokevirtual 80, 702, 83, 162) else none) else (fun pc => bif Nat.beq pc 702 then some (.if_icmp .eq 648, 705, 1350, 0) else none)) pc) else (fun pc => (bif Nat.ble pc 705 then (fun pc => bif Nat.beq pc 705 then some (.iconst 0, 706, 0, 0) else none) else (fun pc => bif Nat.beq pc 706 then some (.ireturn, 707, 1, 0) else none)) pc)) pc)) pc)) pc)) pc) else (fun pc => (bif Nat.ble pc 726 then (fun pc => (bif Nat.ble pc 718 then (fun pc => (bif Nat.ble pc 711 then (fun pc => (bif Nat.ble pc 707 then (fun pc => bif Nat.beq pc 707 then some (.aload_n 1, 708, 0, 0) else none) else (fun pc => (bif Nat.ble pc 708 then (fun pc => bif Nat.beq pc 708 then some (.invokevirtual 81, 711, 84, 145) else none) else (fun pc => bif Nat.beq pc 711 then some (.aload_n 2, 712, 0, 0) else none)) pc)) pc) else (fun pc => (bif Nat.ble pc 712 then (fun pc => bif Nat.beq pc 712 then some (.invokevirtual 85, 715, 86, 161) else none) else (fun pc => (bif Nat.ble pc 715 then (fun pc => bif Nat.beq pc 715 then some (.if_icmp .eq 635, 718, 1350, 0) else none) else (fun pc => bif Nat.beq pc 718 then some (.iconst 0, 719, 0, 0) else none)) pc)) pc)) pc) else (fun pc => (bif Nat.ble pc 721 then (fun pc => (bif Nat.ble pc 719 then (fun pc => bif Nat.beq pc 719 then some (.ireturn, 720, 1, 0) else none) else (fun pc => (bif Nat.ble pc 720 then (fun pc => bif Nat.beq pc 720 then some (.aload_n 1, 721, 0, 0) else none) else (fun pc => bif Nat.beq pc 721 then some (.aload_n 0, 722, 0, 0) else none)) pc)) pc) else (fun pc => (bif Nat.ble pc 724 then (fun pc => (bif Nat.ble pc 722 then (fun pc => bif Nat.beq pc 722 then some (.iload 4, 724, 0, 0) else none) else (fun pc => bif Nat.beq pc 724 then some (.iconst 1, 725, 1, 0) else none)) pc) else (fun pc => (bif Nat.ble pc 725 then (fun pc => bif Nat.beq pc 725 then some (.iadd, 726, 0, 0) else none) else (fun pc => bif Nat.beq pc 726 then some (.iaload, 727, 0, 0) else none)) pc)) pc)) pc)) pc) else (fun pc => (bif Nat.ble pc 736 then (fun pc => (bif Nat.ble pc 731 then (fun pc => (bif Nat.ble pc 727 then (fun pc => bif Nat.beq pc 727 then some (.invokevirtual 86, 730, 87, 146) else none) else (fun pc => (bif Nat.ble pc 730 then (fun pc => bif Nat.beq pc 730 then some (.aload_n 2, 731, 0, 0) else none) else (fun pc => bif Nat.beq pc 731 then some (.aload_n 0, 732, 0, 0) else none)) pc)) pc) else (fun pc => (bif Nat.ble pc 734 then (fun pc => (bif Nat.ble pc 732 then (fun pc => bif Nat.beq pc 732 then some (.iload 4, 734, 0, 0) else none) else (fun pc => bif Nat.beq pc 734 then some (.iconst 1, 735, 1, 0) else none)) pc) else (fun pc => (bif Nat.ble pc 735 then (fun pc => bif Nat.beq pc 735 then some (.iadd, 736, 0, 0) else none) else (fun pc => bif Nat.beq pc 736 then some (.iaload, 737, 0, 0) else none)) pc)) pc)) pc) else (fun pc => (bif Nat.ble pc 743 then (fun pc => (bif Nat.ble pc 737 then (fun pc => bif Nat.beq pc 737 then some (.invokevirtual 89, 740, 88, 162) else none) else (fun pc => (bif Nat.ble pc 740 then (fun pc => bif Nat.beq pc 740 then some (.if_icmp .eq 610, 743, 1350, 0) else none) else (fun pc => bif Nat.beq pc 743 then some (.iconst 0, 744, 0, 0) else none)) pc)) pc) else (fun pc => (bif Nat.ble pc 745 then (fun pc => (bif Nat.ble pc 744 then (fun pc => bif Nat.beq pc 744 then some (.ireturn, 745, 1, 0) else none) else (fun pc => bif Nat.beq pc 745 then some (.aload_n 1, 746, 0, 0) else none)) pc) else (fun pc => (bif Nat.ble pc 746 then (fun pc => bif Nat.beq pc 746 then some (.aload_n 0, 747, 0, 0) else none) else (fun pc => bif Nat.beq pc 747 then some (.iload 4, 749, 0, 0) else none)) pc)) pc)) pc)) pc)) pc)) pc)) pc)) pc)) pc) else (fun pc => (bif Nat.ble pc 1055 then (fun pc => (bif Nat.ble pc 890 then (fun pc => (bif Nat.ble pc 820 then (fun pc => (bif Nat.ble pc 783 then (fun pc => (bif Nat.ble pc 765 then (fun pc => (bif Nat.ble pc 755 then (fun pc => (bif Nat.ble pc 751 then (fun pc => (bif Nat.ble pc 749 then (fun pc => bif Nat.beq pc 749 then some (.iconst 1, 750, 1, 0) else none) else (fun pc => (bif Nat.ble pc 750 then (fun pc => bif Nat.beq pc 750 then some (.iadd, 751, 0, 0) else none) else (fun pc => bif Nat.beq pc 751 then some (.iaload, 752, 0, 0) else none)) pc)) pc) else (fun pc => (bif Nat.ble pc 752 then (fun pc => bif Nat.beq pc 752 then some (.aload_n 0, 753, 0, 0) else none) else (fun pc => (bif Nat.ble pc 753 then (fun pc => bif Nat.beq pc 753 then some (.iload 4, 755, 0, 0) else none) else (fun pc => bif Nat.beq pc 755 then some (.iconst 2, 756, 2, 0) else none)) pc)) pc)) pc) else (fun pc => (bif Nat.ble pc 758 then (fun pc => (bif Nat.ble pc 756 then (fun pc => bif Nat.beq pc 756 then some (.iadd, 757, 0, 0) else none) else (fun pc => (bif Nat.ble pc 757 then (fun pc => bif Nat.beq pc 757 then some (.iaload, 758, 0, 0) else none) else (fun pc => bif Nat.beq pc 758 then some (.invokevirtual 90, 761, 90, 147) else none)) pc)) pc) else (fun pc => (bif Nat.ble pc 762 then (fun pc => (bif Nat.ble pc 761 then (fun pc => bif Nat.beq pc 761 then some (.aload_n 2, 762, 0, 0) else none) else (fun pc => bif Nat.beq pc 762 then some (.aload_n 0, 763, 0, 0) else none)) pc) else (fun pc => (bif Nat.ble pc 763 then (fun pc => bif Nat.beq pc 763 then some (.iload 4, 765, 0, 0) else none) else (fun pc => bif Nat.beq pc 765 then some (.iconst 1, 766, 1, 0) else none)) pc)) pc)) pc)) pc) else (fun pc => (bif Nat.ble pc 772 then (fun pc => (bif Nat.ble pc 768 then (fun pc => (bif Nat.ble pc 766 then (fun pc => bif Nat.beq pc 766 then some (.iadd, 767, 0, 0) else none) else (fun pc => (bif Nat.ble pc 767 then (fun pc => bif Nat.beq pc 767 then some (.iaload, 768, 0, 0) else none) else (fun pc => bif Nat.beq pc 768 then some (.aload_n 0, 769, 0, 0) else none)) pc)) pc) else (fun pc => (bif Nat.ble pc 769 then (fun pc => bif Nat.beq pc 769 then some (.iload 4, 771, 0, 0) else none) else (fun pc => (bif Nat.ble pc 771 then (fun pc => bif Nat.beq pc 771 then some (.iconst 2, 772, 2, 0) else none) else (fun pc => bif Nat.beq pc 772 then some (.iadd, 773, 0, 0) else none)) pc)) pc)) pc) else (fun pc => (bif Nat.ble pc 777 then (fun pc => (bif Nat.ble pc 773 then (fun pc => bif Nat.beq pc 773 then some (.iaload, 774, 0, 0) else none) else (fun pc => (bif Nat.ble pc 774 then (fun pc => bif Nat.beq pc 774 then some (.invokevirtual 93, 777, 91, 163) else none) else (fun pc => bif Nat.beq pc 777 then some (.if_icmp .eq 573, 780, 1350, 0) else none)) pc)) pc) else (fun pc => (bif Nat.ble pc 781 then (fun pc => (bif Nat.ble pc 780 then (fun pc => bif Nat.beq pc 780 then some (.iconst 0, 781, 0, 0) else none) else (fun pc => bif Nat.beq pc 781 then some (.ireturn, 782, 1, 0) else none)) pc) else (fun pc => (bif Nat.ble pc 782 then (fun pc => bif Nat.beq pc 782 then some (.aload_n 1, 783, 0, 0) else none) else (fun pc => bif Nat.beq pc 783 then some (.aload_n 0, 784, 0, 0) else none)) pc)) pc)) pc)) pc)) pc) else (fun pc => (bif Nat.ble pc 800 then (fun pc => (bif Nat.ble pc 790 then (fun pc => (bif Nat.ble pc 787 then (fun pc => (bif Nat.ble pc 784 then (fun pc => bif Nat.beq pc 784 then some (.iload 4, 786, 0, 0) else none) else (fun pc => (bif Nat.ble pc 786 then (fun pc => bif Nat.beq pc 786 then some (.iconst 1, 787, 1, 0) else none) else (fun pc => bif Nat.beq pc 787 then some (.iadd, 788, 0, 0) else none)) pc)) pc) else (fun pc => (bif Nat.ble pc 788 then (fun pc => bif Nat.beq pc 788 then some (.iaload, 789, 0, 0) else none) else (fun pc => (bif Nat.ble pc 789 then (fun pc => bif Nat.beq pc 789 then some (.aload_n 0, 790, 0, 0) else none) else (fun pc => bif Nat.beq pc 790 then some (.iload 4, 792, 0, 0) else none)) pc)) pc)) pc) else (fun pc => (bif Nat.ble pc 794 then (fun pc => (bif Nat.ble pc 792 then (fun pc => bif Nat.beq pc 792 then some (.iconst 2, 793, 2, 0) else none) else (fun pc => (bif Nat.ble pc 793 then (fun pc => bif Nat.beq pc 793 then some (.iadd, 794, 0, 0) else none) else (fun pc => bif Nat.beq pc 794 then some (.iaload, 795, 0, 0) else none)) pc)) pc) else (fun pc => (bif Nat.ble pc 798 then (fun pc => (bif Nat.ble pc 795 then (fun pc => bif Nat.beq pc 795 then some (.invokevirtual 94, 798, 93, 147) else none) else (fun pc => bif Nat.beq pc 798 then some (.aload_n 2, 799, 0, 0) else none)) pc) else (fun pc => (bif Nat.ble pc 799 then (fun pc => bif Nat.beq pc 799 then some (.aload_n 0, 800, 0, 0) else none) else (fun pc => bif Nat.beq pc 800 then some (.iload 4, 802, 0, 0) else none)) pc)) pc)) pc)) pc) else (fun pc => (bif Nat.ble pc 809 then (fun pc => (bif Nat.ble pc 804 then (fun pc => (bif Nat.ble pc 802 then (fun pc => bif Nat.beq pc 802 then some (.iconst 1, 803, 1, 0) else none) else (fun pc => (bif Nat.ble pc 803 then (fun pc => bif Nat.beq pc 803 then some (.iadd, 804, 0, 0) else none) else (fun pc => bif Nat.beq pc 804 then some (.iaload, 805, 0, 0) else none)) pc)) pc) else (fun pc => (bif Nat.ble pc 806 then (fun pc => (bif Nat.ble pc 805 then (fun pc => bif Nat.beq pc 805 then some (.aload_n 0, 806, 0, 0) else none) else (fun pc => bif Nat.beq pc 806 then some (.iload 4, 808, 0, 0) else none)) pc) else (fun pc => (bif Nat.ble pc 808 then (fun pc => bif Nat.beq pc 808 then some (.iconst 2, 809, 2, 0) else none) else (fun pc => bif Nat.beq pc 809 then some (.iadd, 810, 0, 0) else none)) pc)) pc)) pc) else (fun pc => (bif Nat.ble pc 814 then (fun pc => (bif Nat.ble pc 810 then (fun pc => bif Nat.beq pc 810 then some (.iaload, 811, 0, 0) else none) else (fun pc => (bif Nat.ble pc 811 then (fun pc => bif Nat.beq pc 811 then some (.invokevirtual 97, 814, 95, 163) else none) else (fun pc => bif Nat.beq pc 814 then some (.if_icmp .eq 536, 817, 1350, 0) else none)) pc)) pc) else (fun pc => (bif Nat.ble pc 818 then (fun pc => (bif Nat.ble pc 817 then (fun pc => bif Nat.beq pc 817 then some (.iconst 0, 818, 0, 0) else none) else (fun pc => bif Nat.beq pc 818 then some (.ireturn, 819, 1, 0) else none)) pc) else (fun pc => (bif Nat.ble pc 819 then (fun pc => bif Nat.beq pc 819 then some (.aload_n 1, 820, 0, 0) else none) else (fun pc => bif Nat.beq pc 820 then some (.aload_n 0, 821, 0, 0) else none)) pc)) pc)) pc)) pc)) pc)) pc) else (fun pc => (bif Nat.ble pc 853 then (fun pc => (bif Nat.ble pc 836 then (fun pc => (bif Nat.ble pc 827 then (fun pc => (bif Nat.ble pc 824 then (fun pc => (bif Nat.ble pc 821 then (fun pc => bif Nat.beq pc 821 then some (.iload 4, 823, 0, 0) else none) else (fun pc => (bif Nat.ble pc 823 then (fun pc => bif Nat.beq pc 823 then some (.iconst 1, 824, 1, 0) else none) else (fun pc => bif Nat.beq pc 824 then some (.iadd, 825, 0, 0) else none)) pc)) pc) else (fun pc => (bif Nat.ble pc 825 then (fun pc => bif Nat.beq pc 825 then some (.iaload, 826, 0, 0) else none) else (fun pc => (bif Nat.ble pc 826 then (fun pc => bif Nat.beq pc 826 then some (.aload_n 0, 827, 0, 0) else none) else (fun pc => bif Nat.beq pc 827 then some (.iload 4, 829, 0, 0) else none)) pc)) pc)) pc) else (fun pc => (bif Nat.ble pc 831 then (fun pc => (bif Nat.ble pc 829 then (fun pc => bif Nat.beq pc 829 then some (.iconst 2, 830, 2, 0) else none) else (fun pc => (bif Nat.ble pc 830 then (fun pc => bif Nat.beq pc 830 then some (.iadd, 831, 0, 0) else none) else (fun pc => bif Nat.beq pc 831 then some (.iaload, 832, 0, 0) else none)) pc)) pc) else (fun pc => (bif Nat.ble pc 833 then (fun pc => (bif Nat.ble pc 832 then (fun pc => bif Nat.beq pc 832 then some (.aload_n 0, 833, 0, 0) else none) else (fun pc => bif Nat.beq pc 833 then some (.iload 4, 835, 0, 0) else none)) pc) else (fun pc => (bif Nat.ble pc 835 then (fun pc => bif Nat.beq pc 835 then some (.iconst 3, 836, 3, 0) else none) else (fun pc => bif Nat.beq pc 836 then some (.iadd, 837, 0, 0) else none)) pc)) pc)) pc)) pc) else (fun pc => (bif Nat.ble pc 845 then (fun pc => (bif Nat.ble pc 841 then (fun pc => (bif Nat.ble pc 837 then (fun pc => bif Nat.beq pc 837 then some (.iaload, 838, 0, 0) else none) else (fun pc => (bif Nat.ble pc 838 then (fun pc => bif Nat.beq pc 838 then some (.invokevirtual 98, 841, 96, 148) else none) else (fun pc => bif Nat.beq pc 841 then some (.aload_n 2, 842, 0, 0) else none)) pc)) pc) else (fun pc => (bif Nat.ble pc 842 then (fun pc => bif Nat.beq pc 842 then some (.aload_n 0, 843, 0, 0) else none) else (fun pc => (bif Nat.ble pc 843 then (fun pc => bif Nat.beq pc 843 then some (.iload 4, 845, 0, 0) else none) else (fun pc => bif Nat.beq pc 845 then some (.iconst 1, 846, 1, 0) else none)) pc)) pc)) pc) else (fun pc => (bif Nat.ble pc 848 then (fun pc => (bif Nat.ble pc 846 then (fun pc => bif Nat.beq pc 846 then some (.iadd, 847, 0, 0) else none) else (fun pc => (bif Nat.ble pc 847 then (fun pc => bif Nat.beq pc 847 then some (.iaload, 848, 0, 0) else none) else (fun pc => bif Nat.beq pc 848 then some (.aload_n 0, 849, 0, 0) else none)) pc)) pc) else (fun pc => (bif Nat.ble pc 851 then (fun pc => (bif Nat.ble pc 849 then (fun pc => bif Nat.beq pc 849 then some (.iload 4, 851, 0, 0) else none) else (fun pc => bif Nat.beq pc 851 then some (.iconst 2, 852, 2, 0) else none)) pc) else (fun pc => (bif Nat.ble pc 852 then (fun pc => bif Nat.beq pc 852 then some (.iadd, 853, 0, 0) else none) else (fun pc => bif Nat.beq pc 853 then some (.iaload, 854, 0, 0) else none)) pc)) pc)) pc)) pc)) pc) else (fun pc => (bif Nat.ble pc 872 then (fun pc => (bif Nat.ble pc 860 then (fun pc => (bif Nat.ble pc 857 then (fun pc => (bif Nat.ble pc 854 then (fun pc => bif Nat.beq pc 854 then some (.aload_n 0, 855, 0, 0) else none) else (fun pc => (bif Nat.ble pc 855 then (fun pc => bif Nat.beq pc 855 then some (.iload 4, 857, 0, 0) else none) else (fun pc => bif Nat.beq pc 857 then some (.iconst 3, 858, 3, 0) else none)) pc)) pc) else (fun pc => (bif Nat.ble pc 858 then (fun pc => bif Nat.beq pc 858 then some (.iadd, 859, 0, 0) else none) else (fun pc => (bif Nat.ble pc 859 then (fun pc => bif Nat.beq pc 859 then some (.iaload, 860, 0, 0) else none) else (fun pc => bif Nat.beq pc 860 then some (.invokevirtual 101, 863, 97, 164) else none)) pc)) pc)) pc) else (fun pc => (bif Nat.ble pc 867 then (fun pc => (bif Nat.ble pc 863 then (fun pc => bif Nat.beq pc 863 then some (.if_icmp .eq 487, 866, 1350, 0) else none) else (fun pc => (bif Nat.ble pc 866 then (fun pc => bif Nat.beq pc 866 then some (.iconst 0, 867, 0, 0) else none) else (fun pc => bif Nat.beq pc 867 then some (.ireturn, 868, 1, 0) else none)) pc)) pc) else (fun pc => (bif Nat.ble pc 869 then (fun pc => (bif Nat.ble pc 868 then (fun pc => bif Nat.beq pc 868 then some (.aload_n 1, 869, 0, 0) else none) else (fun pc => bif Nat.beq pc 869 then some (.aload_n 0, 870, 0, 0) else none)) pc) else (fun pc => (bif Nat.ble pc 870 then (fun pc => bif Nat.beq pc 870 then some (.iload 4, 872, 0, 0) else none) else (fun pc => bif Nat.beq pc 872 then some (.iconst 1, 873, 1, 0) else none)) pc)) pc)) pc)) pc) else (fun pc => (bif Nat.ble pc 880 then (fun pc => (bif Nat.ble pc 875 then (fun pc => (bif Nat.ble pc 873 then (fun pc => bif Nat.beq pc 873 then some (.iadd, 874, 0, 0) else none) else (fun pc => (bif Nat.ble pc 874 then (fun pc => bif Nat.beq pc 874 then some (.iaload, 875, 0, 0) else none) else (fun pc => bif Nat.beq pc 875 then some (.aload_n 0, 876, 0, 0) else none)) pc)) pc) else (fun pc => (bif Nat.ble pc 878 then (fun pc => (bif Nat.ble pc 876 then (fun pc => bif Nat.beq pc 876 then some (.iload 4, 878, 0, 0) else none) else (fun pc => bif Nat.beq pc 878 then some (.iconst 2, 879, 2, 0) else none)) pc) else (fun pc => (bif Nat.ble pc 879 then (fun pc => bif Nat.beq pc 879 then some (.iadd, 880, 0, 0) else none) else (fun pc => bif Nat.beq pc 880 then some (.iaload, 881, 0, 0) else none)) pc)) pc)) pc) else (fun pc => (bif Nat.ble pc 885 then (fun pc => (bif Nat.ble pc 881 then (fun pc => bif Nat.beq pc 881 then some (.invokevirtual 102, 884, 98, 147) else none) else (fun pc => (bif Nat.ble pc 884 then (fun pc => bif Nat.beq pc 884 then some (.aload_n 2, 885, 0, 0) else none) else (fun pc => bif Nat.beq pc 885 then some (.aload_n 0, 886, 0, 0) else none)) pc)) pc) else (fun pc => (bif Nat.ble pc 888 then (fun pc => (bif Nat.ble pc 886 then (fun pc => bif Nat.beq pc 886 then some (.iload 4, 888, 0, 0) else none) else (fun pc => bif Nat.beq pc 888 then some (.iconst 1, 889, 1, 0) else none)) pc) else (fun pc => (bif Nat.ble pc 889 then (fun pc => bif Nat.beq pc 889 then some (.iadd, 890, 0, 0) else none) else (fun pc => bif Nat.beq pc 890 then some (.iaload, 891, 0, 0) else none)) pc)) pc)) pc)) pc)) pc)) pc)) pc) else (fun pc => (bif Nat.ble pc 966 then (fun pc => (bif Nat.ble pc 924 then (fun pc => (bif Nat.ble pc 909 then (fun pc => (bif Nat.ble pc 897 then (fun pc => (bif Nat.ble pc 894 then (fun pc => (bif Nat.ble pc 891 then (fun pc => bif Nat.beq pc 891 then some (.aload_n 0, 892, 0, 0) else none) else (fun pc => (bif Nat.ble pc 892 then (fun pc => bif Nat.beq pc 892 then some (.iload 4, 894, 0, 0) else none) else (fun pc => bif Nat.beq pc 894 then some (.iconst 2, 895, 2, 0) else none)) pc)) pc) else (fun pc => (bif Nat.ble pc 895 then (fun pc => bif Nat.beq pc 895 then some (.iadd, 896, 0, 0) else none) else (fun pc => (bif Nat.ble pc 896 then (fun pc => bif Nat.beq pc 896 then some (.iaload, 897, 0, 0) else none) else (fun pc => bif Nat.beq pc 897 then some (.invokevirtual 105, 900, 99, 163) else none)) pc)) pc)) pc) else (fun pc => (bif Nat.ble pc 904 then (fun pc => (bif Nat.ble pc 900 then (fun pc => bif Nat.beq pc 900 then some (.if_icmp .eq 450, 903, 1350, 0) else none) else (fun pc => (bif Nat.ble pc 903 then (fun pc => bif Nat.beq pc 903 then some (.iconst 0, 904, 0, 0) else none) else (fun pc => bif Nat.beq pc 904 then some (.ireturn, 905, 1, 0) else none)) pc)) pc) else (fun pc => (bif Nat.ble pc 906 then (fun pc => (bif Nat.ble pc 905 then (fun pc => bif Nat.beq pc 905 then some (.aload_n 1, 906, 0, 0) else none) else (fun pc => bif Nat.beq pc 906 then some (.aload_n 0, 907, 0, 0) else none)) pc) else (fun pc => (bif Nat.ble pc 907 then (fun pc => bif Nat.beq pc 907 then some (.iload 4, 909, 0, 0) else none) else (fun pc => bif Nat.beq pc 909 then some (.iconst 1, 910, 1, 0) else none)) pc)) pc)) pc)) pc) else (fun pc => (bif Nat.ble pc 916 then (fun pc => (bif Nat.ble pc 912 then (fun pc => (bif Nat.ble pc 910 then (fun pc => bif Nat.beq pc 910 then some (.iadd, 911, 0, 0) else none) else (fun pc => (bif Nat.ble pc 911 then (fun pc => bif Nat.beq pc 911 then some (.iaload, 912, 0, 0) else none) else (fun pc => bif Nat.beq pc 912 then some (.aload_n 0, 913, 0, 0) else none)) pc)) pc) else (fun pc => (bif Nat.ble pc 913 then (fun pc => bif Nat.beq pc 913 then some (.iload 4, 915, 0, 0) else none) else (fun pc => (bif Nat.ble pc 915 then (fun pc => bif Nat.beq pc 915 then some (.iconst 2, 916, 2, 0) else none) else (fun pc => bif Nat.beq pc 916 then some (.iadd, 917, 0, 0) else none)) pc)) pc)) pc) else (fun pc => (bif Nat.ble pc 919 then (fun pc => (bif Nat.ble pc 917 then (fun pc => bif Nat.beq pc 917 then some (.iaload, 918, 0, 0) else none) else (fun pc => (bif Nat.ble pc 918 then (fun pc => bif Nat.beq pc 918 then some (.aload_n 0, 919, 0, 0) else none) else (fun pc => bif Nat.beq pc 919 then some (.iload 4, 921, 0, 0) else none)) pc)) pc) else (fun pc => (bif Nat.ble pc 922 then (fun pc => (bif Nat.ble pc 921 then (fun pc => bif Nat.beq pc 921 then some (.iconst 3, 922, 3, 0) else none) else (fun pc => bif Nat.beq pc 922 then some (.iadd, 923, 0, 0) else none)) pc) else (fun pc => (bif Nat.ble pc 923 then (fun pc => bif Nat.beq pc 923 then some (.iaload, 924, 0, 0) else none) else (fun pc => bif Nat.beq pc 924 then some (.invokevirtual 106, 927, 100, 148) else none)) pc)) pc)) pc)) pc)) pc) else (fun pc => (bif Nat.ble pc 941 then (fun pc => (bif Nat.ble pc 933 then (fun pc => (bif Nat.ble pc 929 then (fun pc => (bif Nat.ble pc 927 then (fun pc => bif Nat.beq pc 927 then some (.aload_n 2, 928, 0, 0) else none) else (fun pc => (bif Nat.ble pc 928 then (fun pc => bif Nat.beq pc 928 then some (.aload_n 0, 929, 0, 0) else none) else (fun pc => bif Nat.beq pc 929 then some (.iload 4, 931, 0, 0) else none)) pc)) pc) else (fun pc => (bif Nat.ble pc 931 then (fun pc => bif Nat.beq pc 931 then some (.iconst 1, 932, 1, 0) else none) else (fun pc => (bif Nat.ble pc 932 then (fun pc => bif Nat.beq pc 932 then some (.iadd, 933, 0, 0) else none) else (fun pc => bif Nat.beq pc 933 then some (.iaload, 934, 0, 0) else none)) pc)) pc)) pc) else (fun pc => (bif Nat.ble pc 937 then (fun pc => (bif Nat.ble pc 934 then (fun pc => bif Nat.beq pc 934 then some (.aload_n 0, 935, 0, 0) else none) else (fun pc => (bif Nat.ble pc 935 then (fun pc => bif Nat.beq pc 935 then some (.iload 4, 937, 0, 0) else none) else (fun pc => bif Nat.beq pc 937 then some (.iconst 2, 938, 2, 0) else none)) pc)) pc) else (fun pc => (bif Nat.ble pc 939 then (fun pc => (bif Nat.ble pc 938 then (fun pc => bif Nat.beq pc 938 then some (.iadd, 939, 0, 0) else none) else (fun pc => bif Nat.beq pc 939 then some (.iaload, 940, 0, 0) else none)) pc) else (fun pc => (bif Nat.ble pc 940 then (fun pc => bif Nat.beq pc 940 then some (.aload_n 0, 941, 0, 0) else none) else (fun pc => bif Nat.beq pc 941 then some (.iload 4, 943, 0, 0) else none)) pc)) pc)) pc)) pc) else (fun pc => (bif Nat.ble pc 953 then (fun pc => (bif Nat.ble pc 945 then (fun pc => (bif Nat.ble pc 943 then (fun pc => bif Nat.beq pc 943 then some (.iconst 3, 944, 3, 0) else none) else (fun pc => (bif Nat.ble pc 944 then (fun pc => bif Nat.beq pc 944 then some (.iadd, 945, 0, 0) else none) else (fun pc => bif Nat.beq pc 945 then some (.iaload, 946, 0, 0) else none)) pc)) pc) else (fun pc => (bif Nat.ble pc 949 then (fun pc => (bif Nat.ble pc 946 then (fun pc => bif Nat.beq pc 946 then some (.invokevirtual 109, 949, 101, 164) else none) else (fun pc => bif Nat.beq pc 949 then some (.if_icmp .eq 401, 952, 1350, 0) else none)) pc) else (fun pc => (bif Nat.ble pc 952 then (fun pc => bif Nat.beq pc 952 then some (.iconst 0, 953, 0, 0) else none) else (fun pc => bif Nat.beq pc 953 then some (.ireturn, 954, 1, 0) else none)) pc)) pc)) pc) else (fun pc => (bif Nat.ble pc 958 then (fun pc => (bif Nat.ble pc 954 then (fun pc => bif Nat.beq pc 954 then some (.aload_n 1, 955, 0, 0) else none) else (fun pc => (bif Nat.ble pc 955 then (fun pc => bif Nat.beq pc 955 then some (.invokevirtual 110, 958, 102, 145) else none) else (fun pc => bif Nat.beq pc 958 then some (.aload_n 2, 959, 0, 0) else none)) pc)) pc) else (fun pc => (bif Nat.ble pc 962 then (fun pc => (bif Nat.ble pc 959 then (fun pc => bif Nat.beq pc 959 then some (.invokevirtual 114, 962, 108, 161) else none) else (fun pc => bif Nat.beq pc 962 then some (.lcmp, 963, 0, 0) else none)) pc) else (fun pc => (bif Nat.ble pc 963 then (fun pc => bif Nat.beq pc 963 then some (.ifCond .eq 387, 966, 1350, 0) else none) else (fun pc => bif Nat.beq pc 966 then some (.iconst 0, 967, 0, 0) else none)) pc)) pc)) pc)) pc)) pc)) pc) else (fun pc => (bif Nat.ble pc 1007 then (fun pc => (bif Nat.ble pc 986 then (fun pc => (bif Nat.ble pc 976 then (fun pc => (bif Nat.ble pc 969 then (fun pc => (bif Nat.ble pc 967 then (fun pc => bif Nat.beq pc 967 then some (.ireturn, 968, 1, 0) else none) else (fun pc => (bif Nat.ble pc 968 then (fun pc => bif Nat.beq pc 968 then some (.aload_n 1, 969, 0, 0) else none) else (fun pc => bif Nat.beq pc 969 then some (.invokevirtual 115, 972, 110, 145) else none)) pc)) pc) else (fun pc => (bif Nat.ble pc 972 then (fun pc => bif Nat.beq pc 972 then some (.aload_n 2, 973, 0, 0) else none) else (fun pc => (bif Nat.ble pc 973 then (fun pc => bif Nat.beq pc 973 then some (.invokevirtual 118, 976, 113, 161) else none) else (fun pc => bif Nat.beq pc 976 then some (.if_icmp .eq 374, 979, 1350, 0) else none)) pc)) pc)) pc) else (fun pc => (bif Nat.ble pc 981 then (fun pc => (bif Nat.ble pc 979 then (fun pc => bif Nat.beq pc 979 then some (.iconst 0, 980, 0, 0) else none) else (fun pc => (bif Nat.ble pc 980 then (fun pc => bif Nat.beq pc 980 then some (.ireturn, 981, 1, 0) else none) else (fun pc => bif Nat.beq pc 981 then some (.aload_n 1, 982, 0, 0) else none)) pc)) pc) else (fun pc => (bif Nat.ble pc 983 then (fun pc => (bif Nat.ble pc 982 then (fun pc => bif Nat.beq pc 982 then some (.aload_n 0, 983, 0, 0) else none) else (fun pc => bif Nat.beq pc 983 then some (.iload 4, 985, 0, 0) else none)) pc) else (fun pc => (bif Nat.ble pc 985 then (fun pc => bif Nat.beq pc 985 then some (.iconst 1, 986, 1, 0) else none) else (fun pc => bif Nat.beq pc 986 then some (.iadd, 987, 0, 0) else none)) pc)) pc)) pc)) pc) else (fun pc => (bif Nat.ble pc 996 then (fun pc => (bif Nat.ble pc 991 then (fun pc => (bif Nat.ble pc 987 then (fun pc => bif Nat.beq pc 987 then some (.iaload, 988, 0, 0) else none) else (fun pc => (bif Nat.ble pc 988 then (fun pc => bif Nat.beq pc 988 then some (.invokevirtual 119, 991, 114, 146) else none) else (fun pc => bif Nat.beq pc 991 then some (.aload_n 2, 992, 0, 0) else none)) pc)) pc) else (fun pc => (bif Nat.ble pc 993 then (fun pc => (bif Nat.ble pc 992 then (fun pc => bif Nat.beq pc 992 then some (.aload_n 0, 993, 0, 0) else none) else (fun pc => bif Nat.beq pc 993 then some (.iload 4, 995, 0, 0) else none)) pc) else (fun pc => (bif Nat.ble pc 995 then (fun pc => bif Nat.beq pc 995 then some (.iconst 1, 996, 1, 0) else none) else (fun pc => bif Nat.beq pc 996 then some (.iadd, 997, 0, 0) else none)) pc)) pc)) pc) else (fun pc => (bif Nat.ble pc 1001 then (fun pc => (bif Nat.ble pc 997 then (fun pc => bif Nat.beq pc 997 then some (.iaload, 998, 0, 0) else none) else (fun pc => (bif Nat.ble pc 998 then (fun pc => bif Nat.beq pc 998 then some (.invokevirtual 122, 1001, 115, 162) else none) else (fun pc => bif Nat.beq pc 1001 then some (.if_icmp .eq 349, 1004, 1350, 0) else none)) pc)) pc) else (fun pc => (bif Nat.ble pc 1005 then (fun pc => (bif Nat.ble pc 1004 then (fun pc => bif Nat.beq pc 1004 then some (.iconst 0, 1005, 0, 0) else none) else (fun pc => bif Nat.beq pc 1005 then some (.ireturn, 1006, 1, 0) else none)) pc) else (fun pc => (bif Nat.ble pc 1006 then (fun pc => bif Nat.beq pc 1006 then some (.aload_n 1, 1007, 0, 0) else none) else (fun pc => bif Nat.beq pc 1007 then some (.aload_n 3, 1008, 0, 0) else none)) pc)) pc)) pc)) pc)) pc) else (fun pc => (bif Nat.ble pc 1035 then (fun pc => (bif Nat.ble pc 1020 then (fun pc => (bif Nat.ble pc 1014 then (fun pc => (bif Nat.ble pc 1011 then (fun pc => bif Nat.beq pc 1011 then some (.istore 5, 1013, 0, 0) else none) else (fun pc => (bif Nat.ble pc 1013 then (fun pc => bif Nat.beq pc 1013 then some (.aload_n 2, 1014, 0, 0) else none) else (fun pc => bif Nat.beq pc 1014 then some (.invokevirtual 126, 1017, 163, 161) else none)) pc)) pc) else (fun pc => (bif Nat.ble pc 1017 then (fun pc => bif Nat.beq pc 1017 then some (.istore 6, 1019, 0, 0) else none) else (fun pc => (bif Nat.ble pc 1019 then (fun pc => bif Nat.beq pc 1019 then some (.aload_n 2, 1020, 0, 0) else none) else (fun pc => bif Nat.beq pc 1020 then some (.invokevirtual 56, 1023, 164, 161) else none)) pc)) pc)) pc) else (fun pc => (bif Nat.ble pc 1028 then (fun pc => (bif Nat.ble pc 1023 then (fun pc => bif Nat.beq pc 1023 then some (.iload 5, 1025, 0, 0) else none) else (fun pc => (bif Nat.ble pc 1025 then (fun pc => bif Nat.beq pc 1025 then some (.if_icmp .eq 5, 1028, 1030, 0) else none) else (fun pc => bif Nat.beq pc 1028 then some (.iconst 0, 1029, 0, 0) else none)) pc)) pc) else (fun pc => (bif Nat.ble pc 1030 then (fun pc => (bif Nat.ble pc 1029 then (fun pc => bif Nat.beq pc 1029 then some (.ireturn, 1030, 1, 0) else none) else (fun pc => bif Nat.beq pc 1030 then some (.iload 5, 1032, 0, 0) else none)) pc) else (fun pc => (bif Nat.ble pc 1032 then (fun pc => bif Nat.beq pc 1032 then some (.ifCond .ne 15, 1035, 1047, 0) else none) else (fun pc => bif Nat.beq pc 1035 then some (.aload_n 3, 1036, 0, 0) else none)) pc)) pc)) pc)) pc) else (fun pc => (bif Nat.ble pc 1045 then (fun pc => (bif Nat.ble pc 1038 then (fun pc => (bif Nat.ble pc 1036 then (fun pc => bif Nat.beq pc 1036 then some (.iconst 0, 1037, 0, 0) else none) else (fun pc => (bif Nat.ble pc 1037 then (fun pc => bif Nat.beq pc 1037 then some (.laload, 1038, 0, 0) else none) else (fun pc => bif Nat.beq pc 1038 then some (.iload 6, 1040, 0, 0) else none)) pc)) pc) else (fun pc => (bif Nat.ble pc 1041 then (fun pc => (bif Nat.ble pc 1040 then (fun pc => bif Nat.beq pc 1040 then some (.i2l, 1041, 0, 0) else none) else (fun pc => bif Nat.beq pc 1041 then some (.lcmp, 1042, 0, 0) else none)) pc) else (fun pc => (bif Nat.ble pc 1042 then (fun pc => bif Nat.beq pc 1042 then some (.ifCond .eq 5, 1045, 1047, 0) else none) else (fun pc => bif Nat.beq pc 1045 then some (.iconst 0, 1046, 0, 0) else none)) pc)) pc)) pc) else (fun pc => (bif Nat.ble pc 1050 then (fun pc => (bif Nat.ble pc 1046 then (fun pc => bif Nat.beq pc 1046 then some (.ireturn, 1047, 1, 0) else none) else (fun pc => (bif Nat.ble pc 1047 then (fun pc => bif Nat.beq pc 1047 then some (.goto 303, 1050, 1350, 0) else none) else (fun pc => bif Nat.beq pc 1050 then some (.aload_n 1, 1051, 0, 0) else none)) pc)) pc) else (fun pc => (bif Nat.ble pc 1052 then (fun pc => (bif Nat.ble pc 1051 then (fun pc => bif Nat.beq pc 1051 then some (.aload_n 0, 1052, 0, 0) else none) else (fun pc => bif Nat.beq pc 1052 then some (.iload 4, 1054, 0, 0) else none)) pc) else (fun pc => (bif Nat.ble pc 1054 then (fun pc => bif Nat.beq pc 1054 then some (.iconst 1, 1055, 1, 0) else none) else (fun pc => bif Nat.beq pc 1055 then some (.iadd, 1056, 0, 0) else none)) pc)) pc)) pc)) pc)) pc)) pc)) pc)) pc) else (fun pc => (bif Nat.ble pc 1200 then (fun pc => (bif Nat.ble pc 1125 then (fun pc => (bif Nat.ble pc 1091 then (fun pc => (bif Nat.ble pc 1072 then (fun pc => (bif Nat.ble pc 1062 then (fun pc => (bif Nat.ble pc 1058 then (fun pc => (bif Nat.ble pc 1056 then (fun pc => bif Nat.beq pc 1056 then some (.iaload, 1057, 0, 0) else none) else (fun pc => (bif Nat.ble pc 1057 then (fun pc => bif Nat.beq pc 1057 then some (.aload_n 0, 1058, 0, 0) else none) else (fun pc => bif Nat.beq pc 1058 then some (.iload 4, 1060, 0, 0) else none)) pc)) pc) else (fun pc => (bif Nat.ble pc 1060 then (fun pc => bif Nat.beq pc 1060 then some (.iconst 2, 1061, 2, 0) else none) else (fun pc => (bif Nat.ble pc 1061 then (fun pc => bif Nat.beq pc 1061 then some (.iadd, 1062, 0, 0) else none) else (fun pc => bif Nat.beq pc 1062 then some (.iaload, 1063, 0, 0) else none)) pc)) pc)) pc) else (fun pc => (bif Nat.ble pc 1067 then (fun pc => (bif Nat.ble pc 1063 then (fun pc => bif Nat.beq pc 1063 then some (.invokevirtual 127, 1066, 116, 147) else none) else (fun pc => (bif Nat.ble pc 1066 then (fun pc => bif Nat.beq pc 1066 then some (.aload_n 2, 1067, 0, 0) else none) else (fun pc => bif Nat.beq pc 1067 then some (.aload_n 0, 1068, 0, 0) else none)) pc)) pc) else (fun pc => (bif Nat.ble pc 1070 then (fun pc => (bif Nat.ble pc 1068 then (fun pc => bif Nat.beq pc 1068 then some (.iload 4, 1070, 0, 0) else none) else (fun pc => bif Nat.beq pc 1070 then some (.iconst 1, 1071, 1, 0) else none)) pc) else (fun pc => (bif Nat.ble pc 1071 then (fun pc => bif Nat.beq pc 1071 then some (.iadd, 1072, 0, 0) else none) else (fun pc => bif Nat.beq pc 1072 then some (.iaload, 1073, 0, 0) else none)) pc)) pc)) pc)) pc) else (fun pc => (bif Nat.ble pc 1079 then (fun pc => (bif Nat.ble pc 1076 then (fun pc => (bif Nat.ble pc 1073 then (fun pc => bif Nat.beq pc 1073 then some (.aload_n 0, 1074, 0, 0) else none) else (fun pc => (bif Nat.ble pc 1074 then (fun pc => bif Nat.beq pc 1074 then some (.iload 4, 1076, 0, 0) else none) else (fun pc => bif Nat.beq pc 1076 then some (.iconst 2, 1077, 2, 0) else none)) pc)) pc) else (fun pc => (bif Nat.ble pc 1077 then (fun pc => bif Nat.beq pc 1077 then some (.iadd, 1078, 0, 0) else none) else (fun pc => (bif Nat.ble pc 1078 then (fun pc => bif Nat.beq pc 1078 then some (.iaload, 1079, 0, 0) else none) else (fun pc => bif Nat.beq pc 1079 then some (.invokevirtual 130, 1082, 117, 163) else none)) pc)) pc)) pc) else (fun pc => (bif Nat.ble pc 1086 then (fun pc => (bif Nat.ble pc 1082 then (fun pc => bif Nat.beq pc 1082 then some (.if_icmp .eq 268, 1085, 1350, 0) else none) else (fun pc => (bif Nat.ble pc 1085 then (fun pc => bif Nat.beq pc 1085 then some (.iconst 0, 1086, 0, 0) else none) else (fun pc => bif Nat.beq pc 1086 then some (.ireturn, 1087, 1, 0) else none)) pc)) pc) else (fun pc => (bif Nat.ble pc 1088 then (fun pc => (bif Nat.ble pc 1087 then (fun pc => bif Nat.beq pc 1087 then some (.aload_n 1, 1088, 0, 0) else none) else (fun pc => bif Nat.beq pc 1088 then some (.aload_n 0, 1089, 0, 0) else none)) pc) else (fun pc => (bif Nat.ble pc 1089 then (fun pc => bif Nat.beq pc 1089 then some (.iload 4, 1091, 0, 0) else none) else (fun pc => bif Nat.beq pc 1091 then some (.iconst 1, 1092, 1, 0) else none)) pc)) pc)) pc)) pc)) pc) else (fun pc => (bif Nat.ble pc 1106 then (fun pc => (bif Nat.ble pc 1098 then (fun pc => (bif Nat.ble pc 1094 then (fun pc => (bif Nat.ble pc 1092 then (fun pc => bif Nat.beq pc 1092 then some (.iadd, 1093, 0, 0) else none) else (fun pc => (bif Nat.ble pc 1093 then (fun pc => bif Nat.beq pc 1093 then some (.iaload, 1094, 0, 0) else none) else (fun pc => bif Nat.beq pc 1094 then some (.aload_n 0, 1095, 0, 0) else none)) pc)) pc) else (fun pc => (bif Nat.ble pc 1095 then (fun pc => bif Nat.beq pc 1095 then some (.iload 4, 1097, 0, 0) else none) else (fun pc => (bif Nat.ble pc 1097 then (fun pc => bif Nat.beq pc 1097 then some (.iconst 2, 1098, 2, 0) else none) else (fun pc => bif Nat.beq pc 1098 then some (.iadd, 1099, 0, 0) else none)) pc)) pc)) pc) else (fun pc => (bif Nat.ble pc 1101 then (fun pc => (bif Nat.ble pc 1099 then (fun pc => bif Nat.beq pc 1099 then some (.iaload, 1100, 0, 0) else none) else (fun pc => (bif Nat.ble pc 1100 then (fun pc => bif Nat.beq pc 1100 then some (.aload_n 0, 1101, 0, 0) else none) else (fun pc => bif Nat.beq pc 1101 then some (.iload 4, 1103, 0, 0) else none)) pc)) pc) else (fun pc => (bif Nat.ble pc 1104 then (fun pc => (bif Nat.ble pc 1103 then (fun pc => bif Nat.beq pc 1103 then some (.iconst 3, 1104, 3, 0) else none) else (fun pc => bif Nat.beq pc 1104 then some (.iadd, 1105, 0, 0) else none)) pc) else (fun pc => (bif Nat.ble pc 1105 then (fun pc => bif Nat.beq pc 1105 then some (.iaload, 1106, 0, 0) else none) else (fun pc => bif Nat.beq pc 1106 then some (.invokevirtual 131, 1109, 123, 148) else none)) pc)) pc)) pc)) pc) else (fun pc => (bif Nat.ble pc 1116 then (fun pc => (bif Nat.ble pc 1111 then (fun pc => (bif Nat.ble pc 1109 then (fun pc => bif Nat.beq pc 1109 then some (.aload_n 2, 1110, 0, 0) else none) else (fun pc => (bif Nat.ble pc 1110 then (fun pc => bif Nat.beq pc 1110 then some (.aload_n 0, 1111, 0, 0) else none) else (fun pc => bif Nat.beq pc 1111 then some (.iload 4, 1113, 0, 0) else none)) pc)) pc) else (fun pc => (bif Nat.ble pc 1114 then (fun pc => (bif Nat.ble pc 1113 then (fun pc => bif Nat.beq pc 1113 then some (.iconst 1, 1114, 1, 0) else none) else (fun pc => bif Nat.beq pc 1114 then some (.iadd, 1115, 0, 0) else none)) pc) else (fun pc => (bif Nat.ble pc 1115 then (fun pc => bif Nat.beq pc 1115 then some (.iaload, 1116, 0, 0) else none) else (fun pc => bif Nat.beq pc 1116 then some (.aload_n 0, 1117, 0, 0) else none)) pc)) pc)) pc) else (fun pc => (bif Nat.ble pc 1120 then (fun pc => (bif Nat.ble pc 1117 then (fun pc => bif Nat.beq pc 1117 then some (.iload 4, 1119, 0, 0) else none) else (fun pc => (bif Nat.ble pc 1119 then (fun pc => bif Nat.beq pc 1119 then some (.iconst 2, 1120, 2, 0) else none) else (fun pc => bif Nat.beq pc 1120 then some (.iadd, 1121, 0, 0) else none)) pc)) pc) else (fun pc => (bif Nat.ble pc 1122 then (fun pc => (bif Nat.ble pc 1121 then (fun pc => bif Nat.beq pc 1121 then some (.iaload, 1122, 0, 0) else none) else (fun pc => bif Nat.beq pc 1122 then some (.aload_n 0, 1123, 0, 0) else none)) pc) else (fun pc => (bif Nat.ble pc 1123 then (fun pc => bif Nat.beq pc 1123 then some (.iload 4, 1125, 0, 0) else none) else (fun pc => bif Nat.beq pc 1125 then some (.iconst 3, 1126, 3, 0) else none)) pc)) pc)) pc)) pc)) pc)) pc) else (fun pc => (bif Nat.ble pc 1160 then (fun pc => (bif Nat.ble pc 1143 then (fun pc => (bif Nat.ble pc 1135 then (fun pc => (bif Nat.ble pc 1128 then (fun pc => (bif Nat.ble pc 1126 then (fun pc => bif Nat.beq pc 1126 then some (.iadd, 1127, 0, 0) else none) else (fun pc => (bif Nat.ble pc 1127 then (fun pc => bif Nat.beq pc 1127 then some (.iaload, 1128, 0, 0) else none) else (fun pc => bif Nat.beq pc 1128 then some (.invokevirtual 134, 1131, 124, 164) else none)) pc)) pc) else (fun pc => (bif Nat.ble pc 1131 then (fun pc => bif Nat.beq pc 1131 then some (.if_icmp .eq 219, 1134, 1350, 0) else none) else (fun pc => (bif Nat.ble pc 1134 then (fun pc => bif Nat.beq pc 1134 then some (.iconst 0, 1135, 0, 0) else none) else (fun pc => bif Nat.beq pc 1135 then some (.ireturn, 1136, 1, 0) else none)) pc)) pc)) pc) else (fun pc => (bif Nat.ble pc 1138 then (fun pc => (bif Nat.ble pc 1136 then (fun pc => bif Nat.beq pc 1136 then some (.aload_n 1, 1137, 0, 0) else none) else (fun pc => (bif Nat.ble pc 1137 then (fun pc => bif Nat.beq pc 1137 then some (.aload_n 0, 1138, 0, 0) else none) else (fun pc => bif Nat.beq pc 1138 then some (.iload 4, 1140, 0, 0) else none)) pc)) pc) else (fun pc => (bif Nat.ble pc 1141 then (fun pc => (bif Nat.ble pc 1140 then (fun pc => bif Nat.beq pc 1140 then some (.iconst 1, 1141, 1, 0) else none) else (fun pc => bif Nat.beq pc 1141 then some (.iadd, 1142, 0, 0) else none)) pc) else (fun pc => (bif Nat.ble pc 1142 then (fun pc => bif Nat.beq pc 1142 then some (.iaload, 1143, 0, 0) else none) else (fun pc => bif Nat.beq pc 1143 then some (.aload_n 0, 1144, 0, 0) else none)) pc)) pc)) pc)) pc) else (fun pc => (bif Nat.ble pc 1152 then (fun pc => (bif Nat.ble pc 1147 then (fun pc => (bif Nat.ble pc 1144 then (fun pc => bif Nat.beq pc 1144 then some (.iload 4, 1146, 0, 0) else none) else (fun pc => (bif Nat.ble pc 1146 then (fun pc => bif Nat.beq pc 1146 then some (.iconst 2, 1147, 2, 0) else none) else (fun pc => bif Nat.beq pc 1147 then some (.iadd, 1148, 0, 0) else none)) pc)) pc) else (fun pc => (bif Nat.ble pc 1148 then (fun pc => bif Nat.beq pc 1148 then some (.iaload, 1149, 0, 0) else none) else (fun pc => (bif Nat.ble pc 1149 then (fun pc => bif Nat.beq pc 1149 then some (.invokevirtual 135, 1152, 125, 147) else none) else (fun pc => bif Nat.beq pc 1152 then some (.aload_n 2, 1153, 0, 0) else none)) pc)) pc)) pc) else (fun pc => (bif Nat.ble pc 1156 then (fun pc => (bif Nat.ble pc 1153 then (fun pc => bif Nat.beq pc 1153 then some (.aload_n 0, 1154, 0, 0) else none) else (fun pc => (bif Nat.ble pc 1154 then (fun pc => bif Nat.beq pc 1154 then some (.iload 4, 1156, 0, 0) else none) else (fun pc => bif Nat.beq pc 1156 then some (.iconst 1, 1157, 1, 0) else none)) pc)) pc) else (fun pc => (bif Nat.ble pc 1158 then (fun pc => (bif Nat.ble pc 1157 then (fun pc => bif Nat.beq pc 1157 then some (.iadd, 1158, 0, 0) else none) else (fun pc => bif Nat.beq pc 1158 then some (.iaload, 1159, 0, 0) else none)) pc) else (fun pc => (bif Nat.ble pc 1159 then (fun pc => bif Nat.beq pc 1159 then some (.aload_n 0, 1160, 0, 0) else none) else (fun pc => bif Nat.beq pc 1160 then some (.iload 4, 1162, 0, 0) else none)) pc)) pc)) pc)) pc)) pc) else (fun pc => (bif Nat.ble pc 1179 then (fun pc => (bif Nat.ble pc 1171 then (fun pc => (bif Nat.ble pc 1164 then (fun pc => (bif Nat.ble pc 1162 then (fun pc => bif Nat.beq pc 1162 then some (.iconst 2, 1163, 2, 0) else none) else (fun pc => (bif Nat.ble pc 1163 then (fun pc => bif Nat.beq pc 1163 then some (.iadd, 1164, 0, 0) else none) else (fun pc => bif Nat.beq pc 1164 then some (.iaload, 1165, 0, 0) else none)) pc)) pc) else (fun pc => (bif Nat.ble pc 1165 then (fun pc => bif Nat.beq pc 1165 then some (.invokevirtual 138, 1168, 126, 163) else none) else (fun pc => (bif Nat.ble pc 1168 then (fun pc => bif Nat.beq pc 1168 then some (.if_icmp .eq 182, 1171, 1350, 0) else none) else (fun pc => bif Nat.beq pc 1171 then some (.iconst 0, 1172, 0, 0) else none)) pc)) pc)) pc) else (fun pc => (bif Nat.ble pc 1174 then (fun pc => (bif Nat.ble pc 1172 then (fun pc => bif Nat.beq pc 1172 then some (.ireturn, 1173, 1, 0) else none) else (fun pc => (bif Nat.ble pc 1173 then (fun pc => bif Nat.beq pc 1173 then some (.aload_n 1, 1174, 0, 0) else none) else (fun pc => bif Nat.beq pc 1174 then some (.aload_n 0, 1175, 0, 0) else none)) pc)) pc) else (fun pc => (bif Nat.ble pc 1177 then (fun pc => (bif Nat.ble pc 1175 then (fun pc => bif Nat.beq pc 1175 then some (.iload 4, 1177, 0, 0) else none) else (fun pc => bif Nat.beq pc 1177 then some (.iconst 1, 1178, 1, 0) else none)) pc) else (fun pc => (bif Nat.ble pc 1178 then (fun pc => bif Nat.beq pc 1178 then some (.iadd, 1179, 0, 0) else none) else (fun pc => bif Nat.beq pc 1179 then some (.iaload, 1180, 0, 0) else none)) pc)) pc)) pc)) pc) else (fun pc => (bif Nat.ble pc 1189 then (fun pc => (bif Nat.ble pc 1184 then (fun pc => (bif Nat.ble pc 1180 then (fun pc => bif Nat.beq pc 1180 then some (.invokevirtual 139, 1183, 127, 146) else none) else (fun pc => (bif Nat.ble pc 1183 then (fun pc => bif Nat.beq pc 1183 then some (.aload_n 2, 1184, 0, 0) else none) else (fun pc => bif Nat.beq pc 1184 then some (.aload_n 0, 1185, 0, 0) else none)) pc)) pc) else (fun pc => (bif Nat.ble pc 1187 then (fun pc => (bif Nat.ble pc 1185 then (fun pc => bif Nat.beq pc 1185 then some (.iload 4, 1187, 0, 0) else none) else (fun pc => bif Nat.beq pc 1187 then some (.iconst 1, 1188, 1, 0) else none)) pc) else (fun pc => (bif Nat.ble pc 1188 then (fun pc => bif Nat.beq pc 1188 then some (.iadd, 1189, 0, 0) else none) else (fun pc => bif Nat.beq pc 1189 then some (.iaload, 1190, 0, 0) else none)) pc)) pc)) pc) else (fun pc => (bif Nat.ble pc 1196 then (fun pc => (bif Nat.ble pc 1190 then (fun pc => bif Nat.beq pc 1190 then some (.invokevirtual 142, 1193, 128, 162) else none) else (fun pc => (bif Nat.ble pc 1193 then (fun pc => bif Nat.beq pc 1193 then some (.if_icmp .eq 157, 1196, 1350, 0) else none) else (fun pc => bif Nat.beq pc 1196 then some (.iconst 0, 1197, 0, 0) else none)) pc)) pc) else (fun pc => (bif Nat.ble pc 1198 then (fun pc => (bif Nat.ble pc 1197 then (fun pc => bif Nat.beq pc 1197 then some (.ireturn, 1198, 1, 0) else none) else (fun pc => bif Nat.beq pc 1198 then some (.aload_n 1, 1199, 0, 0) else none)) pc) else (fun pc => (bif Nat.ble pc 1199 then (fun pc => bif Nat.beq pc 1199 then some (.aload_n 0, 1200, 0, 0) else none) else (fun pc => bif Nat.beq pc 1200 then some (.iload 4, 1202, 0, 0) else none)) pc)) pc)) pc)) pc)) pc)) pc)) pc) else (fun pc => (bif Nat.ble pc 1273 then (fun pc => (bif Nat.ble pc 1236 then (fun pc => (bif Nat.ble pc 1221 then (fun pc => (bif Nat.ble pc 1209 then (fun pc => (bif Nat.ble pc 1204 then (fun pc => (bif Nat.ble pc 1202 then (fun pc => bif Nat.beq pc 1202 then some (.iconst 1, 1203, 1, 0) else none) else (fun pc => (bif Nat.ble pc 1203 then (fun pc => bif Nat.beq pc 1203 then some (.iadd, 1204, 0, 0) else none) else (fun pc => bif Nat.beq pc 1204 then some (.iaload, 1205, 0, 0) else none)) pc)) pc) else (fun pc => (bif Nat.ble pc 1205 then (fun pc => bif Nat.beq pc 1205 then some (.invokevirtual 143, 1208, 129, 146) else none) else (fun pc => (bif Nat.ble pc 1208 then (fun pc => bif Nat.beq pc 1208 then some (.aload_n 2, 1209, 0, 0) else none) else (fun pc => bif Nat.beq pc 1209 then some (.aload_n 0, 1210, 0, 0) else none)) pc)) pc)) pc) else (fun pc => (bif Nat.ble pc 1213 then (fun pc => (bif Nat.ble pc 1210 then (fun pc => bif Nat.beq pc 1210 then some (.iload 4, 1212, 0, 0) else none) else (fun pc => (bif Nat.ble pc 1212 then (fun pc => bif Nat.beq pc 1212 then some (.iconst 1, 1213, 1, 0) else none) else (fun pc => bif Nat.beq pc 1213 then some (.iadd, 1214, 0, 0) else none)) pc)) pc) else (fun pc => (bif Nat.ble pc 1215 then (fun pc => (bif Nat.ble pc 1214 then (fun pc => bif Nat.beq pc 1214 then some (.iaload, 1215, 0, 0) else none) else (fun pc => bif Nat.beq pc 1215 then some (.invokevirtual 146, 1218, 130, 162) else none)) pc) else (fun pc => (bif Nat.ble pc 1218 then (fun pc => bif Nat.beq pc 1218 then some (.if_icmp .eq 132, 1221, 1350, 0) else none) else (fun pc => bif Nat.beq pc 1221 then some (.iconst 0, 1222, 0, 0) else none)) pc)) pc)) pc)) pc) else (fun pc => (bif Nat.ble pc 1228 then (fun pc => (bif Nat.ble pc 1224 then (fun pc => (bif Nat.ble pc 1222 then (fun pc => bif Nat.beq pc 1222 then some (.ireturn, 1223, 1, 0) else none) else (fun pc => (bif Nat.ble pc 1223 then (fun pc => bif Nat.beq pc 1223 then some (.aload_n 1, 1224, 0, 0) else none) else (fun pc => bif Nat.beq pc 1224 then some (.aload_n 0, 1225, 0, 0) else none)) pc)) pc) else (fun pc => (bif Nat.ble pc 1225 then (fun pc => bif Nat.beq pc 1225 then some (.iload 4, 1227, 0, 0) else none) else (fun pc => (bif Nat.ble pc 1227 then (fun pc => bif Nat.beq pc 1227 then some (.iconst 1, 1228, 1, 0) else none) else (fun pc => bif Nat.beq pc 1228 then some (.iadd, 1229, 0, 0) else none)) pc)) pc)) pc) else (fun pc => (bif Nat.ble pc 1231 then (fun pc => (bif Nat.ble pc 1229 then (fun pc => bif Nat.beq pc 1229 then some (.iaload, 1230, 0, 0) else none) else (fun pc => (bif Nat.ble pc 1230 then (fun pc => bif Nat.beq pc 1230 then some (.aload_n 0, 1231, 0, 0) else none) else (fun pc => bif Nat.beq pc 1231 then some (.iload 4, 1233, 0, 0) else none)) pc)) pc) else (fun pc => (bif Nat.ble pc 1234 then (fun pc => (bif Nat.ble pc 1233 then (fun pc => bif Nat.beq pc 1233 then some (.iconst 2, 1234, 2, 0) else none) else (fun pc => bif Nat.beq pc 1234 then some (.iadd, 1235, 0, 0) else none)) pc) else (fun pc => (bif Nat.ble pc 1235 then (fun pc => bif Nat.beq pc 1235 then some (.iaload, 1236, 0, 0) else none) else (fun pc => bif Nat.beq pc 1236 then some (.aload_n 0, 1237, 0, 0) else none)) pc)) pc)) pc)) pc)) pc) else (fun pc => (bif Nat.ble pc 1253 then (fun pc => (bif Nat.ble pc 1245 then (fun pc => (bif Nat.ble pc 1240 then (fun pc => (bif Nat.ble pc 1237 then (fun pc => bif Nat.beq pc 1237 then some (.iload 4, 1239, 0, 0) else none) else (fun pc => (bif Nat.ble pc 1239 then (fun pc => bif Nat.beq pc 1239 then some (.iconst 3, 1240, 3, 0) else none) else (fun pc => bif Nat.beq pc 1240 then some (.iadd, 1241, 0, 0) else none)) pc)) pc) else (fun pc => (bif Nat.ble pc 1241 then (fun pc => bif Nat.beq pc 1241 then some (.iaload, 1242, 0, 0) else none) else (fun pc => (bif Nat.ble pc 1242 then (fun pc => bif Nat.beq pc 1242 then some (.invokevirtual 147, 1245, 137, 148) else none) else (fun pc => bif Nat.beq pc 1245 then some (.aload_n 2, 1246, 0, 0) else none)) pc)) pc)) pc) else (fun pc => (bif Nat.ble pc 1249 then (fun pc => (bif Nat.ble pc 1246 then (fun pc => bif Nat.beq pc 1246 then some (.aload_n 0, 1247, 0, 0) else none) else (fun pc => (bif Nat.ble pc 1247 then (fun pc => bif Nat.beq pc 1247 then some (.iload 4, 1249, 0, 0) else none) else (fun pc => bif Nat.beq pc 1249 then some (.iconst 1, 1250, 1, 0) else none)) pc)) pc) else (fun pc => (bif Nat.ble pc 1251 then (fun pc => (bif Nat.ble pc 1250 then (fun pc => bif Nat.beq pc 1250 then some (.iadd, 1251, 0, 0) else none) else (fun pc => bif Nat.beq pc 1251 then some (.iaload, 1252, 0, 0) else none)) pc) else (fun pc => (bif Nat.ble pc 1252 then (fun pc => bif Nat.beq pc 1252 then some (.aload_n 0, 1253, 0, 0) else none) else (fun pc => bif Nat.beq pc 1253 then some (.iload 4, 1255, 0, 0) else none)) pc)) pc)) pc)) pc) else (fun pc => (bif Nat.ble pc 1262 then (fun pc => (bif Nat.ble pc 1257 then (fun pc => (bif Nat.ble pc 1255 then (fun pc => bif Nat.beq pc 1255 then some (.iconst 2, 1256, 2, 0) else none) else (fun pc => (bif Nat.ble pc 1256 then (fun pc => bif Nat.beq pc 1256 then some (.iadd, 1257, 0, 0) else none) else (fun pc => bif Nat.beq pc 1257 then some (.iaload, 1258, 0, 0) else none)) pc)) pc) else (fun pc => (bif Nat.ble pc 1259 then (fun pc => (bif Nat.ble pc 1258 then (fun pc => bif Nat.beq pc 1258 then some (.aload_n 0, 1259, 0, 0) else none) else (fun pc => bif Nat.beq pc 1259 then some (.iload 4, 1261, 0, 0) else none)) pc) else (fun pc => (bif Nat.ble pc 1261 then (fun pc => bif Nat.beq pc 1261 then some (.iconst 3, 1262, 3, 0) else none) else (fun pc => bif Nat.beq pc 1262 then some (.iadd, 1263, 0, 0) else none)) pc)) pc)) pc) else (fun pc => (bif Nat.ble pc 1267 then (fun pc => (bif Nat.ble pc 1263 then (fun pc => bif Nat.beq pc 1263 then some (.iaload, 1264, 0, 0) else none) else (fun pc => (bif Nat.ble pc 1264 then (fun pc => bif Nat.beq pc 1264 then some (.invokevirtual 150, 1267, 138, 164) else none) else (fun pc => bif Nat.beq pc 1267 then some (.if_icmp .eq 83, 1270, 1350, 0) else none)) pc)) pc) else (fun pc => (bif Nat.ble pc 1271 then (fun pc => (bif Nat.ble pc 1270 then (fun pc => bif Nat.beq pc 1270 then some (.iconst 0, 1271, 0, 0) else none) else (fun pc => bif Nat.beq pc 1271 then some (.ireturn, 1272, 1, 0) else none)) pc) else (fun pc => (bif Nat.ble pc 1272 then (fun pc => bif Nat.beq pc 1272 then some (.aload_n 1, 1273, 0, 0) else none) else (fun pc => bif Nat.beq pc 1273 then some (.aload_n 0, 1274, 0, 0) else none)) pc)) pc)) pc)) pc)) pc)) pc) else (fun pc => (bif Nat.ble pc 1312 then (fun pc => (bif Nat.ble pc 1292 then (fun pc => (bif Nat.ble pc 1280 then (fun pc => (bif Nat.ble pc 1277 then (fun pc => (bif Nat.ble pc 1274 then (fun pc => bif Nat.beq pc 1274 then some (.iload 4, 1276, 0, 0) else none) else (fun pc => (bif Nat.ble pc 1276 then (fun pc => bif Nat.beq pc 1276 then some (.iconst 1, 1277, 1, 0) else none) else (fun pc => bif Nat.beq pc 1277 then some (.iadd, 1278, 0, 0) else none)) pc)) pc) else (fun pc => (bif Nat.ble pc 1278 then (fun pc => bif Nat.beq pc 1278 then some (.iaload, 1279, 0, 0) else none) else (fun pc => (bif Nat.ble pc 1279 then (fun pc => bif Nat.beq pc 1279 then some (.aload_n 0, 1280, 0, 0) else none) else (fun pc => bif Nat.beq pc 1280 then some (.iload 4, 1282, 0, 0) else none)) pc)) pc)) pc) else (fun pc => (bif Nat.ble pc 1284 then (fun pc => (bif Nat.ble pc 1282 then (fun pc => bif Nat.beq pc 1282 then some (.iconst 2, 1283, 2, 0) else none) else (fun pc => (bif Nat.ble pc 1283 then (fun pc => bif Nat.beq pc 1283 then some (.iadd, 1284, 0, 0) else none) else (fun pc => bif Nat.beq pc 1284 then some (.iaload, 1285, 0, 0) else none)) pc)) pc) else (fun pc => (bif Nat.ble pc 1288 then (fun pc => (bif Nat.ble pc 1285 then (fun pc => bif Nat.beq pc 1285 then some (.ifCond .eq 7, 1288, 1292, 0) else none) else (fun pc => bif Nat.beq pc 1288 then some (.iconst 1, 1289, 1, 0) else none)) pc) else (fun pc => (bif Nat.ble pc 1289 then (fun pc => bif Nat.beq pc 1289 then some (.goto 4, 1292, 1293, 0) else none) else (fun pc => bif Nat.beq pc 1292 then some (.iconst 0, 1293, 0, 0) else none)) pc)) pc)) pc)) pc) else (fun pc => (bif Nat.ble pc 1302 then (fun pc => (bif Nat.ble pc 1297 then (fun pc => (bif Nat.ble pc 1293 then (fun pc => bif Nat.beq pc 1293 then some (.invokevirtual 151, 1296, 139, 147) else none) else (fun pc => (bif Nat.ble pc 1296 then (fun pc => bif Nat.beq pc 1296 then some (.aload_n 2, 1297, 0, 0) else none) else (fun pc => bif Nat.beq pc 1297 then some (.aload_n 0, 1298, 0, 0) else none)) pc)) pc) else (fun pc => (bif Nat.ble pc 1300 then (fun pc => (bif Nat.ble pc 1298 then (fun pc => bif Nat.beq pc 1298 then some (.iload 4, 1300, 0, 0) else none) else (fun pc => bif Nat.beq pc 1300 then some (.iconst 1, 1301, 1, 0) else none)) pc) else (fun pc => (bif Nat.ble pc 1301 then (fun pc => bif Nat.beq pc 1301 then some (.iadd, 1302, 0, 0) else none) else (fun pc => bif Nat.beq pc 1302 then some (.iaload, 1303, 0, 0) else none)) pc)) pc)) pc) else (fun pc => (bif Nat.ble pc 1306 then (fun pc => (bif Nat.ble pc 1303 then (fun pc => bif Nat.beq pc 1303 then some (.aload_n 0, 1304, 0, 0) else none) else (fun pc => (bif Nat.ble pc 1304 then (fun pc => bif Nat.beq pc 1304 then some (.iload 4, 1306, 0, 0) else none) else (fun pc => bif Nat.beq pc 1306 then some (.iconst 2, 1307, 2, 0) else none)) pc)) pc) else (fun pc => (bif Nat.ble pc 1308 then (fun pc => (bif Nat.ble pc 1307 then (fun pc => bif Nat.beq pc 1307 then some (.iadd, 1308, 0, 0) else none) else (fun pc => bif Nat.beq pc 1308 then some (.iaload, 1309, 0, 0) else none)) pc) else (fun pc => (bif Nat.ble pc 1309 then (fun pc => bif Nat.beq pc 1309 then some (.ifCond .eq 7, 1312, 1316, 0) else none) else (fun pc => bif Nat.beq pc 1312 then some (.iconst 1, 1313, 1, 0) else none)) pc)) pc)) pc)) pc)) pc) else (fun pc => (bif Nat.ble pc 1332 then (fun pc => (bif Nat.ble pc 1324 then (fun pc => (bif Nat.ble pc 1317 then (fun pc => (bif Nat.ble pc 1313 then (fun pc => bif Nat.beq pc 1313 then some (.goto 4, 1316, 1317, 0) else none) else (fun pc => (bif Nat.ble pc 1316 then (fun pc => bif Nat.beq pc 1316 then some (.iconst 0, 1317, 0, 0) else none) else (fun pc => bif Nat.beq pc 1317 then some (.invokevirtual 155, 1320, 140, 163) else none)) pc)) pc) else (fun pc => (bif Nat.ble pc 1320 then (fun pc => bif Nat.beq pc 1320 then some (.if_icmp .eq 30, 1323, 1350, 0) else none) else (fun pc => (bif Nat.ble pc 1323 then (fun pc => bif Nat.beq pc 1323 then some (.iconst 0, 1324, 0, 0) else none) else (fun pc => bif Nat.beq pc 1324 then some (.ireturn, 1325, 1, 0) else none)) pc)) pc)) pc) else (fun pc => (bif Nat.ble pc 1327 then (fun pc => (bif Nat.ble pc 1325 then (fun pc => bif Nat.beq pc 1325 then some (.aload_n 1, 1326, 0, 0) else none) else (fun pc => (bif Nat.ble pc 1326 then (fun pc => bif Nat.beq pc 1326 then some (.aload_n 0, 1327, 0, 0) else none) else (fun pc => bif Nat.beq pc 1327 then some (.iload 4, 1329, 0, 0) else none)) pc)) pc) else (fun pc => (bif Nat.ble pc 1330 then (fun pc => (bif Nat.ble pc 1329 then (fun pc => bif Nat.beq pc 1329 then some (.iconst 1, 1330, 1, 0) else none) else (fun pc => bif Nat.beq pc 1330 then some (.iadd, 1331, 0, 0) else none)) pc) else (fun pc => (bif Nat.ble pc 1331 then (fun pc => bif Nat.beq pc 1331 then some (.iaload, 1332, 0, 0) else none) else (fun pc => bif Nat.beq pc 1332 then some (.invokevirtual 156, 1335, 142, 146) else none)) pc)) pc)) pc)) pc) else (fun pc => (bif Nat.ble pc 1342 then (fun pc => (bif Nat.ble pc 1337 then (fun pc => (bif Nat.ble pc 1335 then (fun pc => bif Nat.beq pc 1335 then some (.aload_n 2, 1336, 0, 0) else none) else (fun pc => (bif Nat.ble pc 1336 then (fun pc => bif Nat.beq pc 1336 then some (.aload_n 0, 1337, 0, 0) else none) else (fun pc => bif Nat.beq pc 1337 then some (.iload 4, 1339, 0, 0) else none)) pc)) pc) else (fun pc => (bif Nat.ble pc 1340 then (fun pc => (bif Nat.ble pc 1339 then (fun pc => bif Nat.beq pc 1339 then some (.iconst 1, 1340, 1, 0) else none) else (fun pc => bif Nat.beq pc 1340 then some (.iadd, 1341, 0, 0) else none)) pc) else (fun pc => (bif Nat.ble pc 1341 then (fun pc => bif Nat.beq pc 1341 then some (.iaload, 1342, 0, 0) else none) else (fun pc => bif Nat.beq pc 1342 then some (.invokevirtual 159, 1345, 143, 162) else none)) pc)) pc)) pc) else (fun pc => (bif Nat.ble pc 1349 then (fun pc => (bif Nat.ble pc 1345 then (fun pc => bif Nat.beq pc 1345 then some (.if_icmp .eq 5, 1348, 1350, 0) else none) else (fun pc => (bif Nat.ble pc 1348 then (fun pc => bif Nat.beq pc 1348 then some (.iconst 0, 1349, 0, 0) else none) else (fun pc => bif Nat.beq pc 1349 then some (.ireturn, 1350, 1, 0) else none)) pc)) pc) else (fun pc => (bif Nat.ble pc 1353 then (fun pc => (bif Nat.ble pc 1350 then (fun pc => bif Nat.beq pc 1350 then some (.iinc 4 7, 1353, 7, 0) else none) else (fun pc => bif Nat.beq pc 1353 then some (.goto (-1330), 1356, 23, 0) else none)) pc) else (fun pc => (bif Nat.ble pc 1356 then (fun pc => bif Nat.beq pc 1356 then some (.iconst 1, 1357, 1, 0) else none) else (fun pc => bif Nat.beq pc 1357 then some (.ireturn, 1358, 1, 0) else none)) pc)) pc)) pc)) pc)) pc)) pc)) pc)) pc)) pc)) pc
def en_mls : List Nat := [2, 1, 2, 1, 2, 1, 1, 1, 2, 1, 2, 1, 1, 2, 3, 5, 1, 1, 3, 2, 1, 2, 3, 2, 1, 1, 3, 2, 3, 3, 3, 3, 3, 5, 2, 2, 2, 1, 4, 1, 2, 2, 1, 2, 7, 2, 3, 2, 2, 3, 2, 2, 3, 4, 3, 3, 3, 3, 4, 4, 3, 3, 6, 3, 7, 2, 3, 5, 3, 6, 5, 2, 2, 5, 5, 1, 1, 4, 4, 2, 3, 3, 2, 2, 1, 2, 1, 5, 5, 4, 3, 3, 2, 6, 3, 6, 4, 4, 5, 7, 4, 5, 1, 7, 4, 1, 6, 5, 4, 5, 1, 10, 2, 9, 4, 2, 3, 3, 5, 3, 4, 9, 4, 5, 4, 3, 6, 2, 5, 2, 4, 3, 8, 4, 6, 2, 5, 10, 10, 3, 3, 3, 2, 2, 5, 7, 3, 5, 6, 2, 5, 8, 4, 3, 7, 5, 7, 5, 4, 3, 3, 3, 7, 10, 1]
noncomputable def en_ml (mi : Nat) : Nat := match en_nth en_mls mi with
  | some g => g
  | none => 0
def en_tab : List ((Nat → Option en_I) × Nat) := [(kc_0, 200), (kc_1, 51), (kc_2, 10), (kc_3, 48), (kc_4, 41), (kc_5, 37), (kc_6, 78), (kc_7, 157), (kc_8, 40), (kc_9, 22), (kc_10, 125), (kc_11, 6), (kc_12, 6), (kc_13, 33), (kc_14, 186), (kc_15, 71), (kc_16, 5), (kc_17, 4), (kc_18, 30), (kc_19, 7), (kc_20, 4), (kc_21, 54), (kc_22, 111), (kc_23, 18), (kc_24, 11), (kc_25, 551), (kc_26, 85), (kc_27, 46), (kc_28, 142), (kc_29, 14), (kc_30, 18), (kc_31, 153), (kc_32, 80), (kc_33, 75), (kc_34, 18), (kc_35, 19), (kc_36, 26), (kc_37, 31), (kc_38, 14), (kc_39, 19), (kc_40, 18), (kc_41, 34), (kc_42, 25), (kc_43, 116), (kc_44, 307), (kc_45, 14), (kc_46, 26), (kc_47, 45), (kc_48, 26), (kc_49, 79), (kc_50, 27), (kc_51, 41), (kc_52, 42), (kc_53, 61), (kc_54, 184), (kc_55, 30), (kc_56, 33), (kc_57, 34), (kc_58, 58), (kc_59, 56), (kc_60, 16), (kc_61, 16), (kc_62, 88), (kc_63, 17), (kc_64, 115), (kc_65, 20), (kc_66, 47), (kc_67, 44), (kc_68, 108), (kc_69, 41), (kc_70, 139), (kc_71, 57), (kc_72, 80), (kc_73, 34), (kc_74, 210), (kc_75, 7), (kc_76, 7), (kc_77, 28), (kc_78, 39), (kc_79, 18), (kc_80, 27), (kc_81, 35), (kc_82, 16), (kc_83, 24), (kc_84, 12), (kc_85, 9), (kc_86, 14), (kc_87, 127), (kc_88, 130), (kc_89, 32), (kc_90, 27), (kc_91, 42), (kc_92, 18), (kc_93, 11), (kc_94, 39), (kc_95, 28), (kc_96, 21), (kc_97, 48), (kc_98, 11), (kc_99, 94), (kc_100, 36), (kc_101, 47), (kc_102, 19), (kc_103, 68), (kc_104, 31), (kc_105, 5), (kc_106, 79), (kc_107, 39), (kc_108, 41), (kc_109, 108), (kc_110, 16), (kc_111, 103), (kc_112, 61), (kc_113, 233), (kc_114, 16), (kc_115, 32), (kc_116, 56), (kc_117, 44), (kc_118, 114), (kc_119, 11), (kc_120, 12), (kc_121, 201), (kc_122, 33), (kc_123, 35), (kc_124, 43), (kc_125, 60), (kc_126, 131), (kc_127, 35), (kc_128, 31), (kc_129, 46), (kc_130, 85), (kc_131, 67), (kc_132, 177), (kc_133, 36), (kc_134, 137), (kc_135, 7), (kc_136, 68), (kc_137, 162), (kc_138, 300), (kc_139, 99), (kc_140, 88), (kc_141, 59), (kc_142, 192), (kc_143, 161), (kc_144, 87), (kc_145, 79), (kc_146, 9), (kc_147, 46), (kc_148, 49), (kc_149, 16), (kc_150, 53), (kc_151, 96), (kc_152, 53), (kc_153, 32), (kc_154, 33), (kc_155, 77), (kc_156, 26), (kc_157, 76), (kc_158, 12), (kc_159, 35), (kc_160, 12), (kc_161, 36), (kc_162, 12), (kc_163, 26), (kc_164, 5)]
noncomputable def en_code (mi pc : Nat) : Option en_I := match en_nth en_tab mi with
  | some g => bif Nat.blt pc g.2 then g.1 pc else none
  | none => none
def en_lawc (pc : Nat) : Option en_I := bif Nat.blt pc 1358 then kc_law pc else none
def en_dfs : List (List en_V) := [[.inr (.inr (.inl none)), .inr (.inr (.inl none)), .inl 0], [.inl 0, .inl 0, .inl 0, .inr (.inr (.inl none)), .inr (.inr (.inl none)), .inr (.inr (.inl none)), .inr (.inr (.inl none)), .inr (.inr (.inl none)), .inr (.inr (.inl none)), .inr (.inr (.inl none)), .inr (.inr (.inl none)), .inr (.inr (.inl none)), .inr (.inr (.inl none)), .inr (.inr (.inl none)), .inr (.inr (.inl none)), .inr (.inr (.inl none)), .inr (.inl 0)], [.inr (.inr (.inl none)), .inl 0, .inl 0], [.inr (.inr (.inl none)), .inr (.inr (.inl none)), .inr (.inr (.inl none)), .inr (.inr (.inl none)), .inl 0, .inl 0, .inl 0, .inl 0], [.inl 0, .inl 0, .inl 0, .inr (.inr (.inl none)), .inr (.inr (.inl none)), .inr (.inr (.inl none)), .inr (.inr (.inl none)), .inr (.inr (.inl none)), .inr (.inr (.inl none)), .inr (.inr (.inl none)), .inr (.inr (.inl none))], [.inr (.inr (.inl none)), .inr (.inr (.inl none)), .inr (.inr (.inl none)), .inr (.inr (.inl none)), .inr (.inr (.inl none)), .inl 0], [.inl 0, .inr (.inr (.inl none)), .inr (.inr (.inl none)), .inr (.inr (.inl none)), .inr (.inr (.inl none))], [.inl 0, .inr (.inr (.inl none)), .inr (.inr (.inl none)), .inr (.inr (.inl none)), .inr (.inr (.inl none)), .inr (.inr (.inl none)), .inr (.inr (.inl none))], [.inl 0, .inl 0, .inr (.inr (.inl none)), .inr (.inr (.inl none)), .inr (.inr (.inl none)), .inr (.inr (.inl none)), .inr (.inr (.inl none)), .inl 0, .inl 0], [.inr (.inr (.inl none)), .inr (.inr (.inl none)), .inr (.inr (.inl none)), .inr (.inr (.inl none)), .inr (.inr (.inl none)), .inr (.inr (.inl none)), .inr (.inr (.inl none)), .inr (.inr (.inl none)), .inr (.inr (.inl none)), .inr (.inr (.inl none)), .inr (.inr (.inl none)), .inr (.inr (.inl none)), .inr (.inr (.inl none)), .inr (.inr (.inl none))], [.inl 0, .inr (.inr (.inl none)), .inl 0, .inl 0, .inr (.inr (.inl none)), .inr (.inr (.inl none)), .inr (.inr (.inl none)), .inl 0, .inl 0, .inr (.inr (.inl none)), .inr (.inr (.inl none)), .inr (.inr (.inl none)), .inr (.inr (.inl none)), .inl 0, .inr (.inr (.inl none)), .inr (.inr (.inl none)), .inr (.inr (.inl none)), .inr (.inr (.inl none)), .inl 0, .inl 0, .inl 0, .inl 0, .inr (.inr (.inl none)), .inr (.inr (.inl none)), .inr (.inr (.inl none)), .inr (.inr (.inl none)), .inl 0, .inr (.inr (.inl none)), .inr (.inr (.inl none)), .inr (.inr (.inl none)), .inr (.inr (.inl none)), .inr (.inr (.inl none)), .inr (.inr (.inl none)), .inr (.inr (.inl none)), .inr (.inr (.inl none)), .inr (.inr (.inl none)), .inr (.inr (.inl none)), .inr (.inr (.inl none)), .inl 0, .inr (.inr (.inl none)), .inr (.inl 0)]]
noncomputable def en_df (ci : Nat) : List en_V := match en_nth en_dfs ci with
  | some g => g
  | none => []
end EN6
end
section
section EN7
def en_cns : List String := ["PackWeeks$Law", "PackWeeks$Pack", "PackWeeks$Past", "PackWeeks$Reader", "PackWeeks$Reckoner", "PackWeeks$Rows", "PackWeeks$Sights", "PackWeeks$Stand", "PackWeeks$Tape", "PackWeeks", "PackWeeksModel", "java/lang/Math", "java/lang/Long", "java/lang/Integer", "PackWeeksLaw"]
def en_cn (k : Nat) : String := en_cns.getD k ""
def en_gt : List Cond := lw_tbl.filter goodWord
noncomputable def en_tb (i : Nat) (w : Cond) : Bool := (match en_nth lw_tbl i with | some v => decide (v = w) | none => false) && goodWord w
theorem en_tb_mem {i : Nat} {w : Cond} (h : en_tb i w = true) : w ∈ en_gt := by
  unfold en_tb at h
  rw [Bool.and_eq_true] at h
  obtain ⟨h1, h2⟩ := h
  rw [en_nth_eq] at h1
  cases hi : lw_tbl[i]? with
  | none => rw [hi] at h1; cases h1
  | some v =>
    rw [hi] at h1
    have e := of_decide_eq_true h1
    subst e
    exact List.mem_filter.mpr ⟨List.mem_of_getElem? hi, h2⟩
abbrev en_M : Type := MethodName × ByteArray × Nat × Option FieldType × Nat × Nat × Nat
abbrev en_X : Type := Nat × Nat × Nat × Nat × Nat × Nat × Nat
/-- the method whose code is the word at the place i -/
noncomputable def en_cd (i : Nat) : MethodName × ByteArray × Nat × Option FieldType := match en_nth lw_tbl i with
  | some (.code y b k r) => (y, b, k, r)
  | _ => (⟨"", "", ""⟩, ⟨#[]⟩, 0, none)
noncomputable def en_isc (i : Nat) : Bool := match en_nth lw_tbl i with
  | some (.code _ _ _ _) => true
  | _ => false
theorem en_isc_mem {i : Nat} (h : en_isc i = true) : Cond.code (en_cd i).1 (en_cd i).2.1 (en_cd i).2.2.1 (en_cd i).2.2.2 ∈ en_gt := by
  unfold en_isc at h
  unfold en_cd
  cases hi : en_nth lw_tbl i with
  | none => rw [hi] at h; cases h
  | some w =>
    rw [hi] at h
    rw [en_nth_eq] at hi
    cases w <;> first | exact List.mem_filter.mpr ⟨List.mem_of_getElem? hi, rfl⟩ | cases h
noncomputable def en_mk (x : en_X) : en_M := ((en_cd x.1).1, (en_cd x.1).2.1, (en_cd x.1).2.2.1, (en_cd x.1).2.2.2, x.2.1, x.2.2.1, x.2.2.2.1)
def en_ix_0 : List en_X := [(153, 0, 2, 9, 152, 0, 129), (161, 0, 2, 8, 160, 0, 130), (202, 1, 2, 3, 201, 0, 131), (233, 0, 2, 7, 232, 0, 132), (270, 0, 2, 2, 269, 0, 133), (291, 0, 2, 6, 290, 0, 134), (314, 0, 2, 4, 313, 0, 135), (359, 0, 2, 1, 358, 0, 136), (365, 1, 2, 5, 364, 0, 137), (408, 0, 2, 0, 407, 0, 138), (424, 0, 1, 1, 422, 423, 136), (428, 0, 1, 5, 426, 427, 137), (432, 0, 1, 0, 430, 431, 138), (436, 1, 1, 0, 434, 435, 138), (440, 0, 1, 1, 438, 439, 136), (444, 2, 1, 1, 442, 443, 136), (447, 1, 0, 9, 446, 0, 129), (450, 1, 0, 9, 449, 0, 129), (454, 2, 1, 1, 452, 453, 136), (457, 2, 0, 9, 456, 0, 129)]
def en_ix_1 : List en_X := [(460, 1, 0, 9, 459, 0, 129), (549, 0, 1, 9, 548, 0, 129), (553, 1, 1, 7, 551, 552, 132), (557, 1, 1, 5, 555, 556, 137), (562, 0, 1, 2, 560, 561, 133), (1396, 0, 2, 10, 1395, 0, 139), (1443, 1, 1, 10, 1442, 46, 139), (1447, 0, 1, 10, 1446, 47, 139), (1451, 1, 1, 10, 1450, 48, 139), (1455, 2, 1, 10, 1454, 49, 139), (618, 0, 1, 9, 616, 617, 129), (622, 1, 1, 3, 620, 621, 131), (627, 0, 1, 8, 625, 626, 130), (646, 3, 1, 8, 645, 3, 130), (665, 1, 1, 8, 663, 664, 130), (669, 1, 1, 8, 667, 668, 130), (673, 1, 1, 8, 671, 672, 130), (677, 0, 1, 8, 675, 676, 130), (681, 2, 1, 8, 679, 680, 130), (685, 0, 1, 8, 683, 684, 130)]
def en_ix_2 : List en_X := [(696, 1, 1, 8, 694, 695, 130), (700, 1, 1, 8, 698, 699, 130), (704, 0, 1, 8, 702, 703, 130), (1583, 0, 1, 10, 1581, 1582, 139), (1587, 0, 1, 10, 1586, 50, 139), (1606, 1, 1, 10, 1605, 51, 139), (1610, 1, 1, 10, 1609, 52, 139), (1614, 1, 1, 10, 1613, 53, 139), (1618, 1, 1, 10, 1617, 54, 139), (1622, 2, 1, 10, 1621, 55, 139), (1626, 1, 1, 10, 1625, 56, 139), (1630, 1, 1, 10, 1629, 57, 139), (894, 0, 1, 9, 892, 893, 129), (898, 2, 1, 3, 896, 897, 131), (1733, 0, 1, 10, 1731, 1732, 139), (918, 2, 1, 9, 916, 917, 129), (1745, 2, 1, 10, 1743, 1744, 139), (1749, 2, 1, 10, 1748, 84, 139), (924, 3, 1, 9, 922, 923, 129), (1753, 3, 1, 10, 1751, 1752, 139)]
def en_ix_3 : List en_X := [(692, 3, 0, 9, 691, 0, 129), (1685, 3, 0, 10, 1684, 0, 139), (929, 1, 1, 1, 927, 928, 136), (935, 2, 0, 9, 934, 0, 129), (1757, 2, 1, 10, 1756, 85, 139), (940, 1, 1, 9, 938, 939, 129), (1797, 1, 1, 10, 1795, 1796, 139), (944, 3, 1, 9, 943, 26, 129), (948, 1, 1, 7, 946, 947, 132), (952, 4, 1, 9, 951, 27, 129), (956, 1, 1, 7, 954, 955, 132), (1008, 1, 1, 2, 1006, 1007, 133), (1801, 0, 1, 10, 1800, 93, 139), (1805, 3, 1, 10, 1804, 94, 139), (1809, 1, 1, 10, 1808, 95, 139), (1781, 0, 1, 10, 1780, 90, 139), (1769, 0, 1, 10, 1768, 87, 139), (1013, 3, 1, 9, 1011, 1012, 129), (1836, 3, 1, 10, 1834, 1835, 139), (1789, 1, 1, 10, 1788, 91, 139)]
def en_ix_4 : List en_X := [(1017, 2, 1, 9, 1015, 1016, 129), (1856, 2, 1, 10, 1854, 1855, 139), (1021, 1, 1, 9, 1019, 1020, 129), (1868, 1, 1, 10, 1866, 1867, 139), (1025, 0, 1, 9, 1023, 1024, 129), (1029, 1, 1, 2, 1027, 1028, 133), (1876, 0, 1, 10, 1874, 1875, 139), (1033, 1, 1, 9, 1031, 1032, 129), (1880, 1, 1, 10, 1878, 1879, 139), (1037, 1, 1, 7, 1035, 1036, 132), (1041, 2, 1, 9, 1039, 1040, 129), (1888, 2, 1, 10, 1886, 1887, 139), (1765, 1, 1, 10, 1764, 86, 139), (1049, 2, 1, 9, 1047, 1048, 129), (1053, 2, 1, 9, 1052, 28, 129), (1896, 2, 1, 10, 1894, 1895, 139), (1057, 3, 1, 9, 1055, 1056, 129), (1900, 3, 1, 10, 1898, 1899, 139), (1070, 2, 1, 9, 1068, 1069, 129), (1908, 2, 1, 10, 1906, 1907, 139)]
def en_ix_5 : List en_X := [(1074, 3, 1, 9, 1072, 1073, 129), (1912, 3, 1, 10, 1910, 1911, 139), (1082, 0, 1, 9, 1080, 1081, 129), (1086, 2, 1, 6, 1084, 1085, 134), (1090, 1, 1, 6, 1089, 30, 134), (1095, 0, 1, 1, 1093, 1094, 136), (1100, 3, 1, 6, 1099, 31, 134), (1045, 2, 1, 1, 1043, 1044, 136), (1916, 0, 1, 10, 1914, 1915, 139), (1920, 1, 1, 10, 1919, 111, 139), (1116, 0, 1, 9, 1114, 1115, 129), (1120, 2, 1, 6, 1118, 1119, 134), (1124, 1, 0, 12, 1123, 0, 148), (1927, 0, 1, 10, 1925, 1926, 139), (1136, 1, 1, 9, 1134, 1135, 129), (1931, 1, 1, 10, 1929, 1930, 139), (1141, 2, 1, 9, 1139, 1140, 129), (1947, 2, 1, 10, 1945, 1946, 139), (1145, 2, 1, 4, 1143, 1144, 135), (1148, 3, 0, 4, 1147, 0, 135)]
def en_ix_6 : List en_X := [(1157, 3, 1, 4, 1155, 1156, 135), (1951, 0, 1, 10, 1950, 114, 139), (1955, 3, 1, 10, 1954, 115, 139), (1172, 3, 1, 9, 1170, 1171, 129), (1970, 3, 1, 10, 1968, 1969, 139), (1177, 2, 1, 9, 1175, 1176, 129), (1974, 2, 1, 10, 1972, 1973, 139), (1195, 1, 1, 9, 1193, 1194, 129), (1990, 1, 1, 10, 1988, 1989, 139), (1230, 1, 1, 9, 1228, 1229, 129), (2006, 1, 1, 10, 2004, 2005, 139), (1234, 1, 1, 4, 1232, 1233, 135), (964, 4, 1, 0, 962, 963, 138), (970, 4, 0, 0, 969, 0, 138), (1238, 2, 1, 4, 1237, 41, 135), (1248, 1, 1, 4, 1246, 1247, 135), (2010, 1, 1, 10, 2009, 124, 139), (1252, 3, 1, 9, 1250, 1251, 129), (2019, 3, 1, 10, 2017, 2018, 139), (1278, 2, 1, 9, 1276, 1277, 129)]
def en_ix_7 : List en_X := [(2035, 2, 1, 10, 2033, 2034, 139), (1282, 1, 1, 6, 1280, 1281, 134), (1286, 1, 1, 9, 1284, 1285, 129), (2039, 1, 1, 10, 2037, 2038, 139), (1181, 2, 1, 4, 1179, 1180, 135), (1186, 2, 1, 4, 1185, 35, 135), (1191, 2, 1, 4, 1189, 1190, 135), (1978, 2, 1, 10, 1977, 118, 139), (1982, 3, 1, 10, 1981, 119, 139), (1986, 1, 1, 10, 1985, 120, 139), (1817, 3, 1, 10, 1816, 97, 139), (1256, 2, 1, 7, 1254, 1255, 132), (1266, 1, 1, 7, 1264, 1265, 132), (1274, 1, 1, 7, 1272, 1273, 132), (609, 3, 1, 9, 607, 608, 129), (613, 1, 1, 8, 611, 612, 130), (1387, 3, 1, 10, 1385, 1386, 139), (1392, 1, 1, 10, 1390, 45, 139), (1294, 2, 1, 9, 1292, 1293, 129), (1761, 2, 1, 10, 1759, 1760, 139)]
def en_ix_8 : List en_X := [(1369, 2, 1, 9, 1367, 1368, 129), (1785, 2, 1, 10, 1783, 1784, 139), (1378, 0, 1, 9, 1376, 1377, 129), (1939, 0, 1, 10, 1937, 1938, 139), (1383, 0, 1, 10, 1381, 1382, 139)]
def en_ix : List en_X := en_ix_0 ++ (en_ix_1 ++ (en_ix_2 ++ (en_ix_3 ++ (en_ix_4 ++ (en_ix_5 ++ (en_ix_6 ++ (en_ix_7 ++ (en_ix_8))))))))
noncomputable def en_inf : List en_M := en_ix.map en_mk
noncomputable def en_iok (x : en_X) : Bool :=
  en_isc x.1 && (decide ((en_cd x.1).1.cls = en_cn x.2.2.2.1) && (plainName (en_cd x.1).1.cls && (decide ((en_cd x.1).1.cls ≠ "java/lang/invoke/MethodHandle") && (decide ((en_cd x.1).1.cls ≠ "java/lang/invoke/VarHandle") &&
  (decide ((parseMethodDescriptor (en_cd x.1).1.desc).map (fun d => d.parameters.length) = some x.2.1) && (en_tb x.2.2.2.2.2.2 (.initialized (en_cd x.1).1.cls) && (Nat.ble (en_cd x.1).2.2.1 45 && (match x.2.2.1 with
  | 0 => en_tb x.2.2.2.2.1 (.static (en_cd x.1).1)
  | 1 => en_tb x.2.2.2.2.1 (.instanceMethod (en_cd x.1).1) && (en_tb x.2.2.2.2.2.1 (.selects (en_cd x.1).1.cls (en_cd x.1).1 (en_cd x.1).1) && decide ((vwCl[x.2.2.2.1]?).map (fun r => r.1) = some (en_cd x.1).1.cls))
  | _ => en_tb x.2.2.2.2.1 (.instanceMethod (en_cd x.1).1) && (decide ((en_cd x.1).1.name = "<init>") && (match (en_cd x.1).2.2.2 with | none => true | some _ => false))))))))))
set_option maxRecDepth 100000 in
theorem en_ix_ok_0 : en_ix_0.all en_iok = true := by decide +kernel
set_option maxRecDepth 100000 in
theorem en_ix_ok_1 : en_ix_1.all en_iok = true := by decide +kernel
set_option maxRecDepth 100000 in
theorem en_ix_ok_2 : en_ix_2.all en_iok = true := by decide +kernel
set_option maxRecDepth 100000 in
theorem en_ix_ok_3 : en_ix_3.all en_iok = true := by decide +kernel
set_option maxRecDepth 100000 in
theorem en_ix_ok_4 : en_ix_4.all en_iok = true := by decide +kernel
set_option maxRecDepth 100000 in
theorem en_ix_ok_5 : en_ix_5.all en_iok = true := by decide +kernel
set_option maxRecDepth 100000 in
theorem en_ix_ok_6 : en_ix_6.all en_iok = true := by decide +kernel
set_option maxRecDepth 100000 in
theorem en_ix_ok_7 : en_ix_7.all en_iok = true := by decide +kernel
set_option maxRecDepth 100000 in
theorem en_ix_ok_8 : en_ix_8.all en_iok = true := by decide +kernel
theorem en_ix_ok : ∀ x ∈ en_ix, en_iok x = true := by
  intro q hq
  unfold en_ix at hq
  rcases List.mem_append.mp hq with hq | hq
  · exact List.all_eq_true.mp en_ix_ok_0 q hq
  rcases List.mem_append.mp hq with hq | hq
  · exact List.all_eq_true.mp en_ix_ok_1 q hq
  rcases List.mem_append.mp hq with hq | hq
  · exact List.all_eq_true.mp en_ix_ok_2 q hq
  rcases List.mem_append.mp hq with hq | hq
  · exact List.all_eq_true.mp en_ix_ok_3 q hq
  rcases List.mem_append.mp hq with hq | hq
  · exact List.all_eq_true.mp en_ix_ok_4 q hq
  rcases List.mem_append.mp hq with hq | hq
  · exact List.all_eq_true.mp en_ix_ok_5 q hq
  rcases List.mem_append.mp hq with hq | hq
  · exact List.all_eq_true.mp en_ix_ok_6 q hq
  rcases List.mem_append.mp hq with hq | hq
  · exact List.all_eq_true.mp en_ix_ok_7 q hq
  exact List.all_eq_true.mp en_ix_ok_8 q hq
def en_GL : List (Nat × Nat × Nat × Nat × Nat) := [(0, 9, 0, 0, 410), (0, 15, 0, 1, 411), (0, 18, 0, 2, 412), (1, 9, 1, 3, 469), (1, 15, 1, 4, 472), (1, 23, 1, 5, 475), (1, 27, 1, 6, 480), (1, 30, 1, 7, 483), (1, 33, 1, 8, 487), (1, 36, 1, 9, 490), (1, 39, 1, 10, 493), (1, 45, 1, 11, 497), (1, 49, 1, 12, 500), (1, 52, 1, 13, 503), (1, 55, 1, 14, 506), (1, 61, 1, 15, 507), (1, 70, 1, 0, 461), (1, 74, 1, 1, 464), (1, 85, 1, 16, 508), (1, 111, 5, 5, 389), (2, 11, 2, 0, 275), (2, 18, 2, 2, 277), (2, 22, 2, 1, 276), (3, 9, 3, 0, 204), (3, 15, 3, 1, 205), (3, 78, 8, 1, 167), (4, 11, 4, 3, 324), (4, 15, 4, 4, 325), (4, 20, 4, 5, 326), (4, 32, 4, 9, 330), (4, 35, 4, 10, 331), (4, 60, 5, 5, 387), (4, 118, 1, 13, 505), (4, 124, 1, 10, 495), (5, 28, 5, 5, 385), (6, 9, 6, 1, 295), (6, 15, 6, 2, 296), (6, 18, 6, 3, 297), (6, 24, 6, 0, 293), (6, 59, 1, 5, 478), (6, 70, 7, 0, 237), (6, 85, 5, 5, 388), (7, 9, 7, 1, 238), (7, 15, 7, 2, 241), (7, 18, 7, 3, 243), (7, 21, 7, 4, 245), (7, 25, 7, 5, 247), (7, 28, 7, 6, 249), (7, 31, 7, 0, 235), (7, 35, 1, 5, 476), (7, 41, 5, 5, 386), (7, 49, 1, 7, 484), (8, 9, 8, 2, 169), (8, 15, 8, 3, 170), (8, 19, 8, 4, 171), (8, 22, 8, 5, 172), (8, 28, 8, 6, 173), (8, 34, 8, 0, 165), (8, 38, 8, 7, 174), (8, 41, 8, 8, 175), (8, 44, 8, 1, 168), (9, 10, 9, 0, 563), (9, 21, 9, 1, 564), (9, 28, 9, 2, 565), (9, 32, 9, 3, 566), (9, 38, 9, 4, 567), (9, 42, 9, 5, 568), (9, 48, 9, 6, 569), (9, 52, 9, 7, 570), (9, 57, 9, 8, 571), (9, 64, 9, 9, 572), (9, 71, 9, 10, 573), (9, 75, 9, 11, 574), (9, 83, 9, 12, 575), (9, 87, 9, 13, 576), (9, 97, 8, 0, 166), (9, 113, 1, 3, 471), (9, 125, 7, 0, 236), (9, 136, 1, 5, 479), (9, 166, 1, 7, 486), (9, 202, 5, 5, 390), (9, 245, 1, 8, 489), (9, 259, 1, 12, 502), (9, 270, 4, 0, 319), (9, 273, 1, 9, 492), (9, 292, 4, 2, 323), (9, 319, 1, 0, 463), (9, 322, 1, 1, 466), (9, 325, 1, 6, 482), (9, 328, 1, 10, 496), (9, 331, 6, 0, 294), (9, 332, 2, 2, 278), (10, 1, 10, 0, 1456), (10, 11, 10, 2, 1458), (10, 14, 10, 1, 1457), (10, 24, 10, 4, 1460), (10, 27, 10, 5, 1461), (10, 121, 10, 10, 1466), (10, 142, 10, 22, 1478), (10, 145, 10, 23, 1479), (10, 151, 10, 25, 1481), (10, 154, 10, 27, 1483), (10, 161, 10, 29, 1485), (10, 173, 10, 33, 1489), (10, 188, 10, 39, 1495), (10, 202, 10, 3, 1459), (10, 221, 10, 7, 1463), (10, 224, 10, 8, 1464), (10, 364, 10, 26, 1482)]
def en_PL : List (Nat × Nat × Nat × Nat × Nat × Nat × Nat) := [(0, 9, 0, 0, 2, 1, 410), (0, 15, 0, 1, 2, 1, 411), (0, 18, 0, 2, 0, 0, 412), (1, 9, 1, 3, 2, 1, 469), (1, 15, 1, 4, 2, 1, 472), (1, 23, 1, 5, 2, 1, 475), (1, 27, 1, 6, 2, 1, 480), (1, 30, 1, 7, 2, 1, 483), (1, 33, 1, 8, 2, 1, 487), (1, 36, 1, 9, 2, 1, 490), (1, 39, 1, 10, 2, 1, 493), (1, 45, 1, 11, 2, 1, 497), (1, 49, 1, 12, 2, 1, 500), (1, 52, 1, 13, 2, 1, 503), (1, 55, 1, 14, 2, 1, 506), (1, 61, 1, 15, 2, 1, 507), (1, 70, 1, 0, 0, 0, 461), (1, 74, 1, 1, 0, 0, 464), (1, 77, 1, 2, 0, 0, 467), (1, 85, 1, 16, 1, 0, 508), (2, 11, 2, 0, 2, 1, 275), (2, 18, 2, 2, 0, 0, 277), (2, 22, 2, 1, 0, 0, 276), (3, 9, 3, 0, 2, 1, 204), (3, 15, 3, 1, 2, 0, 205), (3, 24, 3, 4, 3, 0, 208), (3, 28, 3, 5, 3, 0, 209), (3, 31, 3, 6, 3, 0, 210), (3, 34, 3, 7, 3, 0, 211), (3, 56, 1, 0, 0, 0, 462), (3, 60, 1, 1, 0, 0, 465), (4, 11, 4, 3, 2, 1, 324), (4, 15, 4, 4, 2, 1, 325), (4, 20, 4, 5, 2, 1, 326), (4, 23, 4, 6, 2, 1, 327), (4, 26, 4, 7, 2, 1, 328), (4, 29, 4, 8, 2, 1, 329), (4, 32, 4, 9, 2, 1, 330), (4, 35, 4, 10, 2, 1, 331), (4, 78, 4, 0, 0, 0, 318), (4, 131, 4, 2, 0, 0, 322), (5, 9, 5, 0, 2, 1, 367), (5, 15, 5, 1, 2, 1, 368), (5, 19, 5, 2, 2, 1, 373), (5, 22, 5, 3, 2, 1, 379), (5, 25, 5, 4, 2, 1, 383), (5, 28, 5, 5, 0, 0, 385), (6, 9, 6, 1, 2, 1, 295), (6, 15, 6, 2, 2, 1, 296), (6, 18, 6, 3, 2, 1, 297), (6, 21, 6, 4, 2, 1, 298), (6, 24, 6, 0, 0, 0, 293), (7, 9, 7, 1, 2, 1, 238), (7, 15, 7, 2, 2, 1, 241), (7, 18, 7, 3, 2, 1, 243), (7, 21, 7, 4, 2, 1, 245), (7, 25, 7, 5, 2, 1, 247), (7, 28, 7, 6, 2, 1, 249), (7, 31, 7, 0, 0, 0, 235), (8, 9, 8, 2, 2, 1, 169), (8, 15, 8, 3, 2, 1, 170), (8, 19, 8, 4, 2, 1, 171), (8, 22, 8, 5, 2, 1, 172), (8, 28, 8, 6, 2, 1, 173), (8, 34, 8, 0, 0, 0, 165), (8, 38, 8, 7, 0, 0, 174), (8, 41, 8, 8, 0, 0, 175), (8, 44, 8, 1, 0, 0, 168), (9, 10, 9, 0, 2, 1, 563), (9, 21, 9, 1, 2, 1, 564), (9, 28, 9, 2, 2, 1, 565), (9, 32, 9, 3, 2, 1, 566), (9, 38, 9, 4, 2, 1, 567), (9, 42, 9, 5, 2, 1, 568), (9, 48, 9, 6, 2, 1, 569), (9, 52, 9, 7, 2, 1, 570), (9, 57, 9, 8, 2, 1, 571), (9, 64, 9, 9, 2, 1, 572), (9, 71, 9, 10, 2, 0, 573), (9, 75, 9, 11, 2, 0, 574), (9, 83, 9, 12, 2, 0, 575), (9, 87, 9, 13, 2, 0, 576), (9, 331, 6, 0, 0, 0, 294), (10, 1, 10, 0, 0, 0, 1456), (10, 11, 10, 2, 0, 0, 1458), (10, 14, 10, 1, 2, 1, 1457), (10, 24, 10, 4, 2, 1, 1460), (10, 27, 10, 5, 2, 1, 1461), (10, 30, 10, 6, 2, 1, 1462), (10, 118, 10, 9, 2, 1, 1465), (10, 121, 10, 10, 2, 1, 1466), (10, 124, 10, 11, 2, 1, 1467), (10, 127, 10, 12, 2, 1, 1468), (10, 130, 10, 14, 2, 1, 1470), (10, 133, 10, 15, 2, 1, 1471), (10, 136, 10, 16, 2, 1, 1472), (10, 139, 10, 17, 2, 1, 1473), (10, 142, 10, 22, 2, 1, 1478), (10, 145, 10, 23, 2, 1, 1479), (10, 148, 10, 24, 2, 1, 1480), (10, 151, 10, 25, 2, 1, 1481), (10, 154, 10, 27, 2, 1, 1483), (10, 158, 10, 28, 2, 1, 1484), (10, 161, 10, 29, 2, 1, 1485), (10, 164, 10, 30, 2, 1, 1486), (10, 167, 10, 31, 2, 1, 1487), (10, 170, 10, 32, 2, 1, 1488), (10, 173, 10, 33, 2, 1, 1489), (10, 176, 10, 34, 2, 1, 1490), (10, 179, 10, 35, 2, 1, 1491), (10, 182, 10, 36, 2, 1, 1492), (10, 185, 10, 37, 2, 1, 1493), (10, 188, 10, 39, 2, 1, 1495), (10, 202, 10, 3, 0, 0, 1459), (10, 221, 10, 7, 0, 0, 1463), (10, 224, 10, 8, 0, 0, 1464), (10, 249, 10, 19, 0, 0, 1475), (10, 258, 10, 13, 0, 0, 1469), (10, 261, 10, 20, 3, 0, 1476), (10, 364, 10, 26, 0, 0, 1482), (10, 508, 10, 40, 1, 0, 1496)]
def en_NL : List (Nat × Nat × Nat × Nat × Nat × Nat) := [(1, 18, 5, 361, 362, 137), (1, 42, 0, 404, 405, 138), (2, 9, 7, 272, 230, 132), (9, 7, 8, 157, 158, 130), (9, 16, 3, 198, 199, 131), (9, 25, 7, 229, 230, 132), (9, 35, 2, 266, 267, 133), (9, 46, 6, 286, 288, 134), (9, 61, 4, 310, 311, 135), (9, 68, 1, 355, 356, 136), (9, 78, 5, 544, 362, 137), (14, 8, 9, 149, 150, 129), (14, 23, 10, 1393, 1391, 139)]
def en_AL : List (Nat × Nat × Nat × Nat) := [(2, 9, 5, 272), (8, 26, 4, 163), (9, 25, 5, 229), (9, 46, 6, 286)]
def en_XL : List (Nat × Nat × Nat) := [(1, 59, 420), (4, 18, 316)]
def en_KL : List (Nat × Nat × Nat × Nat) := [(4, 64, 1000000, 1149), (4, 90, 1000000000, 1187), (10, 462, 1000000, 1956)]
def en_LL : List (Nat × Nat × Nat × Nat) := [(8, 32, 255, 614), (10, 34, 379550, 1398), (10, 36, 8420961, 1399), (10, 38, 37901290, 1400), (10, 40, 57, 1401), (10, 42, 614722, 1402), (10, 44, 34523964, 1403), (10, 46, 329128, 1404), (10, 48, 8787, 1405), (10, 50, 176809, 1406), (10, 52, 17996, 1407), (10, 54, 5791338551, 1408), (10, 56, 811933, 1409), (10, 58, 9636, 1410), (10, 60, 28930245, 1411), (10, 62, 722074, 1412), (10, 64, 975001, 1413), (10, 66, 28443912, 1414), (10, 68, 628412, 1415), (10, 70, 43890888, 1416), (10, 72, 37549136, 1417), (10, 74, 6902, 1418), (10, 76, 628937, 1419), (10, 78, 4666969, 1420), (10, 80, 407382, 1421), (10, 82, 615203, 1422), (10, 84, 426245, 1423), (10, 86, 27023439, 1424), (10, 88, 255357, 1425), (10, 90, 36398351, 1426), (10, 92, 1172587, 1427), (10, 94, 36634896, 1428), (10, 96, 973708, 1429), (10, 98, 11749, 1430), (10, 100, 108206, 1431), (10, 102, 5686137, 1432), (10, 104, 19741, 1433), (10, 106, 1891, 1434), (10, 108, 573, 1435), (10, 110, 8955924273, 1436), (10, 112, 989988, 1437), (10, 114, 21332, 1438), (10, 116, 5538, 1439), (12, 314, 6148914691236517205, 1125), (12, 316, 3689348814741910323, 1126), (12, 318, 1085102592571150095, 1127), (14, 26, 4294967295, 2040)]
def en_SL : List (Nat × Nat × Nat) := [(3, 42, 660)]
def en_ML : List (Nat × Nat × Nat × Nat × Nat) := [(0, 26, 133, 0, 968), (1, 20, 8, 0, 363), (1, 44, 9, 1, 406), (1, 64, 10, 0, 421), (1, 67, 14, 0, 437), (1, 80, 11, 0, 425), (1, 81, 12, 0, 429), (1, 82, 13, 0, 433), (1, 89, 15, 0, 441), (1, 93, 16, 1, 445), (1, 97, 17, 1, 448), (1, 100, 18, 0, 451), (1, 104, 20, 1, 458), (1, 108, 19, 1, 455), (2, 17, 3, 1, 274), (2, 25, 68, 0, 1009), (3, 19, 10, 0, 623), (3, 37, 32, 0, 624), (3, 48, 34, 0, 662), (3, 52, 38, 0, 678), (3, 63, 40, 0, 693), (3, 67, 42, 0, 701), (3, 340, 11, 0, 899), (4, 38, 119, 0, 1146), (4, 81, 132, 0, 1182), (4, 87, 145, 0, 1183), (4, 128, 134, 0, 1235), (6, 28, 104, 0, 1087), (6, 32, 105, 0, 1092), (6, 38, 63, 1, 1096), (6, 42, 106, 0, 1097), (6, 46, 107, 0, 1101), (6, 50, 20, 1, 1112), (6, 75, 103, 0, 1121), (6, 79, 112, 0, 1122), (7, 52, 23, 0, 554), (8, 55, 33, 0, 643), (8, 79, 35, 0, 666), (8, 83, 36, 0, 670), (8, 87, 37, 0, 674), (8, 90, 41, 0, 697), (8, 94, 39, 0, 682), (9, 9, 1, 1, 159), (9, 18, 2, 0, 200), (9, 27, 3, 1, 231), (9, 37, 4, 0, 268), (9, 56, 5, 1, 289), (9, 63, 6, 1, 312), (9, 70, 7, 0, 357), (9, 80, 8, 0, 545), (9, 90, 21, 0, 546), (9, 93, 155, 0, 610), (9, 101, 31, 0, 619), (9, 105, 53, 0, 895), (9, 109, 18, 0, 919), (9, 117, 19, 0, 920), (9, 121, 60, 0, 925), (9, 128, 62, 0, 926), (9, 132, 63, 0, 933), (9, 139, 23, 0, 978), (9, 190, 67, 0, 941), (9, 194, 85, 0, 1026), (9, 198, 22, 0, 550), (9, 208, 69, 0, 949), (9, 212, 89, 0, 1034), (9, 218, 94, 0, 1050), (9, 231, 103, 0, 1083), (9, 235, 111, 0, 1117), (9, 248, 118, 0, 1142), (9, 252, 120, 0, 1168), (9, 263, 144, 0, 1178), (9, 267, 146, 0, 1188), (9, 286, 131, 0, 1231), (9, 289, 135, 0, 1245), (9, 295, 68, 0, 945), (9, 299, 151, 0, 1253), (9, 303, 70, 0, 953), (9, 306, 152, 0, 1263), (9, 309, 153, 0, 1271), (9, 313, 141, 0, 1279), (9, 316, 24, 0, 559), (9, 333, 11, 0, 558), (9, 334, 71, 0, 1005), (9, 348, 20, 0, 936), (10, 7, 157, 0, 1388), (10, 191, 26, 0, 1440), (10, 195, 27, 0, 1444), (10, 227, 51, 0, 1627), (10, 230, 48, 0, 1615), (10, 233, 47, 0, 1611), (10, 236, 46, 0, 1607), (10, 239, 45, 0, 1603), (10, 242, 49, 0, 1619), (10, 255, 44, 0, 1584), (10, 265, 50, 0, 1623), (10, 320, 61, 0, 1683), (10, 358, 29, 0, 1452), (10, 361, 28, 0, 1448), (10, 367, 73, 0, 1802), (10, 371, 76, 0, 1766), (10, 374, 75, 0, 1778), (10, 377, 57, 0, 1746), (10, 384, 64, 0, 1754), (10, 387, 92, 0, 1762), (10, 396, 79, 0, 1786), (10, 405, 150, 0, 1814), (10, 414, 72, 0, 1798), (10, 417, 74, 0, 1806), (10, 453, 109, 0, 1917), (10, 463, 122, 0, 1952), (10, 476, 121, 0, 1948), (10, 479, 149, 0, 1983), (10, 482, 148, 0, 1979), (10, 485, 147, 0, 1975), (10, 505, 136, 0, 2007), (14, 22, 0, 0, 151), (14, 25, 25, 0, 1394), (14, 28, 154, 0, 606), (14, 32, 156, 0, 1384), (14, 33, 30, 0, 615), (14, 36, 43, 0, 1580), (14, 37, 52, 0, 891), (14, 40, 54, 0, 1730), (14, 41, 55, 0, 915), (14, 44, 56, 0, 1742), (14, 45, 58, 0, 921), (14, 49, 59, 0, 1750), (14, 55, 159, 0, 1758), (14, 56, 164, 0, 1380), (14, 61, 161, 0, 1782), (14, 62, 65, 0, 937), (14, 66, 66, 0, 1794), (14, 67, 77, 0, 1010), (14, 71, 78, 0, 1833), (14, 72, 80, 0, 1014), (14, 75, 81, 0, 1853), (14, 76, 82, 0, 1018), (14, 80, 83, 0, 1865), (14, 81, 84, 0, 1022), (14, 85, 86, 0, 1873), (14, 86, 87, 0, 1030), (14, 89, 88, 0, 1877), (14, 90, 90, 0, 1038), (14, 93, 91, 0, 1885), (14, 94, 93, 0, 1046), (14, 97, 95, 0, 1893), (14, 98, 96, 0, 1054), (14, 101, 97, 0, 1897), (14, 102, 98, 0, 1067), (14, 105, 99, 0, 1905), (14, 106, 100, 0, 1071), (14, 109, 101, 0, 1909), (14, 110, 102, 0, 1079), (14, 114, 108, 0, 1913), (14, 115, 110, 0, 1113), (14, 118, 113, 0, 1924), (14, 119, 114, 0, 1133), (14, 122, 115, 0, 1928), (14, 126, 163, 0, 1936), (14, 127, 116, 0, 1138), (14, 130, 117, 0, 1944), (14, 131, 123, 0, 1169), (14, 134, 124, 0, 1967), (14, 135, 125, 0, 1174), (14, 138, 126, 0, 1971), (14, 139, 127, 0, 1192), (14, 142, 128, 0, 1987), (14, 143, 129, 0, 1227), (14, 146, 130, 0, 2003), (14, 147, 137, 0, 1249), (14, 150, 138, 0, 2016), (14, 151, 139, 0, 1275), (14, 155, 140, 0, 2032), (14, 156, 142, 0, 1283), (14, 159, 143, 0, 2036)]
def en_QL : List (Nat × Nat × Nat × Nat) := [(0, 30, 2, 971), (0, 36, 1, 974), (4, 47, 1, 1166)]
def en_OL : List (Nat × Nat × Nat) := [(0, 3, 409), (1, 3, 360), (2, 3, 271), (3, 3, 203), (4, 3, 315), (5, 3, 366), (6, 3, 292), (7, 3, 234), (8, 3, 162), (9, 1, 154), (10, 18, 1397)]
def en_fk (kd : Nat) (ty : FieldType) : Bool := match kd, ty with
  | 0, .int => true
  | 1, .long => true
  | 2, .object _ => true
  | 2, .array _ => true
  | 3, .boolean => true
  | _, _ => false
noncomputable def en_gok (w : Nat × Nat × Nat × Nat × Nat) : Bool := match vwCl[w.2.2.1]? with
  | some r => Nat.blt w.2.2.2.1 r.2.2 && en_tb w.2.2.2.2 (.fieldLink (en_cn w.1) w.2.1 (r.2.1 w.2.2.2.1).1 (r.2.1 w.2.2.2.1).2.1 (r.2.1 w.2.2.2.1).2.2.1)
  | none => false
noncomputable def en_pok (w : Nat × Nat × Nat × Nat × Nat × Nat × Nat) : Bool := match vwCl[w.2.2.1]? with
  | some r => Nat.blt w.2.2.2.1 r.2.2 && (en_tb w.2.2.2.2.2.2 (.fieldLink (en_cn w.1) w.2.1 (r.2.1 w.2.2.2.1).1 (r.2.1 w.2.2.2.1).2.1 (r.2.1 w.2.2.2.1).2.2.1) && ((match parseFieldDescriptor (r.2.1 w.2.2.2.1).2.2.1 with | some ty => en_fk w.2.2.2.2.1 ty | none => false) &&
    (match w.2.2.2.2.2.1 with | 0 => !(r.2.1 w.2.2.2.1).2.2.2 | _ => (r.2.1 w.2.2.2.1).2.2.2 && decide ((r.2.1 w.2.2.2.1).1 = en_cn w.1))))
  | none => false
noncomputable def en_nok (w : Nat × Nat × Nat × Nat × Nat × Nat) : Bool := match vwCl[w.2.2.1]? with
  | some r => en_tb w.2.2.2.1 (.classLink (en_cn w.1) w.2.1 r.1) && (en_tb w.2.2.2.2.1 (.instantiable r.1 r.2.2) && en_tb w.2.2.2.2.2 (.initialized r.1))
  | none => false
def en_acn (c : Nat) : String := match c with | 4 => "PackWeeks$Word" | 5 => "PackWeeks$Stand" | _ => "PackWeeks$Sights"
noncomputable def en_aok (w : Nat × Nat × Nat × Nat) : Bool := Nat.ble 4 w.2.2.1 && (Nat.ble w.2.2.1 6 && en_tb w.2.2.2 (.classLink (en_cn w.1) w.2.1 (en_acn w.2.2.1)))
noncomputable def en_xok (w : Nat × Nat × Nat) : Bool := en_tb w.2.2 (.classLink (en_cn w.1) w.2.1 ("[" ++ (FieldType.array .int).toString))
noncomputable def en_kok (w : Nat × Nat × Nat × Nat) : Bool := en_tb w.2.2.2 (.constant (en_cn w.1) w.2.1 (nI w.2.2.1))
noncomputable def en_lok (w : Nat × Nat × Nat × Nat) : Bool := en_tb w.2.2.2 (.constantLong (en_cn w.1) w.2.1 (lN w.2.2.1))
noncomputable def en_sok (w : Nat × Nat × Nat) : Bool := en_tb w.2.2 (.fieldLink (en_cn w.1) w.2.1 "PackWeeks$Word" "GRID" "LPackWeeks$Word;")
noncomputable def en_mok (w : Nat × Nat × Nat × Nat × Nat) : Bool := match en_nth en_inf w.2.2.1 with
  | some q => (match w.2.2.2.1 with | 0 => en_tb w.2.2.2.2 (.methodLink (en_cn w.1) w.2.1 q.1) | _ => (match en_nth lw_tbl w.2.2.2.2 with | some v => decide (v = .methodLinkNest (en_cn w.1) w.2.1 q.1 "PackWeeks") | none => false))
  | none => false
noncomputable def en_qok (w : Nat × Nat × Nat × Nat) : Bool := match w.2.2.1 with | 1 => en_tb w.2.2.2 (.methodLink (en_cn w.1) w.2.1 Lib.Math.max.name) | _ => en_tb w.2.2.2 (.methodLink (en_cn w.1) w.2.1 Lib.Math.min.name)
noncomputable def en_ook (w : Nat × Nat × Nat) : Bool := en_tb w.2.2 (.methodLink (en_cn w.1) w.2.1 objectInit)
set_option maxRecDepth 100000 in
theorem en_GL_ok : en_GL.all en_gok = true := by decide +kernel
set_option maxRecDepth 100000 in
theorem en_PL_ok : en_PL.all en_pok = true := by decide +kernel
set_option maxRecDepth 100000 in
theorem en_NL_ok : en_NL.all en_nok = true := by decide +kernel
set_option maxRecDepth 100000 in
theorem en_AL_ok : en_AL.all en_aok = true := by decide +kernel
set_option maxRecDepth 100000 in
theorem en_XL_ok : en_XL.all en_xok = true := by decide +kernel
set_option maxRecDepth 100000 in
theorem en_KL_ok : en_KL.all en_kok = true := by decide +kernel
set_option maxRecDepth 100000 in
theorem en_LL_ok : en_LL.all en_lok = true := by decide +kernel
set_option maxRecDepth 100000 in
theorem en_SL_ok : en_SL.all en_sok = true := by decide +kernel
set_option maxRecDepth 100000 in
theorem en_ML_ok : en_ML.all en_mok = true := by decide +kernel
set_option maxRecDepth 100000 in
theorem en_OL_ok : en_OL.all en_ook = true := by decide +kernel
set_option maxRecDepth 100000 in
theorem en_QL_ok : en_QL.all en_qok = true := by decide +kernel
theorem en_w_int : en_tb 196 (.arrayClass .int) = true := by decide +kernel
theorem en_w_byte : en_tb 195 (.arrayClass .byte) = true := by decide +kernel
theorem en_w_bool : en_tb 265 (.arrayClass .boolean) = true := by decide +kernel
theorem en_w_long : en_tb 197 (.arrayClass .long) = true := by decide +kernel
theorem en_w_max_s : en_tb 975 (.static Lib.Math.max.name) = true := by decide +kernel
theorem en_w_max_c : en_tb 976 (.code Lib.Math.max.name Lib.Math.max.code 2 (some .int)) = true := by decide +kernel
theorem en_w_min_s : en_tb 972 (.static Lib.Math.min.name) = true := by decide +kernel
theorem en_w_min_c : en_tb 973 (.code Lib.Math.min.name Lib.Math.min.code 2 (some .int)) = true := by decide +kernel
theorem en_w_math : en_tb 142 (.initialized "java/lang/Math") = true := by decide +kernel
theorem en_w_oi : en_tb 155 (.instanceMethod objectInit) = true := by decide +kernel
theorem en_w_oc : en_tb 156 (.code objectInit ⟨#[0xb1]⟩ 1 none) = true := by decide +kernel
end EN7
end
section
section EN8
def en_cell (ba : Nat) (ex : Nat → Nat) (cA : Nat → ClassId) (D : va_G) (k : Nat) (c : en_C) (H : Heap) : Prop := match c with
  | .inl q => ∃ vs : List Value, en_rvs ba ex q.2 vs ∧ H[ba + k]? = some (arrV (cA q.1) vs.length (vp_V vs))
  | .inr q => ∃ (vs : List Value) (r : vw_C), en_rvs ba ex q.2 vs ∧ vwCl[q.1]? = some r ∧ t_OB (ba + k) (D.1 q.1) r.2.2 (D.2 q.1) H (vp_V vs)
theorem en_cell.kept {ba : Nat} {ex : Nat → Nat} {cA : Nat → ClassId} {D : va_G} {k : Nat} {c : en_C} {H H1 : Heap} (h : en_cell ba ex cA D k c H) (hq : H1[ba + k]? = H[ba + k]?) : en_cell ba ex cA D k c H1 := by
  cases c with
  | inl q =>
    obtain ⟨vs, h1, h2⟩ := h
    exact ⟨vs, h1, hq.trans h2⟩
  | inr q =>
    obtain ⟨vs, r, h1, h2, h3⟩ := h
    exact ⟨vs, r, h1, h2, h3.kept hq⟩
theorem en_cell.lt {ba : Nat} {ex : Nat → Nat} {cA : Nat → ClassId} {D : va_G} {k : Nat} {c : en_C} {H : Heap} (h : en_cell ba ex cA D k c H) : ba + k < H.size := by
  cases c with
  | inl q =>
    obtain ⟨vs, h1, h2⟩ := h
    exact (Array.getElem?_eq_some_iff.mp h2).1
  | inr q =>
    obtain ⟨vs, r, h1, h2, cell, h3, -⟩ := h
    exact (Array.getElem?_eq_some_iff.mp h3).1
def en_P (ba : Nat) (ex : Nat → Nat) (cA : Nat → ClassId) (D : va_G) (t : en_H) (n : Nat) (H : Heap) : Prop := H.size = ba + n ∧ ∀ (k : Nat) (c : en_C), en_get t k = some c → c = en_ph ∨ en_cell ba ex cA D k c H
theorem en_P.set {ba : Nat} {ex : Nat → Nat} {cA : Nat → ClassId} {D : va_G} {t : en_H} {n a : Nat} {c0 c1 : en_C} {H H1 : Heap} (h : en_P ba ex cA D t n H) (hg : en_get t a = some c0) (hc : en_cell ba ex cA D a c1 H1) (hz : H1.size = H.size) (ho : ∀ q : Nat, q ≠ ba + a → H1[q]? = H[q]?) : en_P ba ex cA D (en_set t a c1) n H1 := by
  refine ⟨hz.trans h.1, fun k c hk => ?_⟩
  rw [en_get_set hg] at hk
  by_cases e : k = a
  · rw [if_pos e] at hk
    cases hk
    rw [e]
    exact Or.inr hc
  · rw [if_neg e] at hk
    rcases h.2 k c hk with r | r
    · exact Or.inl r
    · exact Or.inr (r.kept (ho _ (by omega)))
theorem en_P.push {ba : Nat} {ex : Nat → Nat} {cA : Nat → ClassId} {D : va_G} {t : en_H} {n : Nat} {c0 c1 : en_C} {H H1 : Heap} (h : en_P ba ex cA D t n H) (hg : en_get t n = some c0) (hc : en_cell ba ex cA D n c1 H1) (hz : H1.size = H.size + 1) (ho : ∀ q : Nat, q < H.size → H1[q]? = H[q]?) : en_P ba ex cA D (en_set t n c1) (n + 1) H1 := by
  refine ⟨by rw [hz, h.1]; omega, fun k c hk => ?_⟩
  rw [en_get_set hg] at hk
  by_cases e : k = n
  · rw [if_pos e] at hk
    cases hk
    rw [e]
    exact Or.inr hc
  · rw [if_neg e] at hk
    rcases h.2 k c hk with r | r
    · exact Or.inl r
    · exact Or.inr (r.kept (ho _ r.lt))
theorem en_P.obj {ba : Nat} {ex : Nat → Nat} {cA : Nat → ClassId} {D : va_G} {t : en_H} {n a : Nat} {q : Nat × List en_V} {H : Heap} (h : en_P ba ex cA D t n H) (hg : en_get t a = some (.inr q)) (hq : q.1 ≠ 99) : en_cell ba ex cA D a (.inr q) H := by
  rcases h.2 a _ hg with r | r
  · unfold en_ph at r
    cases r
    exact absurd rfl hq
  · exact r
theorem en_P.arr {ba : Nat} {ex : Nat → Nat} {cA : Nat → ClassId} {D : va_G} {t : en_H} {n a : Nat} {q : Nat × List en_V} {H : Heap} (h : en_P ba ex cA D t n H) (hg : en_get t a = some (.inl q)) : en_cell ba ex cA D a (.inl q) H := by
  rcases h.2 a _ hg with r | r
  · cases r
  · exact r
def en_tys (cA : Nat → ClassId) : List (ClassId × FieldType) := [(cA 0, .int), (cA 1, .byte), (cA 2, .boolean), (cA 3, .long), (cA 4, .object "PackWeeks$Word"), (cA 5, .object "PackWeeks$Stand"), (cA 6, .object "PackWeeks$Sights"), (cA 7, .array .int)]
/-- the class of tables of ints is over the class of rows of ints -/
def en_AA (cA : Nat → ClassId) (U : State) : Prop := (∃ k : Class, U.vm.classes[cA 7]? = some k ∧ k.kind = .array (cA 0) (.array .int)) ∧ ∃ (k : Class) (c9 : ClassId), U.vm.classes[cA 0]? = some k ∧ k.kind = .array c9 .int
theorem en_AA.moved {cA : Nat → ClassId} {u U : State} (hvm : u.vm.Alike U.vm) (h : en_AA cA u) : en_AA cA U := by
  obtain ⟨⟨k, h1, h2⟩, k', c9, h3, h4⟩ := h
  obtain ⟨k1, g1, e1⟩ := hvm.2.2 _ _ h1
  obtain ⟨k2, g2, e2⟩ := hvm.2.2 _ _ h3
  exact ⟨⟨k1, g1, by rw [e1]; exact h2⟩, k2, c9, g2, by rw [e2]; exact h4⟩
def en_Kw (ba : Nat) (ex : Nat → Nat) (cA : Nat → ClassId) (D : va_G) (U : State) : Prop := va_K D vwCl (en_tys cA) U ∧ va_Z "PackWeeks$Word" "GRID" "LPackWeeks$Word;" (.ref (ex 0)) (fun q => ba ≤ q) U U.heap ∧ (va_AO "PackWeeks$Word" U ∧ va_AO "PackWeeks$Stand" U ∧ va_AO "PackWeeks$Sights" U) ∧ (∀ w ∈ en_ML, ∀ q, en_nth en_inf w.2.2.1 = some q → w.2.2.2.1 ≠ 0 → va_Nw (.methodLinkNest (en_cn w.1) w.2.1 q.1 "PackWeeks") U) ∧ en_AA cA U
theorem en_Kw.at {ba : Nat} {ex : Nat → Nat} {cA : Nat → ClassId} {D : va_G} {s U : State} {locs : List Loc} (h : en_Kw ba ex cA D s) (hW : s.WarmedH U.vm) (hS : va_S (fun q => ba ≤ q) s.heap U.heap locs) : en_Kw ba ex cA D U :=
  ⟨va_K.moved hW.alike h.1, (h.2.1.kept hS.2.1).moved hW.alike, ⟨h.2.2.1.1.moved hW.alike, h.2.2.1.2.1.moved hW.alike, h.2.2.1.2.2.moved hW.alike⟩, fun w hw q hq h0 => va_Nw.warmM hW (h.2.2.2.1 w hw q hq h0), h.2.2.2.2.moved hW.alike⟩
def en_ro (ba : Nat) (ex : Nat → Nat) : Option en_V → Option Value → Prop
  | none, none => True
  | some a, some v => en_rv ba ex a v
  | none, some _ => False
  | some _, none => False
def en_Pc (ba : Nat) (ex : Nat → Nat) (cA : Nat → ClassId) (D : va_G) (as : List en_V) (t : en_H) (n : Nat) : Array Value → State → Prop := fun a U => (∃ vs : List Value, a = vs.toArray ∧ en_rvs ba ex as vs) ∧ en_P ba ex cA D t n U.heap ∧ en_Kw ba ex cA D U
def en_Qc (ba : Nat) (ex : Nat → Nat) (cA : Nat → ClassId) (D : va_G) (r : en_R) : Array Value → State → Outcome → State → Prop := fun _ st oc u => (∃ ov : Option Value, oc = .returned ov ∧ en_ro ba ex r.1 ov) ∧ en_P ba ex cA D r.2.1 r.2.2.1 u.heap ∧ va_F (fun q => ba ≤ q) st u
theorem en_Pc_blind {ba : Nat} {ex : Nat → Nat} {cA : Nat → ClassId} {D : va_G} {as : List en_V} {t : en_H} {n : Nat} : FrameBlind (en_Pc ba ex cA D as t n) := fun a U g mk h =>
  ⟨h.1, h.2.1, ⟨va_K.moved (u := U) (U := U.calling g mk a) (Vm.Alike.refl U.vm) h.2.2.1, va_Z.moved (u := U) (U := U.calling g mk a) (Vm.Alike.refl U.vm) h.2.2.2.1, ⟨va_AO.moved (u := U) (U := U.calling g mk a) (Vm.Alike.refl U.vm) h.2.2.2.2.1.1, va_AO.moved (u := U) (U := U.calling g mk a) (Vm.Alike.refl U.vm) h.2.2.2.2.1.2.1, va_AO.moved (u := U) (U := U.calling g mk a) (Vm.Alike.refl U.vm) h.2.2.2.2.1.2.2⟩, fun w hw q hq h0 => va_Nw.same rfl (u := U) (U := U.calling g mk a) rfl (h.2.2.2.2.2.1 w hw q hq h0), en_AA.moved (u := U) (U := U.calling g mk a) (Vm.Alike.refl U.vm) h.2.2.2.2.2.2⟩⟩
section
variable {p : Program} {l : Launch} {e : Env} {R : Room} {s : State} {m : MethodId} {args : Array Value} {below : List Frame} {meth : Method} {c : Code} {Q : State → Prop}
variable {ba : Nat} {ex : Nat → Nat} {cA : Nat → ClassId} {D : va_G} {nL n0 N SL : Nat} {cc : ByteArray} {pc nx : Nat} {ls : en_L} {st : List en_V} {t : en_H} {n sl : Nat}
def en_T (p : Program) (l : Launch) (e : Env) (R : Room) (s : State) (m : MethodId) (args : Array Value) (below : List Frame) (meth : Method) (c : Code) (Q : State → Prop) (ba : Nat) (ex : Nat → Nat) (cA : Nat → ClassId) (D : va_G) (nL n0 N SL : Nat) (S : en_S) : Prop :=
  S.2.2.2.2.1 ≤ N ∧ S.2.2.2.2.2 ≤ SL ∧ ∀ (H : Heap) (locs : List Loc) (la : Array Slot) (vs : List Value), en_lr ba ex nL S.2.1 la → en_rvs ba ex S.2.2.1 vs → en_P ba ex cA D S.2.2.2.1 S.2.2.2.2.1 H → va_S (fun q => ba ≤ q) s.heap H locs →
    W p l e R s m args below meth c H locs (S.2.2.2.2.1 - n0) S.2.2.2.2.2 Q (F0 m S.1 la vs)
theorem en_pure {pc' : Nat} {ls' : en_L} {st' : List en_V} (hT : en_T p l e R s m args below meth c Q ba ex cA D nL n0 N SL (pc', ls', st', t, n, sl))
    (h : ∀ (H : Heap) (locs : List Loc) (la : Array Slot) (vs : List Value), en_lr ba ex nL ls la → en_rvs ba ex st vs → en_P ba ex cA D t n H → (∀ (la' : Array Slot) (vs' : List Value), en_lr ba ex nL ls' la' → en_rvs ba ex st' vs' → W p l e R s m args below meth c H locs (n - n0) sl Q (F0 m pc' la' vs')) → W p l e R s m args below meth c H locs (n - n0) sl Q (F0 m pc la vs)) : en_T p l e R s m args below meth c Q ba ex cA D nL n0 N SL (pc, ls, st, t, n, sl) :=
  ⟨hT.1, hT.2.1, fun H locs la vs hl hv hP hS => h H locs la vs hl hv hP (fun la' vs' hl' hv' => hT.2.2 H locs la' vs' hl' hv' hP hS)⟩
theorem en_push {v : en_V} (hT : en_T p l e R s m args below meth c Q ba ex cA D nL n0 N SL (nx, ls, v :: st, t, n, sl))
    (h : ∀ (H : Heap) (locs : List Loc) (la : Array Slot) (vs : List Value), (∀ w : Value, en_rv ba ex v w → W p l e R s m args below meth c H locs (n - n0) sl Q (F0 m nx la (w :: vs))) → W p l e R s m args below meth c H locs (n - n0) sl Q (F0 m pc la vs)) : en_T p l e R s m args below meth c Q ba ex cA D nL n0 N SL (pc, ls, st, t, n, sl) :=
  en_pure hT (fun H locs la vs hl hv _ K => h H locs la vs (fun w hw => K la (w :: vs) hl ⟨hw, hv⟩))
theorem en_loadi {i : Nat} {a : en_V} (hT : en_T p l e R s m args below meth c Q ba ex cA D nL n0 N SL (nx, ls, a :: st, t, n, sl)) (hld : en_ld ls i = some a) (hk : en_kd a = 0)
    (h : ∀ (H : Heap) (locs : List Loc) (la : Array Slot) (vs : List Value) (x : Int32), la[i]? = some (.val (.int x)) → W p l e R s m args below meth c H locs (n - n0) sl Q (F0 m nx la (.int x :: vs)) → W p l e R s m args below meth c H locs (n - n0) sl Q (F0 m pc la vs)) : en_T p l e R s m args below meth c Q ba ex cA D nL n0 N SL (pc, ls, st, t, n, sl) :=
  en_pure hT (fun H locs la vs hl hv _ K => by
    obtain ⟨vl, h1, h2⟩ := hl
    obtain ⟨k, v, g1, g2⟩ := en_ld_at h2 hld
    obtain ⟨x, rfl⟩ := en_kd0 g2 hk
    exact h H locs la vs x (lv_at h1 k g1) (K la _ ⟨vl, h1, h2⟩ ⟨g2, hv⟩))
theorem en_loadl {i : Nat} {a : en_V} (hT : en_T p l e R s m args below meth c Q ba ex cA D nL n0 N SL (nx, ls, a :: st, t, n, sl)) (hld : en_ld ls i = some a) (hk : en_kd a = 1)
    (h : ∀ (H : Heap) (locs : List Loc) (la : Array Slot) (vs : List Value) (x : Int64), la[i]? = some (.val (.long x)) → W p l e R s m args below meth c H locs (n - n0) sl Q (F0 m nx la (.long x :: vs)) → W p l e R s m args below meth c H locs (n - n0) sl Q (F0 m pc la vs)) : en_T p l e R s m args below meth c Q ba ex cA D nL n0 N SL (pc, ls, st, t, n, sl) :=
  en_pure hT (fun H locs la vs hl hv _ K => by
    obtain ⟨vl, h1, h2⟩ := hl
    obtain ⟨k, v, g1, g2⟩ := en_ld_at h2 hld
    obtain ⟨x, rfl⟩ := en_kd1 g2 hk
    exact h H locs la vs x (lv_at h1 k g1) (K la _ ⟨vl, h1, h2⟩ ⟨g2, hv⟩))
theorem en_loada {i : Nat} {a : en_V} (hT : en_T p l e R s m args below meth c Q ba ex cA D nL n0 N SL (nx, ls, a :: st, t, n, sl)) (hld : en_ld ls i = some a) (hk : en_kd a = 2)
    (h0 : ∀ (H : Heap) (locs : List Loc) (la : Array Slot) (vs : List Value), la[i]? = some (.val .null) → W p l e R s m args below meth c H locs (n - n0) sl Q (F0 m nx la (.null :: vs)) → W p l e R s m args below meth c H locs (n - n0) sl Q (F0 m pc la vs))
    (h : ∀ (H : Heap) (locs : List Loc) (la : Array Slot) (vs : List Value) (x : Nat), la[i]? = some (.val (.ref x)) → W p l e R s m args below meth c H locs (n - n0) sl Q (F0 m nx la (.ref x :: vs)) → W p l e R s m args below meth c H locs (n - n0) sl Q (F0 m pc la vs)) : en_T p l e R s m args below meth c Q ba ex cA D nL n0 N SL (pc, ls, st, t, n, sl) :=
  en_pure hT (fun H locs la vs hl hv _ K => by
    obtain ⟨vl, h1, h2⟩ := hl
    obtain ⟨k, v, g1, g2⟩ := en_ld_at h2 hld
    rcases en_kd2 g2 hk with rfl | ⟨x, rfl⟩
    · exact h0 H locs la vs (lv_at h1 k g1) (K la _ ⟨vl, h1, h2⟩ ⟨g2, hv⟩)
    · exact h H locs la vs x (lv_at h1 k g1) (K la _ ⟨vl, h1, h2⟩ ⟨g2, hv⟩))
theorem en_sto1 {i : Nat} {a : en_V} (hT : en_T p l e R s m args below meth c Q ba ex cA D nL n0 N SL (nx, (i, a) :: en_flt (en_keep1 i) ls, st, t, n, sl)) 
    (h : ∀ (H : Heap) (locs : List Loc) (la : Array Slot) (vs : List Value) (vl : List (Nat × Value)) (v : Value), lv_has la nL vl → en_rv ba ex a v → (∀ la' : Array Slot, lv_has la' nL ((i, v) :: vl.filter (fun q => !(q.1 == i) && !(q.1 + 1 == i && q.2.category == 2))) → W p l e R s m args below meth c H locs (n - n0) sl Q (F0 m nx la' vs)) → W p l e R s m args below meth c H locs (n - n0) sl Q (F0 m pc la (v :: vs))) : en_T p l e R s m args below meth c Q ba ex cA D nL n0 N SL (pc, ls, a :: st, t, n, sl) :=
  en_pure hT (fun H locs la vs hl hv _ K => by
    obtain ⟨vl, h1, h2⟩ := hl
    obtain ⟨v, ws, rfl, g1, g2⟩ := en_rvs_cons hv
    exact h H locs la ws vl v h1 g1 (fun la' hl' => K la' ws ⟨_, hl', ⟨rfl, g1⟩, en_rls_flt (en_keep1_ok i) h2⟩ g2))
theorem en_sto2 {i : Nat} {a : en_V} (hT : en_T p l e R s m args below meth c Q ba ex cA D nL n0 N SL (nx, (i, a) :: en_flt (en_keep2 i) ls, st, t, n, sl)) 
    (h : ∀ (H : Heap) (locs : List Loc) (la : Array Slot) (vs : List Value) (vl : List (Nat × Value)) (v : Value), lv_has la nL vl → en_rv ba ex a v → (∀ la' : Array Slot, lv_has la' nL ((i, v) :: vl.filter (fun q => !(q.1 == i) && (!(q.1 == i + 1) && !(q.1 + 1 == i && q.2.category == 2)))) → W p l e R s m args below meth c H locs (n - n0) sl Q (F0 m nx la' vs)) → W p l e R s m args below meth c H locs (n - n0) sl Q (F0 m pc la (v :: vs))) : en_T p l e R s m args below meth c Q ba ex cA D nL n0 N SL (pc, ls, a :: st, t, n, sl) :=
  en_pure hT (fun H locs la vs hl hv _ K => by
    obtain ⟨vl, h1, h2⟩ := hl
    obtain ⟨v, ws, rfl, g1, g2⟩ := en_rvs_cons hv
    exact h H locs la ws vl v h1 g1 (fun la' hl' => K la' ws ⟨_, hl', ⟨rfl, g1⟩, en_rls_flt (en_keep2_ok i) h2⟩ g2))
theorem en_sinc {i x : Nat} {a : Nat} (hT : en_T p l e R s m args below meth c Q ba ex cA D nL n0 N SL (nx, (i, .inl (en_wrap (a + x))) :: en_flt (en_keep1 i) ls, st, t, n, sl)) (hld : en_ld ls i = some (.inl a))
    (h : ∀ (H : Heap) (locs : List Loc) (la : Array Slot) (vs : List Value) (vl : List (Nat × Value)) (k : Nat) (y : Int32), lv_has la nL vl → vl[k]? = some (i, .int y) → y = nI a → (∀ la' : Array Slot, lv_has la' nL ((i, .int (y + nI x)) :: vl.filter (fun q => !(q.1 == i) && !(q.1 + 1 == i && q.2.category == 2))) → W p l e R s m args below meth c H locs (n - n0) sl Q (F0 m nx la' vs)) → W p l e R s m args below meth c H locs (n - n0) sl Q (F0 m pc la vs)) : en_T p l e R s m args below meth c Q ba ex cA D nL n0 N SL (pc, ls, st, t, n, sl) :=
  en_pure hT (fun H locs la vs hl hv _ K => by
    obtain ⟨vl, h1, h2⟩ := hl
    obtain ⟨k, v, g1, g2⟩ := en_ld_at h2 hld
    have g2 : v = .int (nI a) := g2
    subst g2
    refine h H locs la vs vl k (nI a) h1 g1 rfl (fun la' hl' => K la' vs ⟨_, hl', ⟨rfl, ?_⟩, en_rls_flt (en_keep1_ok i) h2⟩ hv)
    show Value.int _ = Value.int _
    unfold en_wrap
    rw [en_nI_mod, nI_add])
theorem en_two {a b v : en_V} (hT : en_T p l e R s m args below meth c Q ba ex cA D nL n0 N SL (nx, ls, v :: st, t, n, sl))
    (h : ∀ (H : Heap) (locs : List Loc) (la : Array Slot) (vs : List Value) (va vb : Value), en_rv ba ex a va → en_rv ba ex b vb → (∀ w : Value, en_rv ba ex v w → W p l e R s m args below meth c H locs (n - n0) sl Q (F0 m nx la (w :: vs))) → W p l e R s m args below meth c H locs (n - n0) sl Q (F0 m pc la (vb :: va :: vs))) : en_T p l e R s m args below meth c Q ba ex cA D nL n0 N SL (pc, ls, b :: a :: st, t, n, sl) :=
  en_pure hT (fun H locs la vs hl hv _ K => by
    obtain ⟨vb, ws, rfl, g1, hv⟩ := en_rvs_cons hv
    obtain ⟨va, ws, rfl, g2, hv⟩ := en_rvs_cons hv
    exact h H locs la ws va vb g2 g1 (fun w hw => K la (w :: ws) hl ⟨hw, hv⟩))
theorem en_one {a v : en_V} (hT : en_T p l e R s m args below meth c Q ba ex cA D nL n0 N SL (nx, ls, v :: st, t, n, sl))
    (h : ∀ (H : Heap) (locs : List Loc) (la : Array Slot) (vs : List Value) (va : Value), en_rv ba ex a va → (∀ w : Value, en_rv ba ex v w → W p l e R s m args below meth c H locs (n - n0) sl Q (F0 m nx la (w :: vs))) → W p l e R s m args below meth c H locs (n - n0) sl Q (F0 m pc la (va :: vs))) : en_T p l e R s m args below meth c Q ba ex cA D nL n0 N SL (pc, ls, a :: st, t, n, sl) :=
  en_pure hT (fun H locs la vs hl hv _ K => by
    obtain ⟨va, ws, rfl, g2, hv⟩ := en_rvs_cons hv
    exact h H locs la ws va g2 (fun w hw => K la (w :: ws) hl ⟨hw, hv⟩))
theorem en_br1 {a : en_V} (hT : en_T p l e R s m args below meth c Q ba ex cA D nL n0 N SL (nx, ls, st, t, n, sl))
    (h : ∀ (H : Heap) (locs : List Loc) (la : Array Slot) (vs : List Value) (va : Value), en_rv ba ex a va → W p l e R s m args below meth c H locs (n - n0) sl Q (F0 m nx la vs) → W p l e R s m args below meth c H locs (n - n0) sl Q (F0 m pc la (va :: vs))) : en_T p l e R s m args below meth c Q ba ex cA D nL n0 N SL (pc, ls, a :: st, t, n, sl) :=
  en_pure hT (fun H locs la vs hl hv _ K => by
    obtain ⟨va, ws, rfl, g2, hv⟩ := en_rvs_cons hv
    exact h H locs la ws va g2 (K la ws hl hv))
theorem en_br2 {a b : en_V} (hT : en_T p l e R s m args below meth c Q ba ex cA D nL n0 N SL (nx, ls, st, t, n, sl))
    (h : ∀ (H : Heap) (locs : List Loc) (la : Array Slot) (vs : List Value) (va vb : Value), en_rv ba ex a va → en_rv ba ex b vb → W p l e R s m args below meth c H locs (n - n0) sl Q (F0 m nx la vs) → W p l e R s m args below meth c H locs (n - n0) sl Q (F0 m pc la (vb :: va :: vs))) : en_T p l e R s m args below meth c Q ba ex cA D nL n0 N SL (pc, ls, b :: a :: st, t, n, sl) :=
  en_pure hT (fun H locs la vs hl hv _ K => by
    obtain ⟨vb, ws, rfl, g1, hv⟩ := en_rvs_cons hv
    obtain ⟨va, ws, rfl, g2, hv⟩ := en_rvs_cons hv
    exact h H locs la ws va vb g2 g1 (K la ws hl hv))
/-- what a jump says of the two ints -/
theorem en_rel_ok {q : ClassFile.Cond} {a b : en_V} {va vb : Value} {r : Bool} (ha : en_rv ba ex a va) (hb : en_rv ba ex b vb) (h : en_rel q a b = some r) : ∃ x y : Int32, va = .int x ∧ vb = .int y ∧ (match q with | .eq => (x = y ↔ r = true) | .ne => (¬ x = y ↔ r = true) | .lt => (x < y ↔ r = true) | .ge => (y ≤ x ↔ r = true) | .gt => (y < x ↔ r = true) | .le => (x ≤ y ↔ r = true)) := by
  have inv : ∀ {o : Option Bool} {r : Bool}, en_not o = some r → o = some (!r) := fun {o r} h => by
    cases o with
    | none => cases h
    | some b => cases h; rw [Bool.not_not]
  have nle : ∀ {x y : Int32}, x ≤ y ↔ ¬ y < x := fun {x y} => by rw [Int32.le_iff_toInt_le, Int32.lt_iff_toInt_lt]; omega
  cases q with
  | eq => exact en_eq_ok ha hb h
  | ne =>
    obtain ⟨x, y, h1, h2, h3⟩ := en_eq_ok ha hb (inv h)
    refine ⟨x, y, h1, h2, ?_⟩
    show (¬ x = y ↔ r = true)
    rw [h3]; cases r <;> simp
  | lt => exact en_lt_ok ha hb h
  | ge =>
    obtain ⟨x, y, h1, h2, h3⟩ := en_lt_ok ha hb (inv h)
    refine ⟨x, y, h1, h2, ?_⟩
    show (y ≤ x ↔ r = true)
    rw [nle, h3]; cases r <;> simp
  | gt =>
    obtain ⟨x, y, h1, h2, h3⟩ := en_lt_ok hb ha h
    exact ⟨y, x, h2, h1, h3⟩
  | le =>
    obtain ⟨x, y, h1, h2, h3⟩ := en_lt_ok hb ha (inv h)
    refine ⟨y, x, h2, h1, ?_⟩
    show (y ≤ x ↔ r = true)
    rw [nle, h3]; cases r <;> simp
/-- behind a call -/
theorem en_after {r : en_R} {la : Array Slot} {rest st0 : List Value} {H : Heap} {locs : List Loc} {cells slots mc ms : Nat} {a : Array Value} (hr : va_Run p l e R s m args below meth c H locs cells slots mc ms (F0 m pc la st0) rest (en_Qc ba ex cA D r a) (fun q => ba ≤ q)) (hS : va_S (fun q => ba ≤ q) s.heap H locs)
    (kk : ∀ (ov : Option Value) (H1 : Heap) (locs1 : List Loc), en_ro ba ex r.1 ov → en_P ba ex cA D r.2.1 r.2.2.1 H1 → va_S (fun q => ba ≤ q) s.heap H1 locs1 → W p l e R s m args below meth c H1 locs1 (cells + mc) (slots + ms) Q (F0 m (pc + 3) la (ov.toList ++ rest))) : W p l e R s m args below meth c H locs cells slots Q (F0 m pc la st0) := by
  intro T hT X
  obtain ⟨v, st₀, t, T', L, h0, X', hL, e1, e2, ⟨⟨ov, hv, hro⟩, hP, hz, hk⟩, st⟩ := hr T hT X
  cases hv
  rw [h0] at hz hk
  obtain ⟨t2, a1, b1⟩ := kk v T'.heap (locs ++ L) hro (by rw [e1]; exact hP) ⟨Nat.le_trans hS.1 (by rw [e1]; exact hz), fun q h1 h2 => by rw [e1, hk q (Nat.lt_of_lt_of_le h1 hS.1) h2]; exact hS.2.1 q h1 h2, fun q hq => by
      rcases List.mem_append.mp hq with h | h
      · exact hS.2.2 q h
      · exact hL q h⟩ T' rfl X'
  exact ⟨t2, st t2 a1, b1⟩
end
end EN8
end
section
section EN9
theorem en_lay_gt {C : String} {T : u_T} {N : Nat} (h : ∀ w ∈ u_ws C T N, w ∈ lw_tbl) : ∀ w ∈ u_ws C T N, w ∈ en_gt := fun w hw => List.mem_filter.mpr ⟨h w hw, by
  obtain ⟨k, -, rfl⟩ := List.mem_map.mp hw
  unfold u_lay
  split <;> rfl⟩
def en_dv : FieldType → en_V
  | .long => .inr (.inl 0)
  | .object _ => .inr (.inr (.inl none))
  | .array _ => .inr (.inr (.inl none))
  | _ => .inl 0
def en_dvok : FieldType → Bool
  | .int | .boolean | .long | .object _ | .array _ => true
  | _ => false
theorem en_dv_rv (ba : Nat) (ex : Nat → Nat) {ty : FieldType} (h : en_dvok ty = true) : en_rv ba ex (en_dv ty) (defaultValue ty) := by
  cases ty <;> first | rfl | cases h
theorem en_dv_rvs (ba : Nat) (ex : Nat → Nat) (ty : Nat → FieldType) : ∀ (l : List Nat), (∀ k ∈ l, en_dvok (ty k) = true) → en_rvs ba ex (l.map (fun k => en_dv (ty k))) (l.map (fun k => defaultValue (ty k)))
  | [], _ => trivial
  | k :: l, h => ⟨en_dv_rv ba ex (h k List.mem_cons_self), en_dv_rvs ba ex ty l (fun j hj => h j (List.mem_cons_of_mem _ hj))⟩
/-- what holds of each of our classes -/
def en_Cl (ci : Nat) (r : vw_C) : Prop := (∀ w ∈ u_ws r.1 r.2.1 r.2.2, w ∈ en_gt) ∧ (∃ ty : Nat → FieldType, (∀ k, k < r.2.2 → parseFieldDescriptor (r.2.1 k).2.2.1 = some (ty k)) ∧ en_df ci = (List.range r.2.2).map (fun k => en_dv (ty k)) ∧ ∀ k ∈ List.range r.2.2, en_dvok (ty k) = true) ∧ (∀ a, a < r.2.2 → ∀ b, b < r.2.2 → a ≠ b → (r.2.1 a).2.1 ≠ (r.2.1 b).2.1)
theorem en_cl_0 : en_Cl 0 (RX0, TX0, 3) := ⟨en_lay_gt inX0, ⟨tyX0, tyX0_ok, by decide +kernel, by decide +kernel⟩, nmX0⟩
theorem en_cl_1 : en_Cl 1 (RX1, TX1, 17) := ⟨en_lay_gt inX1, ⟨tyX1, tyX1_ok, by decide +kernel, by decide +kernel⟩, nmX1⟩
theorem en_cl_2 : en_Cl 2 (RX2, TX2, 3) := ⟨en_lay_gt inX2, ⟨tyX2, tyX2_ok, by decide +kernel, by decide +kernel⟩, nmX2⟩
theorem en_cl_3 : en_Cl 3 (RX3, TX3, 8) := ⟨en_lay_gt inX3, ⟨tyX3, tyX3_ok, by decide +kernel, by decide +kernel⟩, nmX3⟩
theorem en_cl_4 : en_Cl 4 (RX4, TX4, 11) := ⟨en_lay_gt inX4, ⟨tyX4, tyX4_ok, by decide +kernel, by decide +kernel⟩, nmX4⟩
theorem en_cl_5 : en_Cl 5 (RX5, TX5, 6) := ⟨en_lay_gt inX5, ⟨tyX5, tyX5_ok, by decide +kernel, by decide +kernel⟩, nmX5⟩
theorem en_cl_6 : en_Cl 6 (RX6, TX6, 5) := ⟨en_lay_gt inX6, ⟨tyX6, tyX6_ok, by decide +kernel, by decide +kernel⟩, nmX6⟩
theorem en_cl_7 : en_Cl 7 (RX7, TX7, 7) := ⟨en_lay_gt inX7, ⟨tyX7, tyX7_ok, by decide +kernel, by decide +kernel⟩, nmX7⟩
theorem en_cl_8 : en_Cl 8 (RX8, TX8, 9) := ⟨en_lay_gt inX8, ⟨tyX8, tyX8_ok, by decide +kernel, by decide +kernel⟩, nmX8⟩
theorem en_cl_9 : en_Cl 9 (RX10, TX10, 14) := ⟨en_lay_gt inX10, ⟨tyX10, tyX10_ok, by decide +kernel, by decide +kernel⟩, nmX10⟩
theorem en_cl_10 : en_Cl 10 (RX11, TX11, 41) := ⟨en_lay_gt inX11, ⟨tyX11, tyX11_ok, by decide +kernel, by decide +kernel⟩, nmX11⟩
theorem en_cl : ∀ (ci : Nat) (r : vw_C), vwCl[ci]? = some r → en_Cl ci r := by
  intro ci r h
  match ci, h with
  | 0, h => cases h; exact en_cl_0
  | 1, h => cases h; exact en_cl_1
  | 2, h => cases h; exact en_cl_2
  | 3, h => cases h; exact en_cl_3
  | 4, h => cases h; exact en_cl_4
  | 5, h => cases h; exact en_cl_5
  | 6, h => cases h; exact en_cl_6
  | 7, h => cases h; exact en_cl_7
  | 8, h => cases h; exact en_cl_8
  | 9, h => cases h; exact en_cl_9
  | 10, h => cases h; exact en_cl_10
  | k + 11, h => simp [vwCl] at h
theorem en_cl_lt {ci : Nat} {r : vw_C} (h : vwCl[ci]? = some r) : ci ≠ 99 := by
  intro q
  subst q
  simp [vwCl] at h
theorem en_fits {ba : Nat} {ex : Nat → Nat} {kd : Nat} {ty : FieldType} {v : en_V} {w : Value} (h1 : en_fk kd ty = true) (h2 : en_fit kd v = true) (h : en_rv ba ex v w) : narrow ty w = w ∧ fits ty w = true := by
  unfold en_fk at h1
  split at h1
  · obtain ⟨x, rfl⟩ := en_kd0 h (Nat.eq_of_beq_eq_true h2)
    exact ⟨rfl, rfl⟩
  · obtain ⟨x, rfl⟩ := en_kd1 h (Nat.eq_of_beq_eq_true h2)
    exact ⟨rfl, rfl⟩
  · rcases en_kd2 h (Nat.eq_of_beq_eq_true h2) with rfl | ⟨x, rfl⟩ <;> exact ⟨rfl, rfl⟩
  · rcases en_kd2 h (Nat.eq_of_beq_eq_true h2) with rfl | ⟨x, rfl⟩ <;> exact ⟨rfl, rfl⟩
  · match v, h2, h with
    | .inl 0, _, h => have h : w = .int (nI 0) := h; subst h; exact ⟨by decide, by decide⟩
    | .inl 1, _, h => have h : w = .int (nI 1) := h; subst h; exact ⟨by decide, by decide⟩
    | .inl (x + 2), h2, _ =>
      have h2 : Nat.ble (x + 2) 1 = true := h2
      have := Nat.le_of_ble_eq_true h2
      omega
    | .inr _, h2, _ => cases h2
  · cases h1
theorem en_rvs_rep {ba : Nat} {ex : Nat → Nat} {a : en_V} {v : Value} (k : Nat) (h : en_rv ba ex a v) : en_rvs ba ex (List.replicate k a) (List.replicate k v) := by
  induction k with
  | zero => exact trivial
  | succ k ih => exact ⟨h, ih⟩
theorem en_arrV_congr {c : ClassId} {N : Nat} {f g : Nat → Value} (h : ∀ j, j < N → f j = g j) : arrV c N f = arrV c N g := by
  have e : (Array.ofFn (n := N) fun j => f j.val) = Array.ofFn (n := N) fun j => g j.val := by
    congr 1
    funext j
    exact h j.val j.isLt
  unfold arrV
  rw [e]
theorem en_ty {cA : Nat → ClassId} {D : va_G} {s : State} (h : va_K D vwCl (en_tys cA) s) (k : Nat) {ty : FieldType} (hk : (en_tys cA)[k]? = some (cA k, ty)) : ArrOfT s (cA k) ty ∧ va_RA s (cA k) ty := h.2 k _ hk
section
variable {p : Program} {l : Launch} {e : Env} {R : Room} {s : State} {m : MethodId} {args : Array Value} {below : List Frame} {meth : Method} {c : Code} {Q : State → Prop}
variable {ba : Nat} {ex : Nat → Nat} {cA : Nat → ClassId} {D : va_G} {nL n0 N SL : Nat} {cc : ByteArray} {pc nx : Nat} {ls : en_L} {st : List en_V} {t : en_H} {n sl : Nat}
theorem en_a_getf {a k i : Nat} {q : Nat × List en_V} {v : en_V} {r : vw_C} {own : String} (hx : p.tables.exec = Jvm.exec) (hb : c.code = cc) (hown : s.vm.findClass own = some m.cls) (hts : ∀ w ∈ en_gt, w.before args s = true) (hK : en_Kw ba ex cA D s) (hT : en_T p l e R s m args below meth c Q ba ex cA D nL n0 N SL (pc + 3, ls, v :: st, t, n, sl)) (hg : en_get t a = some (.inr q)) (hr : vwCl[q.1]? = some r) (hk : k < r.2.2) (hl : Cond.fieldLink own i (r.2.1 k).1 (r.2.1 k).2.1 (r.2.1 k).2.2.1 ∈ en_gt) (hv : q.2[k]? = some v) (hd : decode cc pc = .ok (.getfield i, 3)) : en_T p l e R s m args below meth c Q ba ex cA D nL n0 N SL (pc, ls, .inr (.inr (.inl (some a))) :: st, t, n, sl) := by
  refine en_pure hT (fun H locs la vs hl' hv' hP K => ?_)
  obtain ⟨w, ws, rfl, h1, h2⟩ := en_rvs_cons hv'
  have h1 : w = .ref (ba + a) := h1
  subst h1
  obtain ⟨fs, r', g1, g2, g3⟩ := hP.obj hg (en_cl_lt hr)
  cases hr.symm.trans g2
  obtain ⟨x, e1, e2⟩ := en_rvs_get g1 hv
  exact va_get (ws := [(ba + a, .inr (q.1, fs))]) (T := r.2.1) (N := r.2.2) (C := r.1) (cl := vwCl) hx hb hts (en_cl _ _ hr).1 hown hK.1 (fun k x hx => by
    match k, hx with
    | 0, hx => cases hx; exact ⟨r, hr, g3⟩
    | k + 1, hx => simp at hx) 0 rfl hr k hk (hts _ hl) (fun x h => h) e1 hd (K la _ hl' ⟨e2, h2⟩)
theorem en_a_putf {a k i kd : Nat} {q : Nat × List en_V} {v : en_V} {r : vw_C} {own : String} {ty : FieldType} (hx : p.tables.exec = Jvm.exec) (hb : c.code = cc) (hown : s.vm.findClass own = some m.cls) (hts : ∀ w ∈ en_gt, w.before args s = true) (hK : en_Kw ba ex cA D s) (hT : en_T p l e R s m args below meth c Q ba ex cA D nL n0 N SL (pc + 3, ls, st, en_set t a (.inr (q.1, en_upd q.2 k v)), n, sl)) (hg : en_get t a = some (.inr q)) (hr : vwCl[q.1]? = some r) (hk : k < r.2.2) (hl : Cond.fieldLink own i (r.2.1 k).1 (r.2.1 k).2.1 (r.2.1 k).2.2.1 ∈ en_gt) (hty : parseFieldDescriptor (r.2.1 k).2.2.1 = some ty) (hfk : en_fk kd ty = true) (hfit : en_fit kd v = true) (hlen : k < q.2.length) (hf : (r.2.1 k).2.2.2 = false ∨ ((r.2.1 k).2.2.2 = true ∧ meth.name = "<init>" ∧ (r.2.1 k).1 = own)) (hd : decode cc pc = .ok (.putfield i, 3)) : en_T p l e R s m args below meth c Q ba ex cA D nL n0 N SL (pc, ls, v :: .inr (.inr (.inl (some a))) :: st, t, n, sl) := by
  refine ⟨hT.1, hT.2.1, fun H locs la vs hl' hv' hP hS => ?_⟩
  obtain ⟨w, ws, rfl, h1, hw1⟩ := en_rvs_cons hv'
  obtain ⟨w2, ws, rfl, h2, hw2⟩ := en_rvs_cons hw1
  have h2 : w2 = .ref (ba + a) := h2
  subst h2
  obtain ⟨fs, r', g1, g2, g3⟩ := hP.obj hg (en_cl_lt hr)
  cases hr.symm.trans g2
  obtain ⟨hin, ⟨ty0, hty0, -⟩, hnm⟩ := en_cl _ _ hr
  have hap := va_apart (own := own) (C := r.1) (T := r.2.1) (N := r.2.2) hts hin ty0 hty0 hnm hK.1 hr
  obtain ⟨cell, q1, q2, q3, q4⟩ := g3
  obtain ⟨hSl, hfc, kC, hkC, hkind⟩ := hK.1.1 _ _ hr
  obtain ⟨cf, kf, fi, f, hi, hsl⟩ := hSl k hk
  have hst := (u_facts hfc hkC (u_lays hts hin hk) hi).1
  obtain ⟨f1, f2⟩ := en_fits hfk hfit h1
  have hfsl : k < fs.length := by rw [en_rvs_len g1]; exact hlen
  have fin : ∀ H' : Heap, H'[ba + a]? = some (cell.setSlot f.slot w) → H'.size = H.size → (∀ x, x ≠ ba + a → H'[x]? = H[x]?) → W p l e R s m args below meth c H' (locs ++ [⟨ba + a, f.slot⟩]) (n - n0) sl Q (F0 m (pc + 3) la ws) := fun H' e1 e2 e3 => by
    rw [hsl] at e1
    refine hT.2.2 H' _ la ws hl' hw2 (hP.set hg ⟨fs.set k w, r, ?_, hr, ?_⟩ e2 e3) (hS.put e2 e3 (Nat.le_add_right _ _))
    · show en_rvs ba ex (en_upd q.2 k v) _
      rw [en_upd_eq]
      exact en_rvs_set k g1 h1
    · exact t_OB.to (V := updV (vp_V fs) k w) ⟨_, e1, q2, q3, t_set q4 hap hk w⟩ (fun j _ => vp_updV_set hfsl w j)
  rcases hf with hf | ⟨hf, hname, hdecl⟩
  · have hlay := hts _ (hin _ (u_in_lay hk))
    unfold u_lay at hlay
    rw [if_neg (by rw [hf]; decide)] at hlay
    exact W.putK hx hb (f := f) ⟨hown, hts _ hl, ⟨_, _, _, hi⟩, hst⟩ (by rw [q2]; exact u_store hfc hkC hkind hlay hi hty f1 f2) q1 q3 (by rw [hsl]; exact k2_hasslot (q4 k hk)) rfl rfl hd fin
  · have hlay := hts _ (hin _ (u_in_lay hk))
    unfold u_lay at hlay
    rw [if_pos hf] at hlay
    have hcf : m.cls = cf := by
      obtain ⟨_, _, c', _, _, _, -, -, hf', -, -, -, hown2, -⟩ := Cond.laysFinal_spec hlay
      have e1 : c' = cf := by have := hi.symm.trans hf'; simp at this; exact this.1.symm
      rw [hdecl] at hown2
      rw [← e1]
      exact Option.some.inj (hown.symm.trans hown2)
    exact W.putFinK hx hb hown (hts _ hl) hi hst hcf hname (by rw [q2]; exact u_fits hfc hkC hkind (Or.inr hlay) hi hty f1 f2) q1 q3 (by rw [hsl]; exact k2_hasslot (q4 k hk)) rfl rfl hd fin
/-- an array's cell, and the place i of it -/
theorem en_arr_at {a i : Nat} {q : Nat × List en_V} {v : en_V} {H : Heap} (hP : en_P ba ex cA D t n H) (hg : en_get t a = some (.inl q)) (hi : i < 2147483648) (hv : q.2[i]? = some v) : ∃ (fs : List Value) (w : Value), H[ba + a]? = some (arrV (cA q.1) fs.length (vp_V fs)) ∧ en_rv ba ex v w ∧ ¬ (nI i < 0 ∨ (arrV (cA q.1) fs.length (vp_V fs)).slots.size ≤ (nI i).toNatClampNeg) ∧ (arrV (cA q.1) fs.length (vp_V fs)).slots[(nI i).toNatClampNeg]? = some w ∧ en_rvs ba ex q.2 fs := by
  obtain ⟨fs, g1, g2⟩ := hP.arr hg
  obtain ⟨w, e1, e2⟩ := en_rvs_get g1 hv
  have hl : i < fs.length := (List.getElem?_eq_some_iff.mp e1).1
  refine ⟨fs, w, g2, e2, ?_, ?_, g1⟩
  · rw [arrV_size, nI_clamp hi]
    rintro (h | h)
    · exact nI_pos hi h
    · omega
  · rw [nI_clamp hi, arrV_read _ _ hl]
    unfold vp_V
    rw [List.getD_eq_getElem?_getD, e1]
    rfl
theorem en_a_aget {a i : Nat} {q : Nat × List en_V} {v : en_V} (hT : en_T p l e R s m args below meth c Q ba ex cA D nL n0 N SL (nx, ls, v :: st, t, n, sl)) (hg : en_get t a = some (.inl q)) (hi : i < 2147483648) (hv : q.2[i]? = some v)
    (h : ∀ (H : Heap) (locs : List Loc) (la : Array Slot) (vs fs : List Value) (w : Value), H[ba + a]? = some (arrV (cA q.1) fs.length (vp_V fs)) → ¬ (nI i < 0 ∨ (arrV (cA q.1) fs.length (vp_V fs)).slots.size ≤ (nI i).toNatClampNeg) → (arrV (cA q.1) fs.length (vp_V fs)).slots[(nI i).toNatClampNeg]? = some w → W p l e R s m args below meth c H locs (n - n0) sl Q (F0 m nx la (w :: vs)) → W p l e R s m args below meth c H locs (n - n0) sl Q (F0 m pc la (.int (nI i) :: .ref (ba + a) :: vs))) : en_T p l e R s m args below meth c Q ba ex cA D nL n0 N SL (pc, ls, .inl i :: .inr (.inr (.inl (some a))) :: st, t, n, sl) := by
  refine en_pure hT (fun H locs la vs hl' hv' hP K => ?_)
  obtain ⟨w1, ws, rfl, h1, hw1⟩ := en_rvs_cons hv'
  obtain ⟨w2, ws, rfl, h2, hw2⟩ := en_rvs_cons hw1
  have h1 : w1 = .int (nI i) := h1
  have h2 : w2 = .ref (ba + a) := h2
  subst h1
  subst h2
  obtain ⟨fs, w, f1, f2, f3, f4, -⟩ := en_arr_at hP hg hi hv
  exact h H locs la ws fs w f1 f3 f4 (K la _ hl' ⟨f2, hw2⟩)
theorem en_a_aput {a i : Nat} {q : Nat × List en_V} {v : en_V} (hT : en_T p l e R s m args below meth c Q ba ex cA D nL n0 N SL (nx, ls, st, en_set t a (.inl (q.1, en_upd q.2 i v)), n, sl)) (hg : en_get t a = some (.inl q)) (hi : i < 2147483648) (hlen : i < q.2.length)
    (h : ∀ (H : Heap) (locs : List Loc) (la : Array Slot) (vs fs : List Value) (w : Value), en_P ba ex cA D t n H → H[ba + a]? = some (arrV (cA q.1) fs.length (vp_V fs)) → ¬ (nI i < 0 ∨ (arrV (cA q.1) fs.length (vp_V fs)).slots.size ≤ (nI i).toNatClampNeg) → en_rv ba ex v w →
      (∀ (w' : Value), en_rv ba ex v w' → ∀ H' : Heap, H'[ba + a]? = some ((arrV (cA q.1) fs.length (vp_V fs)).setSlot (nI i).toNatClampNeg w') → H'.size = H.size → (∀ x, x ≠ ba + a → H'[x]? = H[x]?) → W p l e R s m args below meth c H' (locs ++ [⟨ba + a, (nI i).toNatClampNeg⟩]) (n - n0) sl Q (F0 m nx la vs)) → W p l e R s m args below meth c H locs (n - n0) sl Q (F0 m pc la (w :: .int (nI i) :: .ref (ba + a) :: vs))) : en_T p l e R s m args below meth c Q ba ex cA D nL n0 N SL (pc, ls, v :: .inl i :: .inr (.inr (.inl (some a))) :: st, t, n, sl) := by
  refine ⟨hT.1, hT.2.1, fun H locs la vs hl' hv' hP hS => ?_⟩
  obtain ⟨w, ws, rfl, h0, hw1⟩ := en_rvs_cons hv'
  obtain ⟨w1, ws, rfl, h1, hw2⟩ := en_rvs_cons hw1
  obtain ⟨w2, ws, rfl, h2, hw3⟩ := en_rvs_cons hw2
  have h1 : w1 = .int (nI i) := h1
  have h2 : w2 = .ref (ba + a) := h2
  subst h1
  subst h2
  obtain ⟨x, hx⟩ : ∃ x, q.2[i]? = some x := ⟨q.2[i], by simp [hlen]⟩
  obtain ⟨fs, -, f1, -, f3, -, f5⟩ := en_arr_at hP hg hi hx
  have hfl : i < fs.length := by rw [en_rvs_len f5]; exact hlen
  refine h H locs la ws fs w hP f1 f3 h0 (fun w' h0' H' e1 e2 e3 => hT.2.2 H' _ la ws hl' hw3 (hP.set hg ⟨fs.set i w', ?_, ?_⟩ e2 e3) (hS.put e2 e3 (Nat.le_add_right _ _)))
  · show en_rvs ba ex (en_upd q.2 i v) _
    rw [en_upd_eq]
    exact en_rvs_set i f5 h0'
  · rw [e1, nI_clamp hi, arrV_store, List.length_set]
    exact congrArg some (en_arrV_congr (fun j _ => vp_updV_set hfl w' j))
theorem en_a_alen {a : Nat} {q : Nat × List en_V} {ty : FieldType} (hx : p.tables.exec = Jvm.exec) (hb : c.code = cc) (hK : en_Kw ba ex cA D s) (hT : en_T p l e R s m args below meth c Q ba ex cA D nL n0 N SL (pc + 1, ls, .inl q.2.length :: st, t, n, sl)) (hg : en_get t a = some (.inl q)) (hty : (en_tys cA)[q.1]? = some (cA q.1, ty)) (hd : decode cc pc = .ok (.arraylength, 1)) : en_T p l e R s m args below meth c Q ba ex cA D nL n0 N SL (pc, ls, .inr (.inr (.inl (some a))) :: st, t, n, sl) := by
  refine en_pure hT (fun H locs la vs hl' hv' hP K => ?_)
  obtain ⟨w, ws, rfl, h1, h2⟩ := en_rvs_cons hv'
  have h1 : w = .ref (ba + a) := h1
  subst h1
  obtain ⟨fs, g1, g2⟩ := hP.arr hg
  exact W.alen (n := nI q.2.length) hx hb g2 ((en_ty hK.1 q.1 hty).1 fs.length (vp_V fs)) (by rw [arrV_size, en_rvs_len g1]; rfl) rfl rfl hd (K la _ hl' ⟨rfl, h2⟩)
theorem en_a_new {ci i : Nat} {c0 : en_C} {r : vw_C} {own : String} (hx : p.tables.exec = Jvm.exec) (hb : c.code = cc) (hown : s.vm.findClass own = some m.cls) (hts : ∀ w ∈ en_gt, w.before args s = true) (hK : en_Kw ba ex cA D s) (hn0 : n0 ≤ n) (hRc : N - n0 ≤ R.cells) (hRs : SL ≤ R.slots) (hT : en_T p l e R s m args below meth c Q ba ex cA D nL n0 N SL (pc + 3, ls, .inr (.inr (.inl (some n))) :: st, en_set t n (.inr (ci, en_df ci)), n + 1, sl + r.2.2)) (hg : en_get t n = some c0) (hr : vwCl[ci]? = some r)
    (h1 : Cond.classLink own i r.1 ∈ en_gt) (h2 : Cond.instantiable r.1 r.2.2 ∈ en_gt) (h3 : Cond.initialized r.1 ∈ en_gt) (hd : decode cc pc = .ok (.new i, 3)) : en_T p l e R s m args below meth c Q ba ex cA D nL n0 N SL (pc, ls, st, t, n, sl) := by
  have hN : n + 1 ≤ N := hT.1
  have hSL : sl + r.2.2 ≤ SL := hT.2.1
  refine ⟨by show n ≤ N; omega, by show sl ≤ SL; omega, fun H locs la vs hl' hv' hP hS => ?_⟩
  obtain ⟨hin, ⟨ty0, hty0, hdf, hok⟩, hnm⟩ := en_cl _ _ hr
  have hKn := hK.1.1 _ _ hr
  refine W.newcK hx hb hown (hts _ h1) (hts _ h2) (hts _ h3) rfl hd (by show n - n0 + 1 ≤ _; omega) (Nat.le_trans hSL hRs) hKn.2.1 hP.1 fun H1 kC hkC e1 z1 o1 => ?_
  have hS1 : va_S (fun q => ba ≤ q) s.heap H1 locs := ⟨Nat.le_trans hS.1 (by rw [z1, hP.1]; omega), fun x g1 g2 => (o1 x (by rw [← hP.1]; exact Nat.lt_of_lt_of_le g1 hS.1)).trans (hS.2.1 x g1 g2), hS.2.2⟩
  have K := hT.2.2 H1 locs la (.ref (ba + n) :: vs) hl' ⟨rfl, hv'⟩ (hP.push hg ⟨(List.range r.2.2).map (fun k => defaultValue (ty0 k)), r, by
      show en_rvs ba ex (en_df ci) _
      rw [hdf]
      exact en_dv_rvs ba ex ty0 _ hok, hr, (u_born ty0 hts hin hKn hkC e1 hty0).to (fun j hj => by unfold vp_V; rw [List.getD_eq_getElem?_getD, List.getElem?_map, List.getElem?_range hj]; rfl)⟩ (by rw [z1, hP.1]) (by rw [hP.1]; exact o1)) hS1
  have e : n + 1 - n0 = n - n0 + 1 := by omega
  dsimp only at K
  rw [e] at K
  exact K
theorem en_a_newa {cd i : Nat} {c0 : en_C} {at0 : ArrayType} {ty : FieldType} {m9 : Nat} (hx : p.tables.exec = Jvm.exec) (hb : c.code = cc) (hts : ∀ w ∈ en_gt, w.before args s = true) (hK : en_Kw ba ex cA D s) (hn0 : n0 ≤ n) (hRc : N - n0 ≤ R.cells) (hRs : SL ≤ R.slots) (hT : en_T p l e R s m args below meth c Q ba ex cA D nL n0 N SL (pc + 2, ls, .inr (.inr (.inl (some n))) :: st, en_set t n (.inl (cd, en_rep m9 (en_dv ty))), n + 1, sl + m9)) (hg : en_get t n = some c0) (hm : m9 ≤ 60000)
    (hat : newarray.typeOf at0 = ty) (hcb : componentBytes ty ≤ 8) (hdv : en_rv ba ex (en_dv ty) (defaultValue ty)) (hty : (en_tys cA)[cd]? = some (cA cd, ty)) (hra : va_RA s (cA cd) ty → s.vm.findClass ("[" ++ ty.toString) = some (cA cd)) (h1 : Cond.arrayClass ty ∈ en_gt) (hd : decode cc pc = .ok (.newarray at0, 2)) : en_T p l e R s m args below meth c Q ba ex cA D nL n0 N SL (pc, ls, .inl m9 :: st, t, n, sl) := by
  have hN : n + 1 ≤ N := hT.1
  have hSL : sl + m9 ≤ SL := hT.2.1
  refine ⟨by show n ≤ N; omega, by show sl ≤ SL; omega, fun H locs la vs hl' hv' hP hS => ?_⟩
  obtain ⟨w, ws, rfl, h2, hw1⟩ := en_rvs_cons hv'
  have h2 : w = .int (nI m9) := h2
  subst h2
  subst hat
  have hm31 : m9 < 2 ^ 31 := by omega
  refine va_newaK hx hb (hts _ h1) rfl hd rfl (nI_pos hm31) (nI_clamp hm31) (Nat.le_trans (Nat.mul_le_mul hm hcb) (by decide)) (by show n - n0 + 1 ≤ _; omega) (Nat.le_trans hSL hRs) hP.1 fun H1 cB e1 z1 o1 hAr hNm => ?_
  have ec : cB = cA cd := Option.some.inj (hNm.symm.trans (hra (en_ty hK.1 cd hty).2))
  subst ec
  have hS1 : va_S (fun q => ba ≤ q) s.heap H1 locs := ⟨Nat.le_trans hS.1 (by rw [z1, hP.1]; omega), fun x g1 g2 => (o1 x (by rw [← hP.1]; exact Nat.lt_of_lt_of_le g1 hS.1)).trans (hS.2.1 x g1 g2), hS.2.2⟩
  have K := hT.2.2 H1 locs la (.ref (ba + n) :: ws) hl' ⟨rfl, hw1⟩ (hP.push hg ⟨List.replicate m9 (defaultValue (newarray.typeOf at0)), by
      show en_rvs ba ex (en_rep m9 _) _
      rw [en_rep_eq]
      exact en_rvs_rep m9 hdv, by
      rw [e1, List.length_replicate]
      exact congrArg some (en_arrV_congr (fun j hj => by unfold vp_V; rw [List.getD_eq_getElem?_getD, List.getElem?_replicate, if_pos hj]; rfl))⟩ (by rw [z1, hP.1]) (by rw [hP.1]; exact o1)) hS1
  have e : n + 1 - n0 = n - n0 + 1 := by omega
  dsimp only at K
  rw [e] at K
  exact K
theorem en_a_anew {cd i : Nat} {c0 : en_C} {C own : String} {m9 : Nat} (hx : p.tables.exec = Jvm.exec) (hb : c.code = cc) (hown : s.vm.findClass own = some m.cls) (hts : ∀ w ∈ en_gt, w.before args s = true) (hK : en_Kw ba ex cA D s) (hn0 : n0 ≤ n) (hRc : N - n0 ≤ R.cells) (hRs : SL ≤ R.slots) (hT : en_T p l e R s m args below meth c Q ba ex cA D nL n0 N SL (pc + 3, ls, .inr (.inr (.inl (some n))) :: st, en_set t n (.inl (cd, en_rep m9 (.inr (.inr (.inl none))))), n + 1, sl + m9)) (hg : en_get t n = some c0) (hm : m9 ≤ 60000)
    (hty : (en_tys cA)[cd]? = some (cA cd, .object C)) (hao : va_AO C s) (h1 : Cond.classLink own i C ∈ en_gt) (hd : decode cc pc = .ok (.anewarray i, 3)) : en_T p l e R s m args below meth c Q ba ex cA D nL n0 N SL (pc, ls, .inl m9 :: st, t, n, sl) := by
  have hN : n + 1 ≤ N := hT.1
  have hSL : sl + m9 ≤ SL := hT.2.1
  refine ⟨by show n ≤ N; omega, by show sl ≤ SL; omega, fun H locs la vs hl' hv' hP hS => ?_⟩
  obtain ⟨w, ws, rfl, h2, hw1⟩ := en_rvs_cons hv'
  have h2 : w = .int (nI m9) := h2
  subst h2
  have hm31 : m9 < 2 ^ 31 := by omega
  have hcl : (nI m9).toNatClampNeg = m9 := nI_clamp hm31
  refine W.anew hx hb hown (hts _ h1) (va_AO.use hao) rfl hd rfl (nI_pos hm31) (by rw [hcl]; omega) (by show n - n0 + 1 ≤ _; omega) (by rw [hcl]; exact Nat.le_trans hSL hRs) fun cB kA comp f1 f2 f3 f4 => ?_
  rw [hcl]
  obtain ⟨-, -, -, -, -, hNm⟩ := (en_ty hK.1 cd hty).2
  have ec : cB = cA cd := Option.some.inj (f1.symm.trans hNm)
  subst ec
  generalize hH1 : H.push ({ cls := cA cd, slots := Array.replicate m9 .null, vm := .none } : Cell) = H1
  have z1 : H1.size = H.size + 1 := by rw [← hH1, Array.size_push]
  have e1 : H1[H.size]? = some (arrV (cA cd) m9 (fun _ => .null)) := by rw [← hH1, Array.getElem?_push_size, ← arrV_new]
  have o1 : ∀ q : Nat, q < H.size → H1[q]? = H[q]? := fun q hq => by rw [← hH1, Array.getElem?_push, if_neg (Nat.ne_of_lt hq)]
  have hS1 : va_S (fun q => ba ≤ q) s.heap H1 locs := ⟨Nat.le_trans hS.1 (by rw [z1]; omega), fun x g1 g2 => (o1 x (Nat.lt_of_lt_of_le g1 hS.1)).trans (hS.2.1 x g1 g2), hS.2.2⟩
  have K := hT.2.2 H1 locs la (.ref (ba + n) :: ws) hl' ⟨rfl, hw1⟩ (hP.push hg ⟨List.replicate m9 .null, by
      show en_rvs ba ex (en_rep m9 _) _
      rw [en_rep_eq]
      exact en_rvs_rep m9 rfl, by
      rw [← hP.1, e1, List.length_replicate]
      exact congrArg some (en_arrV_congr (fun j hj => by unfold vp_V; rw [List.getD_eq_getElem?_getD, List.getElem?_replicate, if_pos hj]; rfl))⟩ z1 o1) hS1
  have e : n + 1 - n0 = n - n0 + 1 := by omega
  dsimp only at K
  rw [e] at K
  rw [hP.1]
  exact K
end
end EN9
end
section
section ENA
theorem en_take_ok : ∀ (m : Nat) {st acc as rest : List en_V}, en_take m st acc = some (as, rest) → ∃ l : List en_V, st = l ++ rest ∧ as = l.reverse ++ acc ∧ l.length = m
  | 0, st, acc, as, rest, h => by
    have h : some (acc, st) = some (as, rest) := h
    cases h
    exact ⟨[], rfl, rfl, rfl⟩
  | m + 1, [], acc, as, rest, h => by
    have h : (none : Option (List en_V × List en_V)) = some (as, rest) := h
    cases h
  | m + 1, a :: r, acc, as, rest, h => by
    have h : en_take m r (a :: acc) = some (as, rest) := h
    obtain ⟨l, h1, h2, h3⟩ := en_take_ok m h
    exact ⟨a :: l, by rw [h1]; rfl, by rw [h2]; simp, by simp [h3]⟩
theorem en_rvs_split {ba : Nat} {ex : Nat → Nat} : ∀ {l r : List en_V} {vs : List Value}, en_rvs ba ex (l ++ r) vs → ∃ v1 v2, vs = v1 ++ v2 ∧ en_rvs ba ex l v1 ∧ en_rvs ba ex r v2
  | [], r, vs, h => ⟨[], vs, rfl, trivial, h⟩
  | a :: l, r, vs, h => by
    obtain ⟨v, ws, rfl, h1, h2⟩ := en_rvs_cons h
    obtain ⟨v1, v2, rfl, h3, h4⟩ := en_rvs_split h2
    exact ⟨v :: v1, v2, rfl, ⟨h1, h3⟩, h4⟩
theorem en_rvs_rev {ba : Nat} {ex : Nat → Nat} : ∀ {l : List en_V} {vs : List Value}, en_rvs ba ex l vs → en_rvs ba ex l.reverse vs.reverse
  | [], vs, h => by rw [en_rvs_nil h]; exact trivial
  | a :: l, vs, h => by
    obtain ⟨v, ws, rfl, h1, h2⟩ := en_rvs_cons h
    rw [List.reverse_cons, List.reverse_cons]
    exact en_rvs_app (en_rvs_rev h2) ⟨h1, trivial⟩
theorem en_sum_eq (l : List en_V) : en_sum l = (l.map en_cat).sum := by
  induction l with
  | nil => rfl
  | cons a l ih =>
    show en_cat a + en_sum l = _
    rw [ih, List.map_cons, List.sum_cons]
noncomputable def en_ws (q : en_M) : List Cond := Cond.code q.1 q.2.1 q.2.2.1 q.2.2.2.1 :: en_gt
/-- what the tables say of a method -/
def en_Mi (q : en_M) : Prop := Cond.code q.1 q.2.1 q.2.2.1 q.2.2.2.1 ∈ en_gt ∧ q.1.cls = en_cn q.2.2.2.2.2.2 ∧ plainName q.1.cls = true ∧ (q.1.cls ≠ "java/lang/invoke/MethodHandle" ∧ q.1.cls ≠ "java/lang/invoke/VarHandle" ∧ (parseMethodDescriptor q.1.desc).map (fun d => d.parameters.length) = some q.2.2.2.2.1) ∧ Cond.initialized q.1.cls ∈ en_gt ∧ q.2.2.1 ≤ 45 ∧
  (q.2.2.2.2.2.1 = 0 → Cond.static q.1 ∈ en_gt) ∧ (q.2.2.2.2.2.1 = 1 → Cond.instanceMethod q.1 ∈ en_gt ∧ Cond.selects q.1.cls q.1 q.1 ∈ en_gt ∧ ∃ r, vwCl[q.2.2.2.2.2.2]? = some r ∧ r.1 = q.1.cls) ∧ (2 ≤ q.2.2.2.2.2.1 → Cond.instanceMethod q.1 ∈ en_gt ∧ q.1.name = "<init>" ∧ q.2.2.2.1 = none)
theorem en_mi {mi : Nat} {q : en_M} (h : en_nth en_inf mi = some q) : en_Mi q := by
  rw [en_nth_eq] at h
  unfold en_inf at h
  rw [List.getElem?_map] at h
  cases hx : en_ix[mi]? with
  | none => rw [hx] at h; cases h
  | some x =>
    rw [hx] at h
    cases h
    have hk := en_ix_ok x (List.mem_of_getElem? hx)
    unfold en_iok at hk
    simp only [Bool.and_eq_true, decide_eq_true_eq] at hk
    obtain ⟨h1, h2, h3, h4, h5, h6, h7, h8, h9⟩ := hk
    refine ⟨en_isc_mem h1, h2, h3, ⟨h4, h5, h6⟩, en_tb_mem h7, Nat.le_of_ble_eq_true h8, ?_, ?_, ?_⟩
    · intro hz
      have hz : x.2.2.1 = 0 := hz
      rw [hz] at h9
      exact en_tb_mem h9
    · intro hz
      have hz : x.2.2.1 = 1 := hz
      rw [hz] at h9
      simp only [Bool.and_eq_true, decide_eq_true_eq] at h9
      refine ⟨en_tb_mem h9.1, en_tb_mem h9.2.1, ?_⟩
      have h10 := h9.2.2
      cases hr : vwCl[x.2.2.2.1]? with
      | none => rw [hr] at h10; cases h10
      | some r =>
        rw [hr] at h10
        exact ⟨r, hr, Option.some.inj h10⟩
    · intro hz
      have hz : 2 ≤ x.2.2.1 := hz
      obtain ⟨k, hk⟩ : ∃ k, x.2.2.1 = k + 2 := ⟨x.2.2.1 - 2, by omega⟩
      rw [hk] at h9
      simp only [Bool.and_eq_true, decide_eq_true_eq] at h9
      refine ⟨en_tb_mem h9.1, h9.2.1, ?_⟩
      have h10 := h9.2.2
      show (en_cd x.1).2.2.2 = none
      cases hr : (en_cd x.1).2.2.2 with
      | none => rfl
      | some r => rw [hr] at h10; cases h10
theorem en_ws_good {q : en_M} (h : en_Mi q) : GoodIn en_gt (en_ws q) := by
  intro w hw
  have hm : w ∈ en_gt := by
    rcases List.mem_cons.mp hw with rfl | hw
    · exact h.1
    · exact hw
  exact ⟨hm, good_of_word (List.mem_filter.mp hm).2⟩
def en_rm (d mc ms : Nat) : Room := { frames := d, cells := mc, slots := ms, locals := 64 * d }
/-- a call's contract -/
def en_Met (l : Launch) (ba : Nat) (ex : Nat → Nat) (cA : Nat → ClassId) (D : va_G) (d : Nat) (q : en_M) (as : List en_V) (t : en_H) (n : Nat) (r : en_R) : Prop :=
  Met l q.1 (en_ws q) (en_rm d (r.2.2.1 - n) r.2.2.2) (en_Pc ba ex cA D as t n) (en_Qc ba ex cA D r) (r.2.2.1 - n) r.2.2.2 (fun x => ba ≤ x)
section
variable {p : Program} {l : Launch} {e : Env} {R : Room} {s : State} {m : MethodId} {args : Array Value} {below : List Frame} {meth : Method} {c : Code} {Q : State → Prop}
variable {ba : Nat} {ex : Nat → Nat} {cA : Nat → ClassId} {D : va_G} {nL n0 N SL : Nat} {cc : ByteArray} {pc nx : Nat} {ls : en_L} {st : List en_V} {t : en_H} {n sl : Nat}
/-- any call: if the machine runs it by its contract, the engine's step is sound -/
theorem en_a_call {as rest : List en_V} {r : en_R} (hn0 : n0 ≤ n) (hnr : n ≤ r.2.2.1) (hT : en_T p l e R s m args below meth c Q ba ex cA D nL n0 N SL (pc + 3, ls, r.1.toList ++ rest, r.2.1, r.2.2.1, sl + r.2.2.2)) {m9 : Nat} (htk : en_take m9 st [] = some (as, rest)) (hsum : en_sum rest ≤ 8)
    (h : ∀ (H : Heap) (locs : List Loc) (la : Array Slot) (av rv : List Value), en_P ba ex cA D t n H → va_S (fun q => ba ≤ q) s.heap H locs → la.size = nL → en_rvs ba ex as av → av.length = m9 → 2 * (F0 m pc la (av.reverse ++ rv)).monitorRoom + (rv.map fun v => v.category).sum ≤ 8 → n - n0 + (r.2.2.1 - n) ≤ N - n0 → sl + r.2.2.2 ≤ SL →
      ∃ a : Array Value, va_Run p l e R s m args below meth c H locs (n - n0) sl (r.2.2.1 - n) r.2.2.2 (F0 m pc la (av.reverse ++ rv)) rv (en_Qc ba ex cA D r a) (fun x => ba ≤ x)) : en_T p l e R s m args below meth c Q ba ex cA D nL n0 N SL (pc, ls, st, t, n, sl) := by
  have hN : r.2.2.1 ≤ N := hT.1
  have hSL : sl + r.2.2.2 ≤ SL := hT.2.1
  refine ⟨by show n ≤ N; omega, by show sl ≤ SL; omega, fun H locs la vs hl' hv' hP hS => ?_⟩
  obtain ⟨lst, h1, h2, h3⟩ := en_take_ok m9 htk
  rw [List.append_nil] at h2
  have hv' : en_rvs ba ex st vs := hv'
  rw [h1] at hv'
  obtain ⟨v1, v2, rfl, g1, g2⟩ := en_rvs_split hv'
  have ga : en_rvs ba ex as v1.reverse := by rw [h2]; exact en_rvs_rev g1
  obtain ⟨vl, hl1, hl2⟩ := id hl'
  have hroom : (v2.map fun v => v.category).sum ≤ 8 := by rw [en_rvs_cat g2, ← en_sum_eq]; exact hsum
  obtain ⟨a, hrun⟩ := h H locs la v1.reverse v2 hP hS hl1.1 ga (by rw [List.length_reverse, en_rvs_len g1]; exact h3) (lv_room hroom) (by omega) hSL
  rw [List.reverse_reverse] at hrun
  refine en_after hrun hS (fun ov H1 locs1 hro hP1 hS1 => ?_)
  have K := hT.2.2 H1 locs1 la (ov.toList ++ v2) hl' (by
    show en_rvs ba ex (r.1.toList ++ rest) _
    refine en_rvs_app ?_ g2
    cases hr1 : r.1 with
    | none =>
      rw [hr1] at hro
      cases ov with
      | none => exact trivial
      | some w => exact absurd hro (by simp [en_ro])
    | some a =>
      rw [hr1] at hro
      cases ov with
      | none => exact absurd hro (by simp [en_ro])
      | some w => exact ⟨hro, trivial⟩) hP1 hS1
  have e : r.2.2.1 - n0 = n - n0 + (r.2.2.1 - n) := by omega
  dsimp only at K
  rw [e] at K
  exact K
theorem en_a_static {as rest : List en_V} {r : en_R} {q : en_M} {d i : Nat} {own : String} (hx : p.tables.exec = Jvm.exec) (hb : c.code = cc) (hml : c.maxLocals = nL) (hown : s.vm.findClass own = some m.cls) (hts : ∀ w ∈ en_gt, w.before args s = true) (hK : en_Kw ba ex cA D s) (hRf : d + 1 ≤ R.frames) (hRl : 64 * (d + 1) ≤ R.locals) (hRc : N - n0 ≤ R.cells) (hRs : SL ≤ R.slots) (hn0 : n0 ≤ n) (hnr : n ≤ r.2.2.1) (hT : en_T p l e R s m args below meth c Q ba ex cA D nL n0 N SL (pc + 3, ls, r.1.toList ++ rest, r.2.1, r.2.2.1, sl + r.2.2.2)) (hq : en_Mi q) (hk : q.2.2.2.2.2.1 = 0) (htk : en_take q.2.2.2.2.1 st [] = some (as, rest)) (hsum : en_sum rest ≤ 8)
    (hM : en_Met l ba ex cA D d q as t n r) (hl : Cond.methodLink own i q.1 ∈ en_gt ∨ va_Nw (.methodLinkNest own i q.1 "PackWeeks") s) (hd : decode cc pc = .ok (.invokestatic i, 3)) : en_T p l e R s m args below meth c Q ba ex cA D nL n0 N SL (pc, ls, st, t, n, sl) := by
  refine en_a_call hn0 hnr hT htk hsum (fun H locs la av rv hP hS hla hav hlen hroom hc hs => ⟨av.toArray, ?_⟩)
  have hp : PreS s H (en_Pc ba ex cA D as t n) av := ⟨en_Pc_blind, fun U hU hW => ⟨⟨av, rfl, hav⟩, by rw [hU]; exact hP, hK.at hW (by rw [hU]; exact hS)⟩⟩
  have hR : (en_rm d (r.2.2.1 - n) r.2.2.2).frames + 1 ≤ R.frames ∧ 8 + (q.2.2.1 + 11) + (en_rm d (r.2.2.1 - n) r.2.2.2).locals ≤ R.locals := by
    have := hq.2.2.2.2.2.1
    exact ⟨hRf, by show 8 + (q.2.2.1 + 11) + 64 * d ≤ _; omega⟩
  rcases hl with hl | hl
  · exact va_runS ⟨hx, hb, hml, hown, hts⟩ hM ⟨callB_of q.2.2.2.2.1 hts (en_ws_good hq) rfl rfl rfl (hts _ hq.2.2.2.2.1) (hts _ hl) hq.2.2.2.1 hR, hts _ (hq.2.2.2.2.2.2.1 hk)⟩ hp rfl hlen hla rfl hroom hd ⟨Nat.le_trans hc hRc, Nat.le_trans hs hRs⟩
  · exact va_runSN ⟨hx, hb, hml, hown, hts⟩ hM ⟨va_cnB q.2.2.2.2.1 hts (en_ws_good hq) rfl rfl rfl hl (hts _ hq.2.2.2.2.1) hq.2.2.2.1 hR, hts _ (hq.2.2.2.2.2.2.1 hk), trivial⟩ hp rfl hlen hla rfl hroom hd ⟨Nat.le_trans hc hRc, Nat.le_trans hs hRs⟩
theorem en_a_virt {as rest : List en_V} {r : en_R} {q : en_M} {d i a : Nat} {own : String} {qr : Nat × List en_V} (hx : p.tables.exec = Jvm.exec) (hb : c.code = cc) (hml : c.maxLocals = nL) (hown : s.vm.findClass own = some m.cls) (hts : ∀ w ∈ en_gt, w.before args s = true) (hK : en_Kw ba ex cA D s) (hRf : d + 1 ≤ R.frames) (hRl : 64 * (d + 1) ≤ R.locals) (hRc : N - n0 ≤ R.cells) (hRs : SL ≤ R.slots) (hn0 : n0 ≤ n) (hnr : n ≤ r.2.2.1) (hT : en_T p l e R s m args below meth c Q ba ex cA D nL n0 N SL (pc + 3, ls, r.1.toList ++ rest, r.2.1, r.2.2.1, sl + r.2.2.2)) (hq : en_Mi q) (hk : q.2.2.2.2.2.1 = 1) (htk : en_take (q.2.2.2.2.1 + 1) st [] = some (.inr (.inr (.inl (some a))) :: as, rest)) (hsum : en_sum rest ≤ 8)
    (hg : en_get t a = some (.inr qr)) (hqr : qr.1 = q.2.2.2.2.2.2) (hM : en_Met l ba ex cA D d q (.inr (.inr (.inl (some a))) :: as) t n r) (hl : Cond.methodLink own i q.1 ∈ en_gt) (hd : decode cc pc = .ok (.invokevirtual i, 3)) : en_T p l e R s m args below meth c Q ba ex cA D nL n0 N SL (pc, ls, st, t, n, sl) := by
  refine en_a_call hn0 hnr hT htk hsum (fun H locs la av rv hP hS hla hav hlen hroom hc hs => ⟨av.toArray, ?_⟩)
  obtain ⟨w, av2, rfl, h1, h2⟩ := en_rvs_cons hav
  have h1 : w = .ref (ba + a) := h1
  subst h1
  obtain ⟨hi, hse, rc, hrc, hrn⟩ := hq.2.2.2.2.2.2.2.1 hk
  obtain ⟨fs, r', g1, g2, g3⟩ := hP.obj hg (by rw [hqr]; exact en_cl_lt hrc)
  rw [hqr] at g2 g3
  cases hrc.symm.trans g2
  obtain ⟨cell, q1, q2, q3, -⟩ := g3
  have hp : PreV s H q.1.cls (ba + a) (en_Pc ba ex cA D (.inr (.inr (.inl (some a))) :: as) t n) av2 := ⟨en_Pc_blind, ⟨cell, q1, by rw [q3]; rfl, by rw [← hrn, q2]; exact (hK.1.1 _ _ hrc).2.1⟩, fun U hU hW => ⟨⟨_, rfl, rfl, h2⟩, by rw [hU]; exact hP, hK.at hW (by rw [hU]; exact hS)⟩⟩
  have hR : (en_rm d (r.2.2.1 - n) r.2.2.2).frames + 1 ≤ R.frames ∧ 8 + (q.2.2.1 + 11) + (en_rm d (r.2.2.1 - n) r.2.2.2).locals ≤ R.locals := by
    have := hq.2.2.2.2.2.1
    exact ⟨hRf, by show 8 + (q.2.2.1 + 11) + 64 * d ≤ _; omega⟩
  exact va_runV ⟨hx, hb, hml, hown, hts⟩ hM ⟨callB_of q.2.2.2.2.1 hts (en_ws_good hq) rfl rfl rfl (hts _ hq.2.2.2.2.1) (hts _ hl) hq.2.2.2.1 hR, hts _ hi, hts _ hse⟩ hp rfl (by simpa using hlen) hla (by simp) hroom hd ⟨Nat.le_trans hc hRc, Nat.le_trans hs hRs⟩
theorem en_a_init {as rest : List en_V} {r : en_R} {q : en_M} {d i a : Nat} {own : String} (hx : p.tables.exec = Jvm.exec) (hb : c.code = cc) (hml : c.maxLocals = nL) (hown : s.vm.findClass own = some m.cls) (hts : ∀ w ∈ en_gt, w.before args s = true) (hK : en_Kw ba ex cA D s) (hRf : d + 1 ≤ R.frames) (hRl : 64 * (d + 1) ≤ R.locals) (hRc : N - n0 ≤ R.cells) (hRs : SL ≤ R.slots) (hn0 : n0 ≤ n) (hnr : n ≤ r.2.2.1) (hT : en_T p l e R s m args below meth c Q ba ex cA D nL n0 N SL (pc + 3, ls, r.1.toList ++ rest, r.2.1, r.2.2.1, sl + r.2.2.2)) (hq : en_Mi q) (hk : 2 ≤ q.2.2.2.2.2.1) (htk : en_take (q.2.2.2.2.1 + 1) st [] = some (.inr (.inr (.inl (some a))) :: as, rest)) (hsum : en_sum rest ≤ 8)
    (hM : en_Met l ba ex cA D d q (.inr (.inr (.inl (some a))) :: as) t n r) (hl : Cond.methodLink own i q.1 ∈ en_gt ∨ va_Nw (.methodLinkNest own i q.1 "PackWeeks") s) (hd : decode cc pc = .ok (.invokespecial i, 3)) : en_T p l e R s m args below meth c Q ba ex cA D nL n0 N SL (pc, ls, st, t, n, sl) := by
  refine en_a_call hn0 hnr hT htk hsum (fun H locs la av rv hP hS hla hav hlen hroom hc hs => ⟨av.toArray, ?_⟩)
  obtain ⟨w, av2, rfl, h1, h2⟩ := en_rvs_cons hav
  have h1 : w = .ref (ba + a) := h1
  subst h1
  obtain ⟨hi, hnm, hrt⟩ := hq.2.2.2.2.2.2.2.2 hk
  have hp : PreS s H (en_Pc ba ex cA D (.inr (.inr (.inl (some a))) :: as) t n) (.ref (ba + a) :: av2) := ⟨en_Pc_blind, fun U hU hW => ⟨⟨_, rfl, rfl, h2⟩, by rw [hU]; exact hP, hK.at hW (by rw [hU]; exact hS)⟩⟩
  have hR : (en_rm d (r.2.2.1 - n) r.2.2.2).frames + 1 ≤ R.frames ∧ 8 + (q.2.2.1 + 11) + (en_rm d (r.2.2.1 - n) r.2.2.2).locals ≤ R.locals := by
    have := hq.2.2.2.2.2.1
    exact ⟨hRf, by show 8 + (q.2.2.1 + 11) + 64 * d ≤ _; omega⟩
  have hw : en_ws q = Cond.code q.1 q.2.1 q.2.2.1 none :: en_gt := by unfold en_ws; rw [hrt]
  rcases hl with hl | hl
  · exact va_runI ⟨hx, hb, hml, hown, hts⟩ hM ⟨callB_of q.2.2.2.2.1 hts (en_ws_good hq) hw rfl rfl (hts _ hq.2.2.2.2.1) (hts _ hl) hq.2.2.2.1 hR, hnm, hts _ hi⟩ hp rfl (by simpa using hlen) hla (by simp) hroom hd ⟨Nat.le_trans hc hRc, Nat.le_trans hs hRs⟩
  · exact va_runIN ⟨hx, hb, hml, hown, hts⟩ hM ⟨va_cnB q.2.2.2.2.1 hts (en_ws_good hq) hw rfl rfl hl (hts _ hq.2.2.2.2.1) hq.2.2.2.1 hR, hnm, hts _ hi⟩ hp rfl (by simpa using hlen) hla (by simp) hroom hd ⟨Nat.le_trans hc hRc, Nat.le_trans hs hRs⟩
/-- the end of a method -/
theorem en_a_ret {Rs : en_R} {a : en_V} {rt : FieldType} (hx : p.tables.exec = Jvm.exec) (hb : c.code = cc) (hr : meth.sig.returnType = some rt) (hlk : meth.locks = false) (hR : Rs = (some a, t, n, sl))
    (h : ∀ (H : Heap) (locs : List Loc) (la : Array Slot) (w : Value) (Qc : Array Value → State → Outcome → State → Prop) (free : Addr → Prop), en_rv ba ex a w → (∀ u : State, u.heap = H → s.WarmedH u.vm → Qc args s (.returned (some w)) u) → (∀ q ∈ locs, free q.base) → W p l e R s m args below meth c H locs (n - n0) sl (MQ below Qc args s (n - n0) sl free) (F0 m pc la [w])) :
    en_T p l e R s m args below meth c (MQ below (en_Qc ba ex cA D Rs) args s (Rs.2.2.1 - n0) Rs.2.2.2 (fun x => ba ≤ x)) ba ex cA D nL n0 Rs.2.2.1 Rs.2.2.2 (pc, ls, [a], t, n, sl) := by
  subst hR
  refine ⟨Nat.le_refl _, Nat.le_refl _, fun H locs la vs hl' hv' hP hS => ?_⟩
  obtain ⟨w, ws, rfl, h1, h2⟩ := en_rvs_cons hv'
  have h2 := en_rvs_nil h2
  subst h2
  exact h H locs la w _ _ h1 (fun u hu hW => ⟨⟨some w, rfl, h1⟩, by rw [hu]; exact hP, hS.F hu⟩) hS.2.2
theorem en_a_retv {Rs : en_R} (hx : p.tables.exec = Jvm.exec) (hb : c.code = cc) (hr : meth.sig.returnType = none) (hlk : meth.locks = false) (hR : Rs = (none, t, n, sl)) (hd : decode cc pc = .ok (.return_, 1)) :
    en_T p l e R s m args below meth c (MQ below (en_Qc ba ex cA D Rs) args s (Rs.2.2.1 - n0) Rs.2.2.2 (fun x => ba ≤ x)) ba ex cA D nL n0 Rs.2.2.1 Rs.2.2.2 (pc, ls, [], t, n, sl) := by
  subst hR
  refine ⟨Nat.le_refl _, Nat.le_refl _, fun H locs la vs hl' hv' hP hS => ?_⟩
  have h2 := en_rvs_nil hv'
  subst h2
  exact W.vret hx hb hr (fun u hu hW => ⟨⟨none, rfl, trivial⟩, by rw [hu]; exact hP, hS.F hu⟩) hS.2.2 hd hlk
end
end ENA
end
section
section ENB
theorem en_bif {α : Type} {b : Bool} {x : Option α} {o : α} (h : (bif b then x else none) = some o) : b = true ∧ x = some o := by
  cases b with
  | true => exact ⟨rfl, h⟩
  | false => cases h
variable {nx : Nat} {ls : en_L} {st : List en_V} {t : en_H} {n sl : Nat} {k : en_K} {o : en_O}
theorem en_load_inv {d i : Nat} (h : en_load d i nx ls st t n sl k = some o) : ∃ a, en_ld ls i = some a ∧ en_kd a = d ∧ k nx ls (a :: st) t n sl = some o := by
  unfold en_load at h
  split at h
  · rename_i a ha
    obtain ⟨h1, h2⟩ := en_bif h
    exact ⟨a, ha, Nat.eq_of_beq_eq_true h1, h2⟩
  · cases h
theorem en_store_inv {d i : Nat} (h : en_store d i nx ls st t n sl k = some o) : ∃ a r, st = a :: r ∧ en_kd a = d ∧ k nx ((i, a) :: en_flt (bif Nat.beq d 1 then en_keep2 i else en_keep1 i) ls) r t n sl = some o := by
  unfold en_store at h
  split at h
  · rename_i a r
    obtain ⟨h1, h2⟩ := en_bif h
    exact ⟨a, r, rfl, Nat.eq_of_beq_eq_true h1, h2⟩
  · cases h
theorem en_iinc_inv {i x : Nat} (h : en_iinc i x nx ls st t n sl k = some o) : ∃ a, en_ld ls i = some (.inl a) ∧ k nx ((i, .inl (en_wrap (a + x))) :: en_flt (en_keep1 i) ls) st t n sl = some o := by
  unfold en_iinc at h
  split at h
  · rename_i a ha
    exact ⟨a, ha, h⟩
  · cases h
theorem en_bin_inv {g : en_V → en_V → Option en_V} (h : en_bin g nx ls st t n sl k = some o) : ∃ a b r v, st = b :: a :: r ∧ g a b = some v ∧ k nx ls (v :: r) t n sl = some o := by
  unfold en_bin at h
  split at h
  · rename_i b a r
    split at h
    · rename_i v hv
      exact ⟨a, b, r, v, rfl, hv, h⟩
    · cases h
  · cases h
theorem en_mm_inv {g : en_V → en_V → Option en_V} (h : en_mm g nx ls st t n sl k = some o) : ∃ a b r v, st = b :: a :: r ∧ en_sum r ≤ 8 ∧ g a b = some v ∧ k nx ls (v :: r) t n sl = some o := by
  unfold en_mm at h
  split at h
  · rename_i b a r
    obtain ⟨h1, h⟩ := en_bif h
    split at h
    · rename_i v hv
      exact ⟨a, b, r, v, rfl, Nat.le_of_ble_eq_true h1, hv, h⟩
    · cases h
  · cases h
theorem en_jump_inv {r : Option Bool} {tg : Nat} (h : en_jump r tg nx ls st t n sl k = some o) : (r = some true ∧ k tg ls st t n sl = some o) ∨ (r = some false ∧ k nx ls st t n sl = some o) := by
  unfold en_jump at h
  split at h
  · rename_i b
    cases b with
    | true => exact Or.inl ⟨rfl, h⟩
    | false => exact Or.inr ⟨rfl, h⟩
  · cases h
theorem en_cmp1_inv {q : ClassFile.Cond} {tg : Nat} (h : en_cmp1 q tg nx ls st t n sl k = some o) : ∃ a r, st = a :: r ∧ en_jump (en_rel q a (.inl 0)) tg nx ls r t n sl k = some o := by
  unfold en_cmp1 at h
  split at h
  · exact ⟨_, _, rfl, h⟩
  · cases h
theorem en_cmp2_inv {q : ClassFile.Cond} {tg : Nat} (h : en_cmp2 q tg nx ls st t n sl k = some o) : ∃ a b r, st = b :: a :: r ∧ en_jump (en_rel q a b) tg nx ls r t n sl k = some o := by
  unfold en_cmp2 at h
  split at h
  · exact ⟨_, _, _, rfl, h⟩
  · cases h
theorem en_acne_inv {tg : Nat} (h : en_acne tg nx ls st t n sl k = some o) : ∃ a b r, st = b :: a :: r ∧ en_jump (en_not (en_ac a b)) tg nx ls r t n sl k = some o := by
  unfold en_acne at h
  split at h
  · exact ⟨_, _, _, rfl, h⟩
  · cases h
theorem en_getf_inv {x1 x2 : Nat} (h : en_getf x1 x2 nx ls st t n sl k = some o) : ∃ a r q v, st = .inr (.inr (.inl (some a))) :: r ∧ en_get t a = some (.inr q) ∧ q.1 = x2 ∧ q.2[x1]? = some v ∧ k nx ls (v :: r) t n sl = some o := by
  unfold en_getf at h
  split at h
  · rename_i a r
    split at h
    · rename_i q hq
      obtain ⟨h1, h⟩ := en_bif h
      split at h
      · rename_i v hv
        rw [en_nth_eq] at hv
        exact ⟨a, r, q, v, rfl, hq, Nat.eq_of_beq_eq_true h1, hv, h⟩
      · cases h
    · cases h
  · cases h
theorem en_putf_inv {x1 ci kd : Nat} (h : en_putf x1 ci kd nx ls st t n sl k = some o) : ∃ v a r q, st = v :: .inr (.inr (.inl (some a))) :: r ∧ en_get t a = some (.inr q) ∧ q.1 = ci ∧ en_fit kd v = true ∧ x1 < q.2.length ∧ k nx ls r (en_set t a (.inr (q.1, en_upd q.2 x1 v))) n sl = some o := by
  unfold en_putf at h
  split at h
  · rename_i v a r
    split at h
    · rename_i q hq
      obtain ⟨h1, h⟩ := en_bif h
      simp only [Bool.and_eq_true] at h1
      refine ⟨v, a, r, q, rfl, hq, Nat.eq_of_beq_eq_true h1.1.1, h1.1.2, ?_, h⟩
      rw [← en_len_eq]
      exact Nat.le_of_ble_eq_true h1.2
    · cases h
  · cases h
theorem en_aget_inv {oc : Option (List en_V)} {c : Nat → Bool} (h : en_aget oc c nx ls st t n sl k = some o) : (∃ i a r q v, st = .inl i :: .inr (.inr (.inl (some a))) :: r ∧ en_get t a = some (.inl q) ∧ c q.1 = true ∧ i < 2147483648 ∧ q.2[i]? = some v ∧ k nx ls (v :: r) t n sl = some o) ∨
    ∃ i r L v, st = .inl i :: .inr (.inr (.inr (.inl 2))) :: r ∧ oc = some L ∧ c 0 = true ∧ i < 2147483648 ∧ L[i]? = some v ∧ k nx ls (v :: r) t n sl = some o := by
  unfold en_aget at h
  split at h
  · rename_i i a r
    split at h
    · rename_i q hq
      obtain ⟨h1, h⟩ := en_bif h
      simp only [Bool.and_eq_true] at h1
      split at h
      · rename_i v hv
        rw [en_nth_eq] at hv
        exact Or.inl ⟨i, a, r, q, v, rfl, hq, h1.1, Nat.le_of_ble_eq_true h1.2, hv, h⟩
      · cases h
    · cases h
  · rename_i i r
    split at h
    · rename_i L
      obtain ⟨h1, h⟩ := en_bif h
      simp only [Bool.and_eq_true] at h1
      split at h
      · rename_i v hv
        rw [en_nth_eq] at hv
        exact Or.inr ⟨i, r, L, v, rfl, rfl, h1.1, Nat.le_of_ble_eq_true h1.2, hv, h⟩
      · cases h
    · cases h
  · cases h
theorem en_aput_inv {d : Nat} (h : en_aput d nx ls st t n sl k = some o) : ∃ v i a r q, st = v :: .inl i :: .inr (.inr (.inl (some a))) :: r ∧ en_get t a = some (.inl q) ∧ en_afit t d q.1 v = true ∧ i < 2147483648 ∧ i < q.2.length ∧ k nx ls r (en_set t a (.inl (q.1, en_upd q.2 i v))) n sl = some o := by
  unfold en_aput at h
  split at h
  · rename_i v i a r
    split at h
    · rename_i q hq
      obtain ⟨h1, h⟩ := en_bif h
      simp only [Bool.and_eq_true] at h1
      refine ⟨v, i, a, r, q, rfl, hq, h1.1, Nat.le_of_ble_eq_true h1.2.1, ?_, h⟩
      rw [← en_len_eq]
      exact Nat.le_of_ble_eq_true h1.2.2
    · cases h
  · cases h
theorem en_alen_inv {oc : Option (List en_V)} (h : en_alen oc nx ls st t n sl k = some o) : (∃ a r q, st = .inr (.inr (.inl (some a))) :: r ∧ en_get t a = some (.inl q) ∧ q.1 < 8 ∧ k nx ls (.inl q.2.length :: r) t n sl = some o) ∨
    ∃ r L, st = .inr (.inr (.inr (.inl 2))) :: r ∧ oc = some L ∧ k nx ls (.inl L.length :: r) t n sl = some o := by
  unfold en_alen at h
  split at h
  · rename_i a r
    split at h
    · rename_i q hq
      obtain ⟨h1, h⟩ := en_bif h
      rw [en_len_eq] at h
      exact Or.inl ⟨a, r, q, rfl, hq, Nat.le_of_ble_eq_true h1, h⟩
    · cases h
  · rename_i r
    split at h
    · rename_i L
      rw [en_len_eq] at h
      exact Or.inr ⟨r, L, rfl, rfl, h⟩
    · cases h
  · cases h
theorem en_free_inv {t : en_H} {n : Nat} (h : en_free t n = true) : ∃ c, en_get t n = some c := by
  unfold en_free at h
  split at h
  · rename_i q hq
    exact ⟨_, hq⟩
  · cases h
theorem en_new_inv {ci : Nat} {fs : List en_V} (h : en_new ci fs nx ls st t n sl k = some o) : (∃ c, en_get t n = some c) ∧ k nx ls (.inr (.inr (.inl (some n))) :: st) (en_set t n (.inr (ci, fs))) (n + 1) (sl + fs.length) = some o := by
  unfold en_new at h
  obtain ⟨h1, h⟩ := en_bif h
  rw [en_len_eq] at h
  exact ⟨en_free_inv h1, h⟩
theorem en_newa_inv {c : Nat} {z : en_V} (h : en_newa c z nx ls st t n sl k = some o) : ∃ m r, st = .inl m :: r ∧ (∃ c, en_get t n = some c) ∧ m ≤ 60000 ∧ k nx ls (.inr (.inr (.inl (some n))) :: r) (en_set t n (.inl (c, en_rep m z))) (n + 1) (sl + m) = some o := by
  unfold en_newa at h
  split at h
  · rename_i m r
    obtain ⟨h1, h⟩ := en_bif h
    simp only [Bool.and_eq_true] at h1
    exact ⟨m, r, rfl, en_free_inv h1.1, Nat.le_of_ble_eq_true h1.2, h⟩
  · cases h
theorem en_multi_inv (h : en_multi nx ls st t n sl k = some o) : ∃ m w r u, st = .inl m :: .inl w :: r ∧ (∃ c, en_get t n = some c) ∧ m ≤ 60000 ∧ w ≤ 60000 ∧ en_fill m (en_set t n (.inl (7, en_refs (n + 1) w))) (n + 1) w = some u ∧ k nx ls (.inr (.inr (.inl (some n))) :: r) u (n + 1 + w) (sl + w + w * m) = some o := by
  unfold en_multi at h
  split at h
  · rename_i m w r
    obtain ⟨h1, h⟩ := en_bif h
    simp only [Bool.and_eq_true] at h1
    split at h
    · rename_i u hu
      exact ⟨m, w, r, u, rfl, en_free_inv h1.1, Nat.le_of_ble_eq_true h1.2.1, Nat.le_of_ble_eq_true h1.2.2, hu, h⟩
    · cases h
  · cases h
theorem en_inv_inv {ok : List en_V → Bool} {f : en_F} {mi na : Nat} (h : en_inv ok f mi na nx ls st t n sl k = some o) : ∃ as rest r, en_take na st [] = some (as, rest) ∧ ok as = true ∧ en_sum rest ≤ 8 ∧ f mi as t n = some r ∧ n ≤ r.2.2.1 ∧ k nx ls (r.1.toList ++ rest) r.2.1 r.2.2.1 (sl + r.2.2.2) = some o := by
  unfold en_inv at h
  split at h
  · rename_i q hq
    obtain ⟨h1, h⟩ := en_bif h
    simp only [Bool.and_eq_true] at h1
    split at h
    · rename_i r hr
      obtain ⟨h2, h⟩ := en_bif h
      exact ⟨q.1, q.2, r, hq, h1.1, Nat.le_of_ble_eq_true h1.2, hr, Nat.le_of_ble_eq_true h2, h⟩
    · cases h
  · cases h
theorem en_recv_inv {rc : Nat} {as : List en_V} (h : en_recv t rc as = true) : ∃ a as' q, as = .inr (.inr (.inl (some a))) :: as' ∧ en_get t a = some (.inr q) ∧ q.1 = rc := by
  unfold en_recv at h
  split at h
  · rename_i a as'
    split at h
    · rename_i q hq
      exact ⟨a, as', q, rfl, hq, Nat.eq_of_beq_eq_true h⟩
    · cases h
  · cases h
theorem en_isref_inv {as : List en_V} (h : en_isref as = true) : ∃ a as', as = .inr (.inr (.inl (some a))) :: as' := by
  unfold en_isref at h
  split at h
  · exact ⟨_, _, rfl⟩
  · cases h
theorem en_oinit_inv (h : en_oinit nx ls st t n sl k = some o) : ∃ a r, st = .inr (.inr (.inl (some a))) :: r ∧ en_sum r ≤ 8 ∧ k nx ls r t n sl = some o := by
  unfold en_oinit at h
  split at h
  · rename_i a r
    obtain ⟨h1, h⟩ := en_bif h
    exact ⟨a, r, rfl, Nat.le_of_ble_eq_true h1, h⟩
  · cases h
theorem en_ret1_inv {d b : Nat} (h : en_ret1 d b st t n sl = some o) : ∃ a, st = [a] ∧ en_kd a = d ∧ (b = 1 → en_fit 3 a = true) ∧ o = .inl (some a, t, n, sl) := by
  unfold en_ret1 at h
  split at h
  · rename_i a
    obtain ⟨h1, h⟩ := en_bif h
    simp only [Bool.and_eq_true] at h1
    refine ⟨a, rfl, Nat.eq_of_beq_eq_true h1.1, fun hb => ?_, (Option.some.inj h).symm⟩
    have h2 := h1.2
    rw [hb] at h2
    exact h2
  · cases h
theorem en_dup_inv (h : en_dup nx ls st t n sl k = some o) : ∃ a r, st = a :: r ∧ en_cat a = 1 ∧ k nx ls (a :: a :: r) t n sl = some o := by
  unfold en_dup at h
  split at h
  · rename_i a r
    obtain ⟨h1, h⟩ := en_bif h
    exact ⟨a, r, rfl, Nat.eq_of_beq_eq_true h1, h⟩
  · cases h
theorem en_dup2_inv (h : en_dup2 nx ls st t n sl k = some o) : ∃ a b r, st = a :: b :: r ∧ en_cat a = 1 ∧ en_cat b = 1 ∧ k nx ls (a :: b :: a :: b :: r) t n sl = some o := by
  unfold en_dup2 at h
  split at h
  · rename_i a b r
    obtain ⟨h1, h⟩ := en_bif h
    simp only [Bool.and_eq_true] at h1
    exact ⟨a, b, r, rfl, Nat.eq_of_beq_eq_true h1.1, Nat.eq_of_beq_eq_true h1.2, h⟩
  · cases h
theorem en_pop_inv (h : en_pop nx ls st t n sl k = some o) : ∃ a r, st = a :: r ∧ en_cat a = 1 ∧ k nx ls r t n sl = some o := by
  unfold en_pop at h
  split at h
  · rename_i a r
    obtain ⟨h1, h⟩ := en_bif h
    exact ⟨a, r, rfl, Nat.eq_of_beq_eq_true h1, h⟩
  · cases h
theorem en_i2l_inv (h : en_i2l nx ls st t n sl k = some o) : ∃ a v r, st = a :: r ∧ (∀ {ba : Nat} {ex : Nat → Nat} {w : Value}, en_rv ba ex a w → ∃ x : Int32, w = .int x ∧ en_rv ba ex v (.long x.toInt64)) ∧ k nx ls (v :: r) t n sl = some o := by
  unfold en_i2l at h
  split at h
  · rename_i a r
    exact ⟨_, _, r, rfl, fun hw => ⟨nI a, hw, by show Value.long _ = Value.long _; rw [en_lN_tn]⟩, h⟩
  · rename_i a r
    refine ⟨_, _, r, rfl, fun hw => ?_, h⟩
    obtain ⟨x, hx, -⟩ := hw
    exact ⟨x, hx, _, rfl⟩
  · cases h
theorem en_i2b_inv (h : en_i2b nx ls st t n sl k = some o) : ∃ a r, st = a :: r ∧ en_kd a = 0 ∧ k nx ls (.inr (.inr (.inr (.inr (0, 4294967295)))) :: r) t n sl = some o := by
  unfold en_i2b at h
  split at h
  · rename_i a r
    obtain ⟨h1, h⟩ := en_bif h
    exact ⟨a, r, rfl, Nat.eq_of_beq_eq_true h1, h⟩
  · cases h
theorem en_full {ba : Nat} {ex : Nat → Nat} (x : Int32) : en_rv ba ex (.inr (.inr (.inr (.inr (0, 4294967295))))) (.int x) := by
  refine ⟨x, rfl, ?_, ?_⟩
  · have := Int32.le_toInt x
    show ((0 : Nat) : Int) ≤ _
    simp at this ⊢
    omega
  · have := Int32.toInt_lt x
    show _ ≤ ((4294967295 : Nat) : Int)
    simp at this ⊢
    omega
theorem en_afit0 {t : en_H} {c : Nat} : ∀ {v : en_V}, en_afit t 0 c v = true → ∃ x, v = .inl x ∧ c = 0
  | .inl x, h => ⟨x, rfl, Nat.eq_of_beq_eq_true h⟩
  | .inr (.inl _), h => by cases h
  | .inr (.inr (.inl none)), h => by cases h
  | .inr (.inr (.inl (some _))), h => by cases h
  | .inr (.inr (.inr (.inl _))), h => by cases h
  | .inr (.inr (.inr (.inr _))), h => by cases h
theorem en_afit1 {t : en_H} {c : Nat} : ∀ {v : en_V}, en_afit t 1 c v = true → ∃ x, v = .inr (.inl x) ∧ c = 3
  | .inr (.inl x), h => ⟨x, rfl, Nat.eq_of_beq_eq_true h⟩
  | .inl _, h => by cases h
  | .inr (.inr (.inl none)), h => by cases h
  | .inr (.inr (.inl (some _))), h => by cases h
  | .inr (.inr (.inr (.inl _))), h => by cases h
  | .inr (.inr (.inr (.inr _))), h => by cases h
theorem en_afit2 {t : en_H} {c : Nat} : ∀ {v : en_V}, en_afit t 2 c v = true → (∃ x, v = .inl x ∧ c = 2 ∧ x ≤ 1) ∨ (v = .inr (.inr (.inr (.inr (0, 4294967295)))) ∧ c = 1)
  | .inl x, h => by
    have h : (Nat.beq c 2 && Nat.ble x 1) = true := h
    rw [Bool.and_eq_true] at h
    exact Or.inl ⟨x, rfl, Nat.eq_of_beq_eq_true h.1, Nat.le_of_ble_eq_true h.2⟩
  | .inr (.inl _), h => by cases h
  | .inr (.inr (.inl none)), h => by cases h
  | .inr (.inr (.inl (some _))), h => by cases h
  | .inr (.inr (.inr (.inl _))), h => by cases h
  | .inr (.inr (.inr (.inr q))), h => by
    have h : (Nat.beq c 1 && (Nat.beq q.1 0 && Nat.beq q.2 4294967295)) = true := h
    rw [Bool.and_eq_true, Bool.and_eq_true] at h
    obtain ⟨a, b⟩ := q
    have h1 : a = 0 := Nat.eq_of_beq_eq_true h.2.1
    have h2 : b = 4294967295 := Nat.eq_of_beq_eq_true h.2.2
    subst h1
    subst h2
    exact Or.inr ⟨rfl, Nat.eq_of_beq_eq_true h.1⟩
theorem en_afit3 {t : en_H} {c : Nat} : ∀ {v : en_V}, en_afit t 3 c v = true → (v = .inr (.inr (.inl none)) ∧ c = 4) ∨ ∃ y q, v = .inr (.inr (.inl (some y))) ∧ en_get t y = some (.inr q) ∧ ((c = 5 ∧ q.1 = 7) ∨ (c = 6 ∧ q.1 = 6))
  | .inl _, h => by cases h
  | .inr (.inl _), h => by cases h
  | .inr (.inr (.inl none)), h => Or.inl ⟨rfl, Nat.eq_of_beq_eq_true h⟩
  | .inr (.inr (.inl (some y))), h => by
    have h : (match en_get t y with
      | some (.inr q) => (Nat.beq c 5 && Nat.beq q.1 7) || (Nat.beq c 6 && Nat.beq q.1 6)
      | _ => false) = true := h
    split at h
    · rename_i q hq
      rw [Bool.or_eq_true, Bool.and_eq_true, Bool.and_eq_true] at h
      refine Or.inr ⟨y, q, rfl, hq, ?_⟩
      rcases h with h | h
      · exact Or.inl ⟨Nat.eq_of_beq_eq_true h.1, Nat.eq_of_beq_eq_true h.2⟩
      · exact Or.inr ⟨Nat.eq_of_beq_eq_true h.1, Nat.eq_of_beq_eq_true h.2⟩
    · cases h
  | .inr (.inr (.inr (.inl _))), h => by cases h
  | .inr (.inr (.inr (.inr _))), h => by cases h
theorem en_l2i_inv (h : en_l2i nx ls st t n sl k = some o) : ∃ a v r, st = a :: r ∧ (∀ {ba : Nat} {ex : Nat → Nat} {w : Value}, en_rv ba ex a w → ∃ x : Int64, w = .long x ∧ en_rv ba ex v (.int x.toInt32)) ∧ k nx ls (v :: r) t n sl = some o := by
  unfold en_l2i at h
  split at h
  · rename_i a r
    exact ⟨_, _, r, rfl, fun hw => ⟨lN a, hw, by show Value.int _ = Value.int _; rw [en_nI_tn]⟩, h⟩
  · cases h
theorem en_switch_inv {pc : Nat} {df lo hi : Int} {os : Array Int} (h : en_switch pc df lo hi os ls st t n sl k = some o) : ∃ a r q, st = a :: r ∧ en_bnd a = some q ∧ (((q.2 : Int) - 2147483648 < lo ∨ hi < (q.1 : Int) - 2147483648) ∧ (∃ tg : Nat, (pc : Int) + df = (tg : Int) ∧ k tg ls r t n sl = some o) ∨
    ¬ ((q.2 : Int) - 2147483648 < lo ∨ hi < (q.1 : Int) - 2147483648) ∧ q.1 = q.2 ∧ ∃ (of : Int) (tg : Nat), os[((q.1 : Int) - 2147483648 - lo).toNat]? = some of ∧ (pc : Int) + of = (tg : Int) ∧ k tg ls r t n sl = some o) := by
  unfold en_switch at h
  split at h
  · rename_i a r
    split at h
    · rename_i q hq
      refine ⟨a, r, q, rfl, hq, ?_⟩
      split at h
      · rename_i hc
        split at h
        · rename_i h0
          exact Or.inl ⟨hc, _, (Int.toNat_of_nonneg h0).symm, h⟩
        · cases h
      · rename_i hc
        split at h
        · rename_i he
          split at h
          · rename_i of hof
            rw [en_nth_eq, Array.getElem?_toList] at hof
            split at h
            · rename_i h0
              exact Or.inr ⟨hc, he, of, _, hof, (Int.toNat_of_nonneg h0).symm, h⟩
            · cases h
          · cases h
        · cases h
    · cases h
  · cases h
end ENB
end
section
section ENC
noncomputable def en_dec (cc : ByteArray) (pc : Nat) (e : en_I) : Bool := match decode cc pc with
  | .ok v => decide (v.1 = e.1) && decide (e.2.1 = pc + v.2)
  | .error _ => false
theorem en_dec_ok {cc : ByteArray} {pc : Nat} {e : en_I} (h : en_dec cc pc e = true) : ∃ k, decode cc pc = .ok (e.1, k) ∧ e.2.1 = pc + k := by
  unfold en_dec at h
  split at h
  · rename_i v hv
    simp only [Bool.and_eq_true, decide_eq_true_eq] at h
    exact ⟨v.2, by rw [hv, ← h.1], h.2⟩
  · cases h
theorem en_dec_k {cc : ByteArray} {pc nx k : Nat} {i : Instr} (h : ∃ k, decode cc pc = .ok (i, k) ∧ nx = pc + k) (hk : nx = pc + k) : decode cc pc = .ok (i, k) := by
  obtain ⟨j, h1, h2⟩ := h
  rw [h1, show j = k by omega]
noncomputable def en_mcall (on i x1 : Nat) : Bool := en_ML.any (fun w => decide (w.1 = on) && (decide (w.2.1 = i) && decide (w.2.2.1 = x1)))
noncomputable def en_mcallV (on i x1 : Nat) : Bool := en_ML.any (fun w => decide (w.1 = on) && (decide (w.2.1 = i) && (decide (w.2.2.1 = x1) && decide (w.2.2.2.1 = 0))))
noncomputable def en_minf (x1 : Nat) (g : en_M → Bool) : Bool := match en_nth en_inf x1 with
  | some q => g q
  | none => false
/-- an entry of a method's table is what the code holds there, and what it links is in the tables -/
noncomputable def en_ok (q : en_M) (pc : Nat) (e : en_I) : Bool := en_dec q.2.1 pc e && (match e.1 with
  | .iconst i => decide (e.2.1 = pc + 1) && decide (Int32.ofInt i = nI e.2.2.1)
  | .bipush i => decide (e.2.1 = pc + 2) && decide ((Int8.ofInt i).toInt32 = nI e.2.2.1)
  | .sipush i => decide (e.2.1 = pc + 3) && decide ((Int16.ofInt i).toInt32 = nI e.2.2.1)
  | .ldc i => decide (e.2.1 = pc + 2) && en_KL.any (fun w => decide (w.1 = q.2.2.2.2.2.2) && (decide (w.2.1 = i) && decide (w.2.2.1 = e.2.2.1)))
  | .ldc_w i => decide (e.2.1 = pc + 3) && en_KL.any (fun w => decide (w.1 = q.2.2.2.2.2.2) && (decide (w.2.1 = i) && decide (w.2.2.1 = e.2.2.1)))
  | .lconst i => decide (e.2.1 = pc + 1) && decide (Int64.ofNat i.val = lN e.2.2.1)
  | .ldc2_w i => decide (e.2.1 = pc + 3) && en_LL.any (fun w => decide (w.1 = q.2.2.2.2.2.2) && (decide (w.2.1 = i) && decide (w.2.2.1 = e.2.2.1)))
  | .iload _ | .lload _ | .aload _ => decide (e.2.1 = pc + 2)
  | .istore i | .astore i => decide (e.2.1 = pc + 2) && decide (i < q.2.2.1)
  | .lstore i => decide (e.2.1 = pc + 2) && decide (i + 1 < q.2.2.1)
  | .istore_n i | .astore_n i => decide (e.2.1 = pc + 1) && decide (i.val < q.2.2.1)
  | .lstore_n i => decide (e.2.1 = pc + 1) && decide (i.val + 1 < q.2.2.1)
  | .iinc i j => decide (e.2.1 = pc + 3) && (decide (Int32.ofInt j = nI e.2.2.1) && decide (i < q.2.2.1))
  | .ifCond _ j | .if_icmp _ j | .if_acmp _ j | .goto j => decide (e.2.1 = pc + 3) && decide ((pc : Int) + j = (e.2.2.1 : Int))
  | .tableswitch _ _ _ _ => true
  | .getfield i => decide (e.2.1 = pc + 3) && en_GL.any (fun w => decide (w.1 = q.2.2.2.2.2.2) && (decide (w.2.1 = i) && (decide (w.2.2.1 = e.2.2.2 % 16) && decide (w.2.2.2.1 = e.2.2.1))))
  | .putfield i => decide (e.2.1 = pc + 3) && en_PL.any (fun w => decide (w.1 = q.2.2.2.2.2.2) && (decide (w.2.1 = i) && (decide (w.2.2.1 = e.2.2.2 % 16) && (decide (w.2.2.2.1 = e.2.2.1) && (decide (w.2.2.2.2.1 = e.2.2.2 / 16 % 4) && (decide (w.2.2.2.2.2.1 = 0) || decide (q.1.name = "<init>")))))))
  | .getstatic i => decide (e.2.1 = pc + 3) && (decide (e.2.2.1 = 0) && en_SL.any (fun w => decide (w.1 = q.2.2.2.2.2.2) && decide (w.2.1 = i)))
  | .new i => decide (e.2.1 = pc + 3) && en_NL.any (fun w => decide (w.1 = q.2.2.2.2.2.2) && (decide (w.2.1 = i) && decide (w.2.2.1 = e.2.2.1)))
  | .newarray a => decide (e.2.1 = pc + 2) && (match a with | .int => decide (e.2.2.1 = 0) | .byte => decide (e.2.2.1 = 1) | .boolean => decide (e.2.2.1 = 2) | .long => decide (e.2.2.1 = 3) | _ => false)
  | .anewarray i => decide (e.2.1 = pc + 3) && en_AL.any (fun w => decide (w.1 = q.2.2.2.2.2.2) && (decide (w.2.1 = i) && decide (w.2.2.1 = e.2.2.1)))
  | .multianewarray i j => decide (e.2.1 = pc + 4) && (decide (j = 2) && en_XL.any (fun w => decide (w.1 = q.2.2.2.2.2.2) && decide (w.2.1 = i)))
  | .invokestatic i => decide (e.2.1 = pc + 3) && (bif Nat.beq e.2.2.1 9991 then en_QL.any (fun w => decide (w.1 = q.2.2.2.2.2.2) && (decide (w.2.1 = i) && decide (w.2.2.1 = 1))) else bif Nat.beq e.2.2.1 9992 then en_QL.any (fun w => decide (w.1 = q.2.2.2.2.2.2) && (decide (w.2.1 = i) && decide (w.2.2.1 = 2))) else en_mcall q.2.2.2.2.2.2 i e.2.2.1 && en_minf e.2.2.1 (fun y => decide (y.2.2.2.2.2.1 = 0) && decide (y.2.2.2.2.1 = e.2.2.2)))
  | .invokevirtual i => decide (e.2.1 = pc + 3) && (en_mcallV q.2.2.2.2.2.2 i e.2.2.1 && en_minf e.2.2.1 (fun y => decide (y.2.2.2.2.2.1 = 1) && (decide (y.2.2.2.2.1 + 1 = e.2.2.2 % 16) && decide (y.2.2.2.2.2.2 = e.2.2.2 / 16))))
  | .invokespecial i => decide (e.2.1 = pc + 3) && (bif Nat.beq e.2.2.1 9999 then en_OL.any (fun w => decide (w.1 = q.2.2.2.2.2.2) && decide (w.2.1 = i)) else en_mcall q.2.2.2.2.2.2 i e.2.2.1 && en_minf e.2.2.1 (fun y => decide (2 ≤ y.2.2.2.2.2.1) && decide (y.2.2.2.2.1 + 1 = e.2.2.2)))
  | .return_ => decide (e.2.1 = pc + 1) && decide (q.2.2.2.1 = none)
  | .ireturn => decide (e.2.1 = pc + 1) && (decide (e.2.2.1 = 0) && decide (q.2.2.2.1 = some .int) || decide (e.2.2.1 = 1) && decide (q.2.2.2.1 = some .boolean))
  | .lreturn => decide (e.2.1 = pc + 1) && decide (q.2.2.2.1 = some .long)
  | _ => decide (e.2.1 = pc + 1))
theorem en_mcall_ok {on i x1 : Nat} {q : en_M} {s : State} {ba : Nat} {ex : Nat → Nat} {cA : Nat → ClassId} {D : va_G} (h : en_mcall on i x1 = true) (hq : en_nth en_inf x1 = some q) (hK : en_Kw ba ex cA D s) : Cond.methodLink (en_cn on) i q.1 ∈ en_gt ∨ va_Nw (.methodLinkNest (en_cn on) i q.1 "PackWeeks") s := by
  unfold en_mcall at h
  obtain ⟨w, hw, h⟩ := List.any_eq_true.mp h
  simp only [Bool.and_eq_true, decide_eq_true_eq] at h
  obtain ⟨rfl, rfl, rfl⟩ := h
  by_cases h0 : w.2.2.2.1 = 0
  · have hm := List.all_eq_true.mp en_ML_ok w hw
    unfold en_mok at hm
    rw [hq] at hm
    dsimp only at hm
    rw [h0] at hm
    exact Or.inl (en_tb_mem hm)
  · exact Or.inr (hK.2.2.2.1 w hw q hq h0)
theorem en_mcallV_ok {on i x1 : Nat} {q : en_M} (h : en_mcallV on i x1 = true) (hq : en_nth en_inf x1 = some q) : Cond.methodLink (en_cn on) i q.1 ∈ en_gt := by
  unfold en_mcallV at h
  obtain ⟨w, hw, h⟩ := List.any_eq_true.mp h
  simp only [Bool.and_eq_true, decide_eq_true_eq] at h
  obtain ⟨rfl, rfl, rfl, h0⟩ := h
  have hm := List.all_eq_true.mp en_ML_ok w hw
  unfold en_mok at hm
  rw [hq] at hm
  dsimp only at hm
  rw [h0] at hm
  exact en_tb_mem hm
theorem en_minf_ok {x1 : Nat} {g : en_M → Bool} (h : en_minf x1 g = true) : ∃ q, en_nth en_inf x1 = some q ∧ g q = true := by
  unfold en_minf at h
  split at h
  · exact ⟨_, by assumption, h⟩
  · cases h
theorem en_gok_ok {w : Nat × Nat × Nat × Nat × Nat} (h : en_gok w = true) : ∃ r, vwCl[w.2.2.1]? = some r ∧ w.2.2.2.1 < r.2.2 ∧ Cond.fieldLink (en_cn w.1) w.2.1 (r.2.1 w.2.2.2.1).1 (r.2.1 w.2.2.2.1).2.1 (r.2.1 w.2.2.2.1).2.2.1 ∈ en_gt := by
  unfold en_gok at h
  split at h
  · rename_i r hr
    simp only [Bool.and_eq_true] at h
    exact ⟨r, hr, Nat.le_of_ble_eq_true h.1, en_tb_mem h.2⟩
  · cases h
theorem en_pok_ok {w : Nat × Nat × Nat × Nat × Nat × Nat × Nat} (h : en_pok w = true) : ∃ r ty, vwCl[w.2.2.1]? = some r ∧ w.2.2.2.1 < r.2.2 ∧ Cond.fieldLink (en_cn w.1) w.2.1 (r.2.1 w.2.2.2.1).1 (r.2.1 w.2.2.2.1).2.1 (r.2.1 w.2.2.2.1).2.2.1 ∈ en_gt ∧ parseFieldDescriptor (r.2.1 w.2.2.2.1).2.2.1 = some ty ∧ en_fk w.2.2.2.2.1 ty = true ∧
    (w.2.2.2.2.2.1 = 0 → (r.2.1 w.2.2.2.1).2.2.2 = false) ∧ (w.2.2.2.2.2.1 ≠ 0 → (r.2.1 w.2.2.2.1).2.2.2 = true ∧ (r.2.1 w.2.2.2.1).1 = en_cn w.1) := by
  unfold en_pok at h
  split at h
  · rename_i r hr
    simp only [Bool.and_eq_true] at h
    obtain ⟨h1, h2, h3, h4⟩ := h
    split at h3
    · rename_i ty hty
      refine ⟨r, ty, hr, Nat.le_of_ble_eq_true h1, en_tb_mem h2, hty, h3, fun h0 => ?_, fun h0 => ?_⟩
      · rw [h0] at h4
        exact Bool.eq_false_iff.mpr (by simpa using h4)
      · obtain ⟨k, hk⟩ : ∃ k, w.2.2.2.2.2.1 = k + 1 := ⟨w.2.2.2.2.2.1 - 1, by omega⟩
        rw [hk] at h4
        simp only [Bool.and_eq_true, decide_eq_true_eq] at h4
        exact h4
    · cases h3
  · cases h
theorem en_nok_ok {w : Nat × Nat × Nat × Nat × Nat × Nat} (h : en_nok w = true) : ∃ r, vwCl[w.2.2.1]? = some r ∧ Cond.classLink (en_cn w.1) w.2.1 r.1 ∈ en_gt ∧ Cond.instantiable r.1 r.2.2 ∈ en_gt ∧ Cond.initialized r.1 ∈ en_gt := by
  unfold en_nok at h
  split at h
  · rename_i r hr
    simp only [Bool.and_eq_true] at h
    exact ⟨r, hr, en_tb_mem h.1, en_tb_mem h.2.1, en_tb_mem h.2.2⟩
  · cases h
end ENC
end
section
section ENM
section
variable {E : CtlPost} {e : Env} {d : Bool} {acts : List Action} {s : State}
/-- the model makes one row -/
theorem en_wp_row {c comp : ClassId} {k : Class} {ty : FieldType} {len : Int32} (hk : s.vm.classes[c]? = some k) (hkind : k.kind = .array comp ty) (h0 : ¬ len < 0) (h1 : ¬ len.toNatClampNeg > e.platform.arrayLengthLimit) (h2 : ¬ len.toNatClampNeg * componentBytes ty > e.platform.maxHeapBytes) (hf : fits ty (defaultValue ty) = true) (h3 : s.heap.size < e.platform.maxCells) (h4 : s.slotsUsed + len.toNatClampNeg ≤ e.platform.maxSlots) {Q : Addr → Pre}
    (hq : ∀ acts', Q s.heap.size d acts' (s.pushCell (arrV c len.toNatClampNeg (fun _ => defaultValue ty)))) : wp (multianewarray.make c [len]) Q E e d acts s := by
  rw [multianewarray.make]
  simp only [wp_bind', W.ite, h0, if_false, wp_pure', W.theClass, hk, hkind, Option.some.injEq, exists_eq_left']
  exact W.newArray_of hk hkind h1 h2 h3 h4 hf (fun acts' => by rw [arrV_new]; exact hq acts')
/-- what stands when i rows of a table are made -/
def en_J (I : Nat → State → Prop) (N : Nat) (rest : List Nat) (u : State) : Prop := ∃ i, i ≤ N ∧ rest = List.range' i (N - i) ∧ I i u
/-- the model makes a table: an invariant over its rows -/
theorem en_wp_tab {c comp cc : ClassId} {k kc : Class} {t0 ty : FieldType} {n len : Int32} (I : Nat → State → Prop) (hk : s.vm.classes[c]? = some k) (hkind : k.kind = .array comp t0) (hn : ¬ n < 0) (hlen : ¬ len < 0)
    (h1 : ¬ n.toNatClampNeg > e.platform.arrayLengthLimit) (h2 : ¬ n.toNatClampNeg * componentBytes t0 > e.platform.maxHeapBytes) (hf : fits t0 .null = true) (h3 : s.heap.size < e.platform.maxCells) (h4 : s.slotsUsed + n.toNatClampNeg ≤ e.platform.maxSlots)
    (hI0 : I 0 (s.pushCell (arrV c n.toNatClampNeg (fun _ => .null)))) (hI : ∀ i u d' acts' (Q' : ForInStep PUnit.{1} → Pre), i < n.toNatClampNeg → I i u → (∀ u' d'' acts'', I (i + 1) u' → Q' (ForInStep.yield PUnit.unit.{1}) d'' acts'' u') → wp (multianewarray.make comp [len]) (fun a d1 a1 s1 => wp (Jvm.writeLoc s.heap.size i (.ref a)) (fun _ d2 a2 s2 => Q' (ForInStep.yield PUnit.unit) d2 a2 s2) E e d1 a1 s1) E e d' acts' u) {Q : Addr → Pre}
    (hq : ∀ u d' acts', I n.toNatClampNeg u → Q s.heap.size d' acts' u) : wp (multianewarray.make c [n, len]) Q E e d acts s := by
  have hfind : ([len].find? (· < 0)) = none := by simp [hlen]
  rw [multianewarray.make]
  simp only [wp_bind', W.ite, hn, if_false, wp_pure', W.theClass, hk, hkind, Option.some.injEq, exists_eq_left']
  refine W.newArray_of hk hkind h1 h2 h3 h4 hf (fun acts' => ?_)
  rw [arrV_new]
  simp only [hfind]
  rw [ite_self, wp_bind', Std.Legacy.Range.forIn_eq_forIn_range']
  have hsz : ([:n.toNatClampNeg] : Std.Legacy.Range).size = n.toNatClampNeg := by simp [Std.Legacy.Range.size]
  rw [hsz]
  show wp (forIn (List.range' 0 n.toNatClampNeg 1) PUnit.unit _) _ E e d acts' _
  refine wp_forIn_inv (en_J I n.toNatClampNeg) _ _ ⟨0, Nat.zero_le _, rfl, hI0⟩ ?_ ?_
  · rintro x rest u d' acts'' Q' ⟨i, hi, hl, hu⟩ hnext
    have hlt : i < n.toNatClampNeg := by
      rcases Nat.lt_or_ge i n.toNatClampNeg with h | h
      · exact h
      · rw [Nat.sub_eq_zero_of_le h] at hl
        cases hl
    obtain ⟨j, hj⟩ : ∃ j, n.toNatClampNeg - i = j + 1 := ⟨n.toNatClampNeg - i - 1, by omega⟩
    rw [hj, List.range'_succ] at hl
    have hxi : x = i := (List.cons.inj hl).1
    have hrest := (List.cons.inj hl).2
    subst hxi
    simp only [wp_bind', wp_pure']
    refine hI x u d' acts'' Q' hlt hu (fun u' d'' a'' h' => hnext u' d'' a'' ⟨x + 1, hlt, ?_, h'⟩)
    rw [hrest]
    congr 1
    omega
  · rintro u d' acts'' ⟨i, hi, hl, hu⟩
    have he : i = n.toNatClampNeg := by
      rcases Nat.lt_or_ge i n.toNatClampNeg with h | h
      · obtain ⟨j, hj⟩ : ∃ j, n.toNatClampNeg - i = j + 1 := ⟨n.toNatClampNeg - i - 1, by omega⟩
        rw [hj, List.range'_succ] at hl
        cases hl
      · omega
    subst he
    simp only [wp_pure']
    exact hq u d' acts'' hu
end
section
variable {p : Program} {l : Launch} {e : Env} {R : Room} {s : State} {m : MethodId} {args : Array Value} {below : List Frame} {meth : Method} {c : Code} {Q : State → Prop} {H : Heap} {locs : List Loc} {cells slots : Nat}
/-- the state when i rows of the table stand -/
def en_fl (T : State) (c7 c0 : ClassId) (N M : Nat) : Nat → State
  | 0 => T.pushCell (arrV c7 N (fun _ => .null))
  | i + 1 => ((en_fl T c7 c0 N M i).pushCell (arrV c0 M (fun _ => .int 0))).setCell T.heap.size (arrV c7 N (fun j => if j < i + 1 then .ref (T.heap.size + 1 + j) else .null))
theorem en_fl_size (T : State) (c7 c0 : ClassId) (N M : Nat) : ∀ i, (en_fl T c7 c0 N M i).heap.size = T.heap.size + 1 + i
  | 0 => by simp [en_fl]
  | i + 1 => by
    have := en_fl_size T c7 c0 N M i
    simp [en_fl, State.setCell, this]
    omega
theorem en_fl_top (T : State) (c7 c0 : ClassId) (N M : Nat) : ∀ i, (en_fl T c7 c0 N M i).heap[T.heap.size]? = some (arrV c7 N (fun j => if j < i then .ref (T.heap.size + 1 + j) else .null))
  | 0 => by simp [en_fl]
  | i + 1 => by
    have h1 := en_fl_size T c7 c0 N M i
    have hlt : T.heap.size < (en_fl T c7 c0 N M i).heap.size := by omega
    have h2 := en_fl_top T c7 c0 N M i
    exact State.heap_setCell_self (by rw [State.heap_pushCell_of_lt (h := hlt)]; exact h2)
theorem en_fl_vm (T : State) (c7 c0 : ClassId) (N M : Nat) : ∀ i, (en_fl T c7 c0 N M i).vm = T.vm
  | 0 => rfl
  | i + 1 => by
    have := en_fl_vm T c7 c0 N M i
    simp [en_fl, this]
theorem en_fl_old (T : State) (c7 c0 : ClassId) (N M : Nat) {q : Nat} (hq : q < T.heap.size) : ∀ i, (en_fl T c7 c0 N M i).heap[q]? = T.heap[q]?
  | 0 => State.heap_pushCell_of_lt _ _ hq
  | i + 1 => by
    have h1 := en_fl_size T c7 c0 N M i
    have hlt : q < (en_fl T c7 c0 N M i).heap.size := by omega
    show (((en_fl T c7 c0 N M i).pushCell (arrV c0 M (fun _ => .int 0))).setCell T.heap.size _).heap[q]? = _
    rw [State.heap_setCell_other (Nat.ne_of_gt hq), State.heap_pushCell_of_lt (h := hlt)]
    exact en_fl_old T c7 c0 N M hq i
theorem en_fl_row (T : State) (c7 c0 : ClassId) (N M : Nat) {j : Nat} : ∀ i, j < i → (en_fl T c7 c0 N M i).heap[T.heap.size + 1 + j]? = some (arrV c0 M (fun _ => .int 0))
  | 0, h => absurd h (Nat.not_lt_zero _)
  | i + 1, h => by
    have h1 := en_fl_size T c7 c0 N M i
    show (((en_fl T c7 c0 N M i).pushCell (arrV c0 M (fun _ => .int 0))).setCell T.heap.size _).heap[T.heap.size + 1 + j]? = _
    rw [State.heap_setCell_other (show T.heap.size ≠ T.heap.size + 1 + j by omega)]
    by_cases e : j = i
    · subst e
      rw [← h1]
      exact State.heap_pushCell_size _ _
    · have hlt : T.heap.size + 1 + j < (en_fl T c7 c0 N M i).heap.size := by omega
      rw [State.heap_pushCell_of_lt (h := hlt)]
      exact en_fl_row T c7 c0 N M i (by omega)
theorem en_fl_setTop (T : State) (f : JFrame) (c7 c0 : ClassId) (N M : Nat) : ∀ i, en_fl (T.setTop f) c7 c0 N M i = (en_fl T c7 c0 N M i).setTop f
  | 0 => rfl
  | i + 1 => by simp only [en_fl, en_fl_setTop T f c7 c0 N M i, State.heap_setTop, State.pushCell_setTop, State.setCell_setTop]
theorem en_fl_upd (c7 : ClassId) (h N i : Nat) : arrV c7 N (updV (fun j => if j < i then Value.ref (h + 1 + j) else .null) i (.ref (h + 1 + i))) = arrV c7 N (fun j => if j < i + 1 then .ref (h + 1 + j) else .null) := en_arrV_congr (fun j _ => by
  unfold updV
  by_cases e1 : j = i
  · subst e1
    rw [if_pos rfl, if_pos (by omega)]
  · rw [if_neg e1]
    show (if j < i then Value.ref (h + 1 + j) else .null) = _
    by_cases e2 : j < i
    · rw [if_pos e2, if_pos (by omega)]
    · rw [if_neg e2, if_neg (by omega)])
theorem en_fl_stand {T : State} (X : Stand p l e R s m args below meth c T locs cells slots) (c7 c0 : ClassId) (N M : Nat) : ∀ i, ∃ locs1 : List Loc, (∀ q ∈ locs1, q ∈ locs ∨ q.base = T.heap.size) ∧ Stand p l e R s m args below meth c (en_fl T c7 c0 N M i) locs1 (cells + 1 + i) (slots + N + i * M)
  | 0 => by
    have h := X.pushed (arrV c7 N (fun _ => .null))
    rw [arrV_size] at h
    exact ⟨locs, fun q hq => Or.inl hq, by simpa [en_fl] using h⟩
  | i + 1 => by
    obtain ⟨L, h1, h2⟩ := en_fl_stand X c7 c0 N M i
    have hs := en_fl_size T c7 c0 N M i
    have hlt : T.heap.size < (en_fl T c7 c0 N M i).heap.size := by omega
    have hcell : ((en_fl T c7 c0 N M i).pushCell (arrV c0 M (fun _ => .int 0))).heap[T.heap.size]? = some (arrV c7 N (fun j => if j < i then .ref (T.heap.size + 1 + j) else .null)) := by
      rw [State.heap_pushCell_of_lt (h := hlt)]
      exact en_fl_top T c7 c0 N M i
    have h := (h2.pushed (arrV c0 M (fun _ => .int 0))).stored hcell i (.ref (T.heap.size + 1 + i))
    rw [arrV_size, arrV_store] at h
    rw [en_fl_upd] at h
    have e3 : slots + N + (i + 1) * M = slots + N + i * M + M := by rw [Nat.succ_mul]; omega
    refine ⟨L ++ [⟨T.heap.size, i⟩], fun q hq => ?_, by rw [e3]; exact h⟩
    rcases List.mem_append.mp hq with hq | hq
    · exact h1 q hq
    · rw [List.mem_singleton.mp hq]
      exact Or.inr rfl
/-- multianewarray of two dimensions of ints, as a row -/
theorem en_W_multi {cc : ByteArray} (hexec : p.tables.exec = Jvm.exec) (hb : c.code = cc) {own : String} {index : Nat} (hown : s.vm.findClass own = some m.cls) (hclink : (Cond.classLink own index ("[" ++ (FieldType.array .int).toString)).before args s = true)
    {c7 c0 : ClassId} {k7 k0 : Class} {c9 : ClassId} (hf7 : s.vm.findClass ("[" ++ (FieldType.array .int).toString) = some c7) (hk7 : s.vm.classes[c7]? = some k7) (hkd7 : k7.kind = .array c0 (.array .int)) (hk0 : s.vm.classes[c0]? = some k0) (hkd0 : k0.kind = .array c9 .int)
    {pc : Nat} {la : Array Slot} (hdg : decode cc pc = .ok (.multianewarray index 2, 4)) {n len : Int32} {rest : List Value} (hn : ¬ n < 0) (hlen : ¬ len < 0) (hn1 : n.toNatClampNeg ≤ 60000) (hl1 : len.toNatClampNeg ≤ 60000)
    (hcells : cells + (1 + n.toNatClampNeg) ≤ R.cells) (hslots : slots + (n.toNatClampNeg + n.toNatClampNeg * len.toNatClampNeg) ≤ R.slots)
    (kk : ∀ (H1 : Heap) (locs1 : List Loc), H1.size = H.size + 1 + n.toNatClampNeg → (∀ q ∈ locs1, q ∈ locs ∨ q.base = H.size) → H1[H.size]? = some (arrV c7 n.toNatClampNeg (fun j => .ref (H.size + 1 + j))) → (∀ j, j < n.toNatClampNeg → H1[H.size + 1 + j]? = some (arrV c0 len.toNatClampNeg (fun _ => .int 0))) → (∀ q, q < H.size → H1[q]? = H[q]?) →
      W p l e R s m args below meth c H1 locs1 (cells + 1 + n.toNatClampNeg) (slots + n.toNatClampNeg + n.toNatClampNeg * len.toNatClampNeg) Q (F0 m (pc + 4) la (.ref H.size :: rest))) : W p l e R s m args below meth c H locs cells slots Q (F0 m pc la (.int len :: .int n :: rest)) := by
  intro T hT X
  subst hT
  subst hb
  have hpl : e.platform.magicAccessors = ({} : Platform).magicAccessors := by rw [X.admits.platform]
  obtain ⟨c1, hfc1, hcl⟩ := Cond.classLink_spec hown hclink e.platform hpl
  cases hf7.symm.trans hfc1
  obtain ⟨hg1, hwarm, hready⟩ := State.classEntry (e := e) X.warmed hcl
  generalize T.vm.noted m.cls index (.cls c7) = vm1 at hg1 hwarm hready
  have hal : s.vm.Alike vm1 := hwarm.alike
  obtain ⟨k7', hk7', he7⟩ := hal.2.2 _ _ hk7
  obtain ⟨k0', hk0', he0⟩ := hal.2.2 _ _ hk0
  have hkd7' : k7'.kind = .array c0 (.array .int) := by rw [he7]; exact hkd7
  have hkd0' : k0'.kind = .array c9 .int := by rw [he0]; exact hkd0
  have X1 := X.noted hwarm
  have hl7 : ¬ n.toNatClampNeg > e.platform.arrayLengthLimit := by rw [Launch.admits_arrayLengthLimit X.admits]; omega
  have hh7 : ¬ n.toNatClampNeg * componentBytes (.array .int) > e.platform.maxHeapBytes := by rw [Launch.admits_maxHeapBytes X.admits]; show ¬ n.toNatClampNeg * 4 > 536870912; omega
  have hl0 : ¬ len.toNatClampNeg > e.platform.arrayLengthLimit := by rw [Launch.admits_arrayLengthLimit X.admits]; omega
  have hh0 : ¬ len.toNatClampNeg * componentBytes .int > e.platform.maxHeapBytes := by rw [Launch.admits_maxHeapBytes X.admits]; show ¬ len.toNatClampNeg * 4 > 536870912; omega
  obtain ⟨L1, hL1, XF⟩ := en_fl_stand X1 c7 c0 n.toNatClampNeg len.toNatClampNeg n.toNatClampNeg
  have hs := en_fl_size (T.setVm vm1) c7 c0 n.toNatClampNeg len.toNatClampNeg n.toNatClampNeg
  have htop : (en_fl (T.setVm vm1) c7 c0 n.toNatClampNeg len.toNatClampNeg n.toNatClampNeg).heap[T.heap.size]? = some (arrV c7 n.toNatClampNeg (fun j => .ref (T.heap.size + 1 + j))) := by
    rw [show T.heap.size = (T.setVm vm1).heap.size from rfl, en_fl_top]
    exact congrArg some (en_arrV_congr (fun j hj => by rw [if_pos hj]))
  obtain ⟨t, st, hQ⟩ := kk _ L1 hs hL1 htop (fun j hj => en_fl_row (T.setVm vm1) c7 c0 n.toNatClampNeg len.toNatClampNeg n.toNatClampNeg hj) (fun q hq => en_fl_old (T.setVm vm1) c7 c0 n.toNatClampNeg len.toNatClampNeg hq n.toNatClampNeg) _ rfl XF
  refine ⟨t, ?_, hQ⟩
  obtain ⟨hr1, hr2⟩ := X1.roomAbove hcells hslots
  jvm_step X.here [hexec, hdg]
  simp only [multianewarray.sem, wp_bind', W.resolveClassAt_links (State.method?_setTop (F0 m pc la (.int len :: .int n :: rest)) X.here.top) hg1]
  rw [W.popN, if_neg (by decide)]
  refine ⟨F0 m pc la (.int len :: .int n :: rest), State.topJava?_setTop' (s := T.setVm vm1) (F0 m pc la (.int len :: .int n :: rest)) X.here.top, [.int n, .int len], rest, rfl, rfl, ?_⟩
  simp only [List.mapM_cons, List.mapM_nil, wp_bind', wp_pure']
  have eS : ((T.setTop (F0 m pc la (.int len :: .int n :: rest))).setVm vm1).setTop (F0 m pc la rest) = (T.setVm vm1).setTop (F0 m pc la rest) := by
    show ((T.setVm vm1).setTop _).setTop _ = _
    rw [State.setTop_setTop]
  refine en_wp_tab (k := k7') (kc := k0') (comp := c0) (cc := c9) (t0 := .array .int) (ty := .int) (fun i u => u = (en_fl (T.setVm vm1) c7 c0 n.toNatClampNeg len.toNatClampNeg i).setTop (F0 m pc la rest)) hk7' hkd7' hn hlen hl7 hh7 rfl (by show T.heap.size < _; have : T.heap.size + (1 + n.toNatClampNeg) ≤ e.platform.maxCells := hr1; omega) (by show T.slotsUsed + _ ≤ _; have : T.slotsUsed + (n.toNatClampNeg + n.toNatClampNeg * len.toNatClampNeg) ≤ e.platform.maxSlots := hr2; omega) ?_ ?_ ?_
  · rw [eS]
    exact (State.pushCell_setTop ..)
  · intro i u d' acts' Q' hi hu hnext
    subst hu
    obtain ⟨L, -, Xi⟩ := en_fl_stand X1 c7 c0 n.toNatClampNeg len.toNatClampNeg i
    have hmul : i * len.toNatClampNeg + len.toNatClampNeg ≤ n.toNatClampNeg * len.toNatClampNeg := by
      have := Nat.mul_le_mul_right len.toNatClampNeg (show i + 1 ≤ n.toNatClampNeg from hi)
      rw [Nat.succ_mul] at this
      exact this
    obtain ⟨r1, r2⟩ := Xi.roomAbove (a := 1) (b := len.toNatClampNeg) (by omega) (by omega)
    have hsz := en_fl_size (T.setVm vm1) c7 c0 n.toNatClampNeg len.toNatClampNeg i
    have hvm := en_fl_vm (T.setVm vm1) c7 c0 n.toNatClampNeg len.toNatClampNeg i
    have htp := en_fl_top (T.setVm vm1) c7 c0 n.toNatClampNeg len.toNatClampNeg i
    refine en_wp_row (s := (en_fl (T.setVm vm1) c7 c0 n.toNatClampNeg len.toNatClampNeg i).setTop (F0 m pc la rest)) (k := k0') (by show (en_fl (T.setVm vm1) c7 c0 n.toNatClampNeg len.toNatClampNeg i).vm.classes[c0]? = _; rw [hvm]; exact hk0') hkd0' hlen hl0 hh0 rfl (by rw [State.heap_setTop]; exact r1) r2 (fun acts'' => ?_)
    have hlt : T.heap.size < (en_fl (T.setVm vm1) c7 c0 n.toNatClampNeg len.toNatClampNeg i).heap.size := by rw [hsz]; show T.heap.size < T.heap.size + 1 + i; omega
    simp only [W.writeLoc, wp_pure', State.pushCell_setTop, State.heap_setTop]
    refine ⟨arrV c7 n.toNatClampNeg (fun j => if j < i then .ref (T.heap.size + 1 + j) else .null), ?_, ?_, ?_, ?_, hnext _ _ _ ?_⟩
    · show ((en_fl (T.setVm vm1) c7 c0 n.toNatClampNeg len.toNatClampNeg i).pushCell _).heap[T.heap.size]? = _
      rw [State.heap_pushCell_of_lt (h := hlt)]
      exact htp
    · intro q
      cases q
    · rw [arrV_size]
      exact hi
    · simp [State.fitsSlot, State.slotType?, hvm, hk7', hkd7', arrV]
      rfl
    · rw [hsz, arrV_store]
      show (((en_fl (T.setVm vm1) c7 c0 n.toNatClampNeg len.toNatClampNeg i).pushCell _).setTop (F0 m pc la rest)).setCell T.heap.size (arrV c7 n.toNatClampNeg (updV (fun j => if j < i then .ref (T.heap.size + 1 + j) else .null) i (.ref (T.heap.size + 1 + i)))) = _
      rw [en_fl_upd]
      rfl
  · intro u d' acts' hu
    subst hu
    simp only [wp_bind', W.mark, W.pushRef, State.topJava?_setTop' _ XF.here.top, Option.some.injEq, exists_eq_left', State.setTop_setTop, State.heap_setTop]
    intro acts
    simp [jvm, XF.here.top]
    exact st
end
end ENM
end
section
section END1
section
variable {p : Program} {l : Launch} {e : Env} {R : Room} {s : State} {m : MethodId} {args : Array Value} {below : List Frame} {meth : Method} {c : Code}
variable {ba : Nat} {ex : Nat → Nat} {cA : Nat → ClassId} {D : va_G} {nL n0 : Nat}
/-- what holds while a method of ours runs -/
def en_Cx (p : Program) (R : Room) (s : State) (m : MethodId) (args : Array Value) (meth : Method) (c : Code) (ba : Nat) (ex : Nat → Nat) (cA : Nat → ClassId) (D : va_G) (nL n0 N SL : Nat) (q : en_M) (d : Nat) : Prop :=
  p.tables.exec = Jvm.exec ∧ c.code = q.2.1 ∧ c.maxLocals = nL ∧ nL = q.2.2.1 ∧ s.vm.findClass (en_cn q.2.2.2.2.2.2) = some m.cls ∧ (∀ w ∈ en_gt, w.before args s = true) ∧ en_Kw ba ex cA D s ∧ meth.locks = false ∧ meth.sig.returnType = q.2.2.2.1 ∧ meth.name = q.1.name ∧ d + 1 ≤ R.frames ∧ 64 * (d + 1) ≤ R.locals ∧ N - n0 ≤ R.cells ∧ SL ≤ R.slots
theorem en_fill_ok {m : Nat} {t : en_H} {n : Nat} : ∀ (i : Nat) {u : en_H}, en_fill m t n i = some u → ∀ k, en_get u k = if n ≤ k ∧ k < n + i then some (.inl (0, en_rep m (.inl 0))) else en_get t k
  | 0, u, h, k => by
    have h : some t = some u := h
    cases h
    rw [if_neg (by omega)]
  | i + 1, u, h, k => by
    have h : (match en_fill m t n i with
      | some u => bif en_free u (n + i) then some (en_set u (n + i) (.inl (0, en_rep m (.inl 0)))) else none
      | none => none) = some u := h
    split at h
    · rename_i v hv
      obtain ⟨h1, h⟩ := en_bif h
      obtain ⟨c, hc⟩ := en_free_inv h1
      cases h
      rw [en_get_set hc, en_fill_ok i hv k]
      by_cases e1 : k = n + i
      · rw [if_pos e1, if_pos (by omega)]
      · rw [if_neg e1]
        by_cases e2 : n ≤ k ∧ k < n + i
        · rw [if_pos e2, if_pos (by omega)]
        · rw [if_neg e2, if_neg (by omega)]
    · cases h
theorem en_refs_ok {ba : Nat} {ex : Nat → Nat} : ∀ (w a : Nat), en_rvs ba ex (en_refs a w) ((List.range' a w).map (fun j => Value.ref (ba + j)))
  | 0, a => trivial
  | w + 1, a => by
    rw [List.range'_succ, List.map_cons]
    exact ⟨rfl, en_refs_ok w (a + 1)⟩
theorem en_a_multi {Q : State → Prop} {N SL : Nat} {cc : ByteArray} {pc : Nat} {ls : en_L} {st : List en_V} {t u : en_H} {n sl i m9 w9 : Nat} {c0 : en_C} {own : String} (hx : p.tables.exec = Jvm.exec) (hb : c.code = cc) (hown : s.vm.findClass own = some m.cls) (hts : ∀ w ∈ en_gt, w.before args s = true) (hK : en_Kw ba ex cA D s) (hn0 : n0 ≤ n) (hRc : N - n0 ≤ R.cells) (hRs : SL ≤ R.slots) (hT : en_T p l e R s m args below meth c Q ba ex cA D nL n0 N SL (pc + 4, ls, .inr (.inr (.inl (some n))) :: st, u, n + 1 + w9, sl + w9 + w9 * m9)) (hg : en_get t n = some c0) (hm : m9 ≤ 60000) (hw : w9 ≤ 60000)
    (hf : en_fill m9 (en_set t n (.inl (7, en_refs (n + 1) w9))) (n + 1) w9 = some u) (h1 : Cond.classLink own i ("[" ++ (FieldType.array .int).toString) ∈ en_gt) (hd : decode cc pc = .ok (.multianewarray i 2, 4)) : en_T p l e R s m args below meth c Q ba ex cA D nL n0 N SL (pc, ls, .inl m9 :: .inl w9 :: st, t, n, sl) := by
  have hN : n + 1 + w9 ≤ N := hT.1
  have hSL : sl + w9 + w9 * m9 ≤ SL := hT.2.1
  refine ⟨by show n ≤ N; omega, by show sl ≤ SL; omega, fun H locs la vs hl' hv' hP hS => ?_⟩
  obtain ⟨v1, ws, rfl, f1, hw1⟩ := en_rvs_cons hv'
  obtain ⟨v2, ws, rfl, f2, hw2⟩ := en_rvs_cons hw1
  have f1 : v1 = .int (nI m9) := f1
  have f2 : v2 = .int (nI w9) := f2
  subst f1
  subst f2
  have hm31 : m9 < 2147483648 := by omega
  have hw31 : w9 < 2147483648 := by omega
  have cm : (nI m9).toNatClampNeg = m9 := nI_clamp hm31
  have cw : (nI w9).toNatClampNeg = w9 := nI_clamp hw31
  obtain ⟨⟨k7, g1, g2⟩, k0, c9, g3, g4⟩ := hK.2.2.2.2
  have hf7 : s.vm.findClass ("[" ++ (FieldType.array .int).toString) = some (cA 7) := (en_ty hK.1 7 rfl).2
  refine en_W_multi hx hb hown (hts _ h1) hf7 g1 g2 g3 g4 hd (nI_pos hw31) (nI_pos hm31) (by rw [cw]; exact hw) (by rw [cm]; exact hm) (by rw [cw]; show n - n0 + _ ≤ _; omega) (by rw [cw, cm]; show sl + _ ≤ _; omega) (fun H1 locs1 z1 z2 z3 z4 z5 => ?_)
  rw [cw] at z1 z3 z4
  rw [cm] at z4
  rw [cw, cm]
  have hz := hP.1
  dsimp only at hz
  have hP1 : en_P ba ex cA D u (n + 1 + w9) H1 := by
    refine ⟨by rw [z1, hz]; omega, fun k cl hk => ?_⟩
    rw [en_fill_ok w9 hf k] at hk
    by_cases e1 : n + 1 ≤ k ∧ k < n + 1 + w9
    · rw [if_pos e1] at hk
      cases hk
      refine Or.inr ⟨List.replicate m9 (.int 0), ?_, ?_⟩
      · show en_rvs ba ex (en_rep m9 (.inl 0)) _
        rw [en_rep_eq]
        exact en_rvs_rep m9 rfl
      · have := z4 (k - (n + 1)) (by omega)
        rw [show H.size + 1 + (k - (n + 1)) = ba + k by rw [hz]; omega] at this
        rw [this, List.length_replicate]
        exact congrArg some (en_arrV_congr (fun j hj => by unfold vp_V; rw [List.getD_eq_getElem?_getD, List.getElem?_replicate, if_pos hj]; rfl))
    · rw [if_neg e1, en_get_set hg] at hk
      by_cases e2 : k = n
      · rw [if_pos e2] at hk
        cases hk
        subst e2
        refine Or.inr ⟨(List.range' (k + 1) w9).map (fun j => Value.ref (ba + j)), en_refs_ok w9 (k + 1), ?_⟩
        rw [← hz, z3, List.length_map, List.length_range']
        refine congrArg some (en_arrV_congr (fun j hj => ?_))
        unfold vp_V
        rw [List.getD_eq_getElem?_getD, List.getElem?_map, List.getElem?_range' hj]
        show Value.ref (H.size + 1 + j) = Value.ref (ba + (k + 1 + 1 * j))
        rw [hz, show ba + k + 1 + j = ba + (k + 1 + 1 * j) by omega]
      · rw [if_neg e2] at hk
        rcases hP.2 k cl hk with r | r
        · exact Or.inl r
        · exact Or.inr (r.kept (z5 _ r.lt))
  have hS1 : va_S (fun q => ba ≤ q) s.heap H1 locs1 := ⟨Nat.le_trans hS.1 (by rw [z1]; omega), fun q h1 h2 => (z5 q (Nat.lt_of_lt_of_le h1 hS.1)).trans (hS.2.1 q h1 h2), fun q hq => by
    rcases z2 q hq with h | h
    · exact hS.2.2 q h
    · show ba ≤ q.base
      rw [h, hz]
      omega⟩
  have K := hT.2.2 H1 locs1 la (.ref (ba + n) :: ws) hl' ⟨rfl, hw2⟩ hP1 hS1
  dsimp only at K ⊢
  rw [show n + 1 + w9 - n0 = n - n0 + 1 + w9 by omega] at K
  rw [hz]
  exact K
set_option maxHeartbeats 4000000 in
set_option maxRecDepth 100000 in
theorem en_stepok {Q : State → Prop} {N SL : Nat} {oc : Option (List en_V)} {q : en_M} {d : Nat} {f : en_F} (C0 : en_Cx p R s m args meth c ba ex cA D nL n0 N SL q d) (ho : ∀ L, oc = some L → ∃ xs : Nat → Int32, va_X (ex 1) L.length xs s s.heap ∧ ex 1 < s.heap.size ∧ ¬ ba ≤ ex 1 ∧ ∀ i v, L[i]? = some v → en_rv ba ex v (.int (xs i))) (hf : ∀ (mi : Nat) (as : List en_V) (t : en_H) (n : Nat) (r : en_R) (q9 : en_M), f mi as t n = some r → en_nth en_inf mi = some q9 → en_Met l ba ex cA D d q9 as t n r)
    {pc nx x1 x2 : Nat} {ins : Instr} {ls : en_L} {st : List en_V} {t : en_H} {n sl : Nat} {k : en_K} {o : en_O} (hn0 : n0 ≤ n) (hok : en_ok q pc (ins, nx, x1, x2) = true) (h : en_step en_df oc f pc (ins, nx, x1, x2) ls st t n sl k = some o)
    (hk : ∀ (pc' : Nat) (ls' : en_L) (st' : List en_V) (t' : en_H) (n' sl' : Nat), n0 ≤ n' → k pc' ls' st' t' n' sl' = some o → en_T p l e R s m args below meth c Q ba ex cA D nL n0 N SL (pc', ls', st', t', n', sl')) (hG : ∀ r : en_R, o = .inl r → Q = MQ below (en_Qc ba ex cA D r) args s (r.2.2.1 - n0) r.2.2.2 (fun x => ba ≤ x) ∧ N = r.2.2.1 ∧ SL = r.2.2.2) : en_T p l e R s m args below meth c Q ba ex cA D nL n0 N SL (pc, ls, st, t, n, sl) := by
  obtain ⟨hx, hb, hml, hnl, hown, hts, hK, hlk, hret, hname, hRf, hRl, hRc, hRs⟩ := C0
  unfold en_ok at hok
  rw [Bool.and_eq_true] at hok
  obtain ⟨hdec, hok⟩ := hok
  have hd := en_dec_ok hdec
  unfold en_step en_disp at h
  cases ins <;> dsimp only at h hok hd
  case iconst i =>
    simp only [Bool.and_eq_true, decide_eq_true_eq] at hok
    obtain ⟨h1, h2⟩ := hok
    replace hd := en_dec_k hd h1
    subst h1
    exact en_push (hk _ _ _ _ _ _ hn0 h) (fun H locs la vs K => lv_iconst hx hb hd h2 (K _ rfl))
  case bipush i =>
    simp only [Bool.and_eq_true, decide_eq_true_eq] at hok
    obtain ⟨h1, h2⟩ := hok
    replace hd := en_dec_k hd h1
    subst h1
    exact en_push (hk _ _ _ _ _ _ hn0 h) (fun H locs la vs K => lv_bipush hx hb hd h2 (K _ rfl))
  case sipush i =>
    simp only [Bool.and_eq_true, decide_eq_true_eq] at hok
    obtain ⟨h1, h2⟩ := hok
    replace hd := en_dec_k hd h1
    subst h1
    exact en_push (hk _ _ _ _ _ _ hn0 h) (fun H locs la vs K => lv_sipush hx hb hd h2 (K _ rfl))
  case ldc i =>
    simp only [Bool.and_eq_true, decide_eq_true_eq] at hok
    obtain ⟨h1, h2⟩ := hok
    replace hd := en_dec_k hd h1
    subst h1
    obtain ⟨w, hw, h3⟩ := List.any_eq_true.mp h2
    simp only [Bool.and_eq_true, decide_eq_true_eq] at h3
    obtain ⟨e1, e2, e3⟩ := h3
    have h4 := en_tb_mem (List.all_eq_true.mp en_KL_ok w hw)
    rw [e1, e2, e3] at h4
    exact en_push (hk _ _ _ _ _ _ hn0 h) (fun H locs la vs K => lv_ldc hx hb hown (hts _ h4) hd (K _ rfl))
  case ldc_w i =>
    simp only [Bool.and_eq_true, decide_eq_true_eq] at hok
    obtain ⟨h1, h2⟩ := hok
    replace hd := en_dec_k hd h1
    subst h1
    obtain ⟨w, hw, h3⟩ := List.any_eq_true.mp h2
    simp only [Bool.and_eq_true, decide_eq_true_eq] at h3
    obtain ⟨e1, e2, e3⟩ := h3
    have h4 := en_tb_mem (List.all_eq_true.mp en_KL_ok w hw)
    rw [e1, e2, e3] at h4
    exact en_push (hk _ _ _ _ _ _ hn0 h) (fun H locs la vs K => lv_ldcw hx hb hown (hts _ h4) hd (K _ rfl))
  case lconst i =>
    simp only [Bool.and_eq_true, decide_eq_true_eq] at hok
    obtain ⟨h1, h2⟩ := hok
    replace hd := en_dec_k hd h1
    subst h1
    exact en_push (hk _ _ _ _ _ _ hn0 h) (fun H locs la vs K => lv_lconst hx hb hd h2 (K _ rfl))
  case ldc2_w i =>
    simp only [Bool.and_eq_true, decide_eq_true_eq] at hok
    obtain ⟨h1, h2⟩ := hok
    replace hd := en_dec_k hd h1
    subst h1
    obtain ⟨w, hw, h3⟩ := List.any_eq_true.mp h2
    simp only [Bool.and_eq_true, decide_eq_true_eq] at h3
    obtain ⟨e1, e2, e3⟩ := h3
    have h4 := en_tb_mem (List.all_eq_true.mp en_LL_ok w hw)
    rw [e1, e2, e3] at h4
    exact en_push (hk _ _ _ _ _ _ hn0 h) (fun H locs la vs K => lv_ldc2 hx hb hown (hts _ h4) hd (K _ rfl))
  case aconst_null =>
    simp only [decide_eq_true_eq] at hok
    replace hd := en_dec_k hd hok
    subst hok
    exact en_push (hk _ _ _ _ _ _ hn0 h) (fun H locs la vs K => lv_null hx hb hd (K _ rfl))
  case iload i =>
    simp only [decide_eq_true_eq] at hok
    replace hd := en_dec_k hd hok
    subst hok
    obtain ⟨a, g1, g2, g3⟩ := en_load_inv h
    exact en_loadi (hk _ _ _ _ _ _ hn0 g3) g1 g2 (fun H locs la vs x hl K => lv_iload hx hb hd hl K)
  case iload_n i =>
    simp only [decide_eq_true_eq] at hok
    replace hd := en_dec_k hd hok
    subst hok
    obtain ⟨a, g1, g2, g3⟩ := en_load_inv h
    exact en_loadi (hk _ _ _ _ _ _ hn0 g3) g1 g2 (fun H locs la vs x hl K => lv_iload_n hx hb hd rfl hl K)
  case lload i =>
    simp only [decide_eq_true_eq] at hok
    replace hd := en_dec_k hd hok
    subst hok
    obtain ⟨a, g1, g2, g3⟩ := en_load_inv h
    exact en_loadl (hk _ _ _ _ _ _ hn0 g3) g1 g2 (fun H locs la vs x hl K => lv_lload hx hb hd hl K)
  case lload_n i =>
    simp only [decide_eq_true_eq] at hok
    replace hd := en_dec_k hd hok
    subst hok
    obtain ⟨a, g1, g2, g3⟩ := en_load_inv h
    exact en_loadl (hk _ _ _ _ _ _ hn0 g3) g1 g2 (fun H locs la vs x hl K => lv_lload_n hx hb hd rfl hl K)
  case aload i =>
    simp only [decide_eq_true_eq] at hok
    replace hd := en_dec_k hd hok
    subst hok
    obtain ⟨a, g1, g2, g3⟩ := en_load_inv h
    exact en_loada (hk _ _ _ _ _ _ hn0 g3) g1 g2 (fun H locs la vs hl K => lv_aloadN hx hb hd hl K) (fun H locs la vs x hl K => lv_aload hx hb hd hl K)
  case aload_n i =>
    simp only [decide_eq_true_eq] at hok
    replace hd := en_dec_k hd hok
    subst hok
    obtain ⟨a, g1, g2, g3⟩ := en_load_inv h
    exact en_loada (hk _ _ _ _ _ _ hn0 g3) g1 g2 (fun H locs la vs hl K => lv_aload_nN hx hb hd rfl hl K) (fun H locs la vs x hl K => lv_aload_n hx hb hd rfl hl K)
  case istore i =>
    simp only [Bool.and_eq_true, decide_eq_true_eq] at hok
    obtain ⟨h1, h2⟩ := hok
    replace hd := en_dec_k hd h1
    subst h1
    obtain ⟨a, r, rfl, g2, g3⟩ := en_store_inv h
    exact en_sto1 (hk _ _ _ _ _ _ hn0 g3) (fun H locs la vs vl v hl hv K => by
      obtain ⟨x, rfl⟩ := en_kd0 hv g2
      exact lv_istore hx hb hd hl (by rw [hnl]; exact h2) rfl K)
  case istore_n i =>
    simp only [Bool.and_eq_true, decide_eq_true_eq] at hok
    obtain ⟨h1, h2⟩ := hok
    replace hd := en_dec_k hd h1
    subst h1
    obtain ⟨a, r, rfl, g2, g3⟩ := en_store_inv h
    exact en_sto1 (hk _ _ _ _ _ _ hn0 g3) (fun H locs la vs vl v hl hv K => by
      obtain ⟨x, rfl⟩ := en_kd0 hv g2
      exact lv_istore_n hx hb hd rfl hl (by rw [hnl]; exact h2) rfl K)
  case lstore i =>
    simp only [Bool.and_eq_true, decide_eq_true_eq] at hok
    obtain ⟨h1, h2⟩ := hok
    replace hd := en_dec_k hd h1
    subst h1
    obtain ⟨a, r, rfl, g2, g3⟩ := en_store_inv h
    exact en_sto2 (hk _ _ _ _ _ _ hn0 g3) (fun H locs la vs vl v hl hv K => by
      obtain ⟨x, rfl⟩ := en_kd1 hv g2
      exact lv_lstore hx hb hd hl (by rw [hnl]; exact h2) rfl K)
  case lstore_n i =>
    simp only [Bool.and_eq_true, decide_eq_true_eq] at hok
    obtain ⟨h1, h2⟩ := hok
    replace hd := en_dec_k hd h1
    subst h1
    obtain ⟨a, r, rfl, g2, g3⟩ := en_store_inv h
    exact en_sto2 (hk _ _ _ _ _ _ hn0 g3) (fun H locs la vs vl v hl hv K => by
      obtain ⟨x, rfl⟩ := en_kd1 hv g2
      exact lv_lstore_n hx hb hd rfl hl (by rw [hnl]; exact h2) rfl K)
  case astore i =>
    simp only [Bool.and_eq_true, decide_eq_true_eq] at hok
    obtain ⟨h1, h2⟩ := hok
    replace hd := en_dec_k hd h1
    subst h1
    obtain ⟨a, r, rfl, g2, g3⟩ := en_store_inv h
    exact en_sto1 (hk _ _ _ _ _ _ hn0 g3) (fun H locs la vs vl v hl hv K => by
      rcases en_kd2 hv g2 with rfl | ⟨x, rfl⟩
      · exact lv_astoreN hx hb hd hl (by rw [hnl]; exact h2) rfl K
      · exact lv_astore hx hb hd hl (by rw [hnl]; exact h2) rfl K)
  case astore_n i =>
    simp only [Bool.and_eq_true, decide_eq_true_eq] at hok
    obtain ⟨h1, h2⟩ := hok
    replace hd := en_dec_k hd h1
    subst h1
    obtain ⟨a, r, rfl, g2, g3⟩ := en_store_inv h
    exact en_sto1 (hk _ _ _ _ _ _ hn0 g3) (fun H locs la vs vl v hl hv K => by
      rcases en_kd2 hv g2 with rfl | ⟨x, rfl⟩
      · exact lv_astore_nN hx hb hd rfl hl (by rw [hnl]; exact h2) rfl K
      · exact lv_astore_n hx hb hd rfl hl (by rw [hnl]; exact h2) rfl K)
  case iinc i j =>
    simp only [Bool.and_eq_true, decide_eq_true_eq] at hok
    obtain ⟨h1, h2, h3⟩ := hok
    replace hd := en_dec_k hd h1
    subst h1
    obtain ⟨a, g1, g2⟩ := en_iinc_inv h
    exact en_sinc (hk _ _ _ _ _ _ hn0 g2) g1 (fun H locs la vs vl k9 y hl hv hy K => lv_iinc hx hb hd hl hv (by rw [h2]) (by rw [hnl]; exact h3) rfl K)
  case iadd =>
    simp only [decide_eq_true_eq] at hok
    replace hd := en_dec_k hd hok
    subst hok
    obtain ⟨a, b, r, v, rfl, g1, g2⟩ := en_bin_inv h
    exact en_two (hk _ _ _ _ _ _ hn0 g2) (fun H locs la vs va vb ha hvb K => by
      obtain ⟨x, y, rfl, rfl, hr⟩ := en_iadd_ok ha hvb g1
      exact lv_iadd hx hb hd (K _ hr))
  case isub =>
    simp only [decide_eq_true_eq] at hok
    replace hd := en_dec_k hd hok
    subst hok
    obtain ⟨a, b, r, v, rfl, g1, g2⟩ := en_bin_inv h
    exact en_two (hk _ _ _ _ _ _ hn0 g2) (fun H locs la vs va vb ha hvb K => by
      obtain ⟨x, y, rfl, rfl, hr, hp⟩ := en_ii_ok (F := fun x y => x - y) (P := fun _ _ => True) (fun x y z hz => by
        unfold en_isub at hz
        cases hz
        exact ⟨en_nI_tn _, trivial⟩) ha hvb g1
      exact lv_isub hx hb hd (K _ hr))
  case imul =>
    simp only [decide_eq_true_eq] at hok
    replace hd := en_dec_k hd hok
    subst hok
    obtain ⟨a, b, r, v, rfl, g1, g2⟩ := en_bin_inv h
    exact en_two (hk _ _ _ _ _ _ hn0 g2) (fun H locs la vs va vb ha hvb K => by
      obtain ⟨x, y, rfl, rfl, hr, hp⟩ := en_ii_ok (F := fun x y => x * y) (P := fun _ _ => True) (fun x y z hz => by
        unfold en_imul at hz
        cases hz
        exact ⟨by unfold en_wrap; rw [en_nI_mod, pk_mul], trivial⟩) ha hvb g1
      exact lv_imul hx hb hd (K _ hr))
  case iand =>
    simp only [decide_eq_true_eq] at hok
    replace hd := en_dec_k hd hok
    subst hok
    obtain ⟨a, b, r, v, rfl, g1, g2⟩ := en_bin_inv h
    exact en_two (hk _ _ _ _ _ _ hn0 g2) (fun H locs la vs va vb ha hvb K => by
      obtain ⟨x, y, rfl, rfl, hr, hp⟩ := en_ii_ok (F := fun x y => x &&& y) (P := fun _ _ => True) (fun x y z hz => by
        unfold en_iand at hz
        cases hz
        exact ⟨en_nI_tn _, trivial⟩) ha hvb g1
      exact lv_iand hx hb hd (K _ hr))
  case ishl =>
    simp only [decide_eq_true_eq] at hok
    replace hd := en_dec_k hd hok
    subst hok
    obtain ⟨a, b, r, v, rfl, g1, g2⟩ := en_bin_inv h
    exact en_two (hk _ _ _ _ _ _ hn0 g2) (fun H locs la vs va vb ha hvb K => by
      obtain ⟨x, y, rfl, rfl, hr, hp⟩ := en_ii_ok (F := fun x y => x <<< (y &&& 31)) (P := fun _ _ => True) (fun x y z hz => by
        unfold en_ishl at hz
        cases hz
        exact ⟨en_nI_tn _, trivial⟩) ha hvb g1
      exact lv_ishl hx hb hd (K _ hr))
  case ishr =>
    simp only [decide_eq_true_eq] at hok
    replace hd := en_dec_k hd hok
    subst hok
    obtain ⟨a, b, r, v, rfl, g1, g2⟩ := en_bin_inv h
    exact en_two (hk _ _ _ _ _ _ hn0 g2) (fun H locs la vs va vb ha hvb K => by
      obtain ⟨x, y, rfl, rfl, hr, hp⟩ := en_ii_ok (F := fun x y => x >>> (y &&& 31)) (P := fun _ _ => True) (fun x y z hz => by
        unfold en_ishr at hz
        cases hz
        exact ⟨en_nI_tn _, trivial⟩) ha hvb g1
      exact lv_ishr hx hb hd (K _ hr))
  case idiv =>
    simp only [decide_eq_true_eq] at hok
    replace hd := en_dec_k hd hok
    subst hok
    obtain ⟨a, b, r, v, rfl, g1, g2⟩ := en_bin_inv h
    exact en_two (hk _ _ _ _ _ _ hn0 g2) (fun H locs la vs va vb ha hvb K => by
      obtain ⟨x, y, rfl, rfl, hr, hp⟩ := en_ii_ok (F := fun x y => x / y) (P := fun _ y => ¬ y = 0) (fun x y z hz => by
        unfold en_idiv at hz
        split at hz
        · cases hz
        · rename_i h0
          cases hz
          exact ⟨en_nI_tn _, h0⟩) ha hvb g1
      exact lv_idiv hx hb hd hp (K _ hr))
  case irem =>
    simp only [decide_eq_true_eq] at hok
    replace hd := en_dec_k hd hok
    subst hok
    obtain ⟨a, b, r, v, rfl, g1, g2⟩ := en_bin_inv h
    exact en_two (hk _ _ _ _ _ _ hn0 g2) (fun H locs la vs va vb ha hvb K => by
      obtain ⟨x, y, rfl, rfl, hr, hp⟩ := en_ii_ok (F := fun x y => x - x / y * y) (P := fun _ y => ¬ y = 0) (fun x y z hz => by
        unfold en_irem at hz
        split at hz
        · cases hz
        · rename_i h0
          cases hz
          exact ⟨en_nI_tn _, h0⟩) ha hvb g1
      exact lv_irem hx hb hd hp (K _ hr))
  case ladd =>
    simp only [decide_eq_true_eq] at hok
    replace hd := en_dec_k hd hok
    subst hok
    obtain ⟨a, b, r, v, rfl, g1, g2⟩ := en_bin_inv h
    exact en_two (hk _ _ _ _ _ _ hn0 g2) (fun H locs la vs va vb ha hvb K => by
      obtain ⟨x, y, rfl, rfl, hr⟩ := en_ll_ok (F := fun x y => x + y) (fun x y => en_lN_tn _) ha hvb g1
      exact lv_ladd hx hb hd (K _ hr))
  case lsub =>
    simp only [decide_eq_true_eq] at hok
    replace hd := en_dec_k hd hok
    subst hok
    obtain ⟨a, b, r, v, rfl, g1, g2⟩ := en_bin_inv h
    exact en_two (hk _ _ _ _ _ _ hn0 g2) (fun H locs la vs va vb ha hvb K => by
      obtain ⟨x, y, rfl, rfl, hr⟩ := en_ll_ok (F := fun x y => x - y) (fun x y => en_lN_tn _) ha hvb g1
      exact lv_lsub hx hb hd (K _ hr))
  case land =>
    simp only [decide_eq_true_eq] at hok
    replace hd := en_dec_k hd hok
    subst hok
    obtain ⟨a, b, r, v, rfl, g1, g2⟩ := en_bin_inv h
    exact en_two (hk _ _ _ _ _ _ hn0 g2) (fun H locs la vs va vb ha hvb K => by
      obtain ⟨x, y, rfl, rfl, hr⟩ := en_ll_ok (F := fun x y => x &&& y) (fun x y => en_lN_tn _) ha hvb g1
      exact lv_land hx hb hd (K _ hr))
  case lor =>
    simp only [decide_eq_true_eq] at hok
    replace hd := en_dec_k hd hok
    subst hok
    obtain ⟨a, b, r, v, rfl, g1, g2⟩ := en_bin_inv h
    exact en_two (hk _ _ _ _ _ _ hn0 g2) (fun H locs la vs va vb ha hvb K => by
      obtain ⟨x, y, rfl, rfl, hr⟩ := en_ll_ok (F := fun x y => x ||| y) (fun x y => en_lN_tn _) ha hvb g1
      exact lv_lor hx hb hd (K _ hr))
  case lshl =>
    simp only [decide_eq_true_eq] at hok
    replace hd := en_dec_k hd hok
    subst hok
    obtain ⟨a, b, r, v, rfl, g1, g2⟩ := en_bin_inv h
    exact en_two (hk _ _ _ _ _ _ hn0 g2) (fun H locs la vs va vb ha hvb K => by
      obtain ⟨x, y, rfl, rfl, hr⟩ := en_li_ok (F := fun x y => x <<< (y.toInt64 &&& 63)) (fun x y => en_lN_tn _) ha hvb g1
      exact lv_lshl hx hb hd rfl (K _ hr))
  case lshr =>
    simp only [decide_eq_true_eq] at hok
    replace hd := en_dec_k hd hok
    subst hok
    obtain ⟨a, b, r, v, rfl, g1, g2⟩ := en_bin_inv h
    exact en_two (hk _ _ _ _ _ _ hn0 g2) (fun H locs la vs va vb ha hvb K => by
      obtain ⟨x, y, rfl, rfl, hr⟩ := en_li_ok (F := fun x y => x >>> (y.toInt64 &&& 63)) (fun x y => en_lN_tn _) ha hvb g1
      exact lv_lshr hx hb hd rfl (K _ hr))
  case lushr =>
    simp only [decide_eq_true_eq] at hok
    replace hd := en_dec_k hd hok
    subst hok
    obtain ⟨a, b, r, v, rfl, g1, g2⟩ := en_bin_inv h
    exact en_two (hk _ _ _ _ _ _ hn0 g2) (fun H locs la vs va vb ha hvb K => by
      obtain ⟨x, y, rfl, rfl, hr⟩ := en_li_ok (F := fun x y => (x.toUInt64 >>> (y.toInt64.toUInt64 &&& Int64.toUInt64 63)).toInt64) (fun x y => en_lN_tn _) ha hvb g1
      exact lv_lushr hx hb hd rfl (K _ hr))
  case lcmp =>
    simp only [decide_eq_true_eq] at hok
    replace hd := en_dec_k hd hok
    subst hok
    obtain ⟨a, b, r, v, rfl, g1, g2⟩ := en_bin_inv h
    exact en_two (hk _ _ _ _ _ _ hn0 g2) (fun H locs la vs va vb ha hvb K => by
      obtain ⟨x, y, rfl, rfl, hr⟩ := en_lcmp_ok ha hvb g1
      exact W.lcmp hx hb hd (K _ hr))
  case i2l =>
    simp only [decide_eq_true_eq] at hok
    replace hd := en_dec_k hd hok
    subst hok
    obtain ⟨a, v, r, rfl, g1, g2⟩ := en_i2l_inv h
    exact en_one (hk _ _ _ _ _ _ hn0 g2) (fun H locs la vs va ha K => by
      obtain ⟨x, rfl, hr⟩ := g1 ha
      exact lv_i2l hx hb hd rfl (K _ hr))
  case l2i =>
    simp only [decide_eq_true_eq] at hok
    replace hd := en_dec_k hd hok
    subst hok
    obtain ⟨a, v, r, rfl, g1, g2⟩ := en_l2i_inv h
    exact en_one (hk _ _ _ _ _ _ hn0 g2) (fun H locs la vs va ha K => by
      obtain ⟨x, rfl, hr⟩ := g1 ha
      exact lv_l2i hx hb hd rfl (K _ hr))
  case i2b =>
    simp only [decide_eq_true_eq] at hok
    replace hd := en_dec_k hd hok
    subst hok
    obtain ⟨a, r, rfl, g1, g2⟩ := en_i2b_inv h
    exact en_one (hk _ _ _ _ _ _ hn0 g2) (fun H locs la vs va ha K => by
      obtain ⟨x, rfl⟩ := en_kd0 ha g1
      exact lv_i2b hx hb hd rfl (K _ (en_full _)))
  case dup =>
    simp only [decide_eq_true_eq] at hok
    replace hd := en_dec_k hd hok
    subst hok
    obtain ⟨a, r, rfl, g1, g2⟩ := en_dup_inv h
    exact en_pure (hk _ _ _ _ _ _ hn0 g2) (fun H locs la vs hl hv _ K => by
      obtain ⟨w, ws, rfl, f1, f2⟩ := en_rvs_cons hv
      exact lv_dup hx hb hd ((en_rv_cat f1).trans g1) (K la _ hl ⟨f1, f1, f2⟩))
  case dup2 =>
    simp only [decide_eq_true_eq] at hok
    replace hd := en_dec_k hd hok
    subst hok
    obtain ⟨a, b, r, rfl, g1, g2, g3⟩ := en_dup2_inv h
    exact en_pure (hk _ _ _ _ _ _ hn0 g3) (fun H locs la vs hl hv _ K => by
      obtain ⟨w, ws, rfl, f1, f2⟩ := en_rvs_cons hv
      obtain ⟨w2, ws, rfl, f3, f4⟩ := en_rvs_cons f2
      exact lv_dup2_11 hx hb hd ((en_rv_cat f1).trans g1) ((en_rv_cat f3).trans g2) (K la _ hl ⟨f1, f3, f1, f3, f4⟩))
  case pop =>
    simp only [decide_eq_true_eq] at hok
    replace hd := en_dec_k hd hok
    subst hok
    obtain ⟨a, r, rfl, g1, g2⟩ := en_pop_inv h
    exact en_br1 (hk _ _ _ _ _ _ hn0 g2) (fun H locs la vs va ha K => lv_pop hx hb hd ((en_rv_cat ha).trans g1) K)
  case if_icmp q9 j =>
    simp only [Bool.and_eq_true, decide_eq_true_eq] at hok
    obtain ⟨h1, h2⟩ := hok
    replace hd := en_dec_k hd h1
    subst h1
    obtain ⟨a, b, r, rfl, g1⟩ := en_cmp2_inv h
    rcases en_jump_inv g1 with ⟨g2, g3⟩ | ⟨g2, g3⟩
    · refine en_br2 (hk _ _ _ _ _ _ hn0 g3) (fun H locs la vs va vb ha hvb K => ?_)
      obtain ⟨x, y, rfl, rfl, hr⟩ := en_rel_ok ha hvb g2
      cases q9 <;> dsimp only at hr
      · exact lv_icmp_eq hx hb hd h2 (fun _ => K) (fun z => absurd (hr.mpr rfl) z)
      · exact lv_icmp_ne hx hb hd h2 (fun _ => K) (fun z => absurd z (hr.mpr rfl))
      · exact lv_icmp_lt hx hb hd h2 (fun _ => K) (fun z => absurd (hr.mpr rfl) z)
      · exact lv_icmp_ge hx hb hd h2 (fun _ => K) (fun z => absurd (hr.mpr rfl) z)
      · exact lv_icmp_gt hx hb hd h2 (fun _ => K) (fun z => absurd (hr.mpr rfl) z)
      · exact lv_icmp_le hx hb hd h2 (fun _ => K) (fun z => absurd (hr.mpr rfl) z)
    · refine en_br2 (hk _ _ _ _ _ _ hn0 g3) (fun H locs la vs va vb ha hvb K => ?_)
      obtain ⟨x, y, rfl, rfl, hr⟩ := en_rel_ok ha hvb g2
      cases q9 <;> dsimp only at hr
      · exact lv_icmp_eq hx hb hd h2 (fun z => absurd (hr.mp z) Bool.false_ne_true) (fun _ => K)
      · exact lv_icmp_ne hx hb hd h2 (fun z => absurd (hr.mp z) Bool.false_ne_true) (fun _ => K)
      · exact lv_icmp_lt hx hb hd h2 (fun z => absurd (hr.mp z) Bool.false_ne_true) (fun _ => K)
      · exact lv_icmp_ge hx hb hd h2 (fun z => absurd (hr.mp z) Bool.false_ne_true) (fun _ => K)
      · exact lv_icmp_gt hx hb hd h2 (fun z => absurd (hr.mp z) Bool.false_ne_true) (fun _ => K)
      · exact lv_icmp_le hx hb hd h2 (fun z => absurd (hr.mp z) Bool.false_ne_true) (fun _ => K)
  case ifCond q9 j =>
    simp only [Bool.and_eq_true, decide_eq_true_eq] at hok
    obtain ⟨h1, h2⟩ := hok
    replace hd := en_dec_k hd h1
    subst h1
    obtain ⟨a, r, rfl, g1⟩ := en_cmp1_inv h
    rcases en_jump_inv g1 with ⟨g2, g3⟩ | ⟨g2, g3⟩
    · refine en_br1 (hk _ _ _ _ _ _ hn0 g3) (fun H locs la vs va ha K => ?_)
      obtain ⟨x, y, rfl, hy, hr⟩ := en_rel_ok (b := .inl 0) (vb := .int 0) ha (show Value.int 0 = Value.int (nI 0) by rw [nI_0]) g2
      cases hy
      cases q9 <;> dsimp only at hr
      · exact lv_if_eq hx hb hd h2 (fun _ => K) (fun z => absurd (hr.mpr rfl) z)
      · exact lv_if_ne hx hb hd h2 (fun _ => K) (fun z => absurd z (hr.mpr rfl))
      · exact lv_if_lt hx hb hd h2 (fun _ => K) (fun z => absurd (hr.mpr rfl) z)
      · exact lv_if_ge hx hb hd h2 (fun _ => K) (fun z => absurd (hr.mpr rfl) z)
      · exact lv_if_gt hx hb hd h2 (fun _ => K) (fun z => absurd (hr.mpr rfl) z)
      · exact lv_if_le hx hb hd h2 (fun _ => K) (fun z => absurd (hr.mpr rfl) z)
    · refine en_br1 (hk _ _ _ _ _ _ hn0 g3) (fun H locs la vs va ha K => ?_)
      obtain ⟨x, y, rfl, hy, hr⟩ := en_rel_ok (b := .inl 0) (vb := .int 0) ha (show Value.int 0 = Value.int (nI 0) by rw [nI_0]) g2
      cases hy
      cases q9 <;> dsimp only at hr
      · exact lv_if_eq hx hb hd h2 (fun z => absurd (hr.mp z) Bool.false_ne_true) (fun _ => K)
      · exact lv_if_ne hx hb hd h2 (fun z => absurd (hr.mp z) Bool.false_ne_true) (fun _ => K)
      · exact lv_if_lt hx hb hd h2 (fun z => absurd (hr.mp z) Bool.false_ne_true) (fun _ => K)
      · exact lv_if_ge hx hb hd h2 (fun z => absurd (hr.mp z) Bool.false_ne_true) (fun _ => K)
      · exact lv_if_gt hx hb hd h2 (fun z => absurd (hr.mp z) Bool.false_ne_true) (fun _ => K)
      · exact lv_if_le hx hb hd h2 (fun z => absurd (hr.mp z) Bool.false_ne_true) (fun _ => K)
  case if_acmp q9 j =>
    simp only [Bool.and_eq_true, decide_eq_true_eq] at hok
    obtain ⟨h1, h2⟩ := hok
    replace hd := en_dec_k hd h1
    subst h1
    cases q9
    · cases h
    · obtain ⟨a, b, r, rfl, g1⟩ := en_acne_inv h
      have inv : ∀ {o : Option Bool} {r : Bool}, en_not o = some r → o = some (!r) := fun {o r} h => by
        cases o with
        | none => cases h
        | some b => cases h; rw [Bool.not_not]
      rcases en_jump_inv g1 with ⟨g2, g3⟩ | ⟨g2, g3⟩
      · refine en_br2 (hk _ _ _ _ _ _ hn0 g3) (fun H locs la vs va vb ha hvb K => ?_)
        obtain ⟨x, y, rfl, rfl, hr⟩ := en_ac_ok ha hvb (inv g2)
        exact lv_acmp_ne hx hb hd h2 (fun _ => K) (fun z => absurd (hr.mp z) (by decide))
      · refine en_br2 (hk _ _ _ _ _ _ hn0 g3) (fun H locs la vs va vb ha hvb K => ?_)
        obtain ⟨x, y, rfl, rfl, hr⟩ := en_ac_ok ha hvb (inv g2)
        exact lv_acmp_ne hx hb hd h2 (fun z => absurd (hr.mpr rfl) z) (fun _ => K)
  case goto j =>
    simp only [Bool.and_eq_true, decide_eq_true_eq] at hok
    obtain ⟨h1, h2⟩ := hok
    replace hd := en_dec_k hd h1
    subst h1
    exact en_pure (hk _ _ _ _ _ _ hn0 h) (fun H locs la vs hl hv _ K => lv_goto hx hb hd h2 (K la vs hl hv))
  case tableswitch df lo hi os =>
    obtain ⟨k9, hd, -⟩ := hd
    obtain ⟨a, r, q9, rfl, g1, g2⟩ := en_switch_inv h
    rcases g2 with ⟨g2, tg, g3, g4⟩ | ⟨g2, g5, of, tg, g6, g3, g4⟩
    · refine en_br1 (hk _ _ _ _ _ _ hn0 g4) (fun H locs la vs va ha K => ?_)
      obtain ⟨x, rfl, a1, a2⟩ := en_bnd_ok (l := q9.1) (h := q9.2) ha g1
      exact lv_tableOut hx hb hd (by omega) g3 K
    · refine en_br1 (hk _ _ _ _ _ _ hn0 g4) (fun H locs la vs va ha K => ?_)
      obtain ⟨x, rfl, a1, a2⟩ := en_bnd_ok (l := q9.1) (h := q9.2) ha g1
      exact lv_tableIn hx hb hd (by omega) (by omega) (by rw [show x.toInt - lo = (q9.1 : Int) - 2147483648 - lo by omega]; exact g6) g3 K
  case getfield i =>
    simp only [Bool.and_eq_true, decide_eq_true_eq] at hok
    obtain ⟨h1, h2⟩ := hok
    replace hd := en_dec_k hd h1
    subst h1
    obtain ⟨w, hw, h3⟩ := List.any_eq_true.mp h2
    simp only [Bool.and_eq_true, decide_eq_true_eq] at h3
    obtain ⟨e1, e2, e3, e4⟩ := h3
    obtain ⟨rr, f1, f2, f3⟩ := en_gok_ok (List.all_eq_true.mp en_GL_ok w hw)
    rw [e1, e2, e4] at f3
    rw [e3] at f1
    rw [e4] at f2
    obtain ⟨a, r, q9, v, rfl, g1, g2, g3, g4⟩ := en_getf_inv h
    exact en_a_getf hx hb hown hts hK (hk _ _ _ _ _ _ hn0 g4) g1 (by rw [g2]; exact f1) f2 f3 g3 hd
  case putfield i =>
    simp only [Bool.and_eq_true, decide_eq_true_eq] at hok
    obtain ⟨h1, h2⟩ := hok
    replace hd := en_dec_k hd h1
    subst h1
    obtain ⟨w, hw, h3⟩ := List.any_eq_true.mp h2
    simp only [Bool.and_eq_true, Bool.or_eq_true, decide_eq_true_eq] at h3
    obtain ⟨e1, e2, e3, e4, e5, e6⟩ := h3
    obtain ⟨rr, ty, f1, f2, f3, f4, f5, f6, f7⟩ := en_pok_ok (List.all_eq_true.mp en_PL_ok w hw)
    rw [e1, e2, e4] at f3
    rw [e3] at f1
    rw [e4] at f2 f4 f6 f7
    rw [e5] at f5
    rw [e1] at f7
    obtain ⟨v, a, r, q9, rfl, g1, g2, g3, g4, g5⟩ := en_putf_inv h
    refine en_a_putf hx hb hown hts hK (hk _ _ _ _ _ _ hn0 g5) g1 (by rw [g2]; exact f1) f2 f3 f4 f5 g3 g4 ?_ hd
    by_cases h0 : w.2.2.2.2.2.1 = 0
    · exact Or.inl (f6 h0)
    · exact Or.inr ⟨(f7 h0).1, by rw [hname]; exact e6.resolve_left h0, (f7 h0).2⟩
  case getstatic i =>
    simp only [Bool.and_eq_true, decide_eq_true_eq] at hok
    obtain ⟨h1, h2, h3⟩ := hok
    replace hd := en_dec_k hd h1
    subst h1
    obtain ⟨w, hw, h4⟩ := List.any_eq_true.mp h3
    simp only [Bool.and_eq_true, decide_eq_true_eq] at h4
    obtain ⟨e1, e2⟩ := h4
    have h5 := en_tb_mem (List.all_eq_true.mp en_SL_ok w hw)
    rw [e1, e2] at h5
    rw [h2] at h
    refine ⟨(hk _ _ _ _ _ _ hn0 h).1, (hk _ _ _ _ _ _ hn0 h).2.1, fun H locs la vs hl hv hP hS => ?_⟩
    exact va_gets hx hb hK.2.1 hS hown (hts _ h5) (fun x h => h) hd ((hk _ _ _ _ _ _ hn0 h).2.2 H locs la _ hl ⟨rfl, hv⟩ hP hS)
  case new i =>
    simp only [Bool.and_eq_true, decide_eq_true_eq] at hok
    obtain ⟨h1, h2⟩ := hok
    replace hd := en_dec_k hd h1
    subst h1
    obtain ⟨w, hw, h3⟩ := List.any_eq_true.mp h2
    simp only [Bool.and_eq_true, decide_eq_true_eq] at h3
    obtain ⟨e1, e2, e3⟩ := h3
    obtain ⟨rr, f1, f2, f3, f4⟩ := en_nok_ok (List.all_eq_true.mp en_NL_ok w hw)
    rw [e1, e2] at f2
    rw [e3] at f1
    obtain ⟨⟨c0, g1⟩, g2⟩ := en_new_inv h
    have hlen : (en_df x1).length = rr.2.2 := by
      obtain ⟨-, ⟨ty0, -, hdf, -⟩, -⟩ := en_cl _ _ f1
      rw [hdf, List.length_map, List.length_range]
    rw [hlen] at g2
    exact en_a_new hx hb hown hts hK hn0 hRc hRs (hk _ _ _ _ _ _ (by omega) g2) g1 f1 f2 f3 f4 hd
  case newarray at0 =>
    simp only [Bool.and_eq_true, decide_eq_true_eq] at hok
    obtain ⟨h1, h2⟩ := hok
    replace hd := en_dec_k hd h1
    subst h1
    cases at0 <;> dsimp only at h2
    case int =>
      simp only [decide_eq_true_eq] at h2
      subst h2
      obtain ⟨m9, r, rfl, ⟨c0, g1⟩, g2, g3⟩ := en_newa_inv h
      exact en_a_newa (i := 0) (ty := .int) hx hb hts hK hn0 hRc hRs (hk _ _ _ _ _ _ (by omega) g3) g1 g2 rfl (by decide) rfl rfl (fun z => z) (en_tb_mem en_w_int) hd
    case byte =>
      simp only [decide_eq_true_eq] at h2
      subst h2
      obtain ⟨m9, r, rfl, ⟨c0, g1⟩, g2, g3⟩ := en_newa_inv h
      exact en_a_newa (i := 0) (ty := .byte) hx hb hts hK hn0 hRc hRs (hk _ _ _ _ _ _ (by omega) g3) g1 g2 rfl (by decide) rfl rfl (fun z => z) (en_tb_mem en_w_byte) hd
    case boolean =>
      simp only [decide_eq_true_eq] at h2
      subst h2
      obtain ⟨m9, r, rfl, ⟨c0, g1⟩, g2, g3⟩ := en_newa_inv h
      exact en_a_newa (i := 0) (ty := .boolean) hx hb hts hK hn0 hRc hRs (hk _ _ _ _ _ _ (by omega) g3) g1 g2 rfl (by decide) rfl rfl (fun z => z) (en_tb_mem en_w_bool) hd
    case long =>
      simp only [decide_eq_true_eq] at h2
      subst h2
      obtain ⟨m9, r, rfl, ⟨c0, g1⟩, g2, g3⟩ := en_newa_inv h
      exact en_a_newa (i := 0) (ty := .long) hx hb hts hK hn0 hRc hRs (hk _ _ _ _ _ _ (by omega) g3) g1 g2 rfl (by decide) rfl rfl (fun z => z) (en_tb_mem en_w_long) hd
    all_goals cases h2
  case anewarray i =>
    simp only [Bool.and_eq_true, decide_eq_true_eq] at hok
    obtain ⟨h1, h2⟩ := hok
    replace hd := en_dec_k hd h1
    subst h1
    obtain ⟨w, hw, h3⟩ := List.any_eq_true.mp h2
    simp only [Bool.and_eq_true, decide_eq_true_eq] at h3
    obtain ⟨e1, e2, e3⟩ := h3
    have f := List.all_eq_true.mp en_AL_ok w hw
    unfold en_aok at f
    simp only [Bool.and_eq_true] at f
    obtain ⟨f1, f2, f3⟩ := f
    have f1 := Nat.le_of_ble_eq_true f1
    have f2 := Nat.le_of_ble_eq_true f2
    have f3 := en_tb_mem f3
    rw [e1, e2, e3] at f3
    rw [e3] at f1 f2
    obtain ⟨m9, r, rfl, ⟨c0, g1⟩, g2, g3⟩ := en_newa_inv h
    rcases (show x1 = 4 ∨ x1 = 5 ∨ x1 = 6 by omega) with z | z | z
    · subst z
      exact en_a_anew (C := "PackWeeks$Word") hx hb hown hts hK hn0 hRc hRs (hk _ _ _ _ _ _ (by omega) g3) g1 g2 rfl hK.2.2.1.1 f3 hd
    · subst z
      exact en_a_anew (C := "PackWeeks$Stand") hx hb hown hts hK hn0 hRc hRs (hk _ _ _ _ _ _ (by omega) g3) g1 g2 rfl hK.2.2.1.2.1 f3 hd
    · subst z
      exact en_a_anew (C := "PackWeeks$Sights") hx hb hown hts hK hn0 hRc hRs (hk _ _ _ _ _ _ (by omega) g3) g1 g2 rfl hK.2.2.1.2.2 f3 hd
  case multianewarray i j =>
    simp only [Bool.and_eq_true, decide_eq_true_eq] at hok
    obtain ⟨h1, h2, h3⟩ := hok
    replace hd := en_dec_k hd h1
    subst h1
    subst h2
    obtain ⟨w, hw, h4⟩ := List.any_eq_true.mp h3
    simp only [Bool.and_eq_true, decide_eq_true_eq] at h4
    obtain ⟨e1, e2⟩ := h4
    have h5 := en_tb_mem (List.all_eq_true.mp en_XL_ok w hw)
    rw [e1, e2] at h5
    obtain ⟨m9, w9, r, u, rfl, ⟨c0, g1⟩, g2, g3, g4, g5⟩ := en_multi_inv h
    exact en_a_multi hx hb hown hts hK hn0 hRc hRs (hk _ _ _ _ _ _ (by omega) g5) g1 g2 g3 g4 h5 hd
  case arraylength =>
    simp only [decide_eq_true_eq] at hok
    replace hd := en_dec_k hd hok
    subst hok
    rcases en_alen_inv h with ⟨a, r, q9, rfl, g1, g2, g3⟩ | ⟨r, L, rfl, hoc, g3⟩
    rotate_left
    · obtain ⟨xs, hX, hbl, hnb, hv⟩ := ho L hoc
      refine ⟨(hk _ _ _ _ _ _ hn0 g3).1, (hk _ _ _ _ _ _ hn0 g3).2.1, fun H locs la vs hl' hv' hP hS => ?_⟩
      obtain ⟨w2, ws, rfl, h2, hw2⟩ := en_rvs_cons hv'
      have h2 : w2 = .ref (ex 1) := h2
      subst h2
      exact va_slen hx hb hX hbl hnb hS hd ((hk _ _ _ _ _ _ hn0 g3).2.2 H locs la _ hl' ⟨rfl, hw2⟩ hP hS)
    obtain ⟨ty, hty⟩ : ∃ ty, (en_tys cA)[q9.1]? = some (cA q9.1, ty) := by
      rcases (show q9.1 = 0 ∨ q9.1 = 1 ∨ q9.1 = 2 ∨ q9.1 = 3 ∨ q9.1 = 4 ∨ q9.1 = 5 ∨ q9.1 = 6 ∨ q9.1 = 7 by omega) with z | z | z | z | z | z | z | z <;> rw [z] <;> exact ⟨_, rfl⟩
    exact en_a_alen hx hb hK (hk _ _ _ _ _ _ hn0 g3) g1 hty hd
  case iaload =>
    simp only [decide_eq_true_eq] at hok
    replace hd := en_dec_k hd hok
    subst hok
    rcases en_aget_inv h with ⟨i, a, r, q9, v, rfl, g1, g2, g3, g4, g5⟩ | ⟨i, r, L, v, rfl, hoc, g2, g3, g4, g5⟩
    rotate_left
    · obtain ⟨xs, hX, hbl, hnb, hv⟩ := ho L hoc
      have hil : i < L.length := (List.getElem?_eq_some_iff.mp g4).1
      have hcl : (nI i).toNatClampNeg = i := nI_clamp g3
      refine ⟨(hk _ _ _ _ _ _ hn0 g5).1, (hk _ _ _ _ _ _ hn0 g5).2.1, fun H locs la vs hl' hv' hP hS => ?_⟩
      obtain ⟨w1, ws, rfl, h1, hw1⟩ := en_rvs_cons hv'
      obtain ⟨w2, ws, rfl, h2, hw2⟩ := en_rvs_cons hw1
      have h1 : w1 = .int (nI i) := h1
      have h2 : w2 = .ref (ex 1) := h2
      subst h1
      subst h2
      refine va_sld hx hb hX hbl hnb hS (i := nI i) (fun z => ?_) hd ?_
      · rcases z with z | z
        · exact nI_pos g3 z
        · rw [hcl] at z
          omega
      · rw [hcl]
        exact (hk _ _ _ _ _ _ hn0 g5).2.2 H locs la _ hl' ⟨hv i v g4, hw2⟩ hP hS
    have z : q9.1 = 0 := Nat.eq_of_beq_eq_true g2
    exact en_a_aget (hk _ _ _ _ _ _ hn0 g5) g1 g3 g4 (fun H locs la vs fs w f1 f2 f3 K => by
      rw [z] at f1 f2 f3
      exact W.iald hx hb f1 ((en_ty hK.1 0 rfl).1 fs.length (vp_V fs)) (fun q => by cases q) f2 f3 rfl rfl hd K)
  case laload =>
    simp only [decide_eq_true_eq] at hok
    replace hd := en_dec_k hd hok
    subst hok
    rcases en_aget_inv h with ⟨i, a, r, q9, v, rfl, g1, g2, g3, g4, g5⟩ | ⟨i, r, L, v, rfl, hoc, g2, g3, g4, g5⟩
    rotate_left
    · cases g2
    have z : q9.1 = 3 := Nat.eq_of_beq_eq_true g2
    exact en_a_aget (hk _ _ _ _ _ _ hn0 g5) g1 g3 g4 (fun H locs la vs fs w f1 f2 f3 K => by
      rw [z] at f1 f2 f3
      exact W.lald hx hb f1 ((en_ty hK.1 3 rfl).1 fs.length (vp_V fs)) (fun q => by cases q) f2 f3 rfl rfl hd K)
  case baload =>
    simp only [decide_eq_true_eq] at hok
    replace hd := en_dec_k hd hok
    subst hok
    rcases en_aget_inv h with ⟨i, a, r, q9, v, rfl, g1, g2, g3, g4, g5⟩ | ⟨i, r, L, v, rfl, hoc, g2, g3, g4, g5⟩
    rotate_left
    · cases g2
    have z : q9.1 = 2 := Nat.eq_of_beq_eq_true g2
    exact en_a_aget (hk _ _ _ _ _ _ hn0 g5) g1 g3 g4 (fun H locs la vs fs w f1 f2 f3 K => by
      rw [z] at f1 f2 f3
      exact W.zald hx hb f1 ((en_ty hK.1 2 rfl).1 fs.length (vp_V fs)) (fun q => by cases q) f2 f3 rfl rfl hd K)
  case aaload =>
    simp only [decide_eq_true_eq] at hok
    replace hd := en_dec_k hd hok
    subst hok
    rcases en_aget_inv h with ⟨i, a, r, q9, v, rfl, g1, g2, g3, g4, g5⟩ | ⟨i, r, L, v, rfl, hoc, g2, g3, g4, g5⟩
    rotate_left
    · cases g2
    simp only [Bool.and_eq_true] at g2
    have z1 : 4 ≤ q9.1 := Nat.le_of_ble_eq_true g2.1
    have z2 : q9.1 ≤ 7 := Nat.le_of_ble_eq_true g2.2
    refine en_a_aget (hk _ _ _ _ _ _ hn0 g5) g1 g3 g4 (fun H locs la vs fs w f1 f2 f3 K => ?_)
    rcases (show q9.1 = 4 ∨ q9.1 = 5 ∨ q9.1 = 6 ∨ q9.1 = 7 by omega) with z | z | z | z <;> rw [z] at f1 f2 f3
    · exact W.aald (ty := .object "PackWeeks$Word") hx hb f1 ((en_ty hK.1 4 rfl).1 fs.length (vp_V fs)) rfl (fun q => by cases q) f2 f3 rfl rfl hd K
    · exact W.aald (ty := .object "PackWeeks$Stand") hx hb f1 ((en_ty hK.1 5 rfl).1 fs.length (vp_V fs)) rfl (fun q => by cases q) f2 f3 rfl rfl hd K
    · exact W.aald (ty := .object "PackWeeks$Sights") hx hb f1 ((en_ty hK.1 6 rfl).1 fs.length (vp_V fs)) rfl (fun q => by cases q) f2 f3 rfl rfl hd K
    · exact W.aald (ty := .array .int) hx hb f1 ((en_ty hK.1 7 rfl).1 fs.length (vp_V fs)) rfl (fun q => by cases q) f2 f3 rfl rfl hd K
  case iastore =>
    simp only [decide_eq_true_eq] at hok
    replace hd := en_dec_k hd hok
    subst hok
    obtain ⟨v, i, a, r, q9, rfl, g1, g2, g3, g4, g5⟩ := en_aput_inv h
    obtain ⟨x, rfl, z⟩ := en_afit0 g2
    exact en_a_aput (hk _ _ _ _ _ _ hn0 g5) g1 g3 g4 (fun H locs la vs fs w hP f1 f2 f3 K => by
      replace K := K _ f3
      have f3 : w = .int (nI x) := f3
      subst f3
      rw [z] at f1 f2 K
      exact W.iast hx hb f1 ((en_ty hK.1 0 rfl).1 fs.length (vp_V fs)) (fun q => by cases q) f2 rfl rfl hd K)
  case lastore =>
    simp only [decide_eq_true_eq] at hok
    replace hd := en_dec_k hd hok
    subst hok
    obtain ⟨v, i, a, r, q9, rfl, g1, g2, g3, g4, g5⟩ := en_aput_inv h
    obtain ⟨x, rfl, z⟩ := en_afit1 g2
    exact en_a_aput (hk _ _ _ _ _ _ hn0 g5) g1 g3 g4 (fun H locs la vs fs w hP f1 f2 f3 K => by
      replace K := K _ f3
      have f3 : w = .long (lN x) := f3
      subst f3
      rw [z] at f1 f2 K
      exact W.last hx hb f1 ((en_ty hK.1 3 rfl).1 fs.length (vp_V fs)) (fun q => by cases q) f2 rfl rfl hd K)
  case bastore =>
    simp only [decide_eq_true_eq] at hok
    replace hd := en_dec_k hd hok
    subst hok
    obtain ⟨v, i, a, r, q9, rfl, g1, g2, g3, g4, g5⟩ := en_aput_inv h
    rcases en_afit2 g2 with ⟨x, rfl, z, z2⟩ | ⟨rfl, z⟩
    · exact en_a_aput (hk _ _ _ _ _ _ hn0 g5) g1 g3 g4 (fun H locs la vs fs w hP f1 f2 f3 K => by
        replace K := K _ f3
        have f3 : w = .int (nI x) := f3
        subst f3
        rw [z] at f1 f2 K
        have f4 : narrow .boolean (.int (nI x)) = .int (nI x) := by
          rcases (show x = 0 ∨ x = 1 by omega) with rfl | rfl <;> decide
        exact W.zast hx hb f1 ((en_ty hK.1 2 rfl).1 fs.length (vp_V fs)) (fun q => by cases q) f2 rfl rfl hd (by rw [f4]; exact K))
    · exact en_a_aput (hk _ _ _ _ _ _ hn0 g5) g1 g3 g4 (fun H locs la vs fs w hP f1 f2 f3 K => by
        obtain ⟨x, rfl, -⟩ := f3
        rw [z] at f1 f2 K
        exact W.bast hx hb f1 ((en_ty hK.1 1 rfl).1 fs.length (vp_V fs)) (fun q => by cases q) f2 rfl rfl hd (K _ (en_full _)))
  case aastore =>
    simp only [decide_eq_true_eq] at hok
    replace hd := en_dec_k hd hok
    subst hok
    obtain ⟨v, i, a, r, q9, rfl, g1, g2, g3, g4, g5⟩ := en_aput_inv h
    rcases en_afit3 g2 with ⟨rfl, z⟩ | ⟨y, qy, rfl, hqy, g2⟩
    · exact en_a_aput (hk _ _ _ _ _ _ hn0 g5) g1 g3 g4 (fun H locs la vs fs w hP f1 f2 f3 K => by
        replace K := K _ f3
        have f3 : w = .null := f3
        subst f3
        rw [z] at f1 f2 K
        exact va_WaastN (C := "PackWeeks$Word") hx hb f1 ((en_ty hK.1 4 rfl).1 fs.length (vp_V fs)) (fun q => by cases q) f2 rfl rfl hd K)
    · refine en_a_aput (hk _ _ _ _ _ _ hn0 g5) g1 g3 g4 (fun H locs la vs fs w hP f1 f2 f3 K => ?_)
      replace K := K _ f3
      have f3 : w = .ref (ba + y) := f3
      subst f3
      have key : ∀ (k9 ci : Nat) (rr : vw_C), q9.1 = k9 → qy.1 = ci → vwCl[ci]? = some rr → (en_tys cA)[k9]? = some (cA k9, .object rr.1) → W p l e R s m args below meth c H locs (n - n0) sl Q (F0 m pc la (.ref (ba + y) :: .int (nI i) :: .ref (ba + a) :: vs)) := by
        intro k9 ci rr e1 e2 e3 e4
        rw [e1] at f1 f2 K
        obtain ⟨fy, r', j1, j2, cell, j3, j4, j5, -⟩ := hP.obj hqy (by rw [e2]; exact en_cl_lt e3)
        rw [e2] at j2 j4
        obtain ⟨hcls1, kC, hkC, hkind⟩ := (hK.1.1 _ _ e3).2
        obtain ⟨kA, comp, k1, k2, k3, -⟩ := (en_ty hK.1 k9 e4).2
        have hcomp : comp = D.1 ci := Option.some.inj (k3.symm.trans hcls1)
        subst hcomp
        exact W.aast hx hb f1 (fun q h => by cases h) (fun h => by cases h) k1 k2 rfl hkC ⟨fun z => f2 (Or.inl z), Nat.not_le.mp (fun z => f2 (Or.inr z))⟩ j3 (fun q h => by rw [j5] at h; cases h) (by rw [j4]; exact hkC) (by rw [j4]; exact va_assign ⟨hcls1, kC, hkC, hkind⟩) rfl rfl hd K
      rcases g2 with ⟨z1, z2⟩ | ⟨z1, z2⟩
      · exact key 5 7 _ z1 z2 rfl rfl
      · exact key 6 6 _ z1 z2 rfl rfl
  case invokestatic i =>
    simp only [Bool.and_eq_true, decide_eq_true_eq] at hok
    obtain ⟨h1, h2⟩ := hok
    replace hd := en_dec_k hd h1
    subst h1
    cases b1 : Nat.beq x1 9991 <;> rw [b1] at h h2 <;> dsimp only [cond] at h h2
    · cases b2 : Nat.beq x1 9992 <;> rw [b2] at h h2 <;> dsimp only [cond] at h h2
      · simp only [Bool.and_eq_true] at h2
        obtain ⟨q9, f1, f2⟩ := en_minf_ok h2.2
        simp only [Bool.and_eq_true, decide_eq_true_eq] at f2
        obtain ⟨as, rest, r, g1, -, g2, g3, g4, g5⟩ := en_inv_inv h
        rw [← f2.2] at g1
        exact en_a_static hx hb hml hown hts hK hRf hRl hRc hRs hn0 g4 (hk _ _ _ _ _ _ (by omega) g5) (en_mi f1) f2.1 g1 g2 (hf _ _ _ _ _ _ g3 f1) (en_mcall_ok h2.1 f1 hK) hd
      · obtain ⟨w, hw, h4⟩ := List.any_eq_true.mp h2
        simp only [Bool.and_eq_true, decide_eq_true_eq] at h4
        obtain ⟨e1, e2, e3⟩ := h4
        have h5 := List.all_eq_true.mp en_QL_ok w hw
        unfold en_qok at h5
        rw [e3] at h5
        have h5 := en_tb_mem h5
        rw [e1, e2] at h5
        obtain ⟨a, b, r, v, rfl, g1, g2, g3⟩ := en_mm_inv h
        exact en_pure (hk _ _ _ _ _ _ hn0 g3) (fun H locs la vs hl hv _ K => by
          obtain ⟨vb, ws, rfl, f1, f2⟩ := en_rvs_cons hv
          obtain ⟨va, ws, rfl, f3, f4⟩ := en_rvs_cons f2
          obtain ⟨x, y, rfl, rfl, hr, -⟩ := en_ii_ok (F := fun x y => if y < x then y else x) (P := fun _ _ => True) (fun x y z hz => by
            unfold en_imin at hz
            cases hz
            exact ⟨en_nI_tn _, trivial⟩) f3 f1 g2
          have hsum : (ws.map fun v => v.category).sum ≤ 8 := by rw [en_rvs_cat f4, ← en_sum_eq]; exact g1
          have hsz : la.size = nL := by obtain ⟨vl, z1, -⟩ := hl; exact z1.1
          exact va_mmin hx hb (hml.trans hsz.symm) hown (hts _ h5) (hts _ (en_tb_mem en_w_min_s)) (hts _ (en_tb_mem en_w_math)) (hts _ (en_tb_mem en_w_min_c)) (by omega) (by omega) (by have := (hk _ _ _ _ _ _ hn0 g3).1; dsimp only at this; omega) (Nat.le_trans (hk _ _ _ _ _ _ hn0 g3).2.1 hRs) hd (K la _ hl ⟨hr, f4⟩))
    · obtain ⟨w, hw, h4⟩ := List.any_eq_true.mp h2
      simp only [Bool.and_eq_true, decide_eq_true_eq] at h4
      obtain ⟨e1, e2, e3⟩ := h4
      have h5 := List.all_eq_true.mp en_QL_ok w hw
      unfold en_qok at h5
      rw [e3] at h5
      have h5 := en_tb_mem h5
      rw [e1, e2] at h5
      obtain ⟨a, b, r, v, rfl, g1, g2, g3⟩ := en_mm_inv h
      exact en_pure (hk _ _ _ _ _ _ hn0 g3) (fun H locs la vs hl hv _ K => by
        obtain ⟨vb, ws, rfl, f1, f2⟩ := en_rvs_cons hv
        obtain ⟨va, ws, rfl, f3, f4⟩ := en_rvs_cons f2
        obtain ⟨x, y, rfl, rfl, hr, -⟩ := en_ii_ok (F := fun x y => if x < y then y else x) (P := fun _ _ => True) (fun x y z hz => by
          unfold en_imax at hz
          cases hz
          exact ⟨en_nI_tn _, trivial⟩) f3 f1 g2
        have hsum : (ws.map fun v => v.category).sum ≤ 8 := by rw [en_rvs_cat f4, ← en_sum_eq]; exact g1
        have hsz : la.size = nL := by obtain ⟨vl, z1, -⟩ := hl; exact z1.1
        exact va_mmax hx hb (hml.trans hsz.symm) hown (hts _ h5) (hts _ (en_tb_mem en_w_max_s)) (hts _ (en_tb_mem en_w_math)) (hts _ (en_tb_mem en_w_max_c)) (by omega) (by omega) (by have := (hk _ _ _ _ _ _ hn0 g3).1; dsimp only at this; omega) (Nat.le_trans (hk _ _ _ _ _ _ hn0 g3).2.1 hRs) hd (K la _ hl ⟨hr, f4⟩))
  case invokevirtual i =>
    simp only [Bool.and_eq_true, decide_eq_true_eq] at hok
    obtain ⟨h1, h2⟩ := hok
    replace hd := en_dec_k hd h1
    subst h1
    obtain ⟨q9, f1, f2⟩ := en_minf_ok h2.2
    simp only [Bool.and_eq_true, decide_eq_true_eq] at f2
    obtain ⟨as, rest, r, g1, g0, g2, g3, g4, g5⟩ := en_inv_inv h
    obtain ⟨a, as2, qr, rfl, j1, j2⟩ := en_recv_inv g0
    rw [← f2.2.1] at g1
    exact en_a_virt hx hb hml hown hts hK hRf hRl hRc hRs hn0 g4 (hk _ _ _ _ _ _ (by omega) g5) (en_mi f1) f2.1 g1 g2 j1 (j2.trans f2.2.2.symm) (hf _ _ _ _ _ _ g3 f1) (en_mcallV_ok h2.1 f1) hd
  case invokespecial i =>
    simp only [Bool.and_eq_true, decide_eq_true_eq] at hok
    obtain ⟨h1, h2⟩ := hok
    replace hd := en_dec_k hd h1
    subst h1
    cases b1 : Nat.beq x1 9999 <;> rw [b1] at h h2 <;> dsimp only [cond] at h h2
    · simp only [Bool.and_eq_true] at h2
      obtain ⟨q9, f1, f2⟩ := en_minf_ok h2.2
      simp only [Bool.and_eq_true, decide_eq_true_eq] at f2
      obtain ⟨as, rest, r, g1, g0, g2, g3, g4, g5⟩ := en_inv_inv h
      obtain ⟨a, as2, rfl⟩ := en_isref_inv g0
      rw [← f2.2] at g1
      exact en_a_init hx hb hml hown hts hK hRf hRl hRc hRs hn0 g4 (hk _ _ _ _ _ _ (by omega) g5) (en_mi f1) f2.1 g1 g2 (hf _ _ _ _ _ _ g3 f1) (en_mcall_ok h2.1 f1 hK) hd
    · obtain ⟨w, hw, h4⟩ := List.any_eq_true.mp h2
      simp only [Bool.and_eq_true, decide_eq_true_eq] at h4
      obtain ⟨e1, e2⟩ := h4
      have h5 := en_tb_mem (List.all_eq_true.mp en_OL_ok w hw)
      rw [e1, e2] at h5
      obtain ⟨a, r, rfl, g1, g2⟩ := en_oinit_inv h
      exact en_pure (hk _ _ _ _ _ _ hn0 g2) (fun H locs la vs hl hv _ K => by
        obtain ⟨w9, ws, rfl, f1, f2⟩ := en_rvs_cons hv
        have f1 : w9 = .ref (ba + a) := f1
        subst f1
        have hsum : (ws.map fun v => v.category).sum ≤ 8 := by rw [en_rvs_cat f2, ← en_sum_eq]; exact g1
        have hsz : la.size = nL := by obtain ⟨vl, z1, -⟩ := hl; exact z1.1
        exact W.objInit hx hb hown (hts _ h5) (hts _ (en_tb_mem en_w_oi)) (hts _ (en_tb_mem en_w_oc)) rfl (hsz.trans hml.symm) rfl hd (by omega) (by show 2 * 0 + _ + 12 ≤ _; omega) (K la ws hl f2))
  case return_ =>
    simp only [Bool.and_eq_true, decide_eq_true_eq] at hok
    obtain ⟨h1, h2⟩ := hok
    replace hd := en_dec_k hd h1
    subst h1
    cases st with
    | nil =>
      dsimp only at h
      have h := Option.some.inj h
      obtain ⟨rfl, rfl, rfl⟩ := hG _ h.symm
      exact en_a_retv hx hb (hret.trans h2) hlk rfl hd
    | cons a r => cases h
  case ireturn =>
    simp only [Bool.and_eq_true, decide_eq_true_eq] at hok
    obtain ⟨h1, h2⟩ := hok
    replace hd := en_dec_k hd h1
    subst h1
    obtain ⟨a, rfl, g1, g2, g3⟩ := en_ret1_inv h
    simp only [Bool.or_eq_true, Bool.and_eq_true, decide_eq_true_eq] at h2
    obtain ⟨rfl, rfl, rfl⟩ := hG _ g3
    rcases h2 with ⟨z1, z2⟩ | ⟨z1, z2⟩
    · exact en_a_ret hx hb (hret.trans z2) hlk rfl (fun H locs la w Qc free hw hq hfr => by
        obtain ⟨x, rfl⟩ := en_kd0 hw g1
        exact W.iret hx hb (hret.trans z2) hq hfr hd hlk)
    · exact en_a_ret hx hb (hret.trans z2) hlk rfl (fun H locs la w Qc free hw hq hfr => by
        obtain ⟨f1, -⟩ := en_fits (ty := .boolean) rfl (g2 z1) hw
        obtain ⟨x, rfl⟩ := en_kd0 hw g1
        exact W.zret hx hb (hret.trans z2) f1 hq hfr hd hlk)
  case lreturn =>
    simp only [Bool.and_eq_true, decide_eq_true_eq] at hok
    obtain ⟨h1, h2⟩ := hok
    replace hd := en_dec_k hd h1
    subst h1
    obtain ⟨a, rfl, g1, g2, g3⟩ := en_ret1_inv h
    obtain ⟨rfl, rfl, rfl⟩ := hG _ g3
    exact en_a_ret hx hb (hret.trans h2) hlk rfl (fun H locs la w Qc free hw hq hfr => by
      obtain ⟨x, rfl⟩ := en_kd1 hw g1
      exact W.lret hx hb (hret.trans h2) hq hfr hd hlk)
  all_goals cases h
theorem en_sound {Q : State → Prop} {N SL : Nat} {oc : Option (List en_V)} {q : en_M} {d : Nat} {f : en_F} {code : Nat → Option en_I} {stop : Nat → Bool} (C0 : en_Cx p R s m args meth c ba ex cA D nL n0 N SL q d) (ho : ∀ L, oc = some L → ∃ xs : Nat → Int32, va_X (ex 1) L.length xs s s.heap ∧ ex 1 < s.heap.size ∧ ¬ ba ≤ ex 1 ∧ ∀ i v, L[i]? = some v → en_rv ba ex v (.int (xs i))) (hf : ∀ (mi : Nat) (as : List en_V) (t : en_H) (n : Nat) (r : en_R) (q9 : en_M), f mi as t n = some r → en_nth en_inf mi = some q9 → en_Met l ba ex cA D d q9 as t n r)
    (hcode : ∀ pc e, code pc = some e → en_ok q pc e = true) : ∀ (fuel pc : Nat) (ls : en_L) (st : List en_V) (t : en_H) (n sl : Nat) (o : en_O), n0 ≤ n → en_run en_df oc f code stop fuel pc ls st t n sl = some o → (∀ r : en_R, o = .inl r → Q = MQ below (en_Qc ba ex cA D r) args s (r.2.2.1 - n0) r.2.2.2 (fun x => ba ≤ x) ∧ N = r.2.2.1 ∧ SL = r.2.2.2) → (∀ S : en_S, o = .inr S → en_T p l e R s m args below meth c Q ba ex cA D nL n0 N SL S) → en_T p l e R s m args below meth c Q ba ex cA D nL n0 N SL (pc, ls, st, t, n, sl) := by
  intro fuel
  induction fuel with
  | zero => intro pc ls st t n sl o _ h; cases h
  | succ fuel ih =>
    intro pc ls st t n sl o hn0 h hG hS
    have h : (match code pc with
      | some e => en_step en_df oc f pc e ls st t n sl (fun pc' ls' st' t' n' sl' => bif stop pc' then some (.inr (pc', ls', st', t', n', sl')) else en_run en_df oc f code stop fuel pc' ls' st' t' n' sl')
      | none => none) = some o := h
    cases hc : code pc with
    | none => rw [hc] at h; cases h
    | some e =>
      rw [hc] at h
      obtain ⟨ins, nx, x1, x2⟩ := e
      refine en_stepok C0 ho hf hn0 (hcode _ _ hc) h (fun pc' ls' st' t' n' sl' hn' h' => ?_) hG
      cases hs : stop pc' with
      | true =>
        rw [hs] at h'
        exact hS _ (Option.some.inj h').symm
      | false =>
        rw [hs] at h'
        exact ih pc' ls' st' t' n' sl' o hn' h' hG hS
end
/-- a run of the engine from a method's entry to its end is a contract -/
theorem en_met {code : Nat → Option en_I} {q : en_M} {d : Nat} {f : en_F} {l : Launch} {ba : Nat} {ex : Nat → Nat} {cA : Nat → ClassId} {D : va_G} (hq : en_Mi q) (hcode : ∀ pc e, code pc = some e → en_ok q pc e = true) (hf : ∀ (mi : Nat) (as : List en_V) (t : en_H) (n : Nat) (r : en_R) (q9 : en_M), f mi as t n = some r → en_nth en_inf mi = some q9 → en_Met l ba ex cA D d q9 as t n r)
    {as : List en_V} {t : en_H} {n : Nat} {r : en_R} (fuel : Nat) (hsum : en_sum as ≤ q.2.2.1) (h : en_run en_df none f code (fun _ => false) fuel 0 (en_args as 0) [] t n 0 = some (.inl r)) : en_Met l ba ex cA D (d + 1) q as t n r := by
  refine Met.ofW (cc := q.2.1) (maxL := q.2.2.1) (ret := q.2.2.2.1) hq.2.2.1 rfl ?_
  intro p e s m args below meth c s₁ B hml hv
  obtain ⟨⟨vs, rfl, hvs⟩, hP, hK⟩ := hv
  have hts : ∀ w ∈ en_gt, w.before vs.toArray s = true := fun w hw => atoms_spec (ws := en_ws q) B.pre w (List.mem_cons_of_mem _ hw)
  have hown : s.vm.findClass q.1.cls = some m.cls := findClass_of_methodNamed B.named
  rw [hq.2.1] at hown
  rw [lg_entry_eq]
  have hle : (lg_sl vs).length ≤ q.2.2.1 := by rw [en_args_len hvs, ← en_sum_eq]; exact hsum
  have hl := lv_entry vs hle
  have T := en_sound (p := p) (l := l) (e := e) (R := (headSpec (en_ws q) (en_rm (d + 1) (r.2.2.1 - n) r.2.2.2)).room) (s := s) (m := m) (args := vs.toArray) (below := below) (meth := meth) (c := c) (Q := MQ below (en_Qc ba ex cA D r) vs.toArray s (r.2.2.1 - n) r.2.2.2 (fun x => ba ≤ x)) (N := r.2.2.1) (SL := r.2.2.2) (n0 := n) (oc := none) (stop := fun _ => false) (nL := q.2.2.1) (d := d) ⟨B.exec, B.bytes, hml, rfl, hown, hts, hK, B.notSynchronized, B.returns, (name_of_methodNamed B.named B.method).1, Nat.le_refl _, Nat.le_refl _, Nat.le_refl _, Nat.le_refl _⟩ (fun L h => by cases h) hf hcode fuel 0 _ _ _ _ _ _ (Nat.le_refl n) h (fun r' hr => by cases hr; exact ⟨rfl, rfl, rfl⟩) (fun S hS => by cases hS)
  have K := T.2.2 s.heap [] _ [] ⟨_, hl, en_args_ok 0 hvs⟩ trivial hP va_S.rf
  dsimp only at K
  rw [Nat.sub_self] at K
  exact K
/-- EVERY CALL OF THE ENGINE IS A CONTRACT OF THE MACHINE -/
theorem en_call_sound {code : Nat → Nat → Option en_I} {ml : Nat → Nat} (hml : ∀ mi q, en_nth en_inf mi = some q → ml mi = q.2.2.1) (hcode : ∀ mi q, en_nth en_inf mi = some q → ∀ pc e, code mi pc = some e → en_ok q pc e = true) (l : Launch) (ba : Nat) (ex : Nat → Nat) (cA : Nat → ClassId) (D : va_G) : ∀ (d mi : Nat) (as : List en_V) (t : en_H) (n : Nat) (r : en_R) (q : en_M), en_call en_df code ml d mi as t n = some r → en_nth en_inf mi = some q → en_Met l ba ex cA D d q as t n r := by
  intro d
  induction d with
  | zero => intro mi as t n r q h; cases h
  | succ d ih =>
    intro mi as t n r q h hq
    have h : (bif Nat.ble (en_sum as) (ml mi) then (match en_run en_df none (en_call en_df code ml d) (code mi) (fun _ => false) 1000000 0 (en_args as 0) [] t n 0 with
      | some (.inl r) => some r
      | _ => none) else none) = some r := h
    obtain ⟨h1, h⟩ := en_bif h
    have h1 := Nat.le_of_ble_eq_true h1
    rw [hml mi q hq] at h1
    split at h
    · rename_i r' hr
      cases h
      exact en_met (en_mi hq) (hcode mi q hq) ih 1000000 h1 hr
    · cases h
end END1
end
section
section ENF
def en_veq : en_V → en_V → Bool
  | .inl a, .inl b => Nat.beq a b
  | .inr (.inl a), .inr (.inl b) => Nat.beq a b
  | .inr (.inr (.inl none)), .inr (.inr (.inl none)) => true
  | .inr (.inr (.inl (some a))), .inr (.inr (.inl (some b))) => Nat.beq a b
  | .inr (.inr (.inr (.inl a))), .inr (.inr (.inr (.inl b))) => Nat.beq a b
  | .inr (.inr (.inr (.inr a))), .inr (.inr (.inr (.inr b))) => Nat.beq a.1 b.1 && Nat.beq a.2 b.2
  | _, _ => false
theorem en_veq_ok {a b : en_V} (h : en_veq a b = true) : a = b := by
  unfold en_veq at h
  split at h
  · rw [Nat.eq_of_beq_eq_true h]
  · rw [Nat.eq_of_beq_eq_true h]
  · rfl
  · rw [Nat.eq_of_beq_eq_true h]
  · rw [Nat.eq_of_beq_eq_true h]
  · rename_i a b
    rw [Bool.and_eq_true] at h
    obtain ⟨a1, a2⟩ := a
    obtain ⟨b1, b2⟩ := b
    have h1 : a1 = b1 := Nat.eq_of_beq_eq_true h.1
    have h2 : a2 = b2 := Nat.eq_of_beq_eq_true h.2
    rw [h1, h2]
  · cases h
noncomputable def en_leq {α : Type} (f : α → α → Bool) (l : List α) : List α → Bool := List.rec (motive := fun _ => List α → Bool) (fun r => List.rec (motive := fun _ => Bool) true (fun _ _ _ => false) r) (fun a _ ih r => List.rec (motive := fun _ => Bool) false (fun b r' _ => bif f a b then ih r' else false) r) l
theorem en_leq_ok {α : Type} {f : α → α → Bool} (hf : ∀ a b, f a b = true → a = b) : ∀ {l r : List α}, en_leq f l r = true → l = r
  | [], [], _ => rfl
  | [], _ :: _, h => by cases h
  | _ :: _, [], h => by cases h
  | a :: l, b :: r, h => by
    have h : (bif f a b then en_leq f l r else false) = true := h
    cases h1 : f a b with
    | false => rw [h1] at h; cases h
    | true =>
      rw [h1] at h
      rw [hf a b h1, en_leq_ok hf h]
noncomputable def en_ceq : en_C → en_C → Bool
  | .inl a, .inl b => Nat.beq a.1 b.1 && en_leq en_veq a.2 b.2
  | .inr a, .inr b => Nat.beq a.1 b.1 && en_leq en_veq a.2 b.2
  | _, _ => false
theorem en_peq_ok {a b : Nat × List en_V} (h : (Nat.beq a.1 b.1 && en_leq en_veq a.2 b.2) = true) : a = b := by
  rw [Bool.and_eq_true] at h
  obtain ⟨a1, a2⟩ := a
  obtain ⟨b1, b2⟩ := b
  have h1 : a1 = b1 := Nat.eq_of_beq_eq_true h.1
  have h2 : a2 = b2 := en_leq_ok (fun _ _ => en_veq_ok) h.2
  rw [h1, h2]
theorem en_ceq_ok {a b : en_C} (h : en_ceq a b = true) : a = b := by
  unfold en_ceq at h
  split at h
  · rw [en_peq_ok h]
  · rw [en_peq_ok h]
  · cases h
noncomputable def en_heq (t u : en_H) : Bool := en_leq (en_leq en_ceq) t u
theorem en_heq_ok {t u : en_H} (h : en_heq t u = true) : t = u := en_leq_ok (fun _ _ h => en_leq_ok (fun _ _ => en_ceq_ok) h) h
noncomputable def en_lveq (a b : Nat × en_V) : Bool := Nat.beq a.1 b.1 && en_veq a.2 b.2
theorem en_lveq_ok {a b : Nat × en_V} (h : en_lveq a b = true) : a = b := by
  unfold en_lveq at h
  rw [Bool.and_eq_true] at h
  obtain ⟨a1, a2⟩ := a
  obtain ⟨b1, b2⟩ := b
  have h1 : a1 = b1 := Nat.eq_of_beq_eq_true h.1
  have h2 : a2 = b2 := en_veq_ok h.2
  rw [h1, h2]
/-- a run came to just this state -/
noncomputable def en_isS (o : Option en_O) (S : en_S) : Bool := match o with
  | some (.inr T) => Nat.beq T.1 S.1 && (en_leq en_lveq T.2.1 S.2.1 && (en_leq en_veq T.2.2.1 S.2.2.1 && (en_heq T.2.2.2.1 S.2.2.2.1 && (Nat.beq T.2.2.2.2.1 S.2.2.2.2.1 && Nat.beq T.2.2.2.2.2 S.2.2.2.2.2))))
  | _ => false
theorem en_isS_ok {o : Option en_O} {S : en_S} (h : en_isS o S = true) : o = some (.inr S) := by
  unfold en_isS at h
  split at h
  · rename_i T
    simp only [Bool.and_eq_true] at h
    obtain ⟨h1, h2, h3, h4, h5, h6⟩ := h
    obtain ⟨a1, a2, a3, a4, a5, a6⟩ := T
    obtain ⟨b1, b2, b3, b4, b5, b6⟩ := S
    have h1 : a1 = b1 := Nat.eq_of_beq_eq_true h1
    have h2 : a2 = b2 := en_leq_ok (fun _ _ => en_lveq_ok) h2
    have h3 : a3 = b3 := en_leq_ok (fun _ _ => en_veq_ok) h3
    have h4 : a4 = b4 := en_heq_ok h4
    have h5 : a5 = b5 := Nat.eq_of_beq_eq_true h5
    have h6 : a6 = b6 := Nat.eq_of_beq_eq_true h6
    rw [h1, h2, h3, h4, h5, h6]
  · cases h
noncomputable def en_h0 : en_H := en_rep 18 (en_rep 24 en_ph)
noncomputable def en_t0 : en_H := [[.inr (9, [.inr (.inr (.inl (some 1))), .inr (.inr (.inl (some 7))), .inr (.inr (.inl (some 8))), .inr (.inr (.inl (some 15))), .inr (.inr (.inl (some 22))), .inr (.inr (.inl (some 136))), .inr (.inr (.inl (some 137))), .inr (.inr (.inl (some 138))), .inr (.inr (.inl (some 139))), .inr (.inr (.inl (some 144))), .inr (.inr (.inl (some 191))), .inr (.inr (.inl (some 257))), .inr (.inr (.inl (some 323))), .inr (.inr (.inl (some 329)))]), .inr (8, [.inl 0, .inl 0, .inr (.inr (.inl (some 2))), .inr (.inr (.inl (some 3))), .inr (.inr (.inl (some 4))), .inr (.inr (.inl (some 5))), .inr (.inr (.inl (some 6))), .inl 0, .inl 0]), .inl (1, en_rep 1000 (.inl 0)), .inl (0, en_rep 1001 (.inl 0)), .inl (0, en_rep 1001 (.inl 0)), .inl (3, en_rep 1001 (.inr (.inl 0))), .inl (4, en_rep 1001 (.inr (.inr (.inl none)))), .inr (3, [.inr (.inr (.inl (some 1))), .inr (.inr (.inl none)), .inr (.inr (.inl none)), .inr (.inr (.inl none)), .inl 0, .inl 0, .inl 0, .inl 0]), .inr (7, [.inl 0, .inr (.inr (.inl (some 9))), .inr (.inr (.inl (some 10))), .inr (.inr (.inl (some 11))), .inr (.inr (.inl (some 12))), .inr (.inr (.inl (some 13))), .inr (.inr (.inl (some 14)))]), .inl (0, [.inl 0, .inl 0, .inl 0, .inl 0, .inl 0, .inl 0]), .inl (0, [.inl 0, .inl 0]), .inl (0, [.inl 0, .inl 0]), .inl (2, [.inl 0, .inl 0]), .inl (2, [.inl 0, .inl 0]), .inl (0, [.inl 0, .inl 0]), .inr (7, [.inl 0, .inr (.inr (.inl (some 16))), .inr (.inr (.inl (some 17))), .inr (.inr (.inl (some 18))), .inr (.inr (.inl (some 19))), .inr (.inr (.inl (some 20))), .inr (.inr (.inl (some 21)))]), .inl (0, [.inl 0, .inl 0, .inl 0, .inl 0, .inl 0, .inl 0]), .inl (0, [.inl 0, .inl 0]), .inl (0, [.inl 0, .inl 0]), .inl (2, [.inl 0, .inl 0]), .inl (2, [.inl 0, .inl 0]), .inl (0, [.inl 0, .inl 0]), .inr (2, [.inr (.inr (.inl (some 23))), .inl 0, .inl 0]), .inl (5, [.inr (.inr (.inl (some 24))), .inr (.inr (.inl (some 31))), .inr (.inr (.inl (some 38))), .inr (.inr (.inl (some 45))), .inr (.inr (.inl (some 52))), .inr (.inr (.inl (some 59))), .inr (.inr (.inl (some 66))), .inr (.inr (.inl (some 73))), .inr (.inr (.inl (some 80))), .inr (.inr (.inl (some 87))), .inr (.inr (.inl (some 94))), .inr (.inr (.inl (some 101))), .inr (.inr (.inl (some 108))), .inr (.inr (.inl (some 115))), .inr (.inr (.inl (some 122))), .inr (.inr (.inl (some 129)))])],
  [.inr (7, [.inl 0, .inr (.inr (.inl (some 25))), .inr (.inr (.inl (some 26))), .inr (.inr (.inl (some 27))), .inr (.inr (.inl (some 28))), .inr (.inr (.inl (some 29))), .inr (.inr (.inl (some 30)))]), .inl (0, [.inl 0, .inl 0, .inl 0, .inl 0, .inl 0, .inl 0]), .inl (0, [.inl 0, .inl 0]), .inl (0, [.inl 0, .inl 0]), .inl (2, [.inl 0, .inl 0]), .inl (2, [.inl 0, .inl 0]), .inl (0, [.inl 0, .inl 0]), .inr (7, [.inl 0, .inr (.inr (.inl (some 32))), .inr (.inr (.inl (some 33))), .inr (.inr (.inl (some 34))), .inr (.inr (.inl (some 35))), .inr (.inr (.inl (some 36))), .inr (.inr (.inl (some 37)))]), .inl (0, [.inl 0, .inl 0, .inl 0, .inl 0, .inl 0, .inl 0]), .inl (0, [.inl 0, .inl 0]), .inl (0, [.inl 0, .inl 0]), .inl (2, [.inl 0, .inl 0]), .inl (2, [.inl 0, .inl 0]), .inl (0, [.inl 0, .inl 0]), .inr (7, [.inl 0, .inr (.inr (.inl (some 39))), .inr (.inr (.inl (some 40))), .inr (.inr (.inl (some 41))), .inr (.inr (.inl (some 42))), .inr (.inr (.inl (some 43))), .inr (.inr (.inl (some 44)))]), .inl (0, [.inl 0, .inl 0, .inl 0, .inl 0, .inl 0, .inl 0]), .inl (0, [.inl 0, .inl 0]), .inl (0, [.inl 0, .inl 0]), .inl (2, [.inl 0, .inl 0]), .inl (2, [.inl 0, .inl 0]), .inl (0, [.inl 0, .inl 0]), .inr (7, [.inl 0, .inr (.inr (.inl (some 46))), .inr (.inr (.inl (some 47))), .inr (.inr (.inl (some 48))), .inr (.inr (.inl (some 49))), .inr (.inr (.inl (some 50))), .inr (.inr (.inl (some 51)))]), .inl (0, [.inl 0, .inl 0, .inl 0, .inl 0, .inl 0, .inl 0]), .inl (0, [.inl 0, .inl 0])],
  [.inl (0, [.inl 0, .inl 0]), .inl (2, [.inl 0, .inl 0]), .inl (2, [.inl 0, .inl 0]), .inl (0, [.inl 0, .inl 0]), .inr (7, [.inl 0, .inr (.inr (.inl (some 53))), .inr (.inr (.inl (some 54))), .inr (.inr (.inl (some 55))), .inr (.inr (.inl (some 56))), .inr (.inr (.inl (some 57))), .inr (.inr (.inl (some 58)))]), .inl (0, [.inl 0, .inl 0, .inl 0, .inl 0, .inl 0, .inl 0]), .inl (0, [.inl 0, .inl 0]), .inl (0, [.inl 0, .inl 0]), .inl (2, [.inl 0, .inl 0]), .inl (2, [.inl 0, .inl 0]), .inl (0, [.inl 0, .inl 0]), .inr (7, [.inl 0, .inr (.inr (.inl (some 60))), .inr (.inr (.inl (some 61))), .inr (.inr (.inl (some 62))), .inr (.inr (.inl (some 63))), .inr (.inr (.inl (some 64))), .inr (.inr (.inl (some 65)))]), .inl (0, [.inl 0, .inl 0, .inl 0, .inl 0, .inl 0, .inl 0]), .inl (0, [.inl 0, .inl 0]), .inl (0, [.inl 0, .inl 0]), .inl (2, [.inl 0, .inl 0]), .inl (2, [.inl 0, .inl 0]), .inl (0, [.inl 0, .inl 0]), .inr (7, [.inl 0, .inr (.inr (.inl (some 67))), .inr (.inr (.inl (some 68))), .inr (.inr (.inl (some 69))), .inr (.inr (.inl (some 70))), .inr (.inr (.inl (some 71))), .inr (.inr (.inl (some 72)))]), .inl (0, [.inl 0, .inl 0, .inl 0, .inl 0, .inl 0, .inl 0]), .inl (0, [.inl 0, .inl 0]), .inl (0, [.inl 0, .inl 0]), .inl (2, [.inl 0, .inl 0]), .inl (2, [.inl 0, .inl 0])],
  [.inl (0, [.inl 0, .inl 0]), .inr (7, [.inl 0, .inr (.inr (.inl (some 74))), .inr (.inr (.inl (some 75))), .inr (.inr (.inl (some 76))), .inr (.inr (.inl (some 77))), .inr (.inr (.inl (some 78))), .inr (.inr (.inl (some 79)))]), .inl (0, [.inl 0, .inl 0, .inl 0, .inl 0, .inl 0, .inl 0]), .inl (0, [.inl 0, .inl 0]), .inl (0, [.inl 0, .inl 0]), .inl (2, [.inl 0, .inl 0]), .inl (2, [.inl 0, .inl 0]), .inl (0, [.inl 0, .inl 0]), .inr (7, [.inl 0, .inr (.inr (.inl (some 81))), .inr (.inr (.inl (some 82))), .inr (.inr (.inl (some 83))), .inr (.inr (.inl (some 84))), .inr (.inr (.inl (some 85))), .inr (.inr (.inl (some 86)))]), .inl (0, [.inl 0, .inl 0, .inl 0, .inl 0, .inl 0, .inl 0]), .inl (0, [.inl 0, .inl 0]), .inl (0, [.inl 0, .inl 0]), .inl (2, [.inl 0, .inl 0]), .inl (2, [.inl 0, .inl 0]), .inl (0, [.inl 0, .inl 0]), .inr (7, [.inl 0, .inr (.inr (.inl (some 88))), .inr (.inr (.inl (some 89))), .inr (.inr (.inl (some 90))), .inr (.inr (.inl (some 91))), .inr (.inr (.inl (some 92))), .inr (.inr (.inl (some 93)))]), .inl (0, [.inl 0, .inl 0, .inl 0, .inl 0, .inl 0, .inl 0]), .inl (0, [.inl 0, .inl 0]), .inl (0, [.inl 0, .inl 0]), .inl (2, [.inl 0, .inl 0]), .inl (2, [.inl 0, .inl 0]), .inl (0, [.inl 0, .inl 0]), .inr (7, [.inl 0, .inr (.inr (.inl (some 95))), .inr (.inr (.inl (some 96))), .inr (.inr (.inl (some 97))), .inr (.inr (.inl (some 98))), .inr (.inr (.inl (some 99))), .inr (.inr (.inl (some 100)))]), .inl (0, [.inl 0, .inl 0, .inl 0, .inl 0, .inl 0, .inl 0])],
  [.inl (0, [.inl 0, .inl 0]), .inl (0, [.inl 0, .inl 0]), .inl (2, [.inl 0, .inl 0]), .inl (2, [.inl 0, .inl 0]), .inl (0, [.inl 0, .inl 0]), .inr (7, [.inl 0, .inr (.inr (.inl (some 102))), .inr (.inr (.inl (some 103))), .inr (.inr (.inl (some 104))), .inr (.inr (.inl (some 105))), .inr (.inr (.inl (some 106))), .inr (.inr (.inl (some 107)))]), .inl (0, [.inl 0, .inl 0, .inl 0, .inl 0, .inl 0, .inl 0]), .inl (0, [.inl 0, .inl 0]), .inl (0, [.inl 0, .inl 0]), .inl (2, [.inl 0, .inl 0]), .inl (2, [.inl 0, .inl 0]), .inl (0, [.inl 0, .inl 0]), .inr (7, [.inl 0, .inr (.inr (.inl (some 109))), .inr (.inr (.inl (some 110))), .inr (.inr (.inl (some 111))), .inr (.inr (.inl (some 112))), .inr (.inr (.inl (some 113))), .inr (.inr (.inl (some 114)))]), .inl (0, [.inl 0, .inl 0, .inl 0, .inl 0, .inl 0, .inl 0]), .inl (0, [.inl 0, .inl 0]), .inl (0, [.inl 0, .inl 0]), .inl (2, [.inl 0, .inl 0]), .inl (2, [.inl 0, .inl 0]), .inl (0, [.inl 0, .inl 0]), .inr (7, [.inl 0, .inr (.inr (.inl (some 116))), .inr (.inr (.inl (some 117))), .inr (.inr (.inl (some 118))), .inr (.inr (.inl (some 119))), .inr (.inr (.inl (some 120))), .inr (.inr (.inl (some 121)))]), .inl (0, [.inl 0, .inl 0, .inl 0, .inl 0, .inl 0, .inl 0]), .inl (0, [.inl 0, .inl 0]), .inl (0, [.inl 0, .inl 0]), .inl (2, [.inl 0, .inl 0])],
  [.inl (2, [.inl 0, .inl 0]), .inl (0, [.inl 0, .inl 0]), .inr (7, [.inl 0, .inr (.inr (.inl (some 123))), .inr (.inr (.inl (some 124))), .inr (.inr (.inl (some 125))), .inr (.inr (.inl (some 126))), .inr (.inr (.inl (some 127))), .inr (.inr (.inl (some 128)))]), .inl (0, [.inl 0, .inl 0, .inl 0, .inl 0, .inl 0, .inl 0]), .inl (0, [.inl 0, .inl 0]), .inl (0, [.inl 0, .inl 0]), .inl (2, [.inl 0, .inl 0]), .inl (2, [.inl 0, .inl 0]), .inl (0, [.inl 0, .inl 0]), .inr (7, [.inl 0, .inr (.inr (.inl (some 130))), .inr (.inr (.inl (some 131))), .inr (.inr (.inl (some 132))), .inr (.inr (.inl (some 133))), .inr (.inr (.inl (some 134))), .inr (.inr (.inl (some 135)))]), .inl (0, [.inl 0, .inl 0, .inl 0, .inl 0, .inl 0, .inl 0]), .inl (0, [.inl 0, .inl 0]), .inl (0, [.inl 0, .inl 0]), .inl (2, [.inl 0, .inl 0]), .inl (2, [.inl 0, .inl 0]), .inl (0, [.inl 0, .inl 0]), .inl (5, [.inr (.inr (.inl (some 335))), .inr (.inr (.inl (some 347))), .inr (.inr (.inl (some 359))), .inr (.inr (.inl (some 371)))]), .inl (6, [.inr (.inr (.inl (some 342))), .inr (.inr (.inl (some 354))), .inr (.inr (.inl (some 366))), .inr (.inr (.inl (some 378)))]), .inl (2, [.inl 0, .inl 0, .inl 0, .inl 0]), .inr (6, [.inl 0, .inr (.inr (.inl (some 140))), .inr (.inr (.inl (some 141))), .inr (.inr (.inl (some 142))), .inr (.inr (.inl (some 143)))]), .inl (0, en_rep 8 (.inl 0)), .inl (0, en_rep 8 (.inl 0)), .inl (0, en_rep 8 (.inl 0)), .inl (0, en_rep 9 (.inl 0))],
  [.inr (4, [.inl 0, .inl 0, .inl 0, .inr (.inr (.inl (some 145))), .inr (.inr (.inl (some 146))), .inr (.inr (.inl (some 147))), .inr (.inr (.inl (some 179))), .inr (.inr (.inl (some 180))), .inr (.inr (.inl (some 188))), .inr (.inr (.inl (some 189))), .inr (.inr (.inl (some 190)))]), .inl (0, en_rep 984 (.inl 0)), .inl (0, en_rep 31 (.inl 0)), .inl (7, [.inr (.inr (.inl (some 148))), .inr (.inr (.inl (some 149))), .inr (.inr (.inl (some 150))), .inr (.inr (.inl (some 151))), .inr (.inr (.inl (some 152))), .inr (.inr (.inl (some 153))), .inr (.inr (.inl (some 154))), .inr (.inr (.inl (some 155))), .inr (.inr (.inl (some 156))), .inr (.inr (.inl (some 157))), .inr (.inr (.inl (some 158))), .inr (.inr (.inl (some 159))), .inr (.inr (.inl (some 160))), .inr (.inr (.inl (some 161))), .inr (.inr (.inl (some 162))), .inr (.inr (.inl (some 163))), .inr (.inr (.inl (some 164))), .inr (.inr (.inl (some 165))), .inr (.inr (.inl (some 166))), .inr (.inr (.inl (some 167))), .inr (.inr (.inl (some 168))), .inr (.inr (.inl (some 169))), .inr (.inr (.inl (some 170))), .inr (.inr (.inl (some 171))), .inr (.inr (.inl (some 172))), .inr (.inr (.inl (some 173))), .inr (.inr (.inl (some 174))), .inr (.inr (.inl (some 175))), .inr (.inr (.inl (some 176))), .inr (.inr (.inl (some 177))), .inr (.inr (.inl (some 178)))]), .inl (0, en_rep 31 (.inl 0)), .inl (0, en_rep 31 (.inl 0)), .inl (0, en_rep 31 (.inl 0)), .inl (0, en_rep 31 (.inl 0)), .inl (0, en_rep 31 (.inl 0)), .inl (0, en_rep 31 (.inl 0)), .inl (0, en_rep 31 (.inl 0)), .inl (0, en_rep 31 (.inl 0)), .inl (0, en_rep 31 (.inl 0)), .inl (0, en_rep 31 (.inl 0)), .inl (0, en_rep 31 (.inl 0)), .inl (0, en_rep 31 (.inl 0)), .inl (0, en_rep 31 (.inl 0)), .inl (0, en_rep 31 (.inl 0)), .inl (0, en_rep 31 (.inl 0)), .inl (0, en_rep 31 (.inl 0)), .inl (0, en_rep 31 (.inl 0)), .inl (0, en_rep 31 (.inl 0)), .inl (0, en_rep 31 (.inl 0)), .inl (0, en_rep 31 (.inl 0))],
  [.inl (0, en_rep 31 (.inl 0)), .inl (0, en_rep 31 (.inl 0)), .inl (0, en_rep 31 (.inl 0)), .inl (0, en_rep 31 (.inl 0)), .inl (0, en_rep 31 (.inl 0)), .inl (0, en_rep 31 (.inl 0)), .inl (0, en_rep 31 (.inl 0)), .inl (0, en_rep 31 (.inl 0)), .inl (0, en_rep 31 (.inl 0)), .inl (0, en_rep 31 (.inl 0)), .inl (0, en_rep 31 (.inl 0)), .inl (0, [.inl 0, .inl 0, .inl 0, .inl 0, .inl 0, .inl 0]), .inl (7, [.inr (.inr (.inl (some 181))), .inr (.inr (.inl (some 182))), .inr (.inr (.inl (some 183))), .inr (.inr (.inl (some 184))), .inr (.inr (.inl (some 185))), .inr (.inr (.inl (some 186))), .inr (.inr (.inl (some 187)))]), .inl (0, [.inl 0, .inl 0, .inl 0, .inl 0, .inl 0, .inl 0]), .inl (0, [.inl 0, .inl 0, .inl 0, .inl 0, .inl 0, .inl 0]), .inl (0, [.inl 0, .inl 0, .inl 0, .inl 0, .inl 0, .inl 0]), .inl (0, [.inl 0, .inl 0, .inl 0, .inl 0, .inl 0, .inl 0]), .inl (0, [.inl 0, .inl 0, .inl 0, .inl 0, .inl 0, .inl 0]), .inl (0, [.inl 0, .inl 0, .inl 0, .inl 0, .inl 0, .inl 0]), .inl (0, [.inl 0, .inl 0, .inl 0, .inl 0, .inl 0, .inl 0]), .inl (0, [.inl 0, .inl 0, .inl 0, .inl 0, .inl 0, .inl 0]), .inl (0, en_rep 54 (.inl 0)), .inl (0, en_rep 64 (.inl 0)), .inr (1, [.inl 2, .inl 2, .inl 2, .inr (.inr (.inl (some 192))), .inr (.inr (.inl (some 193))), .inr (.inr (.inl (some 194))), .inr (.inr (.inl (some 200))), .inr (.inr (.inl (some 206))), .inr (.inr (.inl (some 212))), .inr (.inr (.inl (some 218))), .inr (.inr (.inl (some 224))), .inr (.inr (.inl (some 230))), .inr (.inr (.inl (some 233))), .inr (.inr (.inl (some 236))), .inr (.inr (.inl (some 239))), .inr (.inr (.inl (some 240))), .inr (.inl 771)])],
  [.inl (0, en_rep 64 (.inl 4)), .inl (0, [.inl 0, .inl 1, .inl 2, .inl 3, .inl 4, .inl 5, .inl 6, .inl 7, .inl 8, .inl 9, .inl 10, .inl 11, .inl 12, .inl 13, .inl 14, .inl 15, .inl 16, .inl 17, .inl 18, .inl 19, .inl 20, .inl 21, .inl 22, .inl 23, .inl 24, .inl 25, .inl 26, .inl 27, .inl 28, .inl 29, .inl 30, .inl 31, .inl 32, .inl 33, .inl 34, .inl 35, .inl 36, .inl 37, .inl 38, .inl 39, .inl 40, .inl 41, .inl 42, .inl 43, .inl 44, .inl 45, .inl 46, .inl 47, .inl 48, .inl 49, .inl 50, .inl 51, .inl 52, .inl 53, .inl 54, .inl 55, .inl 56, .inl 57, .inl 58, .inl 59, .inl 60, .inl 61, .inl 62, .inl 63]), .inr (5, [.inr (.inr (.inl (some 195))), .inr (.inr (.inl (some 196))), .inr (.inr (.inl (some 197))), .inr (.inr (.inl (some 198))), .inr (.inr (.inl (some 199))), .inl 0]), .inl (3, [.inr (.inl 0), .inr (.inl 0), .inr (.inl 0), .inr (.inl 0), .inr (.inl 0), .inr (.inl 0)]), .inl (0, [.inl 0, .inl 0, .inl 0, .inl 0, .inl 0, .inl 0]), .inl (0, [.inl 0, .inl 0, .inl 0, .inl 0, .inl 0, .inl 0]), .inl (0, [.inl 0, .inl 0, .inl 0, .inl 0, .inl 0, .inl 0]), .inl (0, [.inl 0, .inl 0, .inl 0, .inl 0, .inl 0, .inl 0]), .inr (5, [.inr (.inr (.inl (some 201))), .inr (.inr (.inl (some 202))), .inr (.inr (.inl (some 203))), .inr (.inr (.inl (some 204))), .inr (.inr (.inl (some 205))), .inl 0]), .inl (3, [.inr (.inl 0), .inr (.inl 0), .inr (.inl 0), .inr (.inl 0), .inr (.inl 0), .inr (.inl 0)]), .inl (0, [.inl 0, .inl 0, .inl 0, .inl 0, .inl 0, .inl 0]), .inl (0, [.inl 0, .inl 0, .inl 0, .inl 0, .inl 0, .inl 0]), .inl (0, [.inl 0, .inl 0, .inl 0, .inl 0, .inl 0, .inl 0]), .inl (0, [.inl 0, .inl 0, .inl 0, .inl 0, .inl 0, .inl 0]), .inr (5, [.inr (.inr (.inl (some 207))), .inr (.inr (.inl (some 208))), .inr (.inr (.inl (some 209))), .inr (.inr (.inl (some 210))), .inr (.inr (.inl (some 211))), .inl 0]), .inl (3, [.inr (.inl 0), .inr (.inl 0)]), .inl (0, [.inl 0, .inl 0]), .inl (0, [.inl 0, .inl 0]), .inl (0, [.inl 0, .inl 0]), .inl (0, [.inl 0, .inl 0]), .inr (5, [.inr (.inr (.inl (some 213))), .inr (.inr (.inl (some 214))), .inr (.inr (.inl (some 215))), .inr (.inr (.inl (some 216))), .inr (.inr (.inl (some 217))), .inl 0]), .inl (3, [.inr (.inl 0), .inr (.inl 0), .inr (.inl 0), .inr (.inl 0), .inr (.inl 0)]), .inl (0, [.inl 0, .inl 0, .inl 0, .inl 0, .inl 0]), .inl (0, [.inl 0, .inl 0, .inl 0, .inl 0, .inl 0])],
  [.inl (0, [.inl 0, .inl 0, .inl 0, .inl 0, .inl 0]), .inl (0, [.inl 0, .inl 0, .inl 0, .inl 0, .inl 0]), .inr (5, [.inr (.inr (.inl (some 219))), .inr (.inr (.inl (some 220))), .inr (.inr (.inl (some 221))), .inr (.inr (.inl (some 222))), .inr (.inr (.inl (some 223))), .inl 0]), .inl (3, [.inr (.inl 0), .inr (.inl 0), .inr (.inl 0), .inr (.inl 0), .inr (.inl 0), .inr (.inl 0)]), .inl (0, [.inl 0, .inl 0, .inl 0, .inl 0, .inl 0, .inl 0]), .inl (0, [.inl 0, .inl 0, .inl 0, .inl 0, .inl 0, .inl 0]), .inl (0, [.inl 0, .inl 0, .inl 0, .inl 0, .inl 0, .inl 0]), .inl (0, [.inl 0, .inl 0, .inl 0, .inl 0, .inl 0, .inl 0]), .inr (5, [.inr (.inr (.inl (some 225))), .inr (.inr (.inl (some 226))), .inr (.inr (.inl (some 227))), .inr (.inr (.inl (some 228))), .inr (.inr (.inl (some 229))), .inl 0]), .inl (3, [.inr (.inl 0), .inr (.inl 0), .inr (.inl 0), .inr (.inl 0), .inr (.inl 0), .inr (.inl 0)]), .inl (0, [.inl 0, .inl 0, .inl 0, .inl 0, .inl 0, .inl 0]), .inl (0, [.inl 0, .inl 0, .inl 0, .inl 0, .inl 0, .inl 0]), .inl (0, [.inl 0, .inl 0, .inl 0, .inl 0, .inl 0, .inl 0]), .inl (0, [.inl 0, .inl 0, .inl 0, .inl 0, .inl 0, .inl 0]), .inr (0, [.inr (.inr (.inl (some 231))), .inr (.inr (.inl (some 232))), .inl 1]), .inl (0, en_rep 25 (.inl 0)), .inl (0, [.inl 4294967287] ++ en_rep 999 (.inl 0)), .inr (0, [.inr (.inr (.inl (some 234))), .inr (.inr (.inl (some 235))), .inl 1]), .inl (0, en_rep 25 (.inl 0)), .inl (0, [.inl 1] ++ en_rep 999 (.inl 0)), .inr (0, [.inr (.inr (.inl (some 237))), .inr (.inr (.inl (some 238))), .inl 1]), .inl (0, en_rep 25 (.inl 0)), .inl (0, [.inl 1] ++ en_rep 999 (.inl 0)), .inl (3, [.inr (.inl 0), .inr (.inl 0), .inr (.inl 0), .inr (.inl 0), .inr (.inl 771)])],
  [.inl (7, [.inr (.inr (.inl (some 241))), .inr (.inr (.inl (some 242))), .inr (.inr (.inl (some 243))), .inr (.inr (.inl (some 244))), .inr (.inr (.inl (some 245))), .inr (.inr (.inl (some 246))), .inr (.inr (.inl (some 247))), .inr (.inr (.inl (some 248))), .inr (.inr (.inl (some 249))), .inr (.inr (.inl (some 250))), .inr (.inr (.inl (some 251))), .inr (.inr (.inl (some 252))), .inr (.inr (.inl (some 253))), .inr (.inr (.inl (some 254))), .inr (.inr (.inl (some 255))), .inr (.inr (.inl (some 256)))]), .inl (0, [.inl 0, .inl 1, .inl 2, .inl 3, .inl 4, .inl 5, .inl 6, .inl 7, .inl 8, .inl 9, .inl 10, .inl 11, .inl 12, .inl 13, .inl 14, .inl 15, .inl 16, .inl 17, .inl 18, .inl 19, .inl 20, .inl 21, .inl 22, .inl 23, .inl 24, .inl 25, .inl 26, .inl 27, .inl 28, .inl 29, .inl 30, .inl 31, .inl 32, .inl 33, .inl 34, .inl 35, .inl 36, .inl 37, .inl 38, .inl 39, .inl 40, .inl 41, .inl 42, .inl 43, .inl 44, .inl 45, .inl 46, .inl 47, .inl 48, .inl 49, .inl 50, .inl 51, .inl 52, .inl 53, .inl 54, .inl 55, .inl 56, .inl 57, .inl 58, .inl 59, .inl 60, .inl 61, .inl 62, .inl 63]), .inl (0, [.inl 0, .inl 1, .inl 2, .inl 3, .inl 4, .inl 5, .inl 6, .inl 7, .inl 8, .inl 9, .inl 10, .inl 11, .inl 12, .inl 13, .inl 14, .inl 15, .inl 16, .inl 17, .inl 18, .inl 19, .inl 20, .inl 21, .inl 22, .inl 23, .inl 24, .inl 25, .inl 26, .inl 27, .inl 28, .inl 29, .inl 30, .inl 31, .inl 32, .inl 33, .inl 34, .inl 35, .inl 36, .inl 37, .inl 38, .inl 39, .inl 40, .inl 41, .inl 42, .inl 43, .inl 44, .inl 45, .inl 46, .inl 47, .inl 48, .inl 49, .inl 50, .inl 51, .inl 52, .inl 53, .inl 54, .inl 55, .inl 56, .inl 57, .inl 58, .inl 59, .inl 60, .inl 61, .inl 62, .inl 63]), .inl (0, [.inl 0, .inl 1, .inl 2, .inl 3, .inl 4, .inl 5, .inl 6, .inl 7, .inl 8, .inl 9, .inl 10, .inl 11, .inl 12, .inl 13, .inl 14, .inl 15, .inl 16, .inl 17, .inl 18, .inl 19, .inl 20, .inl 21, .inl 22, .inl 23, .inl 24, .inl 25, .inl 26, .inl 27, .inl 28, .inl 29, .inl 30, .inl 31, .inl 32, .inl 33, .inl 34, .inl 35, .inl 36, .inl 37, .inl 38, .inl 39, .inl 40, .inl 41, .inl 42, .inl 43, .inl 44, .inl 45, .inl 46, .inl 47, .inl 48, .inl 49, .inl 50, .inl 51, .inl 52, .inl 53, .inl 54, .inl 55, .inl 56, .inl 57, .inl 58, .inl 59, .inl 60, .inl 61, .inl 62, .inl 63]), .inl (0, [.inl 0, .inl 1, .inl 2, .inl 3, .inl 4, .inl 5, .inl 6, .inl 7, .inl 8, .inl 9, .inl 10, .inl 11, .inl 12, .inl 13, .inl 14, .inl 15, .inl 16, .inl 17, .inl 18, .inl 19, .inl 20, .inl 21, .inl 22, .inl 23, .inl 24, .inl 25, .inl 26, .inl 27, .inl 28, .inl 29, .inl 30, .inl 31, .inl 32, .inl 33, .inl 34, .inl 35, .inl 36, .inl 37, .inl 38, .inl 39, .inl 40, .inl 41, .inl 42, .inl 43, .inl 44, .inl 45, .inl 46, .inl 47, .inl 48, .inl 49, .inl 50, .inl 51, .inl 52, .inl 53, .inl 54, .inl 55, .inl 56, .inl 57, .inl 58, .inl 59, .inl 60, .inl 61, .inl 62, .inl 63]), .inl (0, [.inl 0, .inl 1, .inl 2, .inl 3, .inl 4, .inl 5, .inl 6, .inl 7, .inl 8, .inl 9, .inl 10, .inl 11, .inl 12, .inl 13, .inl 14, .inl 15, .inl 16, .inl 17, .inl 18, .inl 19, .inl 20, .inl 21, .inl 22, .inl 23, .inl 24, .inl 25, .inl 26, .inl 27, .inl 28, .inl 29, .inl 30, .inl 31, .inl 32, .inl 33, .inl 34, .inl 35, .inl 36, .inl 37, .inl 38, .inl 39, .inl 40, .inl 41, .inl 42, .inl 43, .inl 44, .inl 45, .inl 46, .inl 47, .inl 48, .inl 49, .inl 50, .inl 51, .inl 52, .inl 53, .inl 54, .inl 55, .inl 56, .inl 57, .inl 58, .inl 59, .inl 60, .inl 61, .inl 62, .inl 63]), .inl (0, [.inl 0, .inl 1, .inl 2, .inl 3, .inl 4, .inl 5, .inl 6, .inl 7, .inl 8, .inl 9, .inl 10, .inl 11, .inl 12, .inl 13, .inl 14, .inl 15, .inl 16, .inl 17, .inl 18, .inl 19, .inl 20, .inl 21, .inl 22, .inl 23, .inl 24, .inl 25, .inl 26, .inl 27, .inl 28, .inl 29, .inl 30, .inl 31, .inl 32, .inl 33, .inl 34, .inl 35, .inl 36, .inl 37, .inl 38, .inl 39, .inl 40, .inl 41, .inl 42, .inl 43, .inl 44, .inl 45, .inl 46, .inl 47, .inl 48, .inl 49, .inl 50, .inl 51, .inl 52, .inl 53, .inl 54, .inl 55, .inl 56, .inl 57, .inl 58, .inl 59, .inl 60, .inl 61, .inl 62, .inl 63]), .inl (0, [.inl 0, .inl 1, .inl 2, .inl 3, .inl 4, .inl 5, .inl 6, .inl 7, .inl 8, .inl 9, .inl 10, .inl 11, .inl 12, .inl 13, .inl 14, .inl 15, .inl 16, .inl 17, .inl 18, .inl 19, .inl 20, .inl 21, .inl 22, .inl 23, .inl 24, .inl 25, .inl 26, .inl 27, .inl 28, .inl 29, .inl 30, .inl 31, .inl 32, .inl 33, .inl 34, .inl 35, .inl 36, .inl 37, .inl 38, .inl 39, .inl 40, .inl 41, .inl 42, .inl 43, .inl 44, .inl 45, .inl 46, .inl 47, .inl 48, .inl 49, .inl 50, .inl 51, .inl 52, .inl 53, .inl 54, .inl 55, .inl 56, .inl 57, .inl 58, .inl 59, .inl 60, .inl 61, .inl 62, .inl 63]), .inl (0, [.inl 0, .inl 1, .inl 2, .inl 3, .inl 4, .inl 5, .inl 6, .inl 7, .inl 8, .inl 9, .inl 10, .inl 11, .inl 12, .inl 13, .inl 14, .inl 15, .inl 16, .inl 17, .inl 18, .inl 19, .inl 20, .inl 21, .inl 22, .inl 23, .inl 24, .inl 25, .inl 26, .inl 27, .inl 28, .inl 29, .inl 30, .inl 31, .inl 32, .inl 33, .inl 34, .inl 35, .inl 36, .inl 37, .inl 38, .inl 39, .inl 40, .inl 41, .inl 42, .inl 43, .inl 44, .inl 45, .inl 46, .inl 47, .inl 48, .inl 49, .inl 50, .inl 51, .inl 52, .inl 53, .inl 54, .inl 55, .inl 56, .inl 57, .inl 58, .inl 59, .inl 60, .inl 61, .inl 62, .inl 63]), .inl (0, [.inl 0, .inl 1, .inl 2, .inl 3, .inl 4, .inl 5, .inl 6, .inl 7, .inl 8, .inl 9, .inl 10, .inl 11, .inl 12, .inl 13, .inl 14, .inl 15, .inl 16, .inl 17, .inl 18, .inl 19, .inl 20, .inl 21, .inl 22, .inl 23, .inl 24, .inl 25, .inl 26, .inl 27, .inl 28, .inl 29, .inl 30, .inl 31, .inl 32, .inl 33, .inl 34, .inl 35, .inl 36, .inl 37, .inl 38, .inl 39, .inl 40, .inl 41, .inl 42, .inl 43, .inl 44, .inl 45, .inl 46, .inl 47, .inl 48, .inl 49, .inl 50, .inl 51, .inl 52, .inl 53, .inl 54, .inl 55, .inl 56, .inl 57, .inl 58, .inl 59, .inl 60, .inl 61, .inl 62, .inl 63]), .inl (0, [.inl 0, .inl 1, .inl 2, .inl 3, .inl 4, .inl 5, .inl 6, .inl 7, .inl 8, .inl 9, .inl 10, .inl 11, .inl 12, .inl 13, .inl 14, .inl 15, .inl 16, .inl 17, .inl 18, .inl 19, .inl 20, .inl 21, .inl 22, .inl 23, .inl 24, .inl 25, .inl 26, .inl 27, .inl 28, .inl 29, .inl 30, .inl 31, .inl 32, .inl 33, .inl 34, .inl 35, .inl 36, .inl 37, .inl 38, .inl 39, .inl 40, .inl 41, .inl 42, .inl 43, .inl 44, .inl 45, .inl 46, .inl 47, .inl 48, .inl 49, .inl 50, .inl 51, .inl 52, .inl 53, .inl 54, .inl 55, .inl 56, .inl 57, .inl 58, .inl 59, .inl 60, .inl 61, .inl 62, .inl 63]), .inl (0, [.inl 0, .inl 1, .inl 2, .inl 3, .inl 4, .inl 5, .inl 6, .inl 7, .inl 8, .inl 9, .inl 10, .inl 11, .inl 12, .inl 13, .inl 14, .inl 15, .inl 16, .inl 17, .inl 18, .inl 19, .inl 20, .inl 21, .inl 22, .inl 23, .inl 24, .inl 25, .inl 26, .inl 27, .inl 28, .inl 29, .inl 30, .inl 31, .inl 32, .inl 33, .inl 34, .inl 35, .inl 36, .inl 37, .inl 38, .inl 39, .inl 40, .inl 41, .inl 42, .inl 43, .inl 44, .inl 45, .inl 46, .inl 47, .inl 48, .inl 49, .inl 50, .inl 51, .inl 52, .inl 53, .inl 54, .inl 55, .inl 56, .inl 57, .inl 58, .inl 59, .inl 60, .inl 61, .inl 62, .inl 63]), .inl (0, [.inl 0, .inl 1, .inl 2, .inl 3, .inl 4, .inl 5, .inl 6, .inl 7, .inl 8, .inl 9, .inl 10, .inl 11, .inl 12, .inl 13, .inl 14, .inl 15, .inl 16, .inl 17, .inl 18, .inl 19, .inl 20, .inl 21, .inl 22, .inl 23, .inl 24, .inl 25, .inl 26, .inl 27, .inl 28, .inl 29, .inl 30, .inl 31, .inl 32, .inl 33, .inl 34, .inl 35, .inl 36, .inl 37, .inl 38, .inl 39, .inl 40, .inl 41, .inl 42, .inl 43, .inl 44, .inl 45, .inl 46, .inl 47, .inl 48, .inl 49, .inl 50, .inl 51, .inl 52, .inl 53, .inl 54, .inl 55, .inl 56, .inl 57, .inl 58, .inl 59, .inl 60, .inl 61, .inl 62, .inl 63]), .inl (0, [.inl 0, .inl 1, .inl 2, .inl 3, .inl 4, .inl 5, .inl 6, .inl 7, .inl 8, .inl 9, .inl 10, .inl 11, .inl 12, .inl 13, .inl 14, .inl 15, .inl 16, .inl 17, .inl 18, .inl 19, .inl 20, .inl 21, .inl 22, .inl 23, .inl 24, .inl 25, .inl 26, .inl 27, .inl 28, .inl 29, .inl 30, .inl 31, .inl 32, .inl 33, .inl 34, .inl 35, .inl 36, .inl 37, .inl 38, .inl 39, .inl 40, .inl 41, .inl 42, .inl 43, .inl 44, .inl 45, .inl 46, .inl 47, .inl 48, .inl 49, .inl 50, .inl 51, .inl 52, .inl 53, .inl 54, .inl 55, .inl 56, .inl 57, .inl 58, .inl 59, .inl 60, .inl 61, .inl 62, .inl 63]), .inl (0, [.inl 0, .inl 1, .inl 2, .inl 3, .inl 4, .inl 5, .inl 6, .inl 7, .inl 8, .inl 9, .inl 10, .inl 11, .inl 12, .inl 13, .inl 14, .inl 15, .inl 16, .inl 17, .inl 18, .inl 19, .inl 20, .inl 21, .inl 22, .inl 23, .inl 24, .inl 25, .inl 26, .inl 27, .inl 28, .inl 29, .inl 30, .inl 31, .inl 32, .inl 33, .inl 34, .inl 35, .inl 36, .inl 37, .inl 38, .inl 39, .inl 40, .inl 41, .inl 42, .inl 43, .inl 44, .inl 45, .inl 46, .inl 47, .inl 48, .inl 49, .inl 50, .inl 51, .inl 52, .inl 53, .inl 54, .inl 55, .inl 56, .inl 57, .inl 58, .inl 59, .inl 60, .inl 61, .inl 62, .inl 63]), .inl (0, [.inl 0, .inl 1, .inl 2, .inl 3, .inl 4, .inl 5, .inl 6, .inl 7, .inl 8, .inl 9, .inl 10, .inl 11, .inl 12, .inl 13, .inl 14, .inl 15, .inl 16, .inl 17, .inl 18, .inl 19, .inl 20, .inl 21, .inl 22, .inl 23, .inl 24, .inl 25, .inl 26, .inl 27, .inl 28, .inl 29, .inl 30, .inl 31, .inl 32, .inl 33, .inl 34, .inl 35, .inl 36, .inl 37, .inl 38, .inl 39, .inl 40, .inl 41, .inl 42, .inl 43, .inl 44, .inl 45, .inl 46, .inl 47, .inl 48, .inl 49, .inl 50, .inl 51, .inl 52, .inl 53, .inl 54, .inl 55, .inl 56, .inl 57, .inl 58, .inl 59, .inl 60, .inl 61, .inl 62, .inl 63]), .inl (0, [.inl 0, .inl 1, .inl 2, .inl 3, .inl 4, .inl 5, .inl 6, .inl 7, .inl 8, .inl 9, .inl 10, .inl 11, .inl 12, .inl 13, .inl 14, .inl 15, .inl 16, .inl 17, .inl 18, .inl 19, .inl 20, .inl 21, .inl 22, .inl 23, .inl 24, .inl 25, .inl 26, .inl 27, .inl 28, .inl 29, .inl 30, .inl 31, .inl 32, .inl 33, .inl 34, .inl 35, .inl 36, .inl 37, .inl 38, .inl 39, .inl 40, .inl 41, .inl 42, .inl 43, .inl 44, .inl 45, .inl 46, .inl 47, .inl 48, .inl 49, .inl 50, .inl 51, .inl 52, .inl 53, .inl 54, .inl 55, .inl 56, .inl 57, .inl 58, .inl 59, .inl 60, .inl 61, .inl 62, .inl 63]), .inr (1, [.inl 2, .inl 2, .inl 2, .inr (.inr (.inl (some 258))), .inr (.inr (.inl (some 259))), .inr (.inr (.inl (some 260))), .inr (.inr (.inl (some 266))), .inr (.inr (.inl (some 272))), .inr (.inr (.inl (some 278))), .inr (.inr (.inl (some 284))), .inr (.inr (.inl (some 290))), .inr (.inr (.inl (some 296))), .inr (.inr (.inl (some 299))), .inr (.inr (.inl (some 302))), .inr (.inr (.inl (some 305))), .inr (.inr (.inl (some 306))), .inr (.inl 771)]), .inl (0, en_rep 64 (.inl 4)), .inl (0, [.inl 0, .inl 1, .inl 2, .inl 3, .inl 4, .inl 5, .inl 6, .inl 7, .inl 8, .inl 9, .inl 10, .inl 11, .inl 12, .inl 13, .inl 14, .inl 15, .inl 16, .inl 17, .inl 18, .inl 19, .inl 20, .inl 21, .inl 22, .inl 23, .inl 24, .inl 25, .inl 26, .inl 27, .inl 28, .inl 29, .inl 30, .inl 31, .inl 32, .inl 33, .inl 34, .inl 35, .inl 36, .inl 37, .inl 38, .inl 39, .inl 40, .inl 41, .inl 42, .inl 43, .inl 44, .inl 45, .inl 46, .inl 47, .inl 48, .inl 49, .inl 50, .inl 51, .inl 52, .inl 53, .inl 54, .inl 55, .inl 56, .inl 57, .inl 58, .inl 59, .inl 60, .inl 61, .inl 62, .inl 63]), .inr (5, [.inr (.inr (.inl (some 261))), .inr (.inr (.inl (some 262))), .inr (.inr (.inl (some 263))), .inr (.inr (.inl (some 264))), .inr (.inr (.inl (some 265))), .inl 0]), .inl (3, [.inr (.inl 0), .inr (.inl 0), .inr (.inl 0), .inr (.inl 0), .inr (.inl 0), .inr (.inl 0)]), .inl (0, [.inl 0, .inl 0, .inl 0, .inl 0, .inl 0, .inl 0]), .inl (0, [.inl 0, .inl 0, .inl 0, .inl 0, .inl 0, .inl 0])],
  [.inl (0, [.inl 0, .inl 0, .inl 0, .inl 0, .inl 0, .inl 0]), .inl (0, [.inl 0, .inl 0, .inl 0, .inl 0, .inl 0, .inl 0]), .inr (5, [.inr (.inr (.inl (some 267))), .inr (.inr (.inl (some 268))), .inr (.inr (.inl (some 269))), .inr (.inr (.inl (some 270))), .inr (.inr (.inl (some 271))), .inl 0]), .inl (3, [.inr (.inl 0), .inr (.inl 0), .inr (.inl 0), .inr (.inl 0), .inr (.inl 0), .inr (.inl 0)]), .inl (0, [.inl 0, .inl 0, .inl 0, .inl 0, .inl 0, .inl 0]), .inl (0, [.inl 0, .inl 0, .inl 0, .inl 0, .inl 0, .inl 0]), .inl (0, [.inl 0, .inl 0, .inl 0, .inl 0, .inl 0, .inl 0]), .inl (0, [.inl 0, .inl 0, .inl 0, .inl 0, .inl 0, .inl 0]), .inr (5, [.inr (.inr (.inl (some 273))), .inr (.inr (.inl (some 274))), .inr (.inr (.inl (some 275))), .inr (.inr (.inl (some 276))), .inr (.inr (.inl (some 277))), .inl 0]), .inl (3, [.inr (.inl 0), .inr (.inl 0)]), .inl (0, [.inl 0, .inl 0]), .inl (0, [.inl 0, .inl 0]), .inl (0, [.inl 0, .inl 0]), .inl (0, [.inl 0, .inl 0]), .inr (5, [.inr (.inr (.inl (some 279))), .inr (.inr (.inl (some 280))), .inr (.inr (.inl (some 281))), .inr (.inr (.inl (some 282))), .inr (.inr (.inl (some 283))), .inl 0]), .inl (3, [.inr (.inl 0), .inr (.inl 0), .inr (.inl 0), .inr (.inl 0), .inr (.inl 0)]), .inl (0, [.inl 0, .inl 0, .inl 0, .inl 0, .inl 0]), .inl (0, [.inl 0, .inl 0, .inl 0, .inl 0, .inl 0]), .inl (0, [.inl 0, .inl 0, .inl 0, .inl 0, .inl 0]), .inl (0, [.inl 0, .inl 0, .inl 0, .inl 0, .inl 0]), .inr (5, [.inr (.inr (.inl (some 285))), .inr (.inr (.inl (some 286))), .inr (.inr (.inl (some 287))), .inr (.inr (.inl (some 288))), .inr (.inr (.inl (some 289))), .inl 0]), .inl (3, [.inr (.inl 0), .inr (.inl 0), .inr (.inl 0), .inr (.inl 0), .inr (.inl 0), .inr (.inl 0)]), .inl (0, [.inl 0, .inl 0, .inl 0, .inl 0, .inl 0, .inl 0]), .inl (0, [.inl 0, .inl 0, .inl 0, .inl 0, .inl 0, .inl 0])],
  [.inl (0, [.inl 0, .inl 0, .inl 0, .inl 0, .inl 0, .inl 0]), .inl (0, [.inl 0, .inl 0, .inl 0, .inl 0, .inl 0, .inl 0]), .inr (5, [.inr (.inr (.inl (some 291))), .inr (.inr (.inl (some 292))), .inr (.inr (.inl (some 293))), .inr (.inr (.inl (some 294))), .inr (.inr (.inl (some 295))), .inl 0]), .inl (3, [.inr (.inl 0), .inr (.inl 0), .inr (.inl 0), .inr (.inl 0), .inr (.inl 0), .inr (.inl 0)]), .inl (0, [.inl 0, .inl 0, .inl 0, .inl 0, .inl 0, .inl 0]), .inl (0, [.inl 0, .inl 0, .inl 0, .inl 0, .inl 0, .inl 0]), .inl (0, [.inl 0, .inl 0, .inl 0, .inl 0, .inl 0, .inl 0]), .inl (0, [.inl 0, .inl 0, .inl 0, .inl 0, .inl 0, .inl 0]), .inr (0, [.inr (.inr (.inl (some 297))), .inr (.inr (.inl (some 298))), .inl 1]), .inl (0, en_rep 25 (.inl 0)), .inl (0, [.inl 4294967287] ++ en_rep 999 (.inl 0)), .inr (0, [.inr (.inr (.inl (some 300))), .inr (.inr (.inl (some 301))), .inl 1]), .inl (0, en_rep 25 (.inl 0)), .inl (0, [.inl 1] ++ en_rep 999 (.inl 0)), .inr (0, [.inr (.inr (.inl (some 303))), .inr (.inr (.inl (some 304))), .inl 1]), .inl (0, en_rep 25 (.inl 0)), .inl (0, [.inl 1] ++ en_rep 999 (.inl 0)), .inl (3, [.inr (.inl 0), .inr (.inl 0), .inr (.inl 0), .inr (.inl 0), .inr (.inl 771)]), .inl (7, [.inr (.inr (.inl (some 307))), .inr (.inr (.inl (some 308))), .inr (.inr (.inl (some 309))), .inr (.inr (.inl (some 310))), .inr (.inr (.inl (some 311))), .inr (.inr (.inl (some 312))), .inr (.inr (.inl (some 313))), .inr (.inr (.inl (some 314))), .inr (.inr (.inl (some 315))), .inr (.inr (.inl (some 316))), .inr (.inr (.inl (some 317))), .inr (.inr (.inl (some 318))), .inr (.inr (.inl (some 319))), .inr (.inr (.inl (some 320))), .inr (.inr (.inl (some 321))), .inr (.inr (.inl (some 322)))]), .inl (0, [.inl 0, .inl 1, .inl 2, .inl 3, .inl 4, .inl 5, .inl 6, .inl 7, .inl 8, .inl 9, .inl 10, .inl 11, .inl 12, .inl 13, .inl 14, .inl 15, .inl 16, .inl 17, .inl 18, .inl 19, .inl 20, .inl 21, .inl 22, .inl 23, .inl 24, .inl 25, .inl 26, .inl 27, .inl 28, .inl 29, .inl 30, .inl 31, .inl 32, .inl 33, .inl 34, .inl 35, .inl 36, .inl 37, .inl 38, .inl 39, .inl 40, .inl 41, .inl 42, .inl 43, .inl 44, .inl 45, .inl 46, .inl 47, .inl 48, .inl 49, .inl 50, .inl 51, .inl 52, .inl 53, .inl 54, .inl 55, .inl 56, .inl 57, .inl 58, .inl 59, .inl 60, .inl 61, .inl 62, .inl 63]), .inl (0, [.inl 0, .inl 1, .inl 2, .inl 3, .inl 4, .inl 5, .inl 6, .inl 7, .inl 8, .inl 9, .inl 10, .inl 11, .inl 12, .inl 13, .inl 14, .inl 15, .inl 16, .inl 17, .inl 18, .inl 19, .inl 20, .inl 21, .inl 22, .inl 23, .inl 24, .inl 25, .inl 26, .inl 27, .inl 28, .inl 29, .inl 30, .inl 31, .inl 32, .inl 33, .inl 34, .inl 35, .inl 36, .inl 37, .inl 38, .inl 39, .inl 40, .inl 41, .inl 42, .inl 43, .inl 44, .inl 45, .inl 46, .inl 47, .inl 48, .inl 49, .inl 50, .inl 51, .inl 52, .inl 53, .inl 54, .inl 55, .inl 56, .inl 57, .inl 58, .inl 59, .inl 60, .inl 61, .inl 62, .inl 63]), .inl (0, [.inl 0, .inl 1, .inl 2, .inl 3, .inl 4, .inl 5, .inl 6, .inl 7, .inl 8, .inl 9, .inl 10, .inl 11, .inl 12, .inl 13, .inl 14, .inl 15, .inl 16, .inl 17, .inl 18, .inl 19, .inl 20, .inl 21, .inl 22, .inl 23, .inl 24, .inl 25, .inl 26, .inl 27, .inl 28, .inl 29, .inl 30, .inl 31, .inl 32, .inl 33, .inl 34, .inl 35, .inl 36, .inl 37, .inl 38, .inl 39, .inl 40, .inl 41, .inl 42, .inl 43, .inl 44, .inl 45, .inl 46, .inl 47, .inl 48, .inl 49, .inl 50, .inl 51, .inl 52, .inl 53, .inl 54, .inl 55, .inl 56, .inl 57, .inl 58, .inl 59, .inl 60, .inl 61, .inl 62, .inl 63]), .inl (0, [.inl 0, .inl 1, .inl 2, .inl 3, .inl 4, .inl 5, .inl 6, .inl 7, .inl 8, .inl 9, .inl 10, .inl 11, .inl 12, .inl 13, .inl 14, .inl 15, .inl 16, .inl 17, .inl 18, .inl 19, .inl 20, .inl 21, .inl 22, .inl 23, .inl 24, .inl 25, .inl 26, .inl 27, .inl 28, .inl 29, .inl 30, .inl 31, .inl 32, .inl 33, .inl 34, .inl 35, .inl 36, .inl 37, .inl 38, .inl 39, .inl 40, .inl 41, .inl 42, .inl 43, .inl 44, .inl 45, .inl 46, .inl 47, .inl 48, .inl 49, .inl 50, .inl 51, .inl 52, .inl 53, .inl 54, .inl 55, .inl 56, .inl 57, .inl 58, .inl 59, .inl 60, .inl 61, .inl 62, .inl 63]), .inl (0, [.inl 0, .inl 1, .inl 2, .inl 3, .inl 4, .inl 5, .inl 6, .inl 7, .inl 8, .inl 9, .inl 10, .inl 11, .inl 12, .inl 13, .inl 14, .inl 15, .inl 16, .inl 17, .inl 18, .inl 19, .inl 20, .inl 21, .inl 22, .inl 23, .inl 24, .inl 25, .inl 26, .inl 27, .inl 28, .inl 29, .inl 30, .inl 31, .inl 32, .inl 33, .inl 34, .inl 35, .inl 36, .inl 37, .inl 38, .inl 39, .inl 40, .inl 41, .inl 42, .inl 43, .inl 44, .inl 45, .inl 46, .inl 47, .inl 48, .inl 49, .inl 50, .inl 51, .inl 52, .inl 53, .inl 54, .inl 55, .inl 56, .inl 57, .inl 58, .inl 59, .inl 60, .inl 61, .inl 62, .inl 63])],
  [.inl (0, [.inl 0, .inl 1, .inl 2, .inl 3, .inl 4, .inl 5, .inl 6, .inl 7, .inl 8, .inl 9, .inl 10, .inl 11, .inl 12, .inl 13, .inl 14, .inl 15, .inl 16, .inl 17, .inl 18, .inl 19, .inl 20, .inl 21, .inl 22, .inl 23, .inl 24, .inl 25, .inl 26, .inl 27, .inl 28, .inl 29, .inl 30, .inl 31, .inl 32, .inl 33, .inl 34, .inl 35, .inl 36, .inl 37, .inl 38, .inl 39, .inl 40, .inl 41, .inl 42, .inl 43, .inl 44, .inl 45, .inl 46, .inl 47, .inl 48, .inl 49, .inl 50, .inl 51, .inl 52, .inl 53, .inl 54, .inl 55, .inl 56, .inl 57, .inl 58, .inl 59, .inl 60, .inl 61, .inl 62, .inl 63]), .inl (0, [.inl 0, .inl 1, .inl 2, .inl 3, .inl 4, .inl 5, .inl 6, .inl 7, .inl 8, .inl 9, .inl 10, .inl 11, .inl 12, .inl 13, .inl 14, .inl 15, .inl 16, .inl 17, .inl 18, .inl 19, .inl 20, .inl 21, .inl 22, .inl 23, .inl 24, .inl 25, .inl 26, .inl 27, .inl 28, .inl 29, .inl 30, .inl 31, .inl 32, .inl 33, .inl 34, .inl 35, .inl 36, .inl 37, .inl 38, .inl 39, .inl 40, .inl 41, .inl 42, .inl 43, .inl 44, .inl 45, .inl 46, .inl 47, .inl 48, .inl 49, .inl 50, .inl 51, .inl 52, .inl 53, .inl 54, .inl 55, .inl 56, .inl 57, .inl 58, .inl 59, .inl 60, .inl 61, .inl 62, .inl 63]), .inl (0, [.inl 0, .inl 1, .inl 2, .inl 3, .inl 4, .inl 5, .inl 6, .inl 7, .inl 8, .inl 9, .inl 10, .inl 11, .inl 12, .inl 13, .inl 14, .inl 15, .inl 16, .inl 17, .inl 18, .inl 19, .inl 20, .inl 21, .inl 22, .inl 23, .inl 24, .inl 25, .inl 26, .inl 27, .inl 28, .inl 29, .inl 30, .inl 31, .inl 32, .inl 33, .inl 34, .inl 35, .inl 36, .inl 37, .inl 38, .inl 39, .inl 40, .inl 41, .inl 42, .inl 43, .inl 44, .inl 45, .inl 46, .inl 47, .inl 48, .inl 49, .inl 50, .inl 51, .inl 52, .inl 53, .inl 54, .inl 55, .inl 56, .inl 57, .inl 58, .inl 59, .inl 60, .inl 61, .inl 62, .inl 63]), .inl (0, [.inl 0, .inl 1, .inl 2, .inl 3, .inl 4, .inl 5, .inl 6, .inl 7, .inl 8, .inl 9, .inl 10, .inl 11, .inl 12, .inl 13, .inl 14, .inl 15, .inl 16, .inl 17, .inl 18, .inl 19, .inl 20, .inl 21, .inl 22, .inl 23, .inl 24, .inl 25, .inl 26, .inl 27, .inl 28, .inl 29, .inl 30, .inl 31, .inl 32, .inl 33, .inl 34, .inl 35, .inl 36, .inl 37, .inl 38, .inl 39, .inl 40, .inl 41, .inl 42, .inl 43, .inl 44, .inl 45, .inl 46, .inl 47, .inl 48, .inl 49, .inl 50, .inl 51, .inl 52, .inl 53, .inl 54, .inl 55, .inl 56, .inl 57, .inl 58, .inl 59, .inl 60, .inl 61, .inl 62, .inl 63]), .inl (0, [.inl 0, .inl 1, .inl 2, .inl 3, .inl 4, .inl 5, .inl 6, .inl 7, .inl 8, .inl 9, .inl 10, .inl 11, .inl 12, .inl 13, .inl 14, .inl 15, .inl 16, .inl 17, .inl 18, .inl 19, .inl 20, .inl 21, .inl 22, .inl 23, .inl 24, .inl 25, .inl 26, .inl 27, .inl 28, .inl 29, .inl 30, .inl 31, .inl 32, .inl 33, .inl 34, .inl 35, .inl 36, .inl 37, .inl 38, .inl 39, .inl 40, .inl 41, .inl 42, .inl 43, .inl 44, .inl 45, .inl 46, .inl 47, .inl 48, .inl 49, .inl 50, .inl 51, .inl 52, .inl 53, .inl 54, .inl 55, .inl 56, .inl 57, .inl 58, .inl 59, .inl 60, .inl 61, .inl 62, .inl 63]), .inl (0, [.inl 0, .inl 1, .inl 2, .inl 3, .inl 4, .inl 5, .inl 6, .inl 7, .inl 8, .inl 9, .inl 10, .inl 11, .inl 12, .inl 13, .inl 14, .inl 15, .inl 16, .inl 17, .inl 18, .inl 19, .inl 20, .inl 21, .inl 22, .inl 23, .inl 24, .inl 25, .inl 26, .inl 27, .inl 28, .inl 29, .inl 30, .inl 31, .inl 32, .inl 33, .inl 34, .inl 35, .inl 36, .inl 37, .inl 38, .inl 39, .inl 40, .inl 41, .inl 42, .inl 43, .inl 44, .inl 45, .inl 46, .inl 47, .inl 48, .inl 49, .inl 50, .inl 51, .inl 52, .inl 53, .inl 54, .inl 55, .inl 56, .inl 57, .inl 58, .inl 59, .inl 60, .inl 61, .inl 62, .inl 63]), .inl (0, [.inl 0, .inl 1, .inl 2, .inl 3, .inl 4, .inl 5, .inl 6, .inl 7, .inl 8, .inl 9, .inl 10, .inl 11, .inl 12, .inl 13, .inl 14, .inl 15, .inl 16, .inl 17, .inl 18, .inl 19, .inl 20, .inl 21, .inl 22, .inl 23, .inl 24, .inl 25, .inl 26, .inl 27, .inl 28, .inl 29, .inl 30, .inl 31, .inl 32, .inl 33, .inl 34, .inl 35, .inl 36, .inl 37, .inl 38, .inl 39, .inl 40, .inl 41, .inl 42, .inl 43, .inl 44, .inl 45, .inl 46, .inl 47, .inl 48, .inl 49, .inl 50, .inl 51, .inl 52, .inl 53, .inl 54, .inl 55, .inl 56, .inl 57, .inl 58, .inl 59, .inl 60, .inl 61, .inl 62, .inl 63]), .inl (0, [.inl 0, .inl 1, .inl 2, .inl 3, .inl 4, .inl 5, .inl 6, .inl 7, .inl 8, .inl 9, .inl 10, .inl 11, .inl 12, .inl 13, .inl 14, .inl 15, .inl 16, .inl 17, .inl 18, .inl 19, .inl 20, .inl 21, .inl 22, .inl 23, .inl 24, .inl 25, .inl 26, .inl 27, .inl 28, .inl 29, .inl 30, .inl 31, .inl 32, .inl 33, .inl 34, .inl 35, .inl 36, .inl 37, .inl 38, .inl 39, .inl 40, .inl 41, .inl 42, .inl 43, .inl 44, .inl 45, .inl 46, .inl 47, .inl 48, .inl 49, .inl 50, .inl 51, .inl 52, .inl 53, .inl 54, .inl 55, .inl 56, .inl 57, .inl 58, .inl 59, .inl 60, .inl 61, .inl 62, .inl 63]), .inl (0, [.inl 0, .inl 1, .inl 2, .inl 3, .inl 4, .inl 5, .inl 6, .inl 7, .inl 8, .inl 9, .inl 10, .inl 11, .inl 12, .inl 13, .inl 14, .inl 15, .inl 16, .inl 17, .inl 18, .inl 19, .inl 20, .inl 21, .inl 22, .inl 23, .inl 24, .inl 25, .inl 26, .inl 27, .inl 28, .inl 29, .inl 30, .inl 31, .inl 32, .inl 33, .inl 34, .inl 35, .inl 36, .inl 37, .inl 38, .inl 39, .inl 40, .inl 41, .inl 42, .inl 43, .inl 44, .inl 45, .inl 46, .inl 47, .inl 48, .inl 49, .inl 50, .inl 51, .inl 52, .inl 53, .inl 54, .inl 55, .inl 56, .inl 57, .inl 58, .inl 59, .inl 60, .inl 61, .inl 62, .inl 63]), .inl (0, [.inl 0, .inl 1, .inl 2, .inl 3, .inl 4, .inl 5, .inl 6, .inl 7, .inl 8, .inl 9, .inl 10, .inl 11, .inl 12, .inl 13, .inl 14, .inl 15, .inl 16, .inl 17, .inl 18, .inl 19, .inl 20, .inl 21, .inl 22, .inl 23, .inl 24, .inl 25, .inl 26, .inl 27, .inl 28, .inl 29, .inl 30, .inl 31, .inl 32, .inl 33, .inl 34, .inl 35, .inl 36, .inl 37, .inl 38, .inl 39, .inl 40, .inl 41, .inl 42, .inl 43, .inl 44, .inl 45, .inl 46, .inl 47, .inl 48, .inl 49, .inl 50, .inl 51, .inl 52, .inl 53, .inl 54, .inl 55, .inl 56, .inl 57, .inl 58, .inl 59, .inl 60, .inl 61, .inl 62, .inl 63]), .inl (0, [.inl 0, .inl 1, .inl 2, .inl 3, .inl 4, .inl 5, .inl 6, .inl 7, .inl 8, .inl 9, .inl 10, .inl 11, .inl 12, .inl 13, .inl 14, .inl 15, .inl 16, .inl 17, .inl 18, .inl 19, .inl 20, .inl 21, .inl 22, .inl 23, .inl 24, .inl 25, .inl 26, .inl 27, .inl 28, .inl 29, .inl 30, .inl 31, .inl 32, .inl 33, .inl 34, .inl 35, .inl 36, .inl 37, .inl 38, .inl 39, .inl 40, .inl 41, .inl 42, .inl 43, .inl 44, .inl 45, .inl 46, .inl 47, .inl 48, .inl 49, .inl 50, .inl 51, .inl 52, .inl 53, .inl 54, .inl 55, .inl 56, .inl 57, .inl 58, .inl 59, .inl 60, .inl 61, .inl 62, .inl 63]), .inr (5, [.inr (.inr (.inl (some 324))), .inr (.inr (.inl (some 325))), .inr (.inr (.inl (some 326))), .inr (.inr (.inl (some 327))), .inr (.inr (.inl (some 328))), .inl 0]), .inl (3, en_rep 24 (.inr (.inl 0))), .inl (0, en_rep 24 (.inl 0)), .inl (0, en_rep 24 (.inl 0)), .inl (0, en_rep 24 (.inl 0)), .inl (0, en_rep 24 (.inl 0)), .inr (5, [.inr (.inr (.inl (some 330))), .inr (.inr (.inl (some 331))), .inr (.inr (.inl (some 332))), .inr (.inr (.inl (some 333))), .inr (.inr (.inl (some 334))), .inl 0]), .inl (3, en_rep 24 (.inr (.inl 0))), .inl (0, en_rep 24 (.inl 0)), .inl (0, en_rep 24 (.inl 0)), .inl (0, en_rep 24 (.inl 0)), .inl (0, en_rep 24 (.inl 0)), .inr (7, [.inl 0, .inr (.inr (.inl (some 336))), .inr (.inr (.inl (some 337))), .inr (.inr (.inl (some 338))), .inr (.inr (.inl (some 339))), .inr (.inr (.inl (some 340))), .inr (.inr (.inl (some 341)))])],
  [.inl (0, [.inl 0, .inl 0, .inl 0, .inl 0, .inl 0, .inl 0]), .inl (0, [.inl 0, .inl 0]), .inl (0, [.inl 0, .inl 0]), .inl (2, [.inl 0, .inl 0]), .inl (2, [.inl 0, .inl 0]), .inl (0, [.inl 0, .inl 0]), .inr (6, [.inl 0, .inr (.inr (.inl (some 343))), .inr (.inr (.inl (some 344))), .inr (.inr (.inl (some 345))), .inr (.inr (.inl (some 346)))]), .inl (0, en_rep 8 (.inl 0)), .inl (0, en_rep 8 (.inl 0)), .inl (0, en_rep 8 (.inl 0)), .inl (0, en_rep 9 (.inl 0)), .inr (7, [.inl 0, .inr (.inr (.inl (some 348))), .inr (.inr (.inl (some 349))), .inr (.inr (.inl (some 350))), .inr (.inr (.inl (some 351))), .inr (.inr (.inl (some 352))), .inr (.inr (.inl (some 353)))]), .inl (0, [.inl 0, .inl 0, .inl 0, .inl 0, .inl 0, .inl 0]), .inl (0, [.inl 0, .inl 0]), .inl (0, [.inl 0, .inl 0]), .inl (2, [.inl 0, .inl 0]), .inl (2, [.inl 0, .inl 0]), .inl (0, [.inl 0, .inl 0]), .inr (6, [.inl 0, .inr (.inr (.inl (some 355))), .inr (.inr (.inl (some 356))), .inr (.inr (.inl (some 357))), .inr (.inr (.inl (some 358)))]), .inl (0, en_rep 8 (.inl 0)), .inl (0, en_rep 8 (.inl 0)), .inl (0, en_rep 8 (.inl 0)), .inl (0, en_rep 9 (.inl 0)), .inr (7, [.inl 0, .inr (.inr (.inl (some 360))), .inr (.inr (.inl (some 361))), .inr (.inr (.inl (some 362))), .inr (.inr (.inl (some 363))), .inr (.inr (.inl (some 364))), .inr (.inr (.inl (some 365)))])],
  [.inl (0, [.inl 0, .inl 0, .inl 0, .inl 0, .inl 0, .inl 0]), .inl (0, [.inl 0, .inl 0]), .inl (0, [.inl 0, .inl 0]), .inl (2, [.inl 0, .inl 0]), .inl (2, [.inl 0, .inl 0]), .inl (0, [.inl 0, .inl 0]), .inr (6, [.inl 0, .inr (.inr (.inl (some 367))), .inr (.inr (.inl (some 368))), .inr (.inr (.inl (some 369))), .inr (.inr (.inl (some 370)))]), .inl (0, en_rep 8 (.inl 0)), .inl (0, en_rep 8 (.inl 0)), .inl (0, en_rep 8 (.inl 0)), .inl (0, en_rep 9 (.inl 0)), .inr (7, [.inl 0, .inr (.inr (.inl (some 372))), .inr (.inr (.inl (some 373))), .inr (.inr (.inl (some 374))), .inr (.inr (.inl (some 375))), .inr (.inr (.inl (some 376))), .inr (.inr (.inl (some 377)))]), .inl (0, [.inl 0, .inl 0, .inl 0, .inl 0, .inl 0, .inl 0]), .inl (0, [.inl 0, .inl 0]), .inl (0, [.inl 0, .inl 0]), .inl (2, [.inl 0, .inl 0]), .inl (2, [.inl 0, .inl 0]), .inl (0, [.inl 0, .inl 0]), .inr (6, [.inl 0, .inr (.inr (.inl (some 379))), .inr (.inr (.inl (some 380))), .inr (.inr (.inl (some 381))), .inr (.inr (.inl (some 382)))]), .inl (0, en_rep 8 (.inl 0)), .inl (0, en_rep 8 (.inl 0)), .inl (0, en_rep 8 (.inl 0)), .inl (0, en_rep 9 (.inl 0)), .inr (10, [.inl 0, .inr (.inr (.inl (some 384))), .inl 0, .inl 0, .inr (.inr (.inl (some 385))), .inr (.inr (.inl (some 386))), .inr (.inr (.inl (some 387))), .inl 0, .inl 0, .inr (.inr (.inl (some 388))), .inr (.inr (.inl (some 389))), .inr (.inr (.inl (some 390))), .inr (.inr (.inl (some 391))), .inl 0, .inr (.inr (.inl (some 392))), .inr (.inr (.inl (some 393))), .inr (.inr (.inl (some 394))), .inr (.inr (.inl (some 395))), .inl 0, .inl 0, .inl 0, .inl 0, .inr (.inr (.inl (some 396))), .inr (.inr (.inl (some 397))), .inr (.inr (.inl (some 398))), .inr (.inr (.inl (some 399))), .inl 0, .inr (.inr (.inl (some 400))), .inr (.inr (.inl (some 401))), .inr (.inr (.inl (some 402))), .inr (.inr (.inl (some 403))), .inr (.inr (.inl (some 404))), .inr (.inr (.inl (some 405))), .inr (.inr (.inl (some 406))), .inr (.inr (.inl (some 407))), .inr (.inr (.inl (some 408))), .inr (.inr (.inl (some 409))), .inr (.inr (.inl (some 410))), .inl 0, .inr (.inr (.inl (some 411))), .inr (.inl 0)])],
  [.inl (0, en_rep 1000 (.inl 0)), .inl (0, en_rep 1002 (.inl 0)), .inl (0, en_rep 1002 (.inl 0)), .inl (3, en_rep 1002 (.inr (.inl 0))), .inl (3, [.inr (.inl 379550), .inr (.inl 8420961), .inr (.inl 37901290), .inr (.inl 57), .inr (.inl 614722), .inr (.inl 34523964), .inr (.inl 329128), .inr (.inl 8787), .inr (.inl 176809), .inr (.inl 17996), .inr (.inl 5791338551), .inr (.inl 811933), .inr (.inl 9636), .inr (.inl 28930245), .inr (.inl 722074), .inr (.inl 975001), .inr (.inl 28443912), .inr (.inl 628412), .inr (.inl 43890888), .inr (.inl 37549136), .inr (.inl 6902), .inr (.inl 628937), .inr (.inl 4666969), .inr (.inl 407382), .inr (.inl 615203), .inr (.inl 426245), .inr (.inl 27023439), .inr (.inl 255357), .inr (.inl 36398351), .inr (.inl 1172587), .inr (.inl 36634896), .inr (.inl 973708), .inr (.inl 11749), .inr (.inl 108206), .inr (.inl 5686137), .inr (.inl 19741), .inr (.inl 1891), .inr (.inl 573), .inr (.inl 8955924273), .inr (.inl 989988), .inr (.inl 21332), .inr (.inl 5538)]), .inl (0, [.inl 2, .inl 2, .inl 0, .inl 0, .inl 0, .inl 2, .inl 0, .inl 0, .inl 0, .inl 4294967295, .inl 4294967295, .inl 4294967295] ++ en_rep 64 (.inl 4) ++ en_rep 244 (.inl 0)), .inl (0, en_rep 2200 (.inl 0)), .inl (0, en_rep 2200 (.inl 0)), .inl (3, en_rep 24 (.inr (.inl 0))), .inl (3, en_rep 24 (.inr (.inl 0))), .inl (0, en_rep 24 (.inl 0)), .inl (0, en_rep 24 (.inl 0)), .inl (0, en_rep 210 (.inl 0)), .inl (0, [.inl 0, .inl 0, .inl 0, .inl 0]), .inl (0, en_rep 1100 (.inl 0)), .inl (0, en_rep 1035 (.inl 0)), .inl (2, [.inl 0, .inl 0, .inl 0, .inl 0]), .inl (2, en_rep 64 (.inl 0)), .inl (2, en_rep 64 (.inl 0)), .inl (0, en_rep 9 (.inl 0)), .inl (0, en_rep 402 (.inl 0)), .inl (0, en_rep 984 (.inl 0)), .inl (0, en_rep 1024 (.inl 0)), .inl (0, en_rep 42 (.inl 0))],
  [.inl (0, [.inl 0, .inl 0, .inl 0, .inl 0, .inl 0, .inl 0]), .inl (0, [.inl 0, .inl 0, .inl 0, .inl 0, .inl 0, .inl 0]), .inl (0, [.inl 0, .inl 0, .inl 0, .inl 0, .inl 0, .inl 0]), .inl (0, en_rep 64 (.inl 0)), .inl (3, [.inr (.inl 0)]), en_ph, en_ph, en_ph, en_ph, en_ph, en_ph, en_ph, en_ph, en_ph, en_ph, en_ph, en_ph, en_ph, en_ph, en_ph, en_ph, en_ph, en_ph, en_ph]]
noncomputable def en_f0 : en_F := en_call en_df en_code en_ml 20
def en_ls0 : en_L := [(4, .inl 0), (3, .inr (.inr (.inl (some 412)))), (2, .inr (.inr (.inl (some 383)))), (1, .inr (.inr (.inl (some 0)))), (0, .inr (.inr (.inr (.inl 2))))]
set_option maxRecDepth 1000000 in
theorem en_start : en_isS (en_run en_df none en_f0 en_lawc (fun pc => Nat.beq pc 23) 100 0 [(0, .inr (.inr (.inr (.inl 2))))] [] en_h0 0 0) (23, en_ls0, [], en_t0, 413, 31071) = true := by decide +kernel
end ENF
end
section
section ENG
def en_bx (p : Nat × Nat) : en_V := bif Nat.beq p.1 p.2 then .inl ((p.1 + 2147483648) % 4294967296) else .inr (.inr (.inr (.inr p)))
/-- the law, from its switch with c, over a script of seven ints that lie in the boxes, comes to its return with 1 on the stack -/
noncomputable def en_end (o : Option en_O) : Bool := match o with
  | some (.inr S) => Nat.beq S.1 1357 && (en_leq en_veq S.2.2.1 [.inl 1] && (Nat.ble S.2.2.2.2.1 600002 && Nat.ble S.2.2.2.2.2 7302232))
  | _ => false
noncomputable def en_go (c : Nat) (B : List (Nat × Nat)) : Bool := en_end (en_run en_df (some (.inr (.inr (.inr (.inr (0, 4294967295)))) :: B.map en_bx)) en_f0 en_lawc (fun pc => Nat.beq pc 1357) 400 40 en_ls0 [.inl c] en_t0 413 31071)
set_option maxRecDepth 1000000 in
theorem en_go_1_0 : [[(0, 4294967295), (0, 4294967295), (0, 4294967295), (0, 4294967295), (0, 4294967295), (0, 4294967295)]].all (en_go 1) = true := by decide +kernel
set_option maxRecDepth 1000000 in
theorem en_go_2_0 : [[(0, 4294967295), (0, 4294967295), (0, 4294967295), (0, 4294967295), (0, 4294967295), (0, 4294967295)]].all (en_go 2) = true := by decide +kernel
set_option maxRecDepth 1000000 in
theorem en_go_3_0 : [[(0, 2147483647), (0, 4294967295), (0, 4294967295), (0, 4294967295), (0, 4294967295), (0, 4294967295)],
  [(2147483650, 4294967295), (0, 4294967295), (0, 4294967295), (0, 4294967295), (0, 4294967295), (0, 4294967295)],
  [(2147483648, 2147483648), (0, 2147483647), (0, 4294967295), (0, 4294967295), (0, 4294967295), (0, 4294967295)],
  [(2147483648, 2147483648), (2147483650, 4294967295), (0, 4294967295), (0, 4294967295), (0, 4294967295), (0, 4294967295)],
  [(2147483648, 2147483648), (2147483648, 2147483648), (0, 4294967295), (0, 4294967295), (0, 4294967295), (0, 4294967295)],
  [(2147483648, 2147483648), (2147483649, 2147483649), (0, 4294967295), (0, 4294967295), (0, 4294967295), (0, 4294967295)]].all (en_go 3) = true := by decide +kernel
set_option maxRecDepth 1000000 in
theorem en_go_3_1 : [[(2147483649, 2147483649), (0, 2147483647), (0, 4294967295), (0, 4294967295), (0, 4294967295), (0, 4294967295)],
  [(2147483649, 2147483649), (2147483650, 4294967295), (0, 4294967295), (0, 4294967295), (0, 4294967295), (0, 4294967295)],
  [(2147483649, 2147483649), (2147483648, 2147483648), (0, 4294967295), (0, 4294967295), (0, 4294967295), (0, 4294967295)],
  [(2147483649, 2147483649), (2147483649, 2147483649), (0, 4294967295), (0, 4294967295), (0, 4294967295), (0, 4294967295)]].all (en_go 3) = true := by decide +kernel
set_option maxRecDepth 1000000 in
theorem en_go_4_0 : [[(0, 2147483647), (0, 4294967295), (0, 4294967295), (0, 4294967295), (0, 4294967295), (0, 4294967295)],
  [(2147483650, 4294967295), (0, 4294967295), (0, 4294967295), (0, 4294967295), (0, 4294967295), (0, 4294967295)],
  [(2147483648, 2147483648), (0, 2147483647), (0, 4294967295), (0, 4294967295), (0, 4294967295), (0, 4294967295)],
  [(2147483648, 2147483648), (2147483650, 4294967295), (0, 4294967295), (0, 4294967295), (0, 4294967295), (0, 4294967295)],
  [(2147483649, 2147483649), (0, 2147483647), (0, 4294967295), (0, 4294967295), (0, 4294967295), (0, 4294967295)],
  [(2147483649, 2147483649), (2147483650, 4294967295), (0, 4294967295), (0, 4294967295), (0, 4294967295), (0, 4294967295)]].all (en_go 4) = true := by decide +kernel
set_option maxRecDepth 1000000 in
theorem en_go_4_1 : [[(2147483648, 2147483648), (2147483648, 2147483648), (0, 2147483647), (0, 4294967295), (0, 4294967295), (0, 4294967295)],
  [(2147483648, 2147483648), (2147483648, 2147483648), (2147483849, 4294967295), (0, 4294967295), (0, 4294967295), (0, 4294967295)],
  [(2147483648, 2147483648), (2147483648, 2147483648), (2147483648, 2147483848), (0, 4294967295), (0, 4294967295), (0, 4294967295)],
  [(2147483648, 2147483648), (2147483649, 2147483649), (0, 2147483647), (0, 4294967295), (0, 4294967295), (0, 4294967295)],
  [(2147483648, 2147483648), (2147483649, 2147483649), (2147483849, 4294967295), (0, 4294967295), (0, 4294967295), (0, 4294967295)],
  [(2147483648, 2147483648), (2147483649, 2147483649), (2147483648, 2147483848), (0, 4294967295), (0, 4294967295), (0, 4294967295)]].all (en_go 4) = true := by decide +kernel
set_option maxRecDepth 1000000 in
theorem en_go_4_2 : [[(2147483649, 2147483649), (2147483648, 2147483648), (0, 2147483647), (0, 4294967295), (0, 4294967295), (0, 4294967295)],
  [(2147483649, 2147483649), (2147483648, 2147483648), (2147483849, 4294967295), (0, 4294967295), (0, 4294967295), (0, 4294967295)],
  [(2147483649, 2147483649), (2147483648, 2147483648), (2147483648, 2147483848), (0, 4294967295), (0, 4294967295), (0, 4294967295)],
  [(2147483649, 2147483649), (2147483649, 2147483649), (0, 2147483647), (0, 4294967295), (0, 4294967295), (0, 4294967295)],
  [(2147483649, 2147483649), (2147483649, 2147483649), (2147483849, 4294967295), (0, 4294967295), (0, 4294967295), (0, 4294967295)],
  [(2147483649, 2147483649), (2147483649, 2147483649), (2147483648, 2147483848), (0, 4294967295), (0, 4294967295), (0, 4294967295)]].all (en_go 4) = true := by decide +kernel
set_option maxRecDepth 1000000 in
theorem en_go_8_0 : [[(0, 2147483647), (0, 4294967295), (0, 4294967295), (0, 4294967295), (0, 4294967295), (0, 4294967295)],
  [(2147483648, 4294967295), (0, 4294967295), (0, 4294967295), (0, 4294967295), (0, 4294967295), (0, 4294967295)]].all (en_go 8) = true := by decide +kernel
set_option maxRecDepth 1000000 in
theorem en_go_9_0 : [[(0, 2147483647), (0, 4294967295), (0, 4294967295), (0, 4294967295), (0, 4294967295), (0, 4294967295)],
  [(2147483648, 4294967295), (0, 4294967295), (0, 4294967295), (0, 4294967295), (0, 4294967295), (0, 4294967295)]].all (en_go 9) = true := by decide +kernel
set_option maxRecDepth 1000000 in
theorem en_go_10_0 : [[(0, 2147483647), (0, 4294967295), (0, 4294967295), (0, 4294967295), (0, 4294967295), (0, 4294967295)],
  [(2147483648, 4294967295), (0, 4294967295), (0, 4294967295), (0, 4294967295), (0, 4294967295), (0, 4294967295)]].all (en_go 10) = true := by decide +kernel
set_option maxRecDepth 1000000 in
theorem en_go_11_0 : [[(0, 4294967295), (0, 4294967295), (0, 4294967295), (0, 4294967295), (0, 4294967295), (0, 4294967295)]].all (en_go 11) = true := by decide +kernel
set_option maxRecDepth 1000000 in
theorem en_go_12_0 : [[(0, 2147483647), (0, 4294967295), (0, 4294967295), (0, 4294967295), (0, 4294967295), (0, 4294967295)],
  [(2147483651, 4294967295), (0, 4294967295), (0, 4294967295), (0, 4294967295), (0, 4294967295), (0, 4294967295)],
  [(2147483648, 2147483648), (0, 4294967295), (0, 4294967295), (0, 4294967295), (0, 4294967295), (0, 4294967295)],
  [(2147483649, 2147483649), (0, 4294967295), (0, 4294967295), (0, 4294967295), (0, 4294967295), (0, 4294967295)],
  [(2147483650, 2147483650), (0, 4294967295), (0, 4294967295), (0, 4294967295), (0, 4294967295), (0, 4294967295)]].all (en_go 12) = true := by decide +kernel
set_option maxRecDepth 1000000 in
theorem en_go_13_0 : [[(0, 2147483647), (0, 4294967295), (0, 4294967295), (0, 4294967295), (0, 4294967295), (0, 4294967295)],
  [(2147483648, 4294967295), (0, 4294967295), (0, 4294967295), (0, 4294967295), (0, 4294967295), (0, 4294967295)]].all (en_go 13) = true := by decide +kernel
set_option maxRecDepth 1000000 in
theorem en_go_14_0 : [[(0, 2147483647), (0, 4294967295), (0, 4294967295), (0, 4294967295), (0, 4294967295), (0, 4294967295)],
  [(2147483648, 4294967295), (0, 4294967295), (0, 4294967295), (0, 4294967295), (0, 4294967295), (0, 4294967295)]].all (en_go 14) = true := by decide +kernel
set_option maxRecDepth 1000000 in
theorem en_go_15_0 : [[(0, 2147483647), (0, 4294967295), (0, 4294967295), (0, 4294967295), (0, 4294967295), (0, 4294967295)],
  [(2147483648, 4294967295), (0, 4294967295), (0, 4294967295), (0, 4294967295), (0, 4294967295), (0, 4294967295)]].all (en_go 15) = true := by decide +kernel
set_option maxRecDepth 1000000 in
theorem en_go_16_0 : [[(0, 2147483647), (0, 4294967295), (0, 4294967295), (0, 4294967295), (0, 4294967295), (0, 4294967295)],
  [(2147483648, 4294967295), (0, 4294967295), (0, 4294967295), (0, 4294967295), (0, 4294967295), (0, 4294967295)]].all (en_go 16) = true := by decide +kernel
set_option maxRecDepth 1000000 in
theorem en_go_17_0 : [[(0, 2147483647), (0, 4294967295), (0, 4294967295), (0, 4294967295), (0, 4294967295), (0, 4294967295)],
  [(2147483648, 4294967295), (0, 4294967295), (0, 4294967295), (0, 4294967295), (0, 4294967295), (0, 4294967295)]].all (en_go 17) = true := by decide +kernel
set_option maxRecDepth 1000000 in
theorem en_go_18_0 : [[(0, 4294967295), (0, 4294967295), (0, 4294967295), (0, 4294967295), (0, 4294967295), (0, 4294967295)]].all (en_go 18) = true := by decide +kernel
set_option maxRecDepth 1000000 in
theorem en_go_19_0 : [[(0, 4294967295), (0, 4294967295), (0, 4294967295), (0, 4294967295), (0, 4294967295), (0, 4294967295)]].all (en_go 19) = true := by decide +kernel
set_option maxRecDepth 1000000 in
theorem en_go_20_0 : [[(0, 2147483647), (0, 4294967295), (0, 4294967295), (0, 4294967295), (0, 4294967295), (0, 4294967295)],
  [(2147483648, 4294967295), (0, 4294967295), (0, 4294967295), (0, 4294967295), (0, 4294967295), (0, 4294967295)]].all (en_go 20) = true := by decide +kernel
set_option maxRecDepth 1000000 in
theorem en_go_23_0 : [[(0, 2147483647), (0, 4294967295), (0, 4294967295), (0, 4294967295), (0, 4294967295), (0, 4294967295)],
  [(2147483648, 4294967295), (0, 4294967295), (0, 4294967295), (0, 4294967295), (0, 4294967295), (0, 4294967295)]].all (en_go 23) = true := by decide +kernel
set_option maxRecDepth 1000000 in
theorem en_go_24_0 : [[(0, 2147483648), (0, 4294967295), (0, 4294967295), (0, 4294967295), (0, 4294967295), (0, 4294967295)],
  [(2147483679, 4294967295), (0, 4294967295), (0, 4294967295), (0, 4294967295), (0, 4294967295), (0, 4294967295)],
  [(2147483649, 2147483678), (0, 2147483647), (0, 4294967295), (0, 4294967295), (0, 4294967295), (0, 4294967295)],
  [(2147483649, 2147483678), (2147483650, 4294967295), (0, 4294967295), (0, 4294967295), (0, 4294967295), (0, 4294967295)]].all (en_go 24) = true := by decide +kernel
set_option maxRecDepth 1000000 in
theorem en_go_25_0 : [[(0, 4294967295), (0, 4294967295), (0, 4294967295), (0, 4294967295), (0, 4294967295), (0, 4294967295)]].all (en_go 25) = true := by decide +kernel
set_option maxRecDepth 1000000 in
theorem en_go_26_0 : [[(0, 2147483647), (0, 4294967295), (0, 4294967295), (0, 4294967295), (0, 4294967295), (0, 4294967295)],
  [(2147483650, 4294967295), (0, 4294967295), (0, 4294967295), (0, 4294967295), (0, 4294967295), (0, 4294967295)],
  [(2147483648, 2147483648), (0, 4294967295), (0, 4294967295), (0, 4294967295), (0, 4294967295), (0, 4294967295)],
  [(2147483649, 2147483649), (0, 4294967295), (0, 4294967295), (0, 4294967295), (0, 4294967295), (0, 4294967295)]].all (en_go 26) = true := by decide +kernel
set_option maxRecDepth 1000000 in
theorem en_go_27_0 : [[(0, 2147483647), (0, 4294967295), (0, 4294967295), (0, 4294967295), (0, 4294967295), (0, 4294967295)],
  [(2147493648, 4294967295), (0, 4294967295), (0, 4294967295), (0, 4294967295), (0, 4294967295), (0, 4294967295)],
  [(2147483648, 2147493647), (0, 2147483648), (0, 4294967295), (0, 4294967295), (0, 4294967295), (0, 4294967295)],
  [(2147483648, 2147493647), (2147483749, 4294967295), (0, 4294967295), (0, 4294967295), (0, 4294967295), (0, 4294967295)],
  [(2147483648, 2147493647), (2147483649, 2147483748), (0, 2147483647), (0, 4294967295), (0, 4294967295), (0, 4294967295)],
  [(2147483648, 2147493647), (2147483649, 2147483748), (2147483651, 4294967295), (0, 4294967295), (0, 4294967295), (0, 4294967295)]].all (en_go 27) = true := by decide +kernel
set_option maxRecDepth 1000000 in
theorem en_go_28_0 : [[(0, 2147483647), (2147483648, 2147483648), (0, 4294967295), (0, 4294967295), (0, 4294967295), (0, 4294967295)],
  [(0, 2147483647), (0, 2147483647), (0, 4294967295), (0, 4294967295), (0, 4294967295), (0, 4294967295)],
  [(0, 2147483647), (2147483649, 4294967295), (0, 4294967295), (0, 4294967295), (0, 4294967295), (0, 4294967295)],
  [(2147483652, 4294967295), (2147483648, 2147483648), (0, 4294967295), (0, 4294967295), (0, 4294967295), (0, 4294967295)],
  [(2147483652, 4294967295), (0, 2147483647), (0, 4294967295), (0, 4294967295), (0, 4294967295), (0, 4294967295)],
  [(2147483652, 4294967295), (2147483649, 4294967295), (0, 4294967295), (0, 4294967295), (0, 4294967295), (0, 4294967295)]].all (en_go 28) = true := by decide +kernel
set_option maxRecDepth 1000000 in
theorem en_go_28_1 : [[(2147483648, 2147483648), (2147483648, 2147483648), (0, 4294967295), (0, 4294967295), (0, 4294967295), (0, 4294967295)],
  [(2147483648, 2147483648), (0, 2147483647), (0, 4294967295), (0, 4294967295), (0, 4294967295), (0, 4294967295)],
  [(2147483648, 2147483648), (2147483649, 4294967295), (0, 4294967295), (0, 4294967295), (0, 4294967295), (0, 4294967295)],
  [(2147483649, 2147483649), (2147483648, 2147483648), (0, 4294967295), (0, 4294967295), (0, 4294967295), (0, 4294967295)],
  [(2147483649, 2147483649), (0, 2147483647), (0, 4294967295), (0, 4294967295), (0, 4294967295), (0, 4294967295)],
  [(2147483649, 2147483649), (2147483649, 4294967295), (0, 4294967295), (0, 4294967295), (0, 4294967295), (0, 4294967295)]].all (en_go 28) = true := by decide +kernel
set_option maxRecDepth 1000000 in
theorem en_go_28_2 : [[(2147483650, 2147483650), (2147483648, 2147483648), (0, 4294967295), (0, 4294967295), (0, 4294967295), (0, 4294967295)],
  [(2147483650, 2147483650), (0, 2147483647), (0, 4294967295), (0, 4294967295), (0, 4294967295), (0, 4294967295)],
  [(2147483650, 2147483650), (2147483649, 4294967295), (0, 4294967295), (0, 4294967295), (0, 4294967295), (0, 4294967295)],
  [(2147483651, 2147483651), (2147483648, 2147483648), (0, 4294967295), (0, 4294967295), (0, 4294967295), (0, 4294967295)],
  [(2147483651, 2147483651), (0, 2147483647), (0, 4294967295), (0, 4294967295), (0, 4294967295), (0, 4294967295)],
  [(2147483651, 2147483651), (2147483649, 4294967295), (0, 4294967295), (0, 4294967295), (0, 4294967295), (0, 4294967295)]].all (en_go 28) = true := by decide +kernel
set_option maxRecDepth 1000000 in
theorem en_go_29_0 : [[(0, 2147483647), (0, 4294967295), (0, 4294967295), (0, 4294967295), (0, 4294967295), (0, 4294967295)],
  [(2147483661, 4294967295), (0, 4294967295), (0, 4294967295), (0, 4294967295), (0, 4294967295), (0, 4294967295)],
  [(2147483648, 2147483648), (0, 4294967295), (0, 4294967295), (0, 4294967295), (0, 4294967295), (0, 4294967295)],
  [(2147483649, 2147483649), (0, 4294967295), (0, 4294967295), (0, 4294967295), (0, 4294967295), (0, 4294967295)],
  [(2147483650, 2147483650), (0, 4294967295), (0, 4294967295), (0, 4294967295), (0, 4294967295), (0, 4294967295)],
  [(2147483651, 2147483651), (0, 4294967295), (0, 4294967295), (0, 4294967295), (0, 4294967295), (0, 4294967295)]].all (en_go 29) = true := by decide +kernel
set_option maxRecDepth 1000000 in
theorem en_go_29_1 : [[(2147483652, 2147483652), (0, 4294967295), (0, 4294967295), (0, 4294967295), (0, 4294967295), (0, 4294967295)],
  [(2147483653, 2147483653), (0, 4294967295), (0, 4294967295), (0, 4294967295), (0, 4294967295), (0, 4294967295)],
  [(2147483654, 2147483654), (0, 4294967295), (0, 4294967295), (0, 4294967295), (0, 4294967295), (0, 4294967295)],
  [(2147483655, 2147483655), (0, 4294967295), (0, 4294967295), (0, 4294967295), (0, 4294967295), (0, 4294967295)],
  [(2147483656, 2147483656), (0, 4294967295), (0, 4294967295), (0, 4294967295), (0, 4294967295), (0, 4294967295)],
  [(2147483657, 2147483657), (0, 4294967295), (0, 4294967295), (0, 4294967295), (0, 4294967295), (0, 4294967295)]].all (en_go 29) = true := by decide +kernel
set_option maxRecDepth 1000000 in
theorem en_go_29_2 : [[(2147483658, 2147483658), (0, 4294967295), (0, 4294967295), (0, 4294967295), (0, 4294967295), (0, 4294967295)],
  [(2147483659, 2147483659), (0, 4294967295), (0, 4294967295), (0, 4294967295), (0, 4294967295), (0, 4294967295)],
  [(2147483660, 2147483660), (0, 4294967295), (0, 4294967295), (0, 4294967295), (0, 4294967295), (0, 4294967295)]].all (en_go 29) = true := by decide +kernel
set_option maxRecDepth 1000000 in
theorem en_go_30_0 : [[(0, 4294967295), (0, 4294967295), (0, 4294967295), (0, 4294967295), (0, 4294967295), (0, 4294967295)]].all (en_go 30) = true := by decide +kernel
set_option maxRecDepth 1000000 in
theorem en_go_31_0 : [[(0, 4294967295), (0, 4294967295), (0, 4294967295), (0, 4294967295), (0, 4294967295), (0, 4294967295)]].all (en_go 31) = true := by decide +kernel
end ENG
end
section
section ENH
set_option maxRecDepth 1000000 in
theorem en_go_7_0 : [[(0, 2147483648), (0, 4294967295), (0, 4294967295), (0, 4294967295), (0, 4294967295), (0, 4294967295)],
  [(2147483679, 4294967295), (0, 4294967295), (0, 4294967295), (0, 4294967295), (0, 4294967295), (0, 4294967295)],
  [(2147483649, 2147483649), (0, 4294967295), (0, 4294967295), (0, 4294967295), (0, 4294967295), (0, 4294967295)],
  [(2147483650, 2147483650), (0, 4294967295), (0, 4294967295), (0, 4294967295), (0, 4294967295), (0, 4294967295)],
  [(2147483651, 2147483651), (0, 4294967295), (0, 4294967295), (0, 4294967295), (0, 4294967295), (0, 4294967295)]].all (en_go 7) = true := by decide +kernel
set_option maxRecDepth 1000000 in
theorem en_go_7_1 : [[(2147483652, 2147483652), (0, 4294967295), (0, 4294967295), (0, 4294967295), (0, 4294967295), (0, 4294967295)],
  [(2147483653, 2147483653), (0, 4294967295), (0, 4294967295), (0, 4294967295), (0, 4294967295), (0, 4294967295)],
  [(2147483654, 2147483654), (0, 4294967295), (0, 4294967295), (0, 4294967295), (0, 4294967295), (0, 4294967295)],
  [(2147483655, 2147483655), (0, 4294967295), (0, 4294967295), (0, 4294967295), (0, 4294967295), (0, 4294967295)],
  [(2147483656, 2147483656), (0, 4294967295), (0, 4294967295), (0, 4294967295), (0, 4294967295), (0, 4294967295)]].all (en_go 7) = true := by decide +kernel
set_option maxRecDepth 1000000 in
theorem en_go_7_2 : [[(2147483657, 2147483657), (0, 4294967295), (0, 4294967295), (0, 4294967295), (0, 4294967295), (0, 4294967295)],
  [(2147483658, 2147483658), (0, 4294967295), (0, 4294967295), (0, 4294967295), (0, 4294967295), (0, 4294967295)],
  [(2147483659, 2147483659), (0, 4294967295), (0, 4294967295), (0, 4294967295), (0, 4294967295), (0, 4294967295)],
  [(2147483660, 2147483660), (0, 4294967295), (0, 4294967295), (0, 4294967295), (0, 4294967295), (0, 4294967295)],
  [(2147483661, 2147483661), (0, 4294967295), (0, 4294967295), (0, 4294967295), (0, 4294967295), (0, 4294967295)]].all (en_go 7) = true := by decide +kernel
set_option maxRecDepth 1000000 in
theorem en_go_7_3 : [[(2147483662, 2147483662), (0, 4294967295), (0, 4294967295), (0, 4294967295), (0, 4294967295), (0, 4294967295)],
  [(2147483663, 2147483663), (0, 4294967295), (0, 4294967295), (0, 4294967295), (0, 4294967295), (0, 4294967295)],
  [(2147483664, 2147483664), (0, 4294967295), (0, 4294967295), (0, 4294967295), (0, 4294967295), (0, 4294967295)],
  [(2147483665, 2147483665), (0, 4294967295), (0, 4294967295), (0, 4294967295), (0, 4294967295), (0, 4294967295)],
  [(2147483666, 2147483666), (0, 4294967295), (0, 4294967295), (0, 4294967295), (0, 4294967295), (0, 4294967295)]].all (en_go 7) = true := by decide +kernel
set_option maxRecDepth 1000000 in
theorem en_go_7_4 : [[(2147483667, 2147483667), (0, 4294967295), (0, 4294967295), (0, 4294967295), (0, 4294967295), (0, 4294967295)],
  [(2147483668, 2147483668), (0, 4294967295), (0, 4294967295), (0, 4294967295), (0, 4294967295), (0, 4294967295)],
  [(2147483669, 2147483669), (0, 4294967295), (0, 4294967295), (0, 4294967295), (0, 4294967295), (0, 4294967295)],
  [(2147483670, 2147483670), (0, 4294967295), (0, 4294967295), (0, 4294967295), (0, 4294967295), (0, 4294967295)],
  [(2147483671, 2147483671), (0, 4294967295), (0, 4294967295), (0, 4294967295), (0, 4294967295), (0, 4294967295)]].all (en_go 7) = true := by decide +kernel
set_option maxRecDepth 1000000 in
theorem en_go_7_5 : [[(2147483672, 2147483672), (0, 4294967295), (0, 4294967295), (0, 4294967295), (0, 4294967295), (0, 4294967295)],
  [(2147483673, 2147483673), (0, 4294967295), (0, 4294967295), (0, 4294967295), (0, 4294967295), (0, 4294967295)],
  [(2147483674, 2147483674), (0, 4294967295), (0, 4294967295), (0, 4294967295), (0, 4294967295), (0, 4294967295)],
  [(2147483675, 2147483675), (0, 4294967295), (0, 4294967295), (0, 4294967295), (0, 4294967295), (0, 4294967295)],
  [(2147483676, 2147483676), (0, 4294967295), (0, 4294967295), (0, 4294967295), (0, 4294967295), (0, 4294967295)]].all (en_go 7) = true := by decide +kernel
set_option maxRecDepth 1000000 in
theorem en_go_7_6 : [[(2147483677, 2147483677), (0, 4294967295), (0, 4294967295), (0, 4294967295), (0, 4294967295), (0, 4294967295)],
  [(2147483678, 2147483678), (0, 4294967295), (0, 4294967295), (0, 4294967295), (0, 4294967295), (0, 4294967295)]].all (en_go 7) = true := by decide +kernel
end ENH
end
section
section ENI
set_option maxRecDepth 1000000 in
theorem en_go_22_0 : [[(0, 2147483647), (0, 4294967295), (0, 4294967295), (0, 4294967295), (0, 4294967295), (0, 4294967295)],
  [(2147483649, 4294967295), (0, 4294967295), (0, 4294967295), (0, 4294967295), (0, 4294967295), (0, 4294967295)],
  [(2147483648, 2147483648), (0, 2147483647), (0, 4294967295), (0, 4294967295), (0, 4294967295), (0, 4294967295)],
  [(2147483648, 2147483648), (2147483689, 4294967295), (0, 4294967295), (0, 4294967295), (0, 4294967295), (0, 4294967295)],
  [(2147483648, 2147483648), (2147483648, 2147483648), (0, 4294967295), (0, 4294967295), (0, 4294967295), (0, 4294967295)],
  [(2147483648, 2147483648), (2147483649, 2147483649), (0, 4294967295), (0, 4294967295), (0, 4294967295), (0, 4294967295)],
  [(2147483648, 2147483648), (2147483650, 2147483650), (0, 4294967295), (0, 4294967295), (0, 4294967295), (0, 4294967295)],
  [(2147483648, 2147483648), (2147483651, 2147483651), (0, 4294967295), (0, 4294967295), (0, 4294967295), (0, 4294967295)]].all (en_go 22) = true := by decide +kernel
set_option maxRecDepth 1000000 in
theorem en_go_22_1 : [[(2147483648, 2147483648), (2147483652, 2147483652), (0, 4294967295), (0, 4294967295), (0, 4294967295), (0, 4294967295)],
  [(2147483648, 2147483648), (2147483653, 2147483653), (0, 4294967295), (0, 4294967295), (0, 4294967295), (0, 4294967295)],
  [(2147483648, 2147483648), (2147483654, 2147483654), (0, 4294967295), (0, 4294967295), (0, 4294967295), (0, 4294967295)],
  [(2147483648, 2147483648), (2147483655, 2147483655), (0, 4294967295), (0, 4294967295), (0, 4294967295), (0, 4294967295)],
  [(2147483648, 2147483648), (2147483656, 2147483656), (0, 4294967295), (0, 4294967295), (0, 4294967295), (0, 4294967295)],
  [(2147483648, 2147483648), (2147483657, 2147483657), (0, 4294967295), (0, 4294967295), (0, 4294967295), (0, 4294967295)],
  [(2147483648, 2147483648), (2147483658, 2147483658), (0, 4294967295), (0, 4294967295), (0, 4294967295), (0, 4294967295)],
  [(2147483648, 2147483648), (2147483659, 2147483659), (0, 4294967295), (0, 4294967295), (0, 4294967295), (0, 4294967295)]].all (en_go 22) = true := by decide +kernel
set_option maxRecDepth 1000000 in
theorem en_go_22_2 : [[(2147483648, 2147483648), (2147483660, 2147483660), (0, 4294967295), (0, 4294967295), (0, 4294967295), (0, 4294967295)],
  [(2147483648, 2147483648), (2147483661, 2147483661), (0, 4294967295), (0, 4294967295), (0, 4294967295), (0, 4294967295)],
  [(2147483648, 2147483648), (2147483662, 2147483662), (0, 4294967295), (0, 4294967295), (0, 4294967295), (0, 4294967295)],
  [(2147483648, 2147483648), (2147483663, 2147483663), (0, 4294967295), (0, 4294967295), (0, 4294967295), (0, 4294967295)],
  [(2147483648, 2147483648), (2147483664, 2147483664), (0, 4294967295), (0, 4294967295), (0, 4294967295), (0, 4294967295)],
  [(2147483648, 2147483648), (2147483665, 2147483665), (0, 4294967295), (0, 4294967295), (0, 4294967295), (0, 4294967295)],
  [(2147483648, 2147483648), (2147483666, 2147483666), (0, 4294967295), (0, 4294967295), (0, 4294967295), (0, 4294967295)],
  [(2147483648, 2147483648), (2147483667, 2147483667), (0, 4294967295), (0, 4294967295), (0, 4294967295), (0, 4294967295)]].all (en_go 22) = true := by decide +kernel
set_option maxRecDepth 1000000 in
theorem en_go_22_3 : [[(2147483648, 2147483648), (2147483668, 2147483668), (0, 4294967295), (0, 4294967295), (0, 4294967295), (0, 4294967295)],
  [(2147483648, 2147483648), (2147483669, 2147483669), (0, 4294967295), (0, 4294967295), (0, 4294967295), (0, 4294967295)],
  [(2147483648, 2147483648), (2147483670, 2147483670), (0, 4294967295), (0, 4294967295), (0, 4294967295), (0, 4294967295)],
  [(2147483648, 2147483648), (2147483671, 2147483671), (0, 4294967295), (0, 4294967295), (0, 4294967295), (0, 4294967295)],
  [(2147483648, 2147483648), (2147483672, 2147483672), (0, 4294967295), (0, 4294967295), (0, 4294967295), (0, 4294967295)],
  [(2147483648, 2147483648), (2147483673, 2147483673), (0, 4294967295), (0, 4294967295), (0, 4294967295), (0, 4294967295)],
  [(2147483648, 2147483648), (2147483674, 2147483674), (0, 4294967295), (0, 4294967295), (0, 4294967295), (0, 4294967295)],
  [(2147483648, 2147483648), (2147483675, 2147483675), (0, 4294967295), (0, 4294967295), (0, 4294967295), (0, 4294967295)]].all (en_go 22) = true := by decide +kernel
set_option maxRecDepth 1000000 in
theorem en_go_22_4 : [[(2147483648, 2147483648), (2147483676, 2147483676), (0, 4294967295), (0, 4294967295), (0, 4294967295), (0, 4294967295)],
  [(2147483648, 2147483648), (2147483677, 2147483677), (0, 4294967295), (0, 4294967295), (0, 4294967295), (0, 4294967295)],
  [(2147483648, 2147483648), (2147483678, 2147483678), (0, 4294967295), (0, 4294967295), (0, 4294967295), (0, 4294967295)],
  [(2147483648, 2147483648), (2147483679, 2147483679), (0, 4294967295), (0, 4294967295), (0, 4294967295), (0, 4294967295)],
  [(2147483648, 2147483648), (2147483680, 2147483680), (0, 4294967295), (0, 4294967295), (0, 4294967295), (0, 4294967295)],
  [(2147483648, 2147483648), (2147483681, 2147483681), (0, 4294967295), (0, 4294967295), (0, 4294967295), (0, 4294967295)],
  [(2147483648, 2147483648), (2147483682, 2147483682), (0, 4294967295), (0, 4294967295), (0, 4294967295), (0, 4294967295)],
  [(2147483648, 2147483648), (2147483683, 2147483683), (0, 4294967295), (0, 4294967295), (0, 4294967295), (0, 4294967295)]].all (en_go 22) = true := by decide +kernel
set_option maxRecDepth 1000000 in
theorem en_go_22_5 : [[(2147483648, 2147483648), (2147483684, 2147483684), (0, 4294967295), (0, 4294967295), (0, 4294967295), (0, 4294967295)],
  [(2147483648, 2147483648), (2147483685, 2147483685), (0, 4294967295), (0, 4294967295), (0, 4294967295), (0, 4294967295)],
  [(2147483648, 2147483648), (2147483686, 2147483686), (0, 4294967295), (0, 4294967295), (0, 4294967295), (0, 4294967295)],
  [(2147483648, 2147483648), (2147483687, 2147483687), (0, 4294967295), (0, 4294967295), (0, 4294967295), (0, 4294967295)],
  [(2147483648, 2147483648), (2147483688, 2147483688), (0, 4294967295), (0, 4294967295), (0, 4294967295), (0, 4294967295)]].all (en_go 22) = true := by decide +kernel
end ENI
end
