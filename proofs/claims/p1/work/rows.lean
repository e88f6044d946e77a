section
-- ===== PART A: goes FIRST, ahead of the names: the tables' words, and 'selects' of the private methods out of them =====
/-- a private method of a class that the tables say can be made, by its rows of tables_1 -/
def lw_okq (q : MethodName × Nat) : Prop := (q.1.cls ≠ "java/lang/invoke/MethodHandle" ∧ q.1.cls ≠ "java/lang/invoke/VarHandle") ∧ Cond.instantiable q.1.cls q.2 ∈ tables_1 ∧ Cond.privateMethod q.1 ∈ tables_1 ∧ Cond.instanceMethod q.1 ∈ tables_1
theorem lw_p0 : lw_okq (⟨"PackWeeks", "beginPack", "()V"⟩, 14) := ⟨⟨by decide +kernel, by decide +kernel⟩, List.mem_of_getElem? (i := 22) (by decide +kernel), List.mem_of_getElem? (i := 419) (by decide +kernel), List.mem_of_getElem? (i := 420) (by decide +kernel)⟩
theorem lw_p1 : lw_okq (⟨"PackWeeks$Tape", "cutToken", "(I)I"⟩, 9) := ⟨⟨by decide +kernel, by decide +kernel⟩, List.mem_of_getElem? (i := 30) (by decide +kernel), List.mem_of_getElem? (i := 504) (by decide +kernel), List.mem_of_getElem? (i := 505) (by decide +kernel)⟩
theorem lw_p2 : lw_okq (⟨"PackWeeks$Tape", "cutWord", "(I)I"⟩, 9) := ⟨⟨by decide +kernel, by decide +kernel⟩, List.mem_of_getElem? (i := 30) (by decide +kernel), List.mem_of_getElem? (i := 511) (by decide +kernel), List.mem_of_getElem? (i := 512) (by decide +kernel)⟩
theorem lw_p3 : lw_okq (⟨"PackWeeks$Tape", "addToken", "(IIJ)V"⟩, 9) := ⟨⟨by decide +kernel, by decide +kernel⟩, List.mem_of_getElem? (i := 30) (by decide +kernel), List.mem_of_getElem? (i := 516) (by decide +kernel), List.mem_of_getElem? (i := 517) (by decide +kernel)⟩
theorem lw_p4 : lw_okq (⟨"PackWeeks$Tape", "cutNumber", "(I)I"⟩, 9) := ⟨⟨by decide +kernel, by decide +kernel⟩, List.mem_of_getElem? (i := 30) (by decide +kernel), List.mem_of_getElem? (i := 528) (by decide +kernel), List.mem_of_getElem? (i := 529) (by decide +kernel)⟩
theorem lw_p5 : lw_okq (⟨"PackWeeks$Reader", "packLine", "(LPackWeeks$Word;)V"⟩, 8) := ⟨⟨by decide +kernel, by decide +kernel⟩, List.mem_of_getElem? (i := 71) (by decide +kernel), List.mem_of_getElem? (i := 582) (by decide +kernel), List.mem_of_getElem? (i := 583) (by decide +kernel)⟩
theorem lw_p6 : lw_okq (⟨"PackWeeks$Reader", "driftLine", "()V"⟩, 8) := ⟨⟨by decide +kernel, by decide +kernel⟩, List.mem_of_getElem? (i := 71) (by decide +kernel), List.mem_of_getElem? (i := 588) (by decide +kernel), List.mem_of_getElem? (i := 589) (by decide +kernel)⟩
theorem lw_p7 : lw_okq (⟨"PackWeeks$Reader", "thingLine", "()V"⟩, 8) := ⟨⟨by decide +kernel, by decide +kernel⟩, List.mem_of_getElem? (i := 71) (by decide +kernel), List.mem_of_getElem? (i := 600) (by decide +kernel), List.mem_of_getElem? (i := 601) (by decide +kernel)⟩
theorem lw_p8 : lw_okq (⟨"PackWeeks$Reader", "startRow", "(LPackWeeks$Rows;)V"⟩, 8) := ⟨⟨by decide +kernel, by decide +kernel⟩, List.mem_of_getElem? (i := 71) (by decide +kernel), List.mem_of_getElem? (i := 604) (by decide +kernel), List.mem_of_getElem? (i := 605) (by decide +kernel)⟩
theorem lw_p9 : lw_okq (⟨"PackWeeks$Reader", "newName", "()J"⟩, 8) := ⟨⟨by decide +kernel, by decide +kernel⟩, List.mem_of_getElem? (i := 71) (by decide +kernel), List.mem_of_getElem? (i := 613) (by decide +kernel), List.mem_of_getElem? (i := 614) (by decide +kernel)⟩
theorem lw_p10 : lw_okq (⟨"PackWeeks$Reader", "endRow", "(LPackWeeks$Rows;JIIII)V"⟩, 8) := ⟨⟨by decide +kernel, by decide +kernel⟩, List.mem_of_getElem? (i := 71) (by decide +kernel), List.mem_of_getElem? (i := 631) (by decide +kernel), List.mem_of_getElem? (i := 632) (by decide +kernel)⟩
theorem lw_p11 : lw_okq (⟨"PackWeeks$Reader", "leadLine", "()V"⟩, 8) := ⟨⟨by decide +kernel, by decide +kernel⟩, List.mem_of_getElem? (i := 71) (by decide +kernel), List.mem_of_getElem? (i := 642) (by decide +kernel), List.mem_of_getElem? (i := 643) (by decide +kernel)⟩
theorem lw_p12 : lw_okq (⟨"PackWeeks$Reader", "crewLine", "()V"⟩, 8) := ⟨⟨by decide +kernel, by decide +kernel⟩, List.mem_of_getElem? (i := 71) (by decide +kernel), List.mem_of_getElem? (i := 661) (by decide +kernel), List.mem_of_getElem? (i := 662) (by decide +kernel)⟩
theorem lw_p13 : lw_okq (⟨"PackWeeks$Reader", "paceLine", "()V"⟩, 8) := ⟨⟨by decide +kernel, by decide +kernel⟩, List.mem_of_getElem? (i := 71) (by decide +kernel), List.mem_of_getElem? (i := 679) (by decide +kernel), List.mem_of_getElem? (i := 680) (by decide +kernel)⟩
theorem lw_p14 : lw_okq (⟨"PackWeeks$Reader", "gapLine", "()V"⟩, 8) := ⟨⟨by decide +kernel, by decide +kernel⟩, List.mem_of_getElem? (i := 71) (by decide +kernel), List.mem_of_getElem? (i := 685) (by decide +kernel), List.mem_of_getElem? (i := 686) (by decide +kernel)⟩
theorem lw_p15 : lw_okq (⟨"PackWeeks$Reader", "signLine", "()V"⟩, 8) := ⟨⟨by decide +kernel, by decide +kernel⟩, List.mem_of_getElem? (i := 71) (by decide +kernel), List.mem_of_getElem? (i := 695) (by decide +kernel), List.mem_of_getElem? (i := 696) (by decide +kernel)⟩
def lw_privs_1 : List (MethodName × Nat) := [(⟨"PackWeeks", "beginPack", "()V"⟩, 14), (⟨"PackWeeks$Tape", "cutToken", "(I)I"⟩, 9), (⟨"PackWeeks$Tape", "cutWord", "(I)I"⟩, 9), (⟨"PackWeeks$Tape", "addToken", "(IIJ)V"⟩, 9), (⟨"PackWeeks$Tape", "cutNumber", "(I)I"⟩, 9), (⟨"PackWeeks$Reader", "packLine", "(LPackWeeks$Word;)V"⟩, 8), (⟨"PackWeeks$Reader", "driftLine", "()V"⟩, 8), (⟨"PackWeeks$Reader", "thingLine", "()V"⟩, 8), (⟨"PackWeeks$Reader", "startRow", "(LPackWeeks$Rows;)V"⟩, 8), (⟨"PackWeeks$Reader", "newName", "()J"⟩, 8), (⟨"PackWeeks$Reader", "endRow", "(LPackWeeks$Rows;JIIII)V"⟩, 8), (⟨"PackWeeks$Reader", "leadLine", "()V"⟩, 8), (⟨"PackWeeks$Reader", "crewLine", "()V"⟩, 8), (⟨"PackWeeks$Reader", "paceLine", "()V"⟩, 8), (⟨"PackWeeks$Reader", "gapLine", "()V"⟩, 8), (⟨"PackWeeks$Reader", "signLine", "()V"⟩, 8)]
theorem lw_r1 : ∀ q ∈ lw_privs_1, lw_okq q := List.forall_mem_cons.mpr ⟨lw_p0, List.forall_mem_cons.mpr ⟨lw_p1, List.forall_mem_cons.mpr ⟨lw_p2, List.forall_mem_cons.mpr ⟨lw_p3, List.forall_mem_cons.mpr ⟨lw_p4, List.forall_mem_cons.mpr ⟨lw_p5, List.forall_mem_cons.mpr ⟨lw_p6, List.forall_mem_cons.mpr ⟨lw_p7, List.forall_mem_cons.mpr ⟨lw_p8, List.forall_mem_cons.mpr ⟨lw_p9, List.forall_mem_cons.mpr ⟨lw_p10, List.forall_mem_cons.mpr ⟨lw_p11, List.forall_mem_cons.mpr ⟨lw_p12, List.forall_mem_cons.mpr ⟨lw_p13, List.forall_mem_cons.mpr ⟨lw_p14, List.forall_mem_cons.mpr ⟨lw_p15, fun _ h => absurd h List.not_mem_nil⟩⟩⟩⟩⟩⟩⟩⟩⟩⟩⟩⟩⟩⟩⟩⟩
theorem lw_p16 : lw_okq (⟨"PackWeeks$Reader", "loadLine", "()V"⟩, 8) := ⟨⟨by decide +kernel, by decide +kernel⟩, List.mem_of_getElem? (i := 71) (by decide +kernel), List.mem_of_getElem? (i := 703) (by decide +kernel), List.mem_of_getElem? (i := 704) (by decide +kernel)⟩
theorem lw_p17 : lw_okq (⟨"PackWeeks$Reader", "lawLine", "(LPackWeeks$Word;LPackWeeks$Law;Z)Z"⟩, 8) := ⟨⟨by decide +kernel, by decide +kernel⟩, List.mem_of_getElem? (i := 71) (by decide +kernel), List.mem_of_getElem? (i := 713) (by decide +kernel), List.mem_of_getElem? (i := 714) (by decide +kernel)⟩
theorem lw_p18 : lw_okq (⟨"PackWeeks$Reader", "readLevel", "(II)V"⟩, 8) := ⟨⟨by decide +kernel, by decide +kernel⟩, List.mem_of_getElem? (i := 71) (by decide +kernel), List.mem_of_getElem? (i := 718) (by decide +kernel), List.mem_of_getElem? (i := 719) (by decide +kernel)⟩
theorem lw_p19 : lw_okq (⟨"PackWeeks$Reader", "readPart", "(I)V"⟩, 8) := ⟨⟨by decide +kernel, by decide +kernel⟩, List.mem_of_getElem? (i := 71) (by decide +kernel), List.mem_of_getElem? (i := 722) (by decide +kernel), List.mem_of_getElem? (i := 723) (by decide +kernel)⟩
theorem lw_p20 : lw_okq (⟨"PackWeeks$Reader", "beginsPart", "()Z"⟩, 8) := ⟨⟨by decide +kernel, by decide +kernel⟩, List.mem_of_getElem? (i := 71) (by decide +kernel), List.mem_of_getElem? (i := 726) (by decide +kernel), List.mem_of_getElem? (i := 727) (by decide +kernel)⟩
theorem lw_p21 : lw_okq (⟨"PackWeeks$Reader", "isFact", "(LPackWeeks$Word;)Z"⟩, 8) := ⟨⟨by decide +kernel, by decide +kernel⟩, List.mem_of_getElem? (i := 71) (by decide +kernel), List.mem_of_getElem? (i := 734) (by decide +kernel), List.mem_of_getElem? (i := 735) (by decide +kernel)⟩
theorem lw_p22 : lw_okq (⟨"PackWeeks$Reader", "addFact", "(LPackWeeks$Word;)V"⟩, 8) := ⟨⟨by decide +kernel, by decide +kernel⟩, List.mem_of_getElem? (i := 71) (by decide +kernel), List.mem_of_getElem? (i := 749) (by decide +kernel), List.mem_of_getElem? (i := 750) (by decide +kernel)⟩
theorem lw_p23 : lw_okq (⟨"PackWeeks$Reader", "operatorHere", "(I)I"⟩, 8) := ⟨⟨by decide +kernel, by decide +kernel⟩, List.mem_of_getElem? (i := 71) (by decide +kernel), List.mem_of_getElem? (i := 753) (by decide +kernel), List.mem_of_getElem? (i := 754) (by decide +kernel)⟩
theorem lw_p24 : lw_okq (⟨"PackWeeks$Reader", "weekLine", "(LPackWeeks$Word;LPackWeeks$Rows;)V"⟩, 8) := ⟨⟨by decide +kernel, by decide +kernel⟩, List.mem_of_getElem? (i := 71) (by decide +kernel), List.mem_of_getElem? (i := 773) (by decide +kernel), List.mem_of_getElem? (i := 774) (by decide +kernel)⟩
theorem lw_p25 : lw_okq (⟨"PackWeeks$Reader", "crewHere", "()I"⟩, 8) := ⟨⟨by decide +kernel, by decide +kernel⟩, List.mem_of_getElem? (i := 71) (by decide +kernel), List.mem_of_getElem? (i := 779) (by decide +kernel), List.mem_of_getElem? (i := 780) (by decide +kernel)⟩
theorem lw_p26 : lw_okq (⟨"PackWeeks", "byHand", "(III)I"⟩, 14) := ⟨⟨by decide +kernel, by decide +kernel⟩, List.mem_of_getElem? (i := 22) (by decide +kernel), List.mem_of_getElem? (i := 814) (by decide +kernel), List.mem_of_getElem? (i := 815) (by decide +kernel)⟩
theorem lw_p27 : lw_okq (⟨"PackWeeks", "act", "(LPackWeeks$Stand;III)I"⟩, 14) := ⟨⟨by decide +kernel, by decide +kernel⟩, List.mem_of_getElem? (i := 22) (by decide +kernel), List.mem_of_getElem? (i := 822) (by decide +kernel), List.mem_of_getElem? (i := 823) (by decide +kernel)⟩
theorem lw_p28 : lw_okq (⟨"PackWeeks", "areTwoThings", "(II)Z"⟩, 14) := ⟨⟨by decide +kernel, by decide +kernel⟩, List.mem_of_getElem? (i := 22) (by decide +kernel), List.mem_of_getElem? (i := 923) (by decide +kernel), List.mem_of_getElem? (i := 924) (by decide +kernel)⟩
theorem lw_p29 : lw_okq (⟨"PackWeeks", "soonest", "(IIII)I"⟩, 14) := ⟨⟨by decide +kernel, by decide +kernel⟩, List.mem_of_getElem? (i := 22) (by decide +kernel), List.mem_of_getElem? (i := 931) (by decide +kernel), List.mem_of_getElem? (i := 932) (by decide +kernel)⟩
theorem lw_p30 : lw_okq (⟨"PackWeeks$Sights", "firstStep", "(I)I"⟩, 5) := ⟨⟨by decide +kernel, by decide +kernel⟩, List.mem_of_getElem? (i := 160) (by decide +kernel), List.mem_of_getElem? (i := 960) (by decide +kernel), List.mem_of_getElem? (i := 961) (by decide +kernel)⟩
theorem lw_p31 : lw_okq (⟨"PackWeeks$Sights", "agrees", "(LPackWeeks$Pack;II)Z"⟩, 5) := ⟨⟨by decide +kernel, by decide +kernel⟩, List.mem_of_getElem? (i := 160) (by decide +kernel), List.mem_of_getElem? (i := 970) (by decide +kernel), List.mem_of_getElem? (i := 971) (by decide +kernel)⟩
def lw_privs_2 : List (MethodName × Nat) := [(⟨"PackWeeks$Reader", "loadLine", "()V"⟩, 8), (⟨"PackWeeks$Reader", "lawLine", "(LPackWeeks$Word;LPackWeeks$Law;Z)Z"⟩, 8), (⟨"PackWeeks$Reader", "readLevel", "(II)V"⟩, 8), (⟨"PackWeeks$Reader", "readPart", "(I)V"⟩, 8), (⟨"PackWeeks$Reader", "beginsPart", "()Z"⟩, 8), (⟨"PackWeeks$Reader", "isFact", "(LPackWeeks$Word;)Z"⟩, 8), (⟨"PackWeeks$Reader", "addFact", "(LPackWeeks$Word;)V"⟩, 8), (⟨"PackWeeks$Reader", "operatorHere", "(I)I"⟩, 8), (⟨"PackWeeks$Reader", "weekLine", "(LPackWeeks$Word;LPackWeeks$Rows;)V"⟩, 8), (⟨"PackWeeks$Reader", "crewHere", "()I"⟩, 8), (⟨"PackWeeks", "byHand", "(III)I"⟩, 14), (⟨"PackWeeks", "act", "(LPackWeeks$Stand;III)I"⟩, 14), (⟨"PackWeeks", "areTwoThings", "(II)Z"⟩, 14), (⟨"PackWeeks", "soonest", "(IIII)I"⟩, 14), (⟨"PackWeeks$Sights", "firstStep", "(I)I"⟩, 5), (⟨"PackWeeks$Sights", "agrees", "(LPackWeeks$Pack;II)Z"⟩, 5)]
theorem lw_r2 : ∀ q ∈ lw_privs_2, lw_okq q := List.forall_mem_cons.mpr ⟨lw_p16, List.forall_mem_cons.mpr ⟨lw_p17, List.forall_mem_cons.mpr ⟨lw_p18, List.forall_mem_cons.mpr ⟨lw_p19, List.forall_mem_cons.mpr ⟨lw_p20, List.forall_mem_cons.mpr ⟨lw_p21, List.forall_mem_cons.mpr ⟨lw_p22, List.forall_mem_cons.mpr ⟨lw_p23, List.forall_mem_cons.mpr ⟨lw_p24, List.forall_mem_cons.mpr ⟨lw_p25, List.forall_mem_cons.mpr ⟨lw_p26, List.forall_mem_cons.mpr ⟨lw_p27, List.forall_mem_cons.mpr ⟨lw_p28, List.forall_mem_cons.mpr ⟨lw_p29, List.forall_mem_cons.mpr ⟨lw_p30, List.forall_mem_cons.mpr ⟨lw_p31, fun _ h => absurd h List.not_mem_nil⟩⟩⟩⟩⟩⟩⟩⟩⟩⟩⟩⟩⟩⟩⟩⟩
theorem lw_p32 : lw_okq (⟨"PackWeeks$Sights", "mostAlike", "(LPackWeeks$Pack;JII)I"⟩, 5) := ⟨⟨by decide +kernel, by decide +kernel⟩, List.mem_of_getElem? (i := 160) (by decide +kernel), List.mem_of_getElem? (i := 1001) (by decide +kernel), List.mem_of_getElem? (i := 1002) (by decide +kernel)⟩
theorem lw_p33 : lw_okq (⟨"PackWeeks$Reckoner", "fillGapDay", "(LPackWeeks$Rows;II)V"⟩, 11) := ⟨⟨by decide +kernel, by decide +kernel⟩, List.mem_of_getElem? (i := 183) (by decide +kernel), List.mem_of_getElem? (i := 1023) (by decide +kernel), List.mem_of_getElem? (i := 1024) (by decide +kernel)⟩
theorem lw_p34 : lw_okq (⟨"PackWeeks$Reckoner", "openChance", "(LPackWeeks$Rows;III)I"⟩, 11) := ⟨⟨by decide +kernel, by decide +kernel⟩, List.mem_of_getElem? (i := 183) (by decide +kernel), List.mem_of_getElem? (i := 1031) (by decide +kernel), List.mem_of_getElem? (i := 1032) (by decide +kernel)⟩
theorem lw_p35 : lw_okq (⟨"PackWeeks$Reckoner", "fillLook", "(II)I"⟩, 11) := ⟨⟨by decide +kernel, by decide +kernel⟩, List.mem_of_getElem? (i := 183) (by decide +kernel), List.mem_of_getElem? (i := 1056) (by decide +kernel), List.mem_of_getElem? (i := 1057) (by decide +kernel)⟩
theorem lw_p36 : lw_okq (⟨"PackWeeks$Reckoner", "orderSigns", "(LPackWeeks$Rows;)V"⟩, 11) := ⟨⟨by decide +kernel, by decide +kernel⟩, List.mem_of_getElem? (i := 183) (by decide +kernel), List.mem_of_getElem? (i := 1073) (by decide +kernel), List.mem_of_getElem? (i := 1074) (by decide +kernel)⟩
theorem lw_p37 : lw_okq (⟨"PackWeeks$Reckoner", "growLeaves", "(LPackWeeks$Rows;I)V"⟩, 11) := ⟨⟨by decide +kernel, by decide +kernel⟩, List.mem_of_getElem? (i := 183) (by decide +kernel), List.mem_of_getElem? (i := 1077) (by decide +kernel), List.mem_of_getElem? (i := 1078) (by decide +kernel)⟩
theorem lw_p38 : lw_okq (⟨"PackWeeks$Reckoner", "weighLeaves", "(LPackWeeks$Rows;[I)V"⟩, 11) := ⟨⟨by decide +kernel, by decide +kernel⟩, List.mem_of_getElem? (i := 183) (by decide +kernel), List.mem_of_getElem? (i := 1081) (by decide +kernel), List.mem_of_getElem? (i := 1082) (by decide +kernel)⟩
theorem lw_p39 : lw_okq (⟨"PackWeeks$Reckoner", "isShorter", "([II)Z"⟩, 11) := ⟨⟨by decide +kernel, by decide +kernel⟩, List.mem_of_getElem? (i := 183) (by decide +kernel), List.mem_of_getElem? (i := 1085) (by decide +kernel), List.mem_of_getElem? (i := 1086) (by decide +kernel)⟩
theorem lw_p40 : lw_okq (⟨"PackWeeks$Reckoner", "partLeaf", "(II)V"⟩, 11) := ⟨⟨by decide +kernel, by decide +kernel⟩, List.mem_of_getElem? (i := 183) (by decide +kernel), List.mem_of_getElem? (i := 1089) (by decide +kernel), List.mem_of_getElem? (i := 1090) (by decide +kernel)⟩
theorem lw_p41 : lw_okq (⟨"PackWeeks$Reckoner", "fillLoad", "(LPackWeeks$Rows;I)V"⟩, 11) := ⟨⟨by decide +kernel, by decide +kernel⟩, List.mem_of_getElem? (i := 183) (by decide +kernel), List.mem_of_getElem? (i := 1108) (by decide +kernel), List.mem_of_getElem? (i := 1109) (by decide +kernel)⟩
theorem lw_p42 : lw_okq (⟨"PackWeeks$Reckoner", "loadMean", "(LPackWeeks$Rows;III)I"⟩, 11) := ⟨⟨by decide +kernel, by decide +kernel⟩, List.mem_of_getElem? (i := 183) (by decide +kernel), List.mem_of_getElem? (i := 1112) (by decide +kernel), List.mem_of_getElem? (i := 1113) (by decide +kernel)⟩
theorem lw_p43 : lw_okq (⟨"PackWeeks$Stand", "isInhabited", "(LPackWeeks$Pack;I)Z"⟩, 7) := ⟨⟨by decide +kernel, by decide +kernel⟩, List.mem_of_getElem? (i := 102) (by decide +kernel), List.mem_of_getElem? (i := 1140) (by decide +kernel), List.mem_of_getElem? (i := 1141) (by decide +kernel)⟩
theorem lw_p44 : lw_okq (⟨"java/lang/Throwable", "fillInStackTrace", "(I)Ljava/lang/Throwable;"⟩, 6) := ⟨⟨by decide +kernel, by decide +kernel⟩, List.mem_of_getElem? (i := 1204) (by decide +kernel), List.mem_of_getElem? (i := 1202) (by decide +kernel), List.mem_of_getElem? (i := 1203) (by decide +kernel)⟩
theorem lw_p45 : lw_okq (⟨"PackWeeksModel", "lay", "(J)V"⟩, 41) := ⟨⟨by decide +kernel, by decide +kernel⟩, List.mem_of_getElem? (i := 1263) (by decide +kernel), List.mem_of_getElem? (i := 1261) (by decide +kernel), List.mem_of_getElem? (i := 1262) (by decide +kernel)⟩
theorem lw_p46 : lw_okq (⟨"PackWeeksModel", "standsAsAlways", "(I)V"⟩, 41) := ⟨⟨by decide +kernel, by decide +kernel⟩, List.mem_of_getElem? (i := 1263) (by decide +kernel), List.mem_of_getElem? (i := 1313) (by decide +kernel), List.mem_of_getElem? (i := 1314) (by decide +kernel)⟩
theorem lw_p47 : lw_okq (⟨"PackWeeksModel", "begins", "()V"⟩, 41) := ⟨⟨by decide +kernel, by decide +kernel⟩, List.mem_of_getElem? (i := 1263) (by decide +kernel), List.mem_of_getElem? (i := 1317) (by decide +kernel), List.mem_of_getElem? (i := 1318) (by decide +kernel)⟩
def lw_privs_3 : List (MethodName × Nat) := [(⟨"PackWeeks$Sights", "mostAlike", "(LPackWeeks$Pack;JII)I"⟩, 5), (⟨"PackWeeks$Reckoner", "fillGapDay", "(LPackWeeks$Rows;II)V"⟩, 11), (⟨"PackWeeks$Reckoner", "openChance", "(LPackWeeks$Rows;III)I"⟩, 11), (⟨"PackWeeks$Reckoner", "fillLook", "(II)I"⟩, 11), (⟨"PackWeeks$Reckoner", "orderSigns", "(LPackWeeks$Rows;)V"⟩, 11), (⟨"PackWeeks$Reckoner", "growLeaves", "(LPackWeeks$Rows;I)V"⟩, 11), (⟨"PackWeeks$Reckoner", "weighLeaves", "(LPackWeeks$Rows;[I)V"⟩, 11), (⟨"PackWeeks$Reckoner", "isShorter", "([II)Z"⟩, 11), (⟨"PackWeeks$Reckoner", "partLeaf", "(II)V"⟩, 11), (⟨"PackWeeks$Reckoner", "fillLoad", "(LPackWeeks$Rows;I)V"⟩, 11), (⟨"PackWeeks$Reckoner", "loadMean", "(LPackWeeks$Rows;III)I"⟩, 11), (⟨"PackWeeks$Stand", "isInhabited", "(LPackWeeks$Pack;I)Z"⟩, 7), (⟨"java/lang/Throwable", "fillInStackTrace", "(I)Ljava/lang/Throwable;"⟩, 6), (⟨"PackWeeksModel", "lay", "(J)V"⟩, 41), (⟨"PackWeeksModel", "standsAsAlways", "(I)V"⟩, 41), (⟨"PackWeeksModel", "begins", "()V"⟩, 41)]
theorem lw_r3 : ∀ q ∈ lw_privs_3, lw_okq q := List.forall_mem_cons.mpr ⟨lw_p32, List.forall_mem_cons.mpr ⟨lw_p33, List.forall_mem_cons.mpr ⟨lw_p34, List.forall_mem_cons.mpr ⟨lw_p35, List.forall_mem_cons.mpr ⟨lw_p36, List.forall_mem_cons.mpr ⟨lw_p37, List.forall_mem_cons.mpr ⟨lw_p38, List.forall_mem_cons.mpr ⟨lw_p39, List.forall_mem_cons.mpr ⟨lw_p40, List.forall_mem_cons.mpr ⟨lw_p41, List.forall_mem_cons.mpr ⟨lw_p42, List.forall_mem_cons.mpr ⟨lw_p43, List.forall_mem_cons.mpr ⟨lw_p44, List.forall_mem_cons.mpr ⟨lw_p45, List.forall_mem_cons.mpr ⟨lw_p46, List.forall_mem_cons.mpr ⟨lw_p47, fun _ h => absurd h List.not_mem_nil⟩⟩⟩⟩⟩⟩⟩⟩⟩⟩⟩⟩⟩⟩⟩⟩
theorem lw_p48 : lw_okq (⟨"PackWeeksModel", "starts", "(I)V"⟩, 41) := ⟨⟨by decide +kernel, by decide +kernel⟩, List.mem_of_getElem? (i := 1263) (by decide +kernel), List.mem_of_getElem? (i := 1321) (by decide +kernel), List.mem_of_getElem? (i := 1322) (by decide +kernel)⟩
theorem lw_p49 : lw_okq (⟨"PackWeeksModel", "crewOf", "(II)I"⟩, 41) := ⟨⟨by decide +kernel, by decide +kernel⟩, List.mem_of_getElem? (i := 1263) (by decide +kernel), List.mem_of_getElem? (i := 1325) (by decide +kernel), List.mem_of_getElem? (i := 1326) (by decide +kernel)⟩
theorem lw_p50 : lw_okq (⟨"PackWeeksModel", "cutAll", "()V"⟩, 41) := ⟨⟨by decide +kernel, by decide +kernel⟩, List.mem_of_getElem? (i := 1263) (by decide +kernel), List.mem_of_getElem? (i := 1457) (by decide +kernel), List.mem_of_getElem? (i := 1458) (by decide +kernel)⟩
theorem lw_p51 : lw_okq (⟨"PackWeeksModel", "takeWord", "(I)V"⟩, 41) := ⟨⟨by decide +kernel, by decide +kernel⟩, List.mem_of_getElem? (i := 1263) (by decide +kernel), List.mem_of_getElem? (i := 1476) (by decide +kernel), List.mem_of_getElem? (i := 1477) (by decide +kernel)⟩
theorem lw_p52 : lw_okq (⟨"PackWeeksModel", "hasWord", "(I)Z"⟩, 41) := ⟨⟨by decide +kernel, by decide +kernel⟩, List.mem_of_getElem? (i := 1263) (by decide +kernel), List.mem_of_getElem? (i := 1480) (by decide +kernel), List.mem_of_getElem? (i := 1481) (by decide +kernel)⟩
theorem lw_p53 : lw_okq (⟨"PackWeeksModel", "isWord", "(I)Z"⟩, 41) := ⟨⟨by decide +kernel, by decide +kernel⟩, List.mem_of_getElem? (i := 1263) (by decide +kernel), List.mem_of_getElem? (i := 1484) (by decide +kernel), List.mem_of_getElem? (i := 1485) (by decide +kernel)⟩
theorem lw_p54 : lw_okq (⟨"PackWeeksModel", "wrong", "(I)V"⟩, 41) := ⟨⟨by decide +kernel, by decide +kernel⟩, List.mem_of_getElem? (i := 1263) (by decide +kernel), List.mem_of_getElem? (i := 1488) (by decide +kernel), List.mem_of_getElem? (i := 1489) (by decide +kernel)⟩
theorem lw_p55 : lw_okq (⟨"PackWeeksModel", "takeNumber", "(II)I"⟩, 41) := ⟨⟨by decide +kernel, by decide +kernel⟩, List.mem_of_getElem? (i := 1263) (by decide +kernel), List.mem_of_getElem? (i := 1492) (by decide +kernel), List.mem_of_getElem? (i := 1493) (by decide +kernel)⟩
theorem lw_p56 : lw_okq (⟨"PackWeeksModel", "takeSign", "(I)V"⟩, 41) := ⟨⟨by decide +kernel, by decide +kernel⟩, List.mem_of_getElem? (i := 1263) (by decide +kernel), List.mem_of_getElem? (i := 1496) (by decide +kernel), List.mem_of_getElem? (i := 1497) (by decide +kernel)⟩
theorem lw_p57 : lw_okq (⟨"PackWeeksModel", "isSign", "(I)Z"⟩, 41) := ⟨⟨by decide +kernel, by decide +kernel⟩, List.mem_of_getElem? (i := 1263) (by decide +kernel), List.mem_of_getElem? (i := 1500) (by decide +kernel), List.mem_of_getElem? (i := 1501) (by decide +kernel)⟩
theorem lw_p58 : lw_okq (⟨"PackWeeksModel", "readLine", "()V"⟩, 41) := ⟨⟨by decide +kernel, by decide +kernel⟩, List.mem_of_getElem? (i := 1263) (by decide +kernel), List.mem_of_getElem? (i := 1504) (by decide +kernel), List.mem_of_getElem? (i := 1505) (by decide +kernel)⟩
theorem lw_p59 : lw_okq (⟨"PackWeeksModel", "readDrift", "()V"⟩, 41) := ⟨⟨by decide +kernel, by decide +kernel⟩, List.mem_of_getElem? (i := 1263) (by decide +kernel), List.mem_of_getElem? (i := 1508) (by decide +kernel), List.mem_of_getElem? (i := 1509) (by decide +kernel)⟩
theorem lw_p60 : lw_okq (⟨"PackWeeksModel", "lastDown", "()I"⟩, 41) := ⟨⟨by decide +kernel, by decide +kernel⟩, List.mem_of_getElem? (i := 1263) (by decide +kernel), List.mem_of_getElem? (i := 1512) (by decide +kernel), List.mem_of_getElem? (i := 1513) (by decide +kernel)⟩
theorem lw_p61 : lw_okq (⟨"PackWeeksModel", "takeOne", "(II)I"⟩, 41) := ⟨⟨by decide +kernel, by decide +kernel⟩, List.mem_of_getElem? (i := 1263) (by decide +kernel), List.mem_of_getElem? (i := 1516) (by decide +kernel), List.mem_of_getElem? (i := 1517) (by decide +kernel)⟩
theorem lw_p62 : lw_okq (⟨"PackWeeksModel", "wordHere", "(II)I"⟩, 41) := ⟨⟨by decide +kernel, by decide +kernel⟩, List.mem_of_getElem? (i := 1263) (by decide +kernel), List.mem_of_getElem? (i := 1520) (by decide +kernel), List.mem_of_getElem? (i := 1521) (by decide +kernel)⟩
theorem lw_p63 : lw_okq (⟨"PackWeeksModel", "lastOver", "()I"⟩, 41) := ⟨⟨by decide +kernel, by decide +kernel⟩, List.mem_of_getElem? (i := 1263) (by decide +kernel), List.mem_of_getElem? (i := 1524) (by decide +kernel), List.mem_of_getElem? (i := 1525) (by decide +kernel)⟩
def lw_privs_4 : List (MethodName × Nat) := [(⟨"PackWeeksModel", "starts", "(I)V"⟩, 41), (⟨"PackWeeksModel", "crewOf", "(II)I"⟩, 41), (⟨"PackWeeksModel", "cutAll", "()V"⟩, 41), (⟨"PackWeeksModel", "takeWord", "(I)V"⟩, 41), (⟨"PackWeeksModel", "hasWord", "(I)Z"⟩, 41), (⟨"PackWeeksModel", "isWord", "(I)Z"⟩, 41), (⟨"PackWeeksModel", "wrong", "(I)V"⟩, 41), (⟨"PackWeeksModel", "takeNumber", "(II)I"⟩, 41), (⟨"PackWeeksModel", "takeSign", "(I)V"⟩, 41), (⟨"PackWeeksModel", "isSign", "(I)Z"⟩, 41), (⟨"PackWeeksModel", "readLine", "()V"⟩, 41), (⟨"PackWeeksModel", "readDrift", "()V"⟩, 41), (⟨"PackWeeksModel", "lastDown", "()I"⟩, 41), (⟨"PackWeeksModel", "takeOne", "(II)I"⟩, 41), (⟨"PackWeeksModel", "wordHere", "(II)I"⟩, 41), (⟨"PackWeeksModel", "lastOver", "()I"⟩, 41)]
theorem lw_r4 : ∀ q ∈ lw_privs_4, lw_okq q := List.forall_mem_cons.mpr ⟨lw_p48, List.forall_mem_cons.mpr ⟨lw_p49, List.forall_mem_cons.mpr ⟨lw_p50, List.forall_mem_cons.mpr ⟨lw_p51, List.forall_mem_cons.mpr ⟨lw_p52, List.forall_mem_cons.mpr ⟨lw_p53, List.forall_mem_cons.mpr ⟨lw_p54, List.forall_mem_cons.mpr ⟨lw_p55, List.forall_mem_cons.mpr ⟨lw_p56, List.forall_mem_cons.mpr ⟨lw_p57, List.forall_mem_cons.mpr ⟨lw_p58, List.forall_mem_cons.mpr ⟨lw_p59, List.forall_mem_cons.mpr ⟨lw_p60, List.forall_mem_cons.mpr ⟨lw_p61, List.forall_mem_cons.mpr ⟨lw_p62, List.forall_mem_cons.mpr ⟨lw_p63, fun _ h => absurd h List.not_mem_nil⟩⟩⟩⟩⟩⟩⟩⟩⟩⟩⟩⟩⟩⟩⟩⟩
theorem lw_p64 : lw_okq (⟨"PackWeeksModel", "readThing", "()V"⟩, 41) := ⟨⟨by decide +kernel, by decide +kernel⟩, List.mem_of_getElem? (i := 1263) (by decide +kernel), List.mem_of_getElem? (i := 1528) (by decide +kernel), List.mem_of_getElem? (i := 1529) (by decide +kernel)⟩
theorem lw_p65 : lw_okq (⟨"PackWeeksModel", "readName", "(I)V"⟩, 41) := ⟨⟨by decide +kernel, by decide +kernel⟩, List.mem_of_getElem? (i := 1263) (by decide +kernel), List.mem_of_getElem? (i := 1532) (by decide +kernel), List.mem_of_getElem? (i := 1533) (by decide +kernel)⟩
theorem lw_p66 : lw_okq (⟨"PackWeeksModel", "isName", "()Z"⟩, 41) := ⟨⟨by decide +kernel, by decide +kernel⟩, List.mem_of_getElem? (i := 1263) (by decide +kernel), List.mem_of_getElem? (i := 1536) (by decide +kernel), List.mem_of_getElem? (i := 1537) (by decide +kernel)⟩
theorem lw_p67 : lw_okq (⟨"PackWeeksModel", "find", "(Z)I"⟩, 41) := ⟨⟨by decide +kernel, by decide +kernel⟩, List.mem_of_getElem? (i := 1263) (by decide +kernel), List.mem_of_getElem? (i := 1540) (by decide +kernel), List.mem_of_getElem? (i := 1541) (by decide +kernel)⟩
theorem lw_p68 : lw_okq (⟨"PackWeeksModel", "readLead", "()V"⟩, 41) := ⟨⟨by decide +kernel, by decide +kernel⟩, List.mem_of_getElem? (i := 1263) (by decide +kernel), List.mem_of_getElem? (i := 1544) (by decide +kernel), List.mem_of_getElem? (i := 1545) (by decide +kernel)⟩
theorem lw_p69 : lw_okq (⟨"PackWeeksModel", "takeAfter", "(III)I"⟩, 41) := ⟨⟨by decide +kernel, by decide +kernel⟩, List.mem_of_getElem? (i := 1263) (by decide +kernel), List.mem_of_getElem? (i := 1548) (by decide +kernel), List.mem_of_getElem? (i := 1549) (by decide +kernel)⟩
theorem lw_p70 : lw_okq (⟨"PackWeeksModel", "readCrew", "()V"⟩, 41) := ⟨⟨by decide +kernel, by decide +kernel⟩, List.mem_of_getElem? (i := 1263) (by decide +kernel), List.mem_of_getElem? (i := 1552) (by decide +kernel), List.mem_of_getElem? (i := 1553) (by decide +kernel)⟩
theorem lw_p71 : lw_okq (⟨"PackWeeksModel", "readGap", "()V"⟩, 41) := ⟨⟨by decide +kernel, by decide +kernel⟩, List.mem_of_getElem? (i := 1263) (by decide +kernel), List.mem_of_getElem? (i := 1559) (by decide +kernel), List.mem_of_getElem? (i := 1560) (by decide +kernel)⟩
theorem lw_p72 : lw_okq (⟨"PackWeeksModel", "readSign", "()V"⟩, 41) := ⟨⟨by decide +kernel, by decide +kernel⟩, List.mem_of_getElem? (i := 1263) (by decide +kernel), List.mem_of_getElem? (i := 1563) (by decide +kernel), List.mem_of_getElem? (i := 1564) (by decide +kernel)⟩
theorem lw_p73 : lw_okq (⟨"PackWeeksModel", "readLoad", "()V"⟩, 41) := ⟨⟨by decide +kernel, by decide +kernel⟩, List.mem_of_getElem? (i := 1263) (by decide +kernel), List.mem_of_getElem? (i := 1567) (by decide +kernel), List.mem_of_getElem? (i := 1568) (by decide +kernel)⟩
theorem lw_p74 : lw_okq (⟨"PackWeeksModel", "readOnce", "()V"⟩, 41) := ⟨⟨by decide +kernel, by decide +kernel⟩, List.mem_of_getElem? (i := 1263) (by decide +kernel), List.mem_of_getElem? (i := 1571) (by decide +kernel), List.mem_of_getElem? (i := 1572) (by decide +kernel)⟩
theorem lw_p75 : lw_okq (⟨"PackWeeksModel", "all", "(I)V"⟩, 41) := ⟨⟨by decide +kernel, by decide +kernel⟩, List.mem_of_getElem? (i := 1263) (by decide +kernel), List.mem_of_getElem? (i := 1575) (by decide +kernel), List.mem_of_getElem? (i := 1576) (by decide +kernel)⟩
theorem lw_p76 : lw_okq (⟨"PackWeeksModel", "test", "(I)V"⟩, 41) := ⟨⟨by decide +kernel, by decide +kernel⟩, List.mem_of_getElem? (i := 1263) (by decide +kernel), List.mem_of_getElem? (i := 1579) (by decide +kernel), List.mem_of_getElem? (i := 1580) (by decide +kernel)⟩
theorem lw_p77 : lw_okq (⟨"PackWeeksModel", "sums", "(I)V"⟩, 41) := ⟨⟨by decide +kernel, by decide +kernel⟩, List.mem_of_getElem? (i := 1263) (by decide +kernel), List.mem_of_getElem? (i := 1583) (by decide +kernel), List.mem_of_getElem? (i := 1584) (by decide +kernel)⟩
theorem lw_p78 : lw_okq (⟨"PackWeeksModel", "products", "(I)V"⟩, 41) := ⟨⟨by decide +kernel, by decide +kernel⟩, List.mem_of_getElem? (i := 1263) (by decide +kernel), List.mem_of_getElem? (i := 1587) (by decide +kernel), List.mem_of_getElem? (i := 1588) (by decide +kernel)⟩
theorem lw_p79 : lw_okq (⟨"PackWeeksModel", "takePart", "(I)V"⟩, 41) := ⟨⟨by decide +kernel, by decide +kernel⟩, List.mem_of_getElem? (i := 1263) (by decide +kernel), List.mem_of_getElem? (i := 1591) (by decide +kernel), List.mem_of_getElem? (i := 1592) (by decide +kernel)⟩
def lw_privs_5 : List (MethodName × Nat) := [(⟨"PackWeeksModel", "readThing", "()V"⟩, 41), (⟨"PackWeeksModel", "readName", "(I)V"⟩, 41), (⟨"PackWeeksModel", "isName", "()Z"⟩, 41), (⟨"PackWeeksModel", "find", "(Z)I"⟩, 41), (⟨"PackWeeksModel", "readLead", "()V"⟩, 41), (⟨"PackWeeksModel", "takeAfter", "(III)I"⟩, 41), (⟨"PackWeeksModel", "readCrew", "()V"⟩, 41), (⟨"PackWeeksModel", "readGap", "()V"⟩, 41), (⟨"PackWeeksModel", "readSign", "()V"⟩, 41), (⟨"PackWeeksModel", "readLoad", "()V"⟩, 41), (⟨"PackWeeksModel", "readOnce", "()V"⟩, 41), (⟨"PackWeeksModel", "all", "(I)V"⟩, 41), (⟨"PackWeeksModel", "test", "(I)V"⟩, 41), (⟨"PackWeeksModel", "sums", "(I)V"⟩, 41), (⟨"PackWeeksModel", "products", "(I)V"⟩, 41), (⟨"PackWeeksModel", "takePart", "(I)V"⟩, 41)]
theorem lw_r5 : ∀ q ∈ lw_privs_5, lw_okq q := List.forall_mem_cons.mpr ⟨lw_p64, List.forall_mem_cons.mpr ⟨lw_p65, List.forall_mem_cons.mpr ⟨lw_p66, List.forall_mem_cons.mpr ⟨lw_p67, List.forall_mem_cons.mpr ⟨lw_p68, List.forall_mem_cons.mpr ⟨lw_p69, List.forall_mem_cons.mpr ⟨lw_p70, List.forall_mem_cons.mpr ⟨lw_p71, List.forall_mem_cons.mpr ⟨lw_p72, List.forall_mem_cons.mpr ⟨lw_p73, List.forall_mem_cons.mpr ⟨lw_p74, List.forall_mem_cons.mpr ⟨lw_p75, List.forall_mem_cons.mpr ⟨lw_p76, List.forall_mem_cons.mpr ⟨lw_p77, List.forall_mem_cons.mpr ⟨lw_p78, List.forall_mem_cons.mpr ⟨lw_p79, fun _ h => absurd h List.not_mem_nil⟩⟩⟩⟩⟩⟩⟩⟩⟩⟩⟩⟩⟩⟩⟩⟩
theorem lw_p80 : lw_okq (⟨"PackWeeksModel", "emit", "(II)V"⟩, 41) := ⟨⟨by decide +kernel, by decide +kernel⟩, List.mem_of_getElem? (i := 1263) (by decide +kernel), List.mem_of_getElem? (i := 1595) (by decide +kernel), List.mem_of_getElem? (i := 1596) (by decide +kernel)⟩
theorem lw_p81 : lw_okq (⟨"PackWeeksModel", "hasSign", "(I)Z"⟩, 41) := ⟨⟨by decide +kernel, by decide +kernel⟩, List.mem_of_getElem? (i := 1263) (by decide +kernel), List.mem_of_getElem? (i := 1599) (by decide +kernel), List.mem_of_getElem? (i := 1600) (by decide +kernel)⟩
theorem lw_p82 : lw_okq (⟨"PackWeeksModel", "readWeek", "(II)V"⟩, 41) := ⟨⟨by decide +kernel, by decide +kernel⟩, List.mem_of_getElem? (i := 1263) (by decide +kernel), List.mem_of_getElem? (i := 1607) (by decide +kernel), List.mem_of_getElem? (i := 1608) (by decide +kernel)⟩
theorem lw_p83 : lw_okq (⟨"PackWeeksModel", "takeCrew", "()I"⟩, 41) := ⟨⟨by decide +kernel, by decide +kernel⟩, List.mem_of_getElem? (i := 1263) (by decide +kernel), List.mem_of_getElem? (i := 1611) (by decide +kernel), List.mem_of_getElem? (i := 1612) (by decide +kernel)⟩
theorem lw_p84 : lw_okq (⟨"PackWeeksModel", "isPlace", "(II)Z"⟩, 41) := ⟨⟨by decide +kernel, by decide +kernel⟩, List.mem_of_getElem? (i := 1263) (by decide +kernel), List.mem_of_getElem? (i := 1619) (by decide +kernel), List.mem_of_getElem? (i := 1620) (by decide +kernel)⟩
theorem lw_p85 : lw_okq (⟨"PackWeeksModel", "isOpen", "(II)Z"⟩, 41) := ⟨⟨by decide +kernel, by decide +kernel⟩, List.mem_of_getElem? (i := 1263) (by decide +kernel), List.mem_of_getElem? (i := 1627) (by decide +kernel), List.mem_of_getElem? (i := 1628) (by decide +kernel)⟩
theorem lw_p86 : lw_okq (⟨"PackWeeksModel", "isThing", "(I)Z"⟩, 41) := ⟨⟨by decide +kernel, by decide +kernel⟩, List.mem_of_getElem? (i := 1263) (by decide +kernel), List.mem_of_getElem? (i := 1635) (by decide +kernel), List.mem_of_getElem? (i := 1636) (by decide +kernel)⟩
theorem lw_p87 : lw_okq (⟨"PackWeeksModel", "things", "()I"⟩, 41) := ⟨⟨by decide +kernel, by decide +kernel⟩, List.mem_of_getElem? (i := 1263) (by decide +kernel), List.mem_of_getElem? (i := 1639) (by decide +kernel), List.mem_of_getElem? (i := 1640) (by decide +kernel)⟩
theorem lw_p88 : lw_okq (⟨"PackWeeksModel", "kindOf", "(I)I"⟩, 41) := ⟨⟨by decide +kernel, by decide +kernel⟩, List.mem_of_getElem? (i := 1263) (by decide +kernel), List.mem_of_getElem? (i := 1643) (by decide +kernel), List.mem_of_getElem? (i := 1644) (by decide +kernel)⟩
theorem lw_p89 : lw_okq (⟨"PackWeeksModel", "crewAt", "(I)I"⟩, 41) := ⟨⟨by decide +kernel, by decide +kernel⟩, List.mem_of_getElem? (i := 1263) (by decide +kernel), List.mem_of_getElem? (i := 1647) (by decide +kernel), List.mem_of_getElem? (i := 1648) (by decide +kernel)⟩
theorem lw_p90 : lw_okq (⟨"PackWeeksModel", "crews", "()I"⟩, 41) := ⟨⟨by decide +kernel, by decide +kernel⟩, List.mem_of_getElem? (i := 1263) (by decide +kernel), List.mem_of_getElem? (i := 1651) (by decide +kernel), List.mem_of_getElem? (i := 1652) (by decide +kernel)⟩
theorem lw_p91 : lw_okq (⟨"PackWeeksModel", "isCrew", "(I)Z"⟩, 41) := ⟨⟨by decide +kernel, by decide +kernel⟩, List.mem_of_getElem? (i := 1263) (by decide +kernel), List.mem_of_getElem? (i := 1659) (by decide +kernel), List.mem_of_getElem? (i := 1660) (by decide +kernel)⟩
theorem lw_p92 : lw_okq (⟨"PackWeeksModel", "sledgeOf", "(II)I"⟩, 41) := ⟨⟨by decide +kernel, by decide +kernel⟩, List.mem_of_getElem? (i := 1263) (by decide +kernel), List.mem_of_getElem? (i := 1663) (by decide +kernel), List.mem_of_getElem? (i := 1664) (by decide +kernel)⟩
theorem lw_p93 : lw_okq (⟨"PackWeeksModel", "keeps", "()V"⟩, 41) := ⟨⟨by decide +kernel, by decide +kernel⟩, List.mem_of_getElem? (i := 1263) (by decide +kernel), List.mem_of_getElem? (i := 1671) (by decide +kernel), List.mem_of_getElem? (i := 1672) (by decide +kernel)⟩
theorem lw_p94 : lw_okq (⟨"PackWeeksModel", "copies", "(III)V"⟩, 41) := ⟨⟨by decide +kernel, by decide +kernel⟩, List.mem_of_getElem? (i := 1263) (by decide +kernel), List.mem_of_getElem? (i := 1675) (by decide +kernel), List.mem_of_getElem? (i := 1676) (by decide +kernel)⟩
theorem lw_p95 : lw_okq (⟨"PackWeeksModel", "passes", "(I)I"⟩, 41) := ⟨⟨by decide +kernel, by decide +kernel⟩, List.mem_of_getElem? (i := 1263) (by decide +kernel), List.mem_of_getElem? (i := 1679) (by decide +kernel), List.mem_of_getElem? (i := 1680) (by decide +kernel)⟩
def lw_privs_6 : List (MethodName × Nat) := [(⟨"PackWeeksModel", "emit", "(II)V"⟩, 41), (⟨"PackWeeksModel", "hasSign", "(I)Z"⟩, 41), (⟨"PackWeeksModel", "readWeek", "(II)V"⟩, 41), (⟨"PackWeeksModel", "takeCrew", "()I"⟩, 41), (⟨"PackWeeksModel", "isPlace", "(II)Z"⟩, 41), (⟨"PackWeeksModel", "isOpen", "(II)Z"⟩, 41), (⟨"PackWeeksModel", "isThing", "(I)Z"⟩, 41), (⟨"PackWeeksModel", "things", "()I"⟩, 41), (⟨"PackWeeksModel", "kindOf", "(I)I"⟩, 41), (⟨"PackWeeksModel", "crewAt", "(I)I"⟩, 41), (⟨"PackWeeksModel", "crews", "()I"⟩, 41), (⟨"PackWeeksModel", "isCrew", "(I)Z"⟩, 41), (⟨"PackWeeksModel", "sledgeOf", "(II)I"⟩, 41), (⟨"PackWeeksModel", "keeps", "()V"⟩, 41), (⟨"PackWeeksModel", "copies", "(III)V"⟩, 41), (⟨"PackWeeksModel", "passes", "(I)I"⟩, 41)]
theorem lw_r6 : ∀ q ∈ lw_privs_6, lw_okq q := List.forall_mem_cons.mpr ⟨lw_p80, List.forall_mem_cons.mpr ⟨lw_p81, List.forall_mem_cons.mpr ⟨lw_p82, List.forall_mem_cons.mpr ⟨lw_p83, List.forall_mem_cons.mpr ⟨lw_p84, List.forall_mem_cons.mpr ⟨lw_p85, List.forall_mem_cons.mpr ⟨lw_p86, List.forall_mem_cons.mpr ⟨lw_p87, List.forall_mem_cons.mpr ⟨lw_p88, List.forall_mem_cons.mpr ⟨lw_p89, List.forall_mem_cons.mpr ⟨lw_p90, List.forall_mem_cons.mpr ⟨lw_p91, List.forall_mem_cons.mpr ⟨lw_p92, List.forall_mem_cons.mpr ⟨lw_p93, List.forall_mem_cons.mpr ⟨lw_p94, List.forall_mem_cons.mpr ⟨lw_p95, fun _ h => absurd h List.not_mem_nil⟩⟩⟩⟩⟩⟩⟩⟩⟩⟩⟩⟩⟩⟩⟩⟩
theorem lw_p96 : lw_okq (⟨"PackWeeksModel", "eatsOf", "(III)I"⟩, 41) := ⟨⟨by decide +kernel, by decide +kernel⟩, List.mem_of_getElem? (i := 1263) (by decide +kernel), List.mem_of_getElem? (i := 1683) (by decide +kernel), List.mem_of_getElem? (i := 1684) (by decide +kernel)⟩
theorem lw_p97 : lw_okq (⟨"PackWeeksModel", "lawOf", "(III)I"⟩, 41) := ⟨⟨by decide +kernel, by decide +kernel⟩, List.mem_of_getElem? (i := 1263) (by decide +kernel), List.mem_of_getElem? (i := 1687) (by decide +kernel), List.mem_of_getElem? (i := 1688) (by decide +kernel)⟩
theorem lw_p98 : lw_okq (⟨"PackWeeksModel", "worthAt", "(I)I"⟩, 41) := ⟨⟨by decide +kernel, by decide +kernel⟩, List.mem_of_getElem? (i := 1263) (by decide +kernel), List.mem_of_getElem? (i := 1691) (by decide +kernel), List.mem_of_getElem? (i := 1692) (by decide +kernel)⟩
theorem lw_p99 : lw_okq (⟨"PackWeeksModel", "flowsTo", "(I)I"⟩, 41) := ⟨⟨by decide +kernel, by decide +kernel⟩, List.mem_of_getElem? (i := 1263) (by decide +kernel), List.mem_of_getElem? (i := 1698) (by decide +kernel), List.mem_of_getElem? (i := 1699) (by decide +kernel)⟩
theorem lw_p100 : lw_okq (⟨"PackWeeksModel", "onFrom", "(II)I"⟩, 41) := ⟨⟨by decide +kernel, by decide +kernel⟩, List.mem_of_getElem? (i := 1263) (by decide +kernel), List.mem_of_getElem? (i := 1702) (by decide +kernel), List.mem_of_getElem? (i := 1703) (by decide +kernel)⟩
theorem lw_p101 : lw_okq (⟨"PackWeeksModel", "mayHaul", "(III)Z"⟩, 41) := ⟨⟨by decide +kernel, by decide +kernel⟩, List.mem_of_getElem? (i := 1263) (by decide +kernel), List.mem_of_getElem? (i := 1710) (by decide +kernel), List.mem_of_getElem? (i := 1711) (by decide +kernel)⟩
theorem lw_p102 : lw_okq (⟨"PackWeeksModel", "clearsHere", "(I)V"⟩, 41) := ⟨⟨by decide +kernel, by decide +kernel⟩, List.mem_of_getElem? (i := 1263) (by decide +kernel), List.mem_of_getElem? (i := 1714) (by decide +kernel), List.mem_of_getElem? (i := 1715) (by decide +kernel)⟩
theorem lw_p103 : lw_okq (⟨"PackWeeksModel", "hauls", "(I)V"⟩, 41) := ⟨⟨by decide +kernel, by decide +kernel⟩, List.mem_of_getElem? (i := 1263) (by decide +kernel), List.mem_of_getElem? (i := 1718) (by decide +kernel), List.mem_of_getElem? (i := 1719) (by decide +kernel)⟩
theorem lw_p104 : lw_okq (⟨"PackWeeksModel", "hauledTo", "(III)V"⟩, 41) := ⟨⟨by decide +kernel, by decide +kernel⟩, List.mem_of_getElem? (i := 1263) (by decide +kernel), List.mem_of_getElem? (i := 1722) (by decide +kernel), List.mem_of_getElem? (i := 1723) (by decide +kernel)⟩
theorem lw_p105 : lw_okq (⟨"PackWeeksModel", "mayLend", "(II)Z"⟩, 41) := ⟨⟨by decide +kernel, by decide +kernel⟩, List.mem_of_getElem? (i := 1263) (by decide +kernel), List.mem_of_getElem? (i := 1730) (by decide +kernel), List.mem_of_getElem? (i := 1731) (by decide +kernel)⟩
theorem lw_p106 : lw_okq (⟨"PackWeeksModel", "lends", "(III)I"⟩, 41) := ⟨⟨by decide +kernel, by decide +kernel⟩, List.mem_of_getElem? (i := 1263) (by decide +kernel), List.mem_of_getElem? (i := 1734) (by decide +kernel), List.mem_of_getElem? (i := 1735) (by decide +kernel)⟩
theorem lw_p107 : lw_okq (⟨"PackWeeksModel", "mayHome", "(II)Z"⟩, 41) := ⟨⟨by decide +kernel, by decide +kernel⟩, List.mem_of_getElem? (i := 1263) (by decide +kernel), List.mem_of_getElem? (i := 1742) (by decide +kernel), List.mem_of_getElem? (i := 1743) (by decide +kernel)⟩
theorem lw_p108 : lw_okq (⟨"PackWeeksModel", "does", "(I)Z"⟩, 41) := ⟨⟨by decide +kernel, by decide +kernel⟩, List.mem_of_getElem? (i := 1263) (by decide +kernel), List.mem_of_getElem? (i := 1754) (by decide +kernel), List.mem_of_getElem? (i := 1755) (by decide +kernel)⟩
theorem lw_p109 : lw_okq (⟨"PackWeeksModel", "placeBehind", "(II)I"⟩, 41) := ⟨⟨by decide +kernel, by decide +kernel⟩, List.mem_of_getElem? (i := 1263) (by decide +kernel), List.mem_of_getElem? (i := 1762) (by decide +kernel), List.mem_of_getElem? (i := 1763) (by decide +kernel)⟩
theorem lw_p110 : lw_okq (⟨"PackWeeksModel", "reachOf", "(III)I"⟩, 41) := ⟨⟨by decide +kernel, by decide +kernel⟩, List.mem_of_getElem? (i := 1263) (by decide +kernel), List.mem_of_getElem? (i := 1774) (by decide +kernel), List.mem_of_getElem? (i := 1775) (by decide +kernel)⟩
theorem lw_p111 : lw_okq (⟨"PackWeeksModel", "fitsAt", "(I)Z"⟩, 41) := ⟨⟨by decide +kernel, by decide +kernel⟩, List.mem_of_getElem? (i := 1263) (by decide +kernel), List.mem_of_getElem? (i := 1790) (by decide +kernel), List.mem_of_getElem? (i := 1791) (by decide +kernel)⟩
def lw_privs_7 : List (MethodName × Nat) := [(⟨"PackWeeksModel", "eatsOf", "(III)I"⟩, 41), (⟨"PackWeeksModel", "lawOf", "(III)I"⟩, 41), (⟨"PackWeeksModel", "worthAt", "(I)I"⟩, 41), (⟨"PackWeeksModel", "flowsTo", "(I)I"⟩, 41), (⟨"PackWeeksModel", "onFrom", "(II)I"⟩, 41), (⟨"PackWeeksModel", "mayHaul", "(III)Z"⟩, 41), (⟨"PackWeeksModel", "clearsHere", "(I)V"⟩, 41), (⟨"PackWeeksModel", "hauls", "(I)V"⟩, 41), (⟨"PackWeeksModel", "hauledTo", "(III)V"⟩, 41), (⟨"PackWeeksModel", "mayLend", "(II)Z"⟩, 41), (⟨"PackWeeksModel", "lends", "(III)I"⟩, 41), (⟨"PackWeeksModel", "mayHome", "(II)Z"⟩, 41), (⟨"PackWeeksModel", "does", "(I)Z"⟩, 41), (⟨"PackWeeksModel", "placeBehind", "(II)I"⟩, 41), (⟨"PackWeeksModel", "reachOf", "(III)I"⟩, 41), (⟨"PackWeeksModel", "fitsAt", "(I)Z"⟩, 41)]
theorem lw_r7 : ∀ q ∈ lw_privs_7, lw_okq q := List.forall_mem_cons.mpr ⟨lw_p96, List.forall_mem_cons.mpr ⟨lw_p97, List.forall_mem_cons.mpr ⟨lw_p98, List.forall_mem_cons.mpr ⟨lw_p99, List.forall_mem_cons.mpr ⟨lw_p100, List.forall_mem_cons.mpr ⟨lw_p101, List.forall_mem_cons.mpr ⟨lw_p102, List.forall_mem_cons.mpr ⟨lw_p103, List.forall_mem_cons.mpr ⟨lw_p104, List.forall_mem_cons.mpr ⟨lw_p105, List.forall_mem_cons.mpr ⟨lw_p106, List.forall_mem_cons.mpr ⟨lw_p107, List.forall_mem_cons.mpr ⟨lw_p108, List.forall_mem_cons.mpr ⟨lw_p109, List.forall_mem_cons.mpr ⟨lw_p110, List.forall_mem_cons.mpr ⟨lw_p111, fun _ h => absurd h List.not_mem_nil⟩⟩⟩⟩⟩⟩⟩⟩⟩⟩⟩⟩⟩⟩⟩⟩
theorem lw_p112 : lw_okq (⟨"PackWeeksModel", "lastsWith", "(II)I"⟩, 41) := ⟨⟨by decide +kernel, by decide +kernel⟩, List.mem_of_getElem? (i := 1263) (by decide +kernel), List.mem_of_getElem? (i := 1805) (by decide +kernel), List.mem_of_getElem? (i := 1806) (by decide +kernel)⟩
theorem lw_p113 : lw_okq (⟨"PackWeeksModel", "lastsBy", "(II)I"⟩, 41) := ⟨⟨by decide +kernel, by decide +kernel⟩, List.mem_of_getElem? (i := 1263) (by decide +kernel), List.mem_of_getElem? (i := 1813) (by decide +kernel), List.mem_of_getElem? (i := 1814) (by decide +kernel)⟩
theorem lw_p114 : lw_okq (⟨"PackWeeksModel", "laysChances", "()V"⟩, 41) := ⟨⟨by decide +kernel, by decide +kernel⟩, List.mem_of_getElem? (i := 1263) (by decide +kernel), List.mem_of_getElem? (i := 1821) (by decide +kernel), List.mem_of_getElem? (i := 1822) (by decide +kernel)⟩
theorem lw_p115 : lw_okq (⟨"PackWeeksModel", "chanceAt", "(III)I"⟩, 41) := ⟨⟨by decide +kernel, by decide +kernel⟩, List.mem_of_getElem? (i := 1263) (by decide +kernel), List.mem_of_getElem? (i := 1825) (by decide +kernel), List.mem_of_getElem? (i := 1826) (by decide +kernel)⟩
theorem lw_p116 : lw_okq (⟨"PackWeeksModel", "openDay", "(III)I"⟩, 41) := ⟨⟨by decide +kernel, by decide +kernel⟩, List.mem_of_getElem? (i := 1263) (by decide +kernel), List.mem_of_getElem? (i := 1830) (by decide +kernel), List.mem_of_getElem? (i := 1831) (by decide +kernel)⟩
theorem lw_p117 : lw_okq (⟨"PackWeeksModel", "goesThrough", "(III)I"⟩, 41) := ⟨⟨by decide +kernel, by decide +kernel⟩, List.mem_of_getElem? (i := 1263) (by decide +kernel), List.mem_of_getElem? (i := 1834) (by decide +kernel), List.mem_of_getElem? (i := 1835) (by decide +kernel)⟩
theorem lw_p118 : lw_okq (⟨"PackWeeksModel", "bestLook", "(II)I"⟩, 41) := ⟨⟨by decide +kernel, by decide +kernel⟩, List.mem_of_getElem? (i := 1263) (by decide +kernel), List.mem_of_getElem? (i := 1848) (by decide +kernel), List.mem_of_getElem? (i := 1849) (by decide +kernel)⟩
theorem lw_p119 : lw_okq (⟨"PackWeeksModel", "costOf", "(III)I"⟩, 41) := ⟨⟨by decide +kernel, by decide +kernel⟩, List.mem_of_getElem? (i := 1263) (by decide +kernel), List.mem_of_getElem? (i := 1852) (by decide +kernel), List.mem_of_getElem? (i := 1853) (by decide +kernel)⟩
theorem lw_p120 : lw_okq (⟨"PackWeeksModel", "lookAt", "(I)I"⟩, 41) := ⟨⟨by decide +kernel, by decide +kernel⟩, List.mem_of_getElem? (i := 1263) (by decide +kernel), List.mem_of_getElem? (i := 1856) (by decide +kernel), List.mem_of_getElem? (i := 1857) (by decide +kernel)⟩
theorem lw_p121 : lw_okq (⟨"PackWeeksModel", "findOrder", "(I)V"⟩, 41) := ⟨⟨by decide +kernel, by decide +kernel⟩, List.mem_of_getElem? (i := 1263) (by decide +kernel), List.mem_of_getElem? (i := 1864) (by decide +kernel), List.mem_of_getElem? (i := 1865) (by decide +kernel)⟩
theorem lw_p122 : lw_okq (⟨"PackWeeksModel", "grows", "(II)V"⟩, 41) := ⟨⟨by decide +kernel, by decide +kernel⟩, List.mem_of_getElem? (i := 1263) (by decide +kernel), List.mem_of_getElem? (i := 1868) (by decide +kernel), List.mem_of_getElem? (i := 1869) (by decide +kernel)⟩
theorem lw_p123 : lw_okq (⟨"PackWeeksModel", "looksAt", "(II)V"⟩, 41) := ⟨⟨by decide +kernel, by decide +kernel⟩, List.mem_of_getElem? (i := 1263) (by decide +kernel), List.mem_of_getElem? (i := 1872) (by decide +kernel), List.mem_of_getElem? (i := 1873) (by decide +kernel)⟩
theorem lw_p124 : lw_okq (⟨"PackWeeksModel", "bestLoad", "(I)I"⟩, 41) := ⟨⟨by decide +kernel, by decide +kernel⟩, List.mem_of_getElem? (i := 1263) (by decide +kernel), List.mem_of_getElem? (i := 1880) (by decide +kernel), List.mem_of_getElem? (i := 1881) (by decide +kernel)⟩
theorem lw_p125 : lw_okq (⟨"PackWeeksModel", "carryOf", "(II)I"⟩, 41) := ⟨⟨by decide +kernel, by decide +kernel⟩, List.mem_of_getElem? (i := 1263) (by decide +kernel), List.mem_of_getElem? (i := 1884) (by decide +kernel), List.mem_of_getElem? (i := 1885) (by decide +kernel)⟩
theorem lw_p126 : lw_okq (⟨"PackWeeksModel", "draw", "(I)I"⟩, 41) := ⟨⟨by decide +kernel, by decide +kernel⟩, List.mem_of_getElem? (i := 1263) (by decide +kernel), List.mem_of_getElem? (i := 1893) (by decide +kernel), List.mem_of_getElem? (i := 1894) (by decide +kernel)⟩
theorem lw_p127 : lw_okq (⟨"PackWeeksModel", "isVisited", "(II)Z"⟩, 41) := ⟨⟨by decide +kernel, by decide +kernel⟩, List.mem_of_getElem? (i := 1263) (by decide +kernel), List.mem_of_getElem? (i := 1901) (by decide +kernel), List.mem_of_getElem? (i := 1902) (by decide +kernel)⟩
def lw_privs_8 : List (MethodName × Nat) := [(⟨"PackWeeksModel", "lastsWith", "(II)I"⟩, 41), (⟨"PackWeeksModel", "lastsBy", "(II)I"⟩, 41), (⟨"PackWeeksModel", "laysChances", "()V"⟩, 41), (⟨"PackWeeksModel", "chanceAt", "(III)I"⟩, 41), (⟨"PackWeeksModel", "openDay", "(III)I"⟩, 41), (⟨"PackWeeksModel", "goesThrough", "(III)I"⟩, 41), (⟨"PackWeeksModel", "bestLook", "(II)I"⟩, 41), (⟨"PackWeeksModel", "costOf", "(III)I"⟩, 41), (⟨"PackWeeksModel", "lookAt", "(I)I"⟩, 41), (⟨"PackWeeksModel", "findOrder", "(I)V"⟩, 41), (⟨"PackWeeksModel", "grows", "(II)V"⟩, 41), (⟨"PackWeeksModel", "looksAt", "(II)V"⟩, 41), (⟨"PackWeeksModel", "bestLoad", "(I)I"⟩, 41), (⟨"PackWeeksModel", "carryOf", "(II)I"⟩, 41), (⟨"PackWeeksModel", "draw", "(I)I"⟩, 41), (⟨"PackWeeksModel", "isVisited", "(II)Z"⟩, 41)]
theorem lw_r8 : ∀ q ∈ lw_privs_8, lw_okq q := List.forall_mem_cons.mpr ⟨lw_p112, List.forall_mem_cons.mpr ⟨lw_p113, List.forall_mem_cons.mpr ⟨lw_p114, List.forall_mem_cons.mpr ⟨lw_p115, List.forall_mem_cons.mpr ⟨lw_p116, List.forall_mem_cons.mpr ⟨lw_p117, List.forall_mem_cons.mpr ⟨lw_p118, List.forall_mem_cons.mpr ⟨lw_p119, List.forall_mem_cons.mpr ⟨lw_p120, List.forall_mem_cons.mpr ⟨lw_p121, List.forall_mem_cons.mpr ⟨lw_p122, List.forall_mem_cons.mpr ⟨lw_p123, List.forall_mem_cons.mpr ⟨lw_p124, List.forall_mem_cons.mpr ⟨lw_p125, List.forall_mem_cons.mpr ⟨lw_p126, List.forall_mem_cons.mpr ⟨lw_p127, fun _ h => absurd h List.not_mem_nil⟩⟩⟩⟩⟩⟩⟩⟩⟩⟩⟩⟩⟩⟩⟩⟩
def lw_privs : List (MethodName × Nat) := lw_privs_1 ++ (lw_privs_2 ++ (lw_privs_3 ++ (lw_privs_4 ++ (lw_privs_5 ++ (lw_privs_6 ++ (lw_privs_7 ++ (lw_privs_8)))))))
def lw_tbl : List Cond := k2_sels lw_privs ++ tables_1
theorem lw_privs_ok : ∀ q ∈ lw_privs, lw_okq q := by
  show ∀ q ∈ lw_privs_1 ++ (lw_privs_2 ++ (lw_privs_3 ++ (lw_privs_4 ++ (lw_privs_5 ++ (lw_privs_6 ++ (lw_privs_7 ++ (lw_privs_8))))))), lw_okq q
  exact List.forall_mem_append.mpr ⟨lw_r1, List.forall_mem_append.mpr ⟨lw_r2, List.forall_mem_append.mpr ⟨lw_r3, List.forall_mem_append.mpr ⟨lw_r4, List.forall_mem_append.mpr ⟨lw_r5, List.forall_mem_append.mpr ⟨lw_r6, List.forall_mem_append.mpr ⟨lw_r7, lw_r8⟩⟩⟩⟩⟩⟩⟩
end
section
/-! ===== BEGIN words of one list among another's, by their places ===== -/
theorem goodIn_r {big : List Cond} (ws : List Cond) (ps : List Nat) (hp : ws = ps.filterMap (fun i => big[i]?)) (h : ws.all goodWord = true) : GoodIn big ws := by
  intro w hw
  have h1 := List.all_eq_true.mp h w hw
  rw [hp] at hw
  obtain ⟨i, -, hi⟩ := List.mem_filterMap.mp hw
  have hm : w ∈ big := by first | exact List.mem_of_getElem? hi | exact List.getElem?_mem hi
  exact ⟨hm, good_of_word h1⟩
theorem goodIn_app {big a b : List Cond} (ha : GoodIn big a) (hb : GoodIn big b) : GoodIn big (a ++ b) := fun w h => (List.mem_append.mp h).elim (ha w) (hb w)
theorem goodIn_ca {big a b : List Cond} {c : Cond} (ha : GoodIn big (c :: a)) (hb : GoodIn big b) : GoodIn big (c :: (a ++ b)) := fun w h => (List.mem_cons.mp h).elim (fun e => ha w (List.mem_cons.mpr (Or.inl e))) (fun h => (List.mem_append.mp h).elim (fun h => ha w (List.mem_cons.mpr (Or.inr h))) (hb w))
theorem goodIn_sub {big ws : List Cond} (hm : ∀ w ∈ ws, w ∈ big) (h : ws.all goodWord = true) : GoodIn big ws := fun w hw => ⟨hm w hw, good_of_word (List.all_eq_true.mp h w hw)⟩
/-! ===== END ===== -/
/-! ===== BEGIN printed: names, fields, word lists, decode rows ===== -/
def RX0 : String := "PackWeeks$Law"
def TX0 : u_T := fun k => match k with
  | 0 => ("PackWeeks$Law", "stack", "[I", true)
  | 1 => ("PackWeeks$Law", "codes", "[I", true)
  | _ => ("PackWeeks$Law", "size", "I", false)
def tyX0 : Nat → FieldType := fun k => match k with
  | 0 => .array .int
  | 1 => .array .int
  | _ => .int
abbrev wsX00 : List Cond := u_ws RX0 TX0 3
theorem nmX0 : ∀ a, a < 3 → ∀ b, b < 3 → a ≠ b → (TX0 a).2.1 ≠ (TX0 b).2.1 := by decide +kernel
theorem tyX0_ok : ∀ k, k < 3 → parseFieldDescriptor (TX0 k).2.2.1 = some (tyX0 k) := by decide +kernel
abbrev cX0_init : ByteArray := prog_2_method_1_code
def yX0_init : MethodName := ⟨RX0, "<init>", "()V"⟩
abbrev cX0_clear : ByteArray := prog_2_method_2_code
def yX0_clear : MethodName := ⟨RX0, "clear", "()V"⟩
abbrev cX0_add : ByteArray := prog_2_method_3_code
def yX0_add : MethodName := ⟨RX0, "add", "(I)V"⟩
abbrev cX0_valueWithin : ByteArray := prog_2_method_4_code
def yX0_valueWithin : MethodName := ⟨RX0, "valueWithin", "(IIII)I"⟩
abbrev cX0_part : ByteArray := prog_2_method_5_code
def yX0_part : MethodName := ⟨RX0, "part", "(IIII)I"⟩
abbrev cX0_joined : ByteArray := prog_2_method_6_code
def yX0_joined : MethodName := ⟨RX0, "joined", "(III)I"⟩
def RX1 : String := "PackWeeks$Pack"
def TX1 : u_T := fun k => match k with
  | 0 => ("PackWeeks$Pack", "over", "I", false)
  | 1 => ("PackWeeks$Pack", "down", "I", false)
  | 2 => ("PackWeeks$Pack", "pace", "I", false)
  | 3 => ("PackWeeks$Pack", "flows", "[I", true)
  | 4 => ("PackWeeks$Pack", "next", "[I", true)
  | 5 => ("PackWeeks$Pack", "things", "LPackWeeks$Rows;", true)
  | 6 => ("PackWeeks$Pack", "leads", "LPackWeeks$Rows;", true)
  | 7 => ("PackWeeks$Pack", "crews", "LPackWeeks$Rows;", true)
  | 8 => ("PackWeeks$Pack", "gaps", "LPackWeeks$Rows;", true)
  | 9 => ("PackWeeks$Pack", "signs", "LPackWeeks$Rows;", true)
  | 10 => ("PackWeeks$Pack", "loads", "LPackWeeks$Rows;", true)
  | 11 => ("PackWeeks$Pack", "eat", "LPackWeeks$Law;", true)
  | 12 => ("PackWeeks$Pack", "look", "LPackWeeks$Law;", true)
  | 13 => ("PackWeeks$Pack", "crack", "LPackWeeks$Law;", true)
  | 14 => ("PackWeeks$Pack", "flowing", "[J", true)
  | 15 => ("PackWeeks$Pack", "jumps", "[[I", true)
  | _ => ("PackWeeks$Pack", "grid", "J", false)
def tyX1 : Nat → FieldType := fun k => match k with
  | 0 => .int
  | 1 => .int
  | 2 => .int
  | 3 => .array .int
  | 4 => .array .int
  | 5 => .object "PackWeeks$Rows"
  | 6 => .object "PackWeeks$Rows"
  | 7 => .object "PackWeeks$Rows"
  | 8 => .object "PackWeeks$Rows"
  | 9 => .object "PackWeeks$Rows"
  | 10 => .object "PackWeeks$Rows"
  | 11 => .object "PackWeeks$Law"
  | 12 => .object "PackWeeks$Law"
  | 13 => .object "PackWeeks$Law"
  | 14 => .array .long
  | 15 => .array (.array .int)
  | _ => .long
abbrev wsX10 : List Cond := u_ws RX1 TX1 17
theorem nmX1 : ∀ a, a < 17 → ∀ b, b < 17 → a ≠ b → (TX1 a).2.1 ≠ (TX1 b).2.1 := by decide +kernel
theorem tyX1_ok : ∀ k, k < 17 → parseFieldDescriptor (TX1 k).2.2.1 = some (tyX1 k) := by decide +kernel
abbrev cX1_init : ByteArray := prog_3_method_1_code
def yX1_init : MethodName := ⟨RX1, "<init>", "()V"⟩
abbrev cX1_clear : ByteArray := prog_3_method_2_code
def yX1_clear : MethodName := ⟨RX1, "clear", "()V"⟩
abbrev cX1_settle : ByteArray := prog_3_method_3_code
def yX1_settle : MethodName := ⟨RX1, "settle", "()V"⟩
abbrev cX1_isPlace : ByteArray := prog_3_method_4_code
def yX1_isPlace : MethodName := ⟨RX1, "isPlace", "(II)Z"⟩
abbrev cX1_neighbour : ByteArray := prog_3_method_5_code
def yX1_neighbour : MethodName := ⟨RX1, "neighbour", "(II)I"⟩
abbrev cX1_placeAfter : ByteArray := prog_3_method_6_code
def yX1_placeAfter : MethodName := ⟨RX1, "placeAfter", "(II)I"⟩
abbrev cX1_drifted : ByteArray := prog_3_method_7_code
def yX1_drifted : MethodName := ⟨RX1, "drifted", "(J)J"⟩
abbrev cX1_openLeads : ByteArray := prog_3_method_8_code
def yX1_openLeads : MethodName := ⟨RX1, "openLeads", "(I)J"⟩
abbrev cX1_hauledFrom : ByteArray := prog_3_method_9_code
def yX1_hauledFrom : MethodName := ⟨RX1, "hauledFrom", "(JI)J"⟩
abbrev cX1_gridPlaces : ByteArray := prog_3_method_10_code
def yX1_gridPlaces : MethodName := ⟨RX1, "gridPlaces", "()J"⟩
abbrev cX1_isTold : ByteArray := prog_3_method_11_code
def yX1_isTold : MethodName := ⟨RX1, "isTold", "(J)Z"⟩
abbrev cX1_shipNamed : ByteArray := prog_3_method_12_code
def yX1_shipNamed : MethodName := ⟨RX1, "shipNamed", "(J)I"⟩
abbrev cX1_crewOf : ByteArray := prog_3_method_13_code
def yX1_crewOf : MethodName := ⟨RX1, "crewOf", "(I)I"⟩
abbrev cX1_hasLead : ByteArray := prog_3_method_14_code
def yX1_hasLead : MethodName := ⟨RX1, "hasLead", "(I)Z"⟩
def RX2 : String := "PackWeeks$Past"
def TX2 : u_T := fun k => match k with
  | 0 => ("PackWeeks$Past", "ring", "[LPackWeeks$Stand;", true)
  | 1 => ("PackWeeks$Past", "oldest", "I", false)
  | _ => ("PackWeeks$Past", "size", "I", false)
def tyX2 : Nat → FieldType := fun k => match k with
  | 0 => .array (.object "PackWeeks$Stand")
  | 1 => .int
  | _ => .int
abbrev wsX20 : List Cond := u_ws RX2 TX2 3
theorem nmX2 : ∀ a, a < 3 → ∀ b, b < 3 → a ≠ b → (TX2 a).2.1 ≠ (TX2 b).2.1 := by decide +kernel
theorem tyX2_ok : ∀ k, k < 3 → parseFieldDescriptor (TX2 k).2.2.1 = some (tyX2 k) := by decide +kernel
abbrev cX2_init : ByteArray := prog_4_method_1_code
def yX2_init : MethodName := ⟨RX2, "<init>", "()V"⟩
abbrev cX2_clear : ByteArray := prog_4_method_2_code
def yX2_clear : MethodName := ⟨RX2, "clear", "()V"⟩
abbrev cX2_keep : ByteArray := prog_4_method_3_code
def yX2_keep : MethodName := ⟨RX2, "keep", "(LPackWeeks$Stand;)V"⟩
abbrev cX2_giveBack : ByteArray := prog_4_method_4_code
def yX2_giveBack : MethodName := ⟨RX2, "giveBack", "(LPackWeeks$Stand;)Z"⟩
def RX3 : String := "PackWeeks$Reader"
def TX3 : u_T := fun k => match k with
  | 0 => ("PackWeeks$Reader", "tape", "LPackWeeks$Tape;", true)
  | 1 => ("PackWeeks$Reader", "pack", "LPackWeeks$Pack;", false)
  | 2 => ("PackWeeks$Reader", "law", "LPackWeeks$Law;", false)
  | 3 => ("PackWeeks$Reader", "lawWord", "LPackWeeks$Word;", false)
  | 4 => ("PackWeeks$Reader", "paceTold", "Z", false)
  | 5 => ("PackWeeks$Reader", "eatTold", "Z", false)
  | 6 => ("PackWeeks$Reader", "lookTold", "Z", false)
  | _ => ("PackWeeks$Reader", "breakTold", "Z", false)
def tyX3 : Nat → FieldType := fun k => match k with
  | 0 => .object "PackWeeks$Tape"
  | 1 => .object "PackWeeks$Pack"
  | 2 => .object "PackWeeks$Law"
  | 3 => .object "PackWeeks$Word"
  | 4 => .boolean
  | 5 => .boolean
  | 6 => .boolean
  | _ => .boolean
abbrev wsX30 : List Cond := u_ws RX3 TX3 8
theorem nmX3 : ∀ a, a < 8 → ∀ b, b < 8 → a ≠ b → (TX3 a).2.1 ≠ (TX3 b).2.1 := by decide +kernel
theorem tyX3_ok : ∀ k, k < 8 → parseFieldDescriptor (TX3 k).2.2.1 = some (tyX3 k) := by decide +kernel
abbrev cX3_init : ByteArray := prog_5_method_1_code
def yX3_init : MethodName := ⟨RX3, "<init>", "(LPackWeeks$Tape;)V"⟩
abbrev cX3_readPack : ByteArray := prog_5_method_2_code
def yX3_readPack : MethodName := ⟨RX3, "readPack", "(LPackWeeks$Pack;)I"⟩
abbrev cX3_packLine : ByteArray := prog_5_method_3_code
def yX3_packLine : MethodName := ⟨RX3, "packLine", "(LPackWeeks$Word;)V"⟩
abbrev cX3_driftLine : ByteArray := prog_5_method_4_code
def yX3_driftLine : MethodName := ⟨RX3, "driftLine", "()V"⟩
abbrev cX3_thingLine : ByteArray := prog_5_method_5_code
def yX3_thingLine : MethodName := ⟨RX3, "thingLine", "()V"⟩
abbrev cX3_leadLine : ByteArray := prog_5_method_6_code
def yX3_leadLine : MethodName := ⟨RX3, "leadLine", "()V"⟩
abbrev cX3_crewLine : ByteArray := prog_5_method_7_code
def yX3_crewLine : MethodName := ⟨RX3, "crewLine", "()V"⟩
abbrev cX3_paceLine : ByteArray := prog_5_method_8_code
def yX3_paceLine : MethodName := ⟨RX3, "paceLine", "()V"⟩
abbrev cX3_gapLine : ByteArray := prog_5_method_9_code
def yX3_gapLine : MethodName := ⟨RX3, "gapLine", "()V"⟩
abbrev cX3_signLine : ByteArray := prog_5_method_10_code
def yX3_signLine : MethodName := ⟨RX3, "signLine", "()V"⟩
abbrev cX3_loadLine : ByteArray := prog_5_method_11_code
def yX3_loadLine : MethodName := ⟨RX3, "loadLine", "()V"⟩
abbrev cX3_startRow : ByteArray := prog_5_method_12_code
def yX3_startRow : MethodName := ⟨RX3, "startRow", "(LPackWeeks$Rows;)V"⟩
abbrev cX3_endRow : ByteArray := prog_5_method_13_code
def yX3_endRow : MethodName := ⟨RX3, "endRow", "(LPackWeeks$Rows;JIIII)V"⟩
abbrev cX3_newName : ByteArray := prog_5_method_14_code
def yX3_newName : MethodName := ⟨RX3, "newName", "()J"⟩
abbrev cX3_lawLine : ByteArray := prog_5_method_15_code
def yX3_lawLine : MethodName := ⟨RX3, "lawLine", "(LPackWeeks$Word;LPackWeeks$Law;Z)Z"⟩
abbrev cX3_readLevel : ByteArray := prog_5_method_16_code
def yX3_readLevel : MethodName := ⟨RX3, "readLevel", "(II)V"⟩
abbrev cX3_operatorHere : ByteArray := prog_5_method_17_code
def yX3_operatorHere : MethodName := ⟨RX3, "operatorHere", "(I)I"⟩
abbrev cX3_readPart : ByteArray := prog_5_method_18_code
def yX3_readPart : MethodName := ⟨RX3, "readPart", "(I)V"⟩
abbrev cX3_beginsPart : ByteArray := prog_5_method_19_code
def yX3_beginsPart : MethodName := ⟨RX3, "beginsPart", "()Z"⟩
abbrev cX3_isFact : ByteArray := prog_5_method_20_code
def yX3_isFact : MethodName := ⟨RX3, "isFact", "(LPackWeeks$Word;)Z"⟩
abbrev cX3_addFact : ByteArray := prog_5_method_21_code
def yX3_addFact : MethodName := ⟨RX3, "addFact", "(LPackWeeks$Word;)V"⟩
abbrev cX3_readWeeks : ByteArray := prog_5_method_22_code
def yX3_readWeeks : MethodName := ⟨RX3, "readWeeks", "(LPackWeeks$Pack;LPackWeeks$Rows;)I"⟩
abbrev cX3_weekLine : ByteArray := prog_5_method_23_code
def yX3_weekLine : MethodName := ⟨RX3, "weekLine", "(LPackWeeks$Word;LPackWeeks$Rows;)V"⟩
abbrev cX3_crewHere : ByteArray := prog_5_method_24_code
def yX3_crewHere : MethodName := ⟨RX3, "crewHere", "()I"⟩
def RX4 : String := "PackWeeks$Reckoner"
def TX4 : u_T := fun k => match k with
  | 0 => ("PackWeeks$Reckoner", "firstLook", "I", false)
  | 1 => ("PackWeeks$Reckoner", "lampTotal", "I", false)
  | 2 => ("PackWeeks$Reckoner", "firstLoad", "I", false)
  | 3 => ("PackWeeks$Reckoner", "chances", "[I", true)
  | 4 => ("PackWeeks$Reckoner", "prices", "[I", true)
  | 5 => ("PackWeeks$Reckoner", "costs", "[[I", true)
  | 6 => ("PackWeeks$Reckoner", "order", "[I", true)
  | 7 => ("PackWeeks$Reckoner", "leaves", "[[I", true)
  | 8 => ("PackWeeks$Reckoner", "lampRows", "[I", true)
  | 9 => ("PackWeeks$Reckoner", "holding", "[I", true)
  | _ => ("PackWeeks$Reckoner", "worths", "[I", true)
def tyX4 : Nat → FieldType := fun k => match k with
  | 0 => .int
  | 1 => .int
  | 2 => .int
  | 3 => .array .int
  | 4 => .array .int
  | 5 => .array (.array .int)
  | 6 => .array .int
  | 7 => .array (.array .int)
  | 8 => .array .int
  | 9 => .array .int
  | _ => .array .int
abbrev wsX40 : List Cond := u_ws RX4 TX4 11
theorem nmX4 : ∀ a, a < 11 → ∀ b, b < 11 → a ≠ b → (TX4 a).2.1 ≠ (TX4 b).2.1 := by decide +kernel
theorem tyX4_ok : ∀ k, k < 11 → parseFieldDescriptor (TX4 k).2.2.1 = some (tyX4 k) := by decide +kernel
abbrev cX4_init : ByteArray := prog_6_method_1_code
def yX4_init : MethodName := ⟨RX4, "<init>", "()V"⟩
abbrev cX4_gapIndex : ByteArray := prog_6_method_2_code
def yX4_gapIndex : MethodName := ⟨RX4, "gapIndex", "(III)I"⟩
abbrev cX4_gapChance : ByteArray := prog_6_method_3_code
def yX4_gapChance : MethodName := ⟨RX4, "gapChance", "(III)I"⟩
abbrev cX4_goingChance : ByteArray := prog_6_method_4_code
def yX4_goingChance : MethodName := ⟨RX4, "goingChance", "(LPackWeeks$Rows;III)I"⟩
abbrev cX4_openChance : ByteArray := prog_6_method_5_code
def yX4_openChance : MethodName := ⟨RX4, "openChance", "(LPackWeeks$Rows;III)I"⟩
abbrev cX4_fillGaps : ByteArray := prog_6_method_6_code
def yX4_fillGaps : MethodName := ⟨RX4, "fillGaps", "(LPackWeeks$Rows;I)V"⟩
abbrev cX4_fillGapDay : ByteArray := prog_6_method_7_code
def yX4_fillGapDay : MethodName := ⟨RX4, "fillGapDay", "(LPackWeeks$Rows;II)V"⟩
abbrev cX4_lookCost : ByteArray := prog_6_method_8_code
def yX4_lookCost : MethodName := ⟨RX4, "lookCost", "(II)I"⟩
abbrev cX4_fillLooks : ByteArray := prog_6_method_9_code
def yX4_fillLooks : MethodName := ⟨RX4, "fillLooks", "(LPackWeeks$Law;I)V"⟩
abbrev cX4_fillLook : ByteArray := prog_6_method_10_code
def yX4_fillLook : MethodName := ⟨RX4, "fillLook", "(II)I"⟩
abbrev cX4_lampRow : ByteArray := prog_6_method_11_code
def yX4_lampRow : MethodName := ⟨RX4, "lampRow", "(II)I"⟩
abbrev cX4_findLampRows : ByteArray := prog_6_method_12_code
def yX4_findLampRows : MethodName := ⟨RX4, "findLampRows", "(LPackWeeks$Rows;)V"⟩
abbrev cX4_orderSigns : ByteArray := prog_6_method_13_code
def yX4_orderSigns : MethodName := ⟨RX4, "orderSigns", "(LPackWeeks$Rows;)V"⟩
abbrev cX4_growLeaves : ByteArray := prog_6_method_14_code
def yX4_growLeaves : MethodName := ⟨RX4, "growLeaves", "(LPackWeeks$Rows;I)V"⟩
abbrev cX4_partLeaf : ByteArray := prog_6_method_15_code
def yX4_partLeaf : MethodName := ⟨RX4, "partLeaf", "(II)V"⟩
abbrev cX4_insertLeaf : ByteArray := prog_6_method_16_code
def yX4_insertLeaf : MethodName := ⟨RX4, "insertLeaf", "([III)V"⟩
abbrev cX4_weighLeaves : ByteArray := prog_6_method_17_code
def yX4_weighLeaves : MethodName := ⟨RX4, "weighLeaves", "(LPackWeeks$Rows;[I)V"⟩
abbrev cX4_isShorter : ByteArray := prog_6_method_18_code
def yX4_isShorter : MethodName := ⟨RX4, "isShorter", "([II)Z"⟩
abbrev cX4_loadWorth : ByteArray := prog_6_method_19_code
def yX4_loadWorth : MethodName := ⟨RX4, "loadWorth", "(I)I"⟩
abbrev cX4_fillLoads : ByteArray := prog_6_method_20_code
def yX4_fillLoads : MethodName := ⟨RX4, "fillLoads", "(LPackWeeks$Pack;)V"⟩
abbrev cX4_fillLoad : ByteArray := prog_6_method_21_code
def yX4_fillLoad : MethodName := ⟨RX4, "fillLoad", "(LPackWeeks$Rows;I)V"⟩
abbrev cX4_loadMean : ByteArray := prog_6_method_22_code
def yX4_loadMean : MethodName := ⟨RX4, "loadMean", "(LPackWeeks$Rows;III)I"⟩
def RX5 : String := "PackWeeks$Rows"
def TX5 : u_T := fun k => match k with
  | 0 => ("PackWeeks$Rows", "names", "[J", true)
  | 1 => ("PackWeeks$Rows", "first", "[I", true)
  | 2 => ("PackWeeks$Rows", "second", "[I", true)
  | 3 => ("PackWeeks$Rows", "third", "[I", true)
  | 4 => ("PackWeeks$Rows", "fourth", "[I", true)
  | _ => ("PackWeeks$Rows", "size", "I", false)
def tyX5 : Nat → FieldType := fun k => match k with
  | 0 => .array .long
  | 1 => .array .int
  | 2 => .array .int
  | 3 => .array .int
  | 4 => .array .int
  | _ => .int
abbrev wsX50 : List Cond := u_ws RX5 TX5 6
theorem nmX5 : ∀ a, a < 6 → ∀ b, b < 6 → a ≠ b → (TX5 a).2.1 ≠ (TX5 b).2.1 := by decide +kernel
theorem tyX5_ok : ∀ k, k < 6 → parseFieldDescriptor (TX5 k).2.2.1 = some (tyX5 k) := by decide +kernel
abbrev cX5_init : ByteArray := prog_7_method_1_code
def yX5_init : MethodName := ⟨RX5, "<init>", "(I)V"⟩
abbrev cX5_clear : ByteArray := prog_7_method_2_code
def yX5_clear : MethodName := ⟨RX5, "clear", "()V"⟩
abbrev cX5_isFull : ByteArray := prog_7_method_3_code
def yX5_isFull : MethodName := ⟨RX5, "isFull", "()Z"⟩
abbrev cX5_holds : ByteArray := prog_7_method_4_code
def yX5_holds : MethodName := ⟨RX5, "holds", "(I)Z"⟩
abbrev cX5_add : ByteArray := prog_7_method_5_code
def yX5_add : MethodName := ⟨RX5, "add", "(JIIII)V"⟩
abbrev cX5_find : ByteArray := prog_7_method_6_code
def yX5_find : MethodName := ⟨RX5, "find", "(J)I"⟩
def RX6 : String := "PackWeeks$Sights"
def TX6 : u_T := fun k => match k with
  | 0 => ("PackWeeks$Sights", "size", "I", false)
  | 1 => ("PackWeeks$Sights", "things", "[I", true)
  | 2 => ("PackWeeks$Sights", "steps", "[I", true)
  | 3 => ("PackWeeks$Sights", "bearings", "[I", true)
  | _ => ("PackWeeks$Sights", "alike", "[I", true)
def tyX6 : Nat → FieldType := fun k => match k with
  | 0 => .int
  | 1 => .array .int
  | 2 => .array .int
  | 3 => .array .int
  | _ => .array .int
abbrev wsX60 : List Cond := u_ws RX6 TX6 5
theorem nmX6 : ∀ a, a < 5 → ∀ b, b < 5 → a ≠ b → (TX6 a).2.1 ≠ (TX6 b).2.1 := by decide +kernel
theorem tyX6_ok : ∀ k, k < 5 → parseFieldDescriptor (TX6 k).2.2.1 = some (tyX6 k) := by decide +kernel
abbrev cX6_init : ByteArray := prog_8_method_1_code
def yX6_init : MethodName := ⟨RX6, "<init>", "()V"⟩
abbrev cX6_take : ByteArray := prog_8_method_2_code
def yX6_take : MethodName := ⟨RX6, "take", "(LPackWeeks$Sights;)V"⟩
abbrev cX6_note : ByteArray := prog_8_method_3_code
def yX6_note : MethodName := ⟨RX6, "note", "(III)Z"⟩
abbrev cX6_fitting : ByteArray := prog_8_method_4_code
def yX6_fitting : MethodName := ⟨RX6, "fitting", "(LPackWeeks$Pack;I)J"⟩
abbrev cX6_firstStep : ByteArray := prog_8_method_5_code
def yX6_firstStep : MethodName := ⟨RX6, "firstStep", "(I)I"⟩
abbrev cX6_agrees : ByteArray := prog_8_method_6_code
def yX6_agrees : MethodName := ⟨RX6, "agrees", "(LPackWeeks$Pack;II)Z"⟩
abbrev cX6_mostTelling : ByteArray := prog_8_method_7_code
def yX6_mostTelling : MethodName := ⟨RX6, "mostTelling", "(LPackWeeks$Pack;LPackWeeks$Stand;)I"⟩
abbrev cX6_mostAlike : ByteArray := prog_8_method_8_code
def yX6_mostAlike : MethodName := ⟨RX6, "mostAlike", "(LPackWeeks$Pack;JII)I"⟩
abbrev cX6_bearing : ByteArray := prog_8_method_9_code
def yX6_bearing : MethodName := ⟨RX6, "bearing", "(II)I"⟩
def RX7 : String := "PackWeeks$Stand"
def TX7 : u_T := fun k => match k with
  | 0 => ("PackWeeks$Stand", "step", "I", false)
  | 1 => ("PackWeeks$Stand", "places", "[I", true)
  | 2 => ("PackWeeks$Stand", "biscuit", "[I", true)
  | 3 => ("PackWeeks$Stand", "debts", "[I", true)
  | 4 => ("PackWeeks$Stand", "out", "[Z", true)
  | 5 => ("PackWeeks$Stand", "hauled", "[Z", true)
  | _ => ("PackWeeks$Stand", "sledges", "[I", true)
def tyX7 : Nat → FieldType := fun k => match k with
  | 0 => .int
  | 1 => .array .int
  | 2 => .array .int
  | 3 => .array .int
  | 4 => .array .boolean
  | 5 => .array .boolean
  | _ => .array .int
abbrev wsX70 : List Cond := u_ws RX7 TX7 7
theorem nmX7 : ∀ a, a < 7 → ∀ b, b < 7 → a ≠ b → (TX7 a).2.1 ≠ (TX7 b).2.1 := by decide +kernel
theorem tyX7_ok : ∀ k, k < 7 → parseFieldDescriptor (TX7 k).2.2.1 = some (tyX7 k) := by decide +kernel
abbrev cX7_init : ByteArray := prog_9_method_1_code
def yX7_init : MethodName := ⟨RX7, "<init>", "()V"⟩
abbrev cX7_begin : ByteArray := prog_9_method_2_code
def yX7_begin : MethodName := ⟨RX7, "begin", "(LPackWeeks$Pack;)V"⟩
abbrev cX7_take : ByteArray := prog_9_method_3_code
def yX7_take : MethodName := ⟨RX7, "take", "(LPackWeeks$Stand;)V"⟩
abbrev cX7_sledgePlace : ByteArray := prog_9_method_4_code
def yX7_sledgePlace : MethodName := ⟨RX7, "sledgePlace", "(LPackWeeks$Pack;I)I"⟩
abbrev cX7_appetite : ByteArray := prog_9_method_5_code
def yX7_appetite : MethodName := ⟨RX7, "appetite", "(LPackWeeks$Pack;II)I"⟩
abbrev cX7_biscuitOfAll : ByteArray := prog_9_method_6_code
def yX7_biscuitOfAll : MethodName := ⟨RX7, "biscuitOfAll", "(LPackWeeks$Pack;)I"⟩
abbrev cX7_hasHungryCrew : ByteArray := prog_9_method_7_code
def yX7_hasHungryCrew : MethodName := ⟨RX7, "hasHungryCrew", "(LPackWeeks$Pack;)Z"⟩
abbrev cX7_passStep : ByteArray := prog_9_method_8_code
def yX7_passStep : MethodName := ⟨RX7, "passStep", "(LPackWeeks$Pack;)I"⟩
abbrev cX7_haulSledge : ByteArray := prog_9_method_9_code
def yX7_haulSledge : MethodName := ⟨RX7, "haulSledge", "(LPackWeeks$Pack;II)Z"⟩
abbrev cX7_lendBiscuit : ByteArray := prog_9_method_10_code
def yX7_lendBiscuit : MethodName := ⟨RX7, "lendBiscuit", "(LPackWeeks$Pack;II)I"⟩
abbrev cX7_bringIn : ByteArray := prog_9_method_11_code
def yX7_bringIn : MethodName := ⟨RX7, "bringIn", "(LPackWeeks$Pack;I)Z"⟩
abbrev cX7_strayBears : ByteArray := prog_9_method_12_code
def yX7_strayBears : MethodName := ⟨RX7, "strayBears", "(LPackWeeks$Pack;J)J"⟩
abbrev cX7_bearVisits : ByteArray := prog_9_method_13_code
def yX7_bearVisits : MethodName := ⟨RX7, "bearVisits", "(LPackWeeks$Pack;)I"⟩
abbrev cX7_isInhabited : ByteArray := prog_9_method_14_code
def yX7_isInhabited : MethodName := ⟨RX7, "isInhabited", "(LPackWeeks$Pack;I)Z"⟩
def RX8 : String := "PackWeeks$Tape"
def TX8 : u_T := fun k => match k with
  | 0 => ("PackWeeks$Tape", "length", "I", false)
  | 1 => ("PackWeeks$Tape", "fault", "I", false)
  | 2 => ("PackWeeks$Tape", "signs", "[B", true)
  | 3 => ("PackWeeks$Tape", "types", "[I", true)
  | 4 => ("PackWeeks$Tape", "starts", "[I", true)
  | 5 => ("PackWeeks$Tape", "values", "[J", true)
  | 6 => ("PackWeeks$Tape", "words", "[LPackWeeks$Word;", true)
  | 7 => ("PackWeeks$Tape", "size", "I", false)
  | _ => ("PackWeeks$Tape", "here", "I", false)
def tyX8 : Nat → FieldType := fun k => match k with
  | 0 => .int
  | 1 => .int
  | 2 => .array .byte
  | 3 => .array .int
  | 4 => .array .int
  | 5 => .array .long
  | 6 => .array (.object "PackWeeks$Word")
  | 7 => .int
  | _ => .int
abbrev wsX80 : List Cond := u_ws RX8 TX8 9
theorem nmX8 : ∀ a, a < 9 → ∀ b, b < 9 → a ≠ b → (TX8 a).2.1 ≠ (TX8 b).2.1 := by decide +kernel
theorem tyX8_ok : ∀ k, k < 9 → parseFieldDescriptor (TX8 k).2.2.1 = some (tyX8 k) := by decide +kernel
abbrev cX8_init : ByteArray := prog_10_method_1_code
def yX8_init : MethodName := ⟨RX8, "<init>", "()V"⟩
abbrev cX8_put : ByteArray := prog_10_method_2_code
def yX8_put : MethodName := ⟨RX8, "put", "(J)V"⟩
abbrev cX8_cut : ByteArray := prog_10_method_3_code
def yX8_cut : MethodName := ⟨RX8, "cut", "()V"⟩
abbrev cX8_cutToken : ByteArray := prog_10_method_4_code
def yX8_cutToken : MethodName := ⟨RX8, "cutToken", "(I)I"⟩
abbrev cX8_cutWord : ByteArray := prog_10_method_5_code
def yX8_cutWord : MethodName := ⟨RX8, "cutWord", "(I)I"⟩
abbrev cX8_cutNumber : ByteArray := prog_10_method_6_code
def yX8_cutNumber : MethodName := ⟨RX8, "cutNumber", "(I)I"⟩
abbrev cX8_addToken : ByteArray := prog_10_method_7_code
def yX8_addToken : MethodName := ⟨RX8, "addToken", "(IIJ)V"⟩
abbrev cX8_isBlank : ByteArray := prog_10_method_8_code
def yX8_isBlank : MethodName := ⟨RX8, "isBlank", "(I)Z"⟩
abbrev cX8_isLetter : ByteArray := prog_10_method_9_code
def yX8_isLetter : MethodName := ⟨RX8, "isLetter", "(I)Z"⟩
abbrev cX8_isDigit : ByteArray := prog_10_method_10_code
def yX8_isDigit : MethodName := ⟨RX8, "isDigit", "(I)Z"⟩
abbrev cX8_goesOn : ByteArray := prog_10_method_11_code
def yX8_goesOn : MethodName := ⟨RX8, "goesOn", "()Z"⟩
abbrev cX8_wrong : ByteArray := prog_10_method_12_code
def yX8_wrong : MethodName := ⟨RX8, "wrong", "(I)V"⟩
abbrev cX8_goOn : ByteArray := prog_10_method_13_code
def yX8_goOn : MethodName := ⟨RX8, "goOn", "()V"⟩
abbrev cX8_isWord : ByteArray := prog_10_method_14_code
def yX8_isWord : MethodName := ⟨RX8, "isWord", "(LPackWeeks$Word;)Z"⟩
abbrev cX8_isSign : ByteArray := prog_10_method_15_code
def yX8_isSign : MethodName := ⟨RX8, "isSign", "(C)Z"⟩
abbrev cX8_isNumber : ByteArray := prog_10_method_16_code
def yX8_isNumber : MethodName := ⟨RX8, "isNumber", "()Z"⟩
abbrev cX8_value : ByteArray := prog_10_method_17_code
def yX8_value : MethodName := ⟨RX8, "value", "()I"⟩
abbrev cX8_word : ByteArray := prog_10_method_18_code
def yX8_word : MethodName := ⟨RX8, "word", "()LPackWeeks$Word;"⟩
abbrev cX8_takeWord : ByteArray := prog_10_method_19_code
def yX8_takeWord : MethodName := ⟨RX8, "takeWord", "(LPackWeeks$Word;)V"⟩
abbrev cX8_takeSign : ByteArray := prog_10_method_20_code
def yX8_takeSign : MethodName := ⟨RX8, "takeSign", "(C)V"⟩
abbrev cX8_takeNumber : ByteArray := prog_10_method_21_code
def yX8_takeNumber : MethodName := ⟨RX8, "takeNumber", "(II)I"⟩
abbrev cX8_takeRank : ByteArray := prog_10_method_22_code
def yX8_takeRank : MethodName := ⟨RX8, "takeRank", "(I)I"⟩
abbrev cX8_seeName : ByteArray := prog_10_method_23_code
def yX8_seeName : MethodName := ⟨RX8, "seeName", "()J"⟩
def RX9 : String := "PackWeeks$Word"
def TX9 : u_T := fun k => match k with
  | _ => ("", "", "", false)
def tyX9 : Nat → FieldType := fun k => match k with
  | _ => .int
abbrev wsX90 : List Cond := u_ws RX9 TX9 0
theorem nmX9 : ∀ a, a < 0 → ∀ b, b < 0 → a ≠ b → (TX9 a).2.1 ≠ (TX9 b).2.1 := by decide +kernel
theorem tyX9_ok : ∀ k, k < 0 → parseFieldDescriptor (TX9 k).2.2.1 = some (tyX9 k) := by decide +kernel
abbrev cX9_ofKey : ByteArray := prog_11_method_4_code
def yX9_ofKey : MethodName := ⟨RX9, "ofKey", "(J)LPackWeeks$Word;"⟩
def RX10 : String := "PackWeeks"
def TX10 : u_T := fun k => match k with
  | 0 => ("PackWeeks", "tape", "LPackWeeks$Tape;", true)
  | 1 => ("PackWeeks", "reader", "LPackWeeks$Reader;", true)
  | 2 => ("PackWeeks", "stand", "LPackWeeks$Stand;", true)
  | 3 => ("PackWeeks", "scratch", "LPackWeeks$Stand;", true)
  | 4 => ("PackWeeks", "past", "LPackWeeks$Past;", true)
  | 5 => ("PackWeeks", "marks", "[LPackWeeks$Stand;", true)
  | 6 => ("PackWeeks", "markSights", "[LPackWeeks$Sights;", true)
  | 7 => ("PackWeeks", "marked", "[Z", true)
  | 8 => ("PackWeeks", "sights", "LPackWeeks$Sights;", true)
  | 9 => ("PackWeeks", "reckoner", "LPackWeeks$Reckoner;", true)
  | 10 => ("PackWeeks", "told", "LPackWeeks$Pack;", false)
  | 11 => ("PackWeeks", "draft", "LPackWeeks$Pack;", false)
  | 12 => ("PackWeeks", "lines", "LPackWeeks$Rows;", false)
  | _ => ("PackWeeks", "draftLines", "LPackWeeks$Rows;", false)
def tyX10 : Nat → FieldType := fun k => match k with
  | 0 => .object "PackWeeks$Tape"
  | 1 => .object "PackWeeks$Reader"
  | 2 => .object "PackWeeks$Stand"
  | 3 => .object "PackWeeks$Stand"
  | 4 => .object "PackWeeks$Past"
  | 5 => .array (.object "PackWeeks$Stand")
  | 6 => .array (.object "PackWeeks$Sights")
  | 7 => .array .boolean
  | 8 => .object "PackWeeks$Sights"
  | 9 => .object "PackWeeks$Reckoner"
  | 10 => .object "PackWeeks$Pack"
  | 11 => .object "PackWeeks$Pack"
  | 12 => .object "PackWeeks$Rows"
  | _ => .object "PackWeeks$Rows"
abbrev wsX100 : List Cond := u_ws RX10 TX10 14
theorem nmX10 : ∀ a, a < 14 → ∀ b, b < 14 → a ≠ b → (TX10 a).2.1 ≠ (TX10 b).2.1 := by decide +kernel
theorem tyX10_ok : ∀ k, k < 14 → parseFieldDescriptor (TX10 k).2.2.1 = some (tyX10 k) := by decide +kernel
abbrev cX10_init : ByteArray := prog_1_method_1_code
def yX10_init : MethodName := ⟨RX10, "<init>", "()V"⟩
abbrev cX10_feed : ByteArray := prog_1_method_2_code
def yX10_feed : MethodName := ⟨RX10, "feed", "(JJJ)I"⟩
abbrev cX10_pack : ByteArray := prog_1_method_3_code
def yX10_pack : MethodName := ⟨RX10, "pack", "()I"⟩
abbrev cX10_weeks : ByteArray := prog_1_method_4_code
def yX10_weeks : MethodName := ⟨RX10, "weeks", "()I"⟩
abbrev cX10_flow : ByteArray := prog_1_method_5_code
def yX10_flow : MethodName := ⟨RX10, "flow", "(II)I"⟩
abbrev cX10_open : ByteArray := prog_1_method_6_code
def yX10_open : MethodName := ⟨RX10, "open", "(III)I"⟩
abbrev cX10_thing : ByteArray := prog_1_method_7_code
def yX10_thing : MethodName := ⟨RX10, "thing", "(II)I"⟩
abbrev cX10_crew : ByteArray := prog_1_method_8_code
def yX10_crew : MethodName := ⟨RX10, "crew", "(II)I"⟩
abbrev cX10_drift : ByteArray := prog_1_method_9_code
def yX10_drift : MethodName := ⟨RX10, "drift", "(I)I"⟩
abbrev cX10_haul : ByteArray := prog_1_method_10_code
def yX10_haul : MethodName := ⟨RX10, "haul", "(III)Z"⟩
abbrev cX10_lend : ByteArray := prog_1_method_11_code
def yX10_lend : MethodName := ⟨RX10, "lend", "(II)I"⟩
abbrev cX10_home : ByteArray := prog_1_method_12_code
def yX10_home : MethodName := ⟨RX10, "home", "(I)Z"⟩
abbrev cX10_undo : ByteArray := prog_1_method_13_code
def yX10_undo : MethodName := ⟨RX10, "undo", "()Z"⟩
abbrev cX10_judged : ByteArray := prog_1_method_14_code
def yX10_judged : MethodName := ⟨RX10, "judged", "(I)I"⟩
abbrev cX10_where : ByteArray := prog_1_method_15_code
def yX10_where : MethodName := ⟨RX10, "where", "(II)I"⟩
abbrev cX10_meet : ByteArray := prog_1_method_16_code
def yX10_meet : MethodName := ⟨RX10, "meet", "(II)I"⟩
abbrev cX10_reach : ByteArray := prog_1_method_17_code
def yX10_reach : MethodName := ⟨RX10, "reach", "(III)I"⟩
abbrev cX10_setout : ByteArray := prog_1_method_18_code
def yX10_setout : MethodName := ⟨RX10, "setout", "(II)I"⟩
abbrev cX10_see : ByteArray := prog_1_method_19_code
def yX10_see : MethodName := ⟨RX10, "see", "(III)Z"⟩
abbrev cX10_fits : ByteArray := prog_1_method_20_code
def yX10_fits : MethodName := ⟨RX10, "fits", "()J"⟩
abbrev cX10_tells : ByteArray := prog_1_method_21_code
def yX10_tells : MethodName := ⟨RX10, "tells", "()I"⟩
abbrev cX10_lasts : ByteArray := prog_1_method_22_code
def yX10_lasts : MethodName := ⟨RX10, "lasts", "(I)I"⟩
abbrev cX10_share : ByteArray := prog_1_method_23_code
def yX10_share : MethodName := ⟨RX10, "share", "()I"⟩
abbrev cX10_through : ByteArray := prog_1_method_24_code
def yX10_through : MethodName := ⟨RX10, "through", "(II)I"⟩
abbrev cX10_now : ByteArray := prog_1_method_25_code
def yX10_now : MethodName := ⟨RX10, "now", "(III)I"⟩
abbrev cX10_lost : ByteArray := prog_1_method_26_code
def yX10_lost : MethodName := ⟨RX10, "lost", "(II)I"⟩
abbrev cX10_code : ByteArray := prog_1_method_27_code
def yX10_code : MethodName := ⟨RX10, "code", "(I)I"⟩
abbrev cX10_carry : ByteArray := prog_1_method_28_code
def yX10_carry : MethodName := ⟨RX10, "carry", "(I)I"⟩
abbrev cX10_months : ByteArray := prog_1_method_29_code
def yX10_months : MethodName := ⟨RX10, "months", "(III)I"⟩
abbrev cX10_mark : ByteArray := prog_1_method_30_code
def yX10_mark : MethodName := ⟨RX10, "mark", "(IZ)Z"⟩
abbrev cX10_count : ByteArray := prog_1_method_31_code
def yX10_count : MethodName := ⟨RX10, "count", "(I)I"⟩
abbrev cX10_beginPack : ByteArray := prog_1_method_32_code
def yX10_beginPack : MethodName := ⟨RX10, "beginPack", "()V"⟩
abbrev cX10_byHand : ByteArray := prog_1_method_33_code
def yX10_byHand : MethodName := ⟨RX10, "byHand", "(III)I"⟩
abbrev cX10_act : ByteArray := prog_1_method_34_code
def yX10_act : MethodName := ⟨RX10, "act", "(LPackWeeks$Stand;III)I"⟩
abbrev cX10_areTwoThings : ByteArray := prog_1_method_35_code
def yX10_areTwoThings : MethodName := ⟨RX10, "areTwoThings", "(II)Z"⟩
abbrev cX10_soonest : ByteArray := prog_1_method_36_code
def yX10_soonest : MethodName := ⟨RX10, "soonest", "(IIII)I"⟩
abbrev cX10_isWithin : ByteArray := prog_1_method_37_code
def yX10_isWithin : MethodName := ⟨RX10, "isWithin", "(III)Z"⟩
abbrev cX10_placeOf : ByteArray := prog_1_method_38_code
def yX10_placeOf : MethodName := ⟨RX10, "placeOf", "(II)I"⟩
abbrev cX10_overOf : ByteArray := prog_1_method_39_code
def yX10_overOf : MethodName := ⟨RX10, "overOf", "(I)I"⟩
abbrev cX10_downOf : ByteArray := prog_1_method_40_code
def yX10_downOf : MethodName := ⟨RX10, "downOf", "(I)I"⟩
abbrev cX10_bit : ByteArray := prog_1_method_41_code
def yX10_bit : MethodName := ⟨RX10, "bit", "(I)J"⟩
abbrev cX10_has : ByteArray := prog_1_method_42_code
def yX10_has : MethodName := ⟨RX10, "has", "(JI)Z"⟩
def RX11 : String := "PackWeeksModel"
def TX11 : u_T := fun k => match k with
  | 0 => ("PackWeeksModel", "thrown", "I", false)
  | 1 => ("PackWeeksModel", "tape", "[I", true)
  | 2 => ("PackWeeksModel", "taped", "I", false)
  | 3 => ("PackWeeksModel", "size", "I", false)
  | 4 => ("PackWeeksModel", "sort", "[I", true)
  | 5 => ("PackWeeksModel", "place", "[I", true)
  | 6 => ("PackWeeksModel", "value", "[J", true)
  | 7 => ("PackWeeksModel", "at", "I", false)
  | 8 => ("PackWeeksModel", "fault", "I", false)
  | 9 => ("PackWeeksModel", "words", "[J", true)
  | 10 => ("PackWeeksModel", "packs", "[I", true)
  | 11 => ("PackWeeksModel", "op", "[I", true)
  | 12 => ("PackWeeksModel", "arg", "[I", true)
  | 13 => ("PackWeeksModel", "codes", "I", false)
  | 14 => ("PackWeeksModel", "names", "[J", true)
  | 15 => ("PackWeeksModel", "readNames", "[J", true)
  | 16 => ("PackWeeksModel", "nameOf", "[I", true)
  | 17 => ("PackWeeksModel", "readNameOf", "[I", true)
  | 18 => ("PackWeeksModel", "namesMany", "I", false)
  | 19 => ("PackWeeksModel", "readMany", "I", false)
  | 20 => ("PackWeeksModel", "hasPace", "Z", false)
  | 21 => ("PackWeeksModel", "factsHere", "I", false)
  | 22 => ("PackWeeksModel", "lines", "[I", true)
  | 23 => ("PackWeeksModel", "facts", "[I", true)
  | 24 => ("PackWeeksModel", "pile", "[I", true)
  | 25 => ("PackWeeksModel", "state", "[I", true)
  | 26 => ("PackWeeksModel", "undos", "I", false)
  | 27 => ("PackWeeksModel", "isMarked", "[Z", true)
  | 28 => ("PackWeeksModel", "here", "[Z", true)
  | 29 => ("PackWeeksModel", "then", "[Z", true)
  | 30 => ("PackWeeksModel", "bearings", "[I", true)
  | 31 => ("PackWeeksModel", "needs", "[I", true)
  | 32 => ("PackWeeksModel", "chances", "[I", true)
  | 33 => ("PackWeeksModel", "looks", "[I", true)
  | 34 => ("PackWeeksModel", "grown", "[I", true)
  | 35 => ("PackWeeksModel", "bestRows", "[I", true)
  | 36 => ("PackWeeksModel", "order", "[I", true)
  | 37 => ("PackWeeksModel", "row", "[I", true)
  | 38 => ("PackWeeksModel", "bestSum", "I", false)
  | 39 => ("PackWeeksModel", "carried", "[I", true)
  | _ => ("PackWeeksModel", "g", "J", false)
def tyX11 : Nat → FieldType := fun k => match k with
  | 0 => .int
  | 1 => .array .int
  | 2 => .int
  | 3 => .int
  | 4 => .array .int
  | 5 => .array .int
  | 6 => .array .long
  | 7 => .int
  | 8 => .int
  | 9 => .array .long
  | 10 => .array .int
  | 11 => .array .int
  | 12 => .array .int
  | 13 => .int
  | 14 => .array .long
  | 15 => .array .long
  | 16 => .array .int
  | 17 => .array .int
  | 18 => .int
  | 19 => .int
  | 20 => .boolean
  | 21 => .int
  | 22 => .array .int
  | 23 => .array .int
  | 24 => .array .int
  | 25 => .array .int
  | 26 => .int
  | 27 => .array .boolean
  | 28 => .array .boolean
  | 29 => .array .boolean
  | 30 => .array .int
  | 31 => .array .int
  | 32 => .array .int
  | 33 => .array .int
  | 34 => .array .int
  | 35 => .array .int
  | 36 => .array .int
  | 37 => .array .int
  | 38 => .int
  | 39 => .array .int
  | _ => .long
abbrev wsX110 : List Cond := u_ws RX11 TX11 41
theorem nmX11 : ∀ a, a < 41 → ∀ b, b < 41 → a ≠ b → (TX11 a).2.1 ≠ (TX11 b).2.1 := by decide +kernel
theorem tyX11_ok : ∀ k, k < 41 → parseFieldDescriptor (TX11 k).2.2.1 = some (tyX11 k) := by decide +kernel
abbrev cX11_thrown : ByteArray := prog_13_method_1_code
def yX11_thrown : MethodName := ⟨RX11, "thrown", "()I"⟩
abbrev cX11_feed : ByteArray := prog_13_method_2_code
def yX11_feed : MethodName := ⟨RX11, "feed", "(JJJ)I"⟩
abbrev cX11_lay : ByteArray := prog_13_method_3_code
def yX11_lay : MethodName := ⟨RX11, "lay", "(J)V"⟩
abbrev cX11_init : ByteArray := prog_13_method_4_code
def yX11_init : MethodName := ⟨RX11, "<init>", "()V"⟩
abbrev cX11_isLetter : ByteArray := prog_13_method_5_code
def yX11_isLetter : MethodName := ⟨RX11, "isLetter", "(I)Z"⟩
abbrev cX11_isDigit : ByteArray := prog_13_method_6_code
def yX11_isDigit : MethodName := ⟨RX11, "isDigit", "(I)Z"⟩
abbrev cX11_rank : ByteArray := prog_13_method_7_code
def yX11_rank : MethodName := ⟨RX11, "rank", "(I)I"⟩
abbrev cX11_isSignOf : ByteArray := prog_13_method_8_code
def yX11_isSignOf : MethodName := ⟨RX11, "isSignOf", "(I)Z"⟩
abbrev cX11_cutAll : ByteArray := prog_13_method_9_code
def yX11_cutAll : MethodName := ⟨RX11, "cutAll", "()V"⟩
abbrev cX11_wrong : ByteArray := prog_13_method_10_code
def yX11_wrong : MethodName := ⟨RX11, "wrong", "(I)V"⟩
abbrev cX11_isSign : ByteArray := prog_13_method_11_code
def yX11_isSign : MethodName := ⟨RX11, "isSign", "(I)Z"⟩
abbrev cX11_isWord : ByteArray := prog_13_method_12_code
def yX11_isWord : MethodName := ⟨RX11, "isWord", "(I)Z"⟩
abbrev cX11_takeSign : ByteArray := prog_13_method_13_code
def yX11_takeSign : MethodName := ⟨RX11, "takeSign", "(I)V"⟩
abbrev cX11_hasSign : ByteArray := prog_13_method_14_code
def yX11_hasSign : MethodName := ⟨RX11, "hasSign", "(I)Z"⟩
abbrev cX11_hasWord : ByteArray := prog_13_method_15_code
def yX11_hasWord : MethodName := ⟨RX11, "hasWord", "(I)Z"⟩
abbrev cX11_takeWord : ByteArray := prog_13_method_16_code
def yX11_takeWord : MethodName := ⟨RX11, "takeWord", "(I)V"⟩
abbrev cX11_within : ByteArray := prog_13_method_17_code
def yX11_within : MethodName := ⟨RX11, "within", "(III)Z"⟩
abbrev cX11_standsAsAlways : ByteArray := prog_13_method_18_code
def yX11_standsAsAlways : MethodName := ⟨RX11, "standsAsAlways", "(I)V"⟩
abbrev cX11_takeNumber : ByteArray := prog_13_method_19_code
def yX11_takeNumber : MethodName := ⟨RX11, "takeNumber", "(II)I"⟩
abbrev cX11_takeAfter : ByteArray := prog_13_method_20_code
def yX11_takeAfter : MethodName := ⟨RX11, "takeAfter", "(III)I"⟩
abbrev cX11_wordHere : ByteArray := prog_13_method_21_code
def yX11_wordHere : MethodName := ⟨RX11, "wordHere", "(II)I"⟩
abbrev cX11_takeOne : ByteArray := prog_13_method_22_code
def yX11_takeOne : MethodName := ⟨RX11, "takeOne", "(II)I"⟩
abbrev cX11_isName : ByteArray := prog_13_method_23_code
def yX11_isName : MethodName := ⟨RX11, "isName", "()Z"⟩
abbrev cX11_find : ByteArray := prog_13_method_24_code
def yX11_find : MethodName := ⟨RX11, "find", "(Z)I"⟩
abbrev cX11_pack : ByteArray := prog_13_method_25_code
def yX11_pack : MethodName := ⟨RX11, "pack", "()I"⟩
abbrev cX11_readLine : ByteArray := prog_13_method_26_code
def yX11_readLine : MethodName := ⟨RX11, "readLine", "()V"⟩
abbrev cX11_readName : ByteArray := prog_13_method_27_code
def yX11_readName : MethodName := ⟨RX11, "readName", "(I)V"⟩
abbrev cX11_lastOver : ByteArray := prog_13_method_28_code
def yX11_lastOver : MethodName := ⟨RX11, "lastOver", "()I"⟩
abbrev cX11_lastDown : ByteArray := prog_13_method_29_code
def yX11_lastDown : MethodName := ⟨RX11, "lastDown", "()I"⟩
abbrev cX11_readDrift : ByteArray := prog_13_method_30_code
def yX11_readDrift : MethodName := ⟨RX11, "readDrift", "()V"⟩
abbrev cX11_readThing : ByteArray := prog_13_method_31_code
def yX11_readThing : MethodName := ⟨RX11, "readThing", "()V"⟩
abbrev cX11_readLead : ByteArray := prog_13_method_32_code
def yX11_readLead : MethodName := ⟨RX11, "readLead", "()V"⟩
abbrev cX11_readCrew : ByteArray := prog_13_method_33_code
def yX11_readCrew : MethodName := ⟨RX11, "readCrew", "()V"⟩
abbrev cX11_readGap : ByteArray := prog_13_method_34_code
def yX11_readGap : MethodName := ⟨RX11, "readGap", "()V"⟩
abbrev cX11_readSign : ByteArray := prog_13_method_35_code
def yX11_readSign : MethodName := ⟨RX11, "readSign", "()V"⟩
abbrev cX11_readLoad : ByteArray := prog_13_method_36_code
def yX11_readLoad : MethodName := ⟨RX11, "readLoad", "()V"⟩
abbrev cX11_readOnce : ByteArray := prog_13_method_37_code
def yX11_readOnce : MethodName := ⟨RX11, "readOnce", "()V"⟩
abbrev cX11_weeks : ByteArray := prog_13_method_38_code
def yX11_weeks : MethodName := ⟨RX11, "weeks", "()I"⟩
abbrev cX11_readWeek : ByteArray := prog_13_method_39_code
def yX11_readWeek : MethodName := ⟨RX11, "readWeek", "(II)V"⟩
abbrev cX11_takeCrew : ByteArray := prog_13_method_40_code
def yX11_takeCrew : MethodName := ⟨RX11, "takeCrew", "()I"⟩
abbrev cX11_emit : ByteArray := prog_13_method_41_code
def yX11_emit : MethodName := ⟨RX11, "emit", "(II)V"⟩
abbrev cX11_all : ByteArray := prog_13_method_42_code
def yX11_all : MethodName := ⟨RX11, "all", "(I)V"⟩
abbrev cX11_test : ByteArray := prog_13_method_43_code
def yX11_test : MethodName := ⟨RX11, "test", "(I)V"⟩
abbrev cX11_sums : ByteArray := prog_13_method_44_code
def yX11_sums : MethodName := ⟨RX11, "sums", "(I)V"⟩
abbrev cX11_products : ByteArray := prog_13_method_45_code
def yX11_products : MethodName := ⟨RX11, "products", "(I)V"⟩
abbrev cX11_takePart : ByteArray := prog_13_method_46_code
def yX11_takePart : MethodName := ⟨RX11, "takePart", "(I)V"⟩
abbrev cX11_worthAt : ByteArray := prog_13_method_47_code
def yX11_worthAt : MethodName := ⟨RX11, "worthAt", "(I)I"⟩
abbrev cX11_both : ByteArray := prog_13_method_48_code
def yX11_both : MethodName := ⟨RX11, "both", "(III)I"⟩
abbrev cX11_copies : ByteArray := prog_13_method_49_code
def yX11_copies : MethodName := ⟨RX11, "copies", "(III)V"⟩
abbrev cX11_starts : ByteArray := prog_13_method_50_code
def yX11_starts : MethodName := ⟨RX11, "starts", "(I)V"⟩
abbrev cX11_begins : ByteArray := prog_13_method_51_code
def yX11_begins : MethodName := ⟨RX11, "begins", "()V"⟩
abbrev cX11_keeps : ByteArray := prog_13_method_52_code
def yX11_keeps : MethodName := ⟨RX11, "keeps", "()V"⟩
abbrev cX11_things : ByteArray := prog_13_method_53_code
def yX11_things : MethodName := ⟨RX11, "things", "()I"⟩
abbrev cX11_crews : ByteArray := prog_13_method_54_code
def yX11_crews : MethodName := ⟨RX11, "crews", "()I"⟩
abbrev cX11_crewOf : ByteArray := prog_13_method_55_code
def yX11_crewOf : MethodName := ⟨RX11, "crewOf", "(II)I"⟩
abbrev cX11_kindOf : ByteArray := prog_13_method_56_code
def yX11_kindOf : MethodName := ⟨RX11, "kindOf", "(I)I"⟩
abbrev cX11_isThing : ByteArray := prog_13_method_57_code
def yX11_isThing : MethodName := ⟨RX11, "isThing", "(I)Z"⟩
abbrev cX11_isCrew : ByteArray := prog_13_method_58_code
def yX11_isCrew : MethodName := ⟨RX11, "isCrew", "(I)Z"⟩
abbrev cX11_isPlace : ByteArray := prog_13_method_59_code
def yX11_isPlace : MethodName := ⟨RX11, "isPlace", "(II)Z"⟩
abbrev cX11_onFrom : ByteArray := prog_13_method_60_code
def yX11_onFrom : MethodName := ⟨RX11, "onFrom", "(II)I"⟩
abbrev cX11_flowsTo : ByteArray := prog_13_method_61_code
def yX11_flowsTo : MethodName := ⟨RX11, "flowsTo", "(I)I"⟩
abbrev cX11_isOpen : ByteArray := prog_13_method_62_code
def yX11_isOpen : MethodName := ⟨RX11, "isOpen", "(II)Z"⟩
abbrev cX11_sledgeOf : ByteArray := prog_13_method_63_code
def yX11_sledgeOf : MethodName := ⟨RX11, "sledgeOf", "(II)I"⟩
abbrev cX11_flow : ByteArray := prog_13_method_64_code
def yX11_flow : MethodName := ⟨RX11, "flow", "(II)I"⟩
abbrev cX11_open : ByteArray := prog_13_method_65_code
def yX11_open : MethodName := ⟨RX11, "open", "(III)I"⟩
abbrev cX11_crewAt : ByteArray := prog_13_method_66_code
def yX11_crewAt : MethodName := ⟨RX11, "crewAt", "(I)I"⟩
abbrev cX11_thing : ByteArray := prog_13_method_67_code
def yX11_thing : MethodName := ⟨RX11, "thing", "(II)I"⟩
abbrev cX11_crew : ByteArray := prog_13_method_68_code
def yX11_crew : MethodName := ⟨RX11, "crew", "(II)I"⟩
abbrev cX11_lawOf : ByteArray := prog_13_method_69_code
def yX11_lawOf : MethodName := ⟨RX11, "lawOf", "(III)I"⟩
abbrev cX11_eatsOf : ByteArray := prog_13_method_70_code
def yX11_eatsOf : MethodName := ⟨RX11, "eatsOf", "(III)I"⟩
abbrev cX11_passes : ByteArray := prog_13_method_71_code
def yX11_passes : MethodName := ⟨RX11, "passes", "(I)I"⟩
abbrev cX11_drift : ByteArray := prog_13_method_72_code
def yX11_drift : MethodName := ⟨RX11, "drift", "(I)I"⟩
abbrev cX11_hauls : ByteArray := prog_13_method_73_code
def yX11_hauls : MethodName := ⟨RX11, "hauls", "(I)V"⟩
abbrev cX11_clearsHere : ByteArray := prog_13_method_74_code
def yX11_clearsHere : MethodName := ⟨RX11, "clearsHere", "(I)V"⟩
abbrev cX11_mayHaul : ByteArray := prog_13_method_75_code
def yX11_mayHaul : MethodName := ⟨RX11, "mayHaul", "(III)Z"⟩
abbrev cX11_hauledTo : ByteArray := prog_13_method_76_code
def yX11_hauledTo : MethodName := ⟨RX11, "hauledTo", "(III)V"⟩
abbrev cX11_haul : ByteArray := prog_13_method_77_code
def yX11_haul : MethodName := ⟨RX11, "haul", "(III)Z"⟩
abbrev cX11_mayLend : ByteArray := prog_13_method_78_code
def yX11_mayLend : MethodName := ⟨RX11, "mayLend", "(II)Z"⟩
abbrev cX11_lends : ByteArray := prog_13_method_79_code
def yX11_lends : MethodName := ⟨RX11, "lends", "(III)I"⟩
abbrev cX11_lend : ByteArray := prog_13_method_80_code
def yX11_lend : MethodName := ⟨RX11, "lend", "(II)I"⟩
abbrev cX11_mayHome : ByteArray := prog_13_method_81_code
def yX11_mayHome : MethodName := ⟨RX11, "mayHome", "(II)Z"⟩
abbrev cX11_home : ByteArray := prog_13_method_82_code
def yX11_home : MethodName := ⟨RX11, "home", "(I)Z"⟩
abbrev cX11_undo : ByteArray := prog_13_method_83_code
def yX11_undo : MethodName := ⟨RX11, "undo", "()Z"⟩
abbrev cX11_does : ByteArray := prog_13_method_84_code
def yX11_does : MethodName := ⟨RX11, "does", "(I)Z"⟩
abbrev cX11_judged : ByteArray := prog_13_method_85_code
def yX11_judged : MethodName := ⟨RX11, "judged", "(I)I"⟩
abbrev cX11_placeBehind : ByteArray := prog_13_method_86_code
def yX11_placeBehind : MethodName := ⟨RX11, "placeBehind", "(II)I"⟩
abbrev cX11_where : ByteArray := prog_13_method_87_code
def yX11_where : MethodName := ⟨RX11, "where", "(II)I"⟩
abbrev cX11_meet : ByteArray := prog_13_method_88_code
def yX11_meet : MethodName := ⟨RX11, "meet", "(II)I"⟩
abbrev cX11_reachOf : ByteArray := prog_13_method_89_code
def yX11_reachOf : MethodName := ⟨RX11, "reachOf", "(III)I"⟩
abbrev cX11_reach : ByteArray := prog_13_method_90_code
def yX11_reach : MethodName := ⟨RX11, "reach", "(III)I"⟩
abbrev cX11_setout : ByteArray := prog_13_method_91_code
def yX11_setout : MethodName := ⟨RX11, "setout", "(II)I"⟩
abbrev cX11_bearingOf : ByteArray := prog_13_method_92_code
def yX11_bearingOf : MethodName := ⟨RX11, "bearingOf", "(II)I"⟩
abbrev cX11_see : ByteArray := prog_13_method_93_code
def yX11_see : MethodName := ⟨RX11, "see", "(III)Z"⟩
abbrev cX11_fitsAt : ByteArray := prog_13_method_94_code
def yX11_fitsAt : MethodName := ⟨RX11, "fitsAt", "(I)Z"⟩
abbrev cX11_fits : ByteArray := prog_13_method_95_code
def yX11_fits : MethodName := ⟨RX11, "fits", "()J"⟩
abbrev cX11_tells : ByteArray := prog_13_method_96_code
def yX11_tells : MethodName := ⟨RX11, "tells", "()I"⟩
abbrev cX11_lastsWith : ByteArray := prog_13_method_97_code
def yX11_lastsWith : MethodName := ⟨RX11, "lastsWith", "(II)I"⟩
abbrev cX11_lasts : ByteArray := prog_13_method_98_code
def yX11_lasts : MethodName := ⟨RX11, "lasts", "(I)I"⟩
abbrev cX11_lastsBy : ByteArray := prog_13_method_99_code
def yX11_lastsBy : MethodName := ⟨RX11, "lastsBy", "(II)I"⟩
abbrev cX11_share : ByteArray := prog_13_method_100_code
def yX11_share : MethodName := ⟨RX11, "share", "()I"⟩
abbrev cX11_chanceAt : ByteArray := prog_13_method_101_code
def yX11_chanceAt : MethodName := ⟨RX11, "chanceAt", "(III)I"⟩
abbrev cX11_goesThrough : ByteArray := prog_13_method_102_code
def yX11_goesThrough : MethodName := ⟨RX11, "goesThrough", "(III)I"⟩
abbrev cX11_openDay : ByteArray := prog_13_method_103_code
def yX11_openDay : MethodName := ⟨RX11, "openDay", "(III)I"⟩
abbrev cX11_laysChances : ByteArray := prog_13_method_104_code
def yX11_laysChances : MethodName := ⟨RX11, "laysChances", "()V"⟩
abbrev cX11_through : ByteArray := prog_13_method_105_code
def yX11_through : MethodName := ⟨RX11, "through", "(II)I"⟩
abbrev cX11_now : ByteArray := prog_13_method_106_code
def yX11_now : MethodName := ⟨RX11, "now", "(III)I"⟩
abbrev cX11_lookAt : ByteArray := prog_13_method_107_code
def yX11_lookAt : MethodName := ⟨RX11, "lookAt", "(I)I"⟩
abbrev cX11_costOf : ByteArray := prog_13_method_108_code
def yX11_costOf : MethodName := ⟨RX11, "costOf", "(III)I"⟩
abbrev cX11_bestLook : ByteArray := prog_13_method_109_code
def yX11_bestLook : MethodName := ⟨RX11, "bestLook", "(II)I"⟩
abbrev cX11_lost : ByteArray := prog_13_method_110_code
def yX11_lost : MethodName := ⟨RX11, "lost", "(II)I"⟩
abbrev cX11_findOrder : ByteArray := prog_13_method_111_code
def yX11_findOrder : MethodName := ⟨RX11, "findOrder", "(I)V"⟩
abbrev cX11_looksAt : ByteArray := prog_13_method_112_code
def yX11_looksAt : MethodName := ⟨RX11, "looksAt", "(II)V"⟩
abbrev cX11_grows : ByteArray := prog_13_method_113_code
def yX11_grows : MethodName := ⟨RX11, "grows", "(II)V"⟩
abbrev cX11_code : ByteArray := prog_13_method_114_code
def yX11_code : MethodName := ⟨RX11, "code", "(I)I"⟩
abbrev cX11_carryOf : ByteArray := prog_13_method_115_code
def yX11_carryOf : MethodName := ⟨RX11, "carryOf", "(II)I"⟩
abbrev cX11_bestLoad : ByteArray := prog_13_method_116_code
def yX11_bestLoad : MethodName := ⟨RX11, "bestLoad", "(I)I"⟩
abbrev cX11_carry : ByteArray := prog_13_method_117_code
def yX11_carry : MethodName := ⟨RX11, "carry", "(I)I"⟩
abbrev cX11_draw : ByteArray := prog_13_method_118_code
def yX11_draw : MethodName := ⟨RX11, "draw", "(I)I"⟩
abbrev cX11_isVisited : ByteArray := prog_13_method_119_code
def yX11_isVisited : MethodName := ⟨RX11, "isVisited", "(II)Z"⟩
abbrev cX11_months : ByteArray := prog_13_method_120_code
def yX11_months : MethodName := ⟨RX11, "months", "(III)I"⟩
abbrev cX11_mark : ByteArray := prog_13_method_121_code
def yX11_mark : MethodName := ⟨RX11, "mark", "(IZ)Z"⟩
abbrev cX11_count : ByteArray := prog_13_method_122_code
def yX11_count : MethodName := ⟨RX11, "count", "(I)I"⟩
def RJx145de : String := "java/io/Serializable"
def TJx145de : u_T := fun k => match k with
  | _ => ("", "", "", false)
def tyJx145de : Nat → FieldType := fun k => match k with
  | _ => .int
abbrev wsJx145de0 : List Cond := u_ws RJx145de TJx145de 0
theorem nmJx145de : ∀ a, a < 0 → ∀ b, b < 0 → a ≠ b → (TJx145de a).2.1 ≠ (TJx145de b).2.1 := by decide +kernel
theorem tyJx145de_ok : ∀ k, k < 0 → parseFieldDescriptor (TJx145de k).2.2.1 = some (tyJx145de k) := by decide +kernel
def RJx29ce0 : String := "java/lang/Enum"
def TJx29ce0 : u_T := fun k => match k with
  | _ => ("", "", "", false)
def tyJx29ce0 : Nat → FieldType := fun k => match k with
  | _ => .int
abbrev wsJx29ce00 : List Cond := u_ws RJx29ce0 TJx29ce0 0
theorem nmJx29ce0 : ∀ a, a < 0 → ∀ b, b < 0 → a ≠ b → (TJx29ce0 a).2.1 ≠ (TJx29ce0 b).2.1 := by decide +kernel
theorem tyJx29ce0_ok : ∀ k, k < 0 → parseFieldDescriptor (TJx29ce0 k).2.2.1 = some (tyJx29ce0 k) := by decide +kernel
def RJ6 : String := "java/lang/Integer"
def TJ6 : u_T := fun k => match k with
  | _ => ("", "", "", false)
def tyJ6 : Nat → FieldType := fun k => match k with
  | _ => .int
abbrev wsJ60 : List Cond := u_ws RJ6 TJ6 0
theorem nmJ6 : ∀ a, a < 0 → ∀ b, b < 0 → a ≠ b → (TJ6 a).2.1 ≠ (TJ6 b).2.1 := by decide +kernel
theorem tyJ6_ok : ∀ k, k < 0 → parseFieldDescriptor (TJ6 k).2.2.1 = some (tyJ6 k) := by decide +kernel
abbrev cJ6_compare_7cf53 : ByteArray := prog_17_method_40_code
def yJ6_compare_7cf53 : MethodName := ⟨RJ6, "compare", "(II)I"⟩
def RJ13 : String := "java/lang/Long"
def TJ13 : u_T := fun k => match k with
  | _ => ("", "", "", false)
def tyJ13 : Nat → FieldType := fun k => match k with
  | _ => .int
abbrev wsJ130 : List Cond := u_ws RJ13 TJ13 0
theorem nmJ13 : ∀ a, a < 0 → ∀ b, b < 0 → a ≠ b → (TJ13 a).2.1 ≠ (TJ13 b).2.1 := by decide +kernel
theorem tyJ13_ok : ∀ k, k < 0 → parseFieldDescriptor (TJ13 k).2.2.1 = some (tyJ13 k) := by decide +kernel
abbrev cJ13_bitCount_95d88 : ByteArray := prog_18_method_50_code
def yJ13_bitCount_95d88 : MethodName := ⟨RJ13, "bitCount", "(J)I"⟩
def RJ9 : String := "java/lang/Math"
def TJ9 : u_T := fun k => match k with
  | _ => ("", "", "", false)
def tyJ9 : Nat → FieldType := fun k => match k with
  | _ => .int
abbrev wsJ90 : List Cond := u_ws RJ9 TJ9 0
theorem nmJ9 : ∀ a, a < 0 → ∀ b, b < 0 → a ≠ b → (TJ9 a).2.1 ≠ (TJ9 b).2.1 := by decide +kernel
theorem tyJ9_ok : ∀ k, k < 0 → parseFieldDescriptor (TJ9 k).2.2.1 = some (tyJ9 k) := by decide +kernel
abbrev cJ9_floorMod_7cf53 : ByteArray := prog_19_method_50_code
def yJ9_floorMod_7cf53 : MethodName := ⟨RJ9, "floorMod", "(II)I"⟩
abbrev cJ9_max_7cf53 : ByteArray := prog_19_method_65_code
def yJ9_max_7cf53 : MethodName := ⟨RJ9, "max", "(II)I"⟩
abbrev cJ9_min_7cf53 : ByteArray := prog_19_method_69_code
def yJ9_min_7cf53 : MethodName := ⟨RJ9, "min", "(II)I"⟩
def RJ0 : String := "java/lang/String"
def TJ0 : u_T := fun k => match k with
  | _ => ("", "", "", false)
def tyJ0 : Nat → FieldType := fun k => match k with
  | _ => .int
abbrev wsJ00 : List Cond := u_ws RJ0 TJ0 0
theorem nmJ0 : ∀ a, a < 0 → ∀ b, b < 0 → a ≠ b → (TJ0 a).2.1 ≠ (TJ0 b).2.1 := by decide +kernel
theorem tyJ0_ok : ∀ k, k < 0 → parseFieldDescriptor (TJ0 k).2.2.1 = some (tyJ0 k) := by decide +kernel
def RL : String := "PackWeeksLaw"
abbrev cL_thing : ByteArray := method_3_code
def yL_thing : MethodName := ⟨RL, "thing", "(LPackWeeks;II[J)I"⟩
abbrev cL_crew : ByteArray := method_4_code
def yL_crew : MethodName := ⟨RL, "crew", "(LPackWeeks;II[J)I"⟩
abbrev cL_share : ByteArray := method_5_code
def yL_share : MethodName := ⟨RL, "share", "(LPackWeeks;[J)I"⟩
abbrev cL_law : ByteArray := code
def yL_law : MethodName := ⟨RL, "law", "([I)Z"⟩
abbrev vwCl : List vw_C := [(RX0, TX0, 3), (RX1, TX1, 17), (RX2, TX2, 3), (RX3, TX3, 8), (RX4, TX4, 11), (RX5, TX5, 6), (RX6, TX6, 5), (RX7, TX7, 7), (RX8, TX8, 9), (RX10, TX10, 14), (RX11, TX11, 41)]
theorem inX0 : ∀ w ∈ wsX00, w ∈ lw_tbl := by decide +kernel
theorem inX1 : ∀ w ∈ wsX10, w ∈ lw_tbl := by decide +kernel
theorem inX2 : ∀ w ∈ wsX20, w ∈ lw_tbl := by decide +kernel
theorem inX3 : ∀ w ∈ wsX30, w ∈ lw_tbl := by decide +kernel
theorem inX4 : ∀ w ∈ wsX40, w ∈ lw_tbl := by decide +kernel
theorem inX5 : ∀ w ∈ wsX50, w ∈ lw_tbl := by decide +kernel
theorem inX6 : ∀ w ∈ wsX60, w ∈ lw_tbl := by decide +kernel
theorem inX7 : ∀ w ∈ wsX70, w ∈ lw_tbl := by decide +kernel
theorem inX8 : ∀ w ∈ wsX80, w ∈ lw_tbl := by decide +kernel
theorem inX10 : ∀ w ∈ wsX100, w ∈ lw_tbl := by decide +kernel
theorem inX11 : ∀ w ∈ wsX110, w ∈ lw_tbl := by decide +kernel
end
section
section EN
abbrev en_V : Type := Nat ⊕ (Nat ⊕ (Option Nat ⊕ (Nat ⊕ (Nat × Nat))))
abbrev en_C : Type := (Nat × List en_V) ⊕ (Nat × List en_V)
abbrev en_H : Type := List (List en_C)
abbrev en_L : Type := List (Nat × en_V)
abbrev en_S : Type := Nat × en_L × List en_V × en_H × Nat × Nat
abbrev en_R : Type := Option en_V × en_H × Nat × Nat
abbrev en_O : Type := en_R ⊕ en_S
abbrev en_I : Type := Instr × Nat × Nat × Nat
abbrev en_F : Type := Nat → List en_V → en_H → Nat → Option en_R
abbrev en_K : Type := Nat → en_L → List en_V → en_H → Nat → Nat → Option en_O
/-- the place n of a list, by the recursor: the kernel goes through it fast -/
noncomputable def en_nth {α : Type} (l : List α) : Nat → Option α :=
  List.rec (motive := fun _ => Nat → Option α) (fun _ => none) (fun a _ ih n => Nat.rec (motive := fun _ => Option α) (some a) (fun m _ => ih m) n) l
theorem en_nth_eq {α : Type} (l : List α) (n : Nat) : en_nth l n = l[n]? := by
  induction l generalizing n with
  | nil => exact List.getElem?_nil.symm
  | cons a l ih =>
    cases n with
    | zero => rfl
    | succ n => exact (ih n).trans List.getElem?_cons_succ.symm
noncomputable def en_upd {α : Type} (l : List α) : Nat → α → List α :=
  List.rec (motive := fun _ => Nat → α → List α) (fun _ _ => []) (fun a t ih n x => Nat.rec (motive := fun _ => List α) (x :: t) (fun m _ => a :: ih m x) n) l
theorem en_upd_eq {α : Type} (l : List α) (n : Nat) (x : α) : en_upd l n x = l.set n x := by
  induction l generalizing n with
  | nil => rfl
  | cons a l ih =>
    cases n with
    | zero => rfl
    | succ n => exact congrArg (a :: ·) (ih n)
noncomputable def en_rep {α : Type} (n : Nat) (a : α) : List α := Nat.rec (motive := fun _ => List α) [] (fun _ ih => a :: ih) n
theorem en_rep_eq {α : Type} (n : Nat) (a : α) : en_rep n a = List.replicate n a := by
  induction n with
  | zero => rfl
  | succ n ih => exact congrArg (a :: ·) ih
noncomputable def en_flt {α : Type} (g : α → Bool) (l : List α) : List α := List.rec (motive := fun _ => List α) [] (fun a _ ih => bif g a then a :: ih else ih) l
theorem en_flt_eq {α : Type} (g : α → Bool) (l : List α) : en_flt g l = l.filter g := by
  induction l with
  | nil => rfl
  | cons a l ih =>
    show (bif g a then a :: en_flt g l else en_flt g l) = _
    rw [ih, List.filter_cons]
    cases g a <;> rfl
noncomputable def en_len {α : Type} (l : List α) : Nat := List.rec (motive := fun _ => Nat) 0 (fun _ _ ih => Nat.succ ih) l
theorem en_len_eq {α : Type} (l : List α) : en_len l = l.length := by
  induction l with
  | nil => rfl
  | cons a l ih => exact congrArg Nat.succ ih
/-! ### the heap: rows of 24 cells -/
def en_ph : en_C := .inr (99, [])
noncomputable def en_get (t : en_H) (k : Nat) : Option en_C := match en_nth t (k / 24) with
  | none => none
  | some r => en_nth r (k % 24)
noncomputable def en_set (t : en_H) (k : Nat) (c : en_C) : en_H := match en_nth t (k / 24) with
  | none => t
  | some r => en_upd t (k / 24) (en_upd r (k % 24) c)
theorem en_get_set {t : en_H} {k : Nat} {c c0 : en_C} (h : en_get t k = some c0) (j : Nat) : en_get (en_set t k c) j = if j = k then some c else en_get t j := by
  unfold en_get at h
  unfold en_set
  cases hr : en_nth t (k / 24) with
  | none => rw [hr] at h; cases h
  | some r =>
    rw [hr] at h
    dsimp only at h
    rw [en_nth_eq] at hr h
    have l1 := (List.getElem?_eq_some_iff.mp hr).1
    have l2 := (List.getElem?_eq_some_iff.mp h).1
    show en_get (en_upd t (k / 24) (en_upd r (k % 24) c)) j = _
    rw [en_upd_eq, en_upd_eq]
    unfold en_get
    simp only [en_nth_eq]
    by_cases h1 : j / 24 = k / 24
    · rw [h1, List.getElem?_set_self l1]
      dsimp only
      by_cases h2 : j % 24 = k % 24
      · rw [if_pos (by omega), h2, List.getElem?_set_self l2]
      · rw [if_neg (by intro q; exact h2 (by rw [q])), List.getElem?_set_ne (Ne.symm h2), hr]
    · rw [if_neg (by intro q; exact h1 (by rw [q])), List.getElem?_set_ne (Ne.symm h1)]
/-! ### values -/
def en_kd : en_V → Nat
  | .inl _ => 0
  | .inr (.inl _) => 1
  | .inr (.inr (.inl _)) => 2
  | .inr (.inr (.inr (.inl 0))) => 1
  | .inr (.inr (.inr (.inl (_ + 1)))) => 2
  | .inr (.inr (.inr (.inr _))) => 0
def en_cat (a : en_V) : Nat := bif Nat.beq (en_kd a) 1 then 2 else 1
def en_rv (ba : Nat) (ex : Nat → Nat) : en_V → Value → Prop
  | .inl n, v => v = .int (nI n)
  | .inr (.inl n), v => v = .long (lN n)
  | .inr (.inr (.inl r)), v => v = va_rf (r.map (fun k => ba + k))
  | .inr (.inr (.inr (.inl 0))), v => ∃ x : Int64, v = .long x
  | .inr (.inr (.inr (.inl (j + 1)))), v => v = .ref (ex j)
  | .inr (.inr (.inr (.inr q))), v => ∃ x : Int32, v = .int x ∧ (q.1 : Int) ≤ x.toInt + 2147483648 ∧ x.toInt + 2147483648 ≤ (q.2 : Int)
def en_cv (ba : Nat) (ex : Nat → Nat) : en_V → Value
  | .inl n => .int (nI n)
  | .inr (.inl n) => .long (lN n)
  | .inr (.inr (.inl r)) => va_rf (r.map (fun k => ba + k))
  | .inr (.inr (.inr (.inl 0))) => .null
  | .inr (.inr (.inr (.inl (j + 1)))) => .ref (ex j)
  | .inr (.inr (.inr (.inr _))) => .null
theorem en_kd0 {ba : Nat} {ex : Nat → Nat} {a : en_V} {v : Value} (h : en_rv ba ex a v) (k : en_kd a = 0) : ∃ x : Int32, v = .int x := by
  match a, h, k with
  | .inl n, h, _ => exact ⟨_, h⟩
  | .inr (.inr (.inr (.inr q))), h, _ => obtain ⟨x, h, -⟩ := h; exact ⟨x, h⟩
  | .inr (.inl n), _, k => cases k
  | .inr (.inr (.inl r)), _, k => cases k
  | .inr (.inr (.inr (.inl 0))), _, k => cases k
  | .inr (.inr (.inr (.inl (j + 1)))), _, k => cases k
theorem en_kd1 {ba : Nat} {ex : Nat → Nat} {a : en_V} {v : Value} (h : en_rv ba ex a v) (k : en_kd a = 1) : ∃ x : Int64, v = .long x := by
  match a, h, k with
  | .inr (.inl n), h, _ => exact ⟨_, h⟩
  | .inr (.inr (.inr (.inl 0))), h, _ => exact h
  | .inl n, _, k => cases k
  | .inr (.inr (.inl r)), _, k => cases k
  | .inr (.inr (.inr (.inl (j + 1)))), _, k => cases k
  | .inr (.inr (.inr (.inr q))), _, k => cases k
theorem en_kd2 {ba : Nat} {ex : Nat → Nat} {a : en_V} {v : Value} (h : en_rv ba ex a v) (k : en_kd a = 2) : v = .null ∨ ∃ x : Nat, v = .ref x := by
  match a, h, k with
  | .inr (.inr (.inl none)), h, _ => exact Or.inl h
  | .inr (.inr (.inl (some r))), h, _ => exact Or.inr ⟨_, h⟩
  | .inr (.inr (.inr (.inl (j + 1)))), h, _ => exact Or.inr ⟨_, h⟩
  | .inl n, _, k => cases k
  | .inr (.inl n), _, k => cases k
  | .inr (.inr (.inr (.inl 0))), _, k => cases k
  | .inr (.inr (.inr (.inr q))), _, k => cases k
theorem en_kd_lt (a : en_V) : en_kd a = 0 ∨ en_kd a = 1 ∨ en_kd a = 2 := by
  match a with
  | .inl n => exact Or.inl rfl
  | .inr (.inl n) => exact Or.inr (Or.inl rfl)
  | .inr (.inr (.inl r)) => exact Or.inr (Or.inr rfl)
  | .inr (.inr (.inr (.inl 0))) => exact Or.inr (Or.inl rfl)
  | .inr (.inr (.inr (.inl (j + 1)))) => exact Or.inr (Or.inr rfl)
  | .inr (.inr (.inr (.inr q))) => exact Or.inl rfl
theorem en_rv_cat {ba : Nat} {ex : Nat → Nat} {a : en_V} {v : Value} (h : en_rv ba ex a v) : v.category = en_cat a := by
  rcases en_kd_lt a with k | k | k
  · obtain ⟨x, rfl⟩ := en_kd0 h k
    unfold en_cat; rw [k]; rfl
  · obtain ⟨x, rfl⟩ := en_kd1 h k
    unfold en_cat; rw [k]; rfl
  · unfold en_cat; rw [k]
    rcases en_kd2 h k with rfl | ⟨x, rfl⟩ <;> rfl
def en_rvs (ba : Nat) (ex : Nat → Nat) : List en_V → List Value → Prop
  | [], [] => True
  | a :: as, v :: vs => en_rv ba ex a v ∧ en_rvs ba ex as vs
  | [], _ :: _ => False
  | _ :: _, [] => False
theorem en_rvs_cons {ba : Nat} {ex : Nat → Nat} {a : en_V} {as : List en_V} {vs : List Value} (h : en_rvs ba ex (a :: as) vs) : ∃ v ws, vs = v :: ws ∧ en_rv ba ex a v ∧ en_rvs ba ex as ws := by
  cases vs with
  | nil => exact absurd h (by simp [en_rvs])
  | cons v ws => exact ⟨v, ws, rfl, h.1, h.2⟩
theorem en_rvs_nil {ba : Nat} {ex : Nat → Nat} {vs : List Value} (h : en_rvs ba ex [] vs) : vs = [] := by
  cases vs with
  | nil => rfl
  | cons v ws => exact absurd h (by simp [en_rvs])
theorem en_rvs_len {ba : Nat} {ex : Nat → Nat} : ∀ {as : List en_V} {vs : List Value}, en_rvs ba ex as vs → vs.length = as.length
  | [], vs, h => by rw [en_rvs_nil h]; rfl
  | a :: as, vs, h => by
    obtain ⟨v, ws, rfl, -, h2⟩ := en_rvs_cons h
    simp [en_rvs_len h2]
theorem en_rvs_get {ba : Nat} {ex : Nat → Nat} : ∀ {as : List en_V} {vs : List Value} {k : Nat} {a : en_V}, en_rvs ba ex as vs → as[k]? = some a → ∃ v, vs[k]? = some v ∧ en_rv ba ex a v
  | [], _, k, a, _, h => by simp at h
  | b :: as, vs, k, a, hr, h => by
    obtain ⟨v, ws, rfl, h1, h2⟩ := en_rvs_cons hr
    cases k with
    | zero => simp at h; subst h; exact ⟨v, by simp, h1⟩
    | succ k =>
      rw [List.getElem?_cons_succ] at h ⊢
      exact en_rvs_get h2 h
theorem en_rvs_set {ba : Nat} {ex : Nat → Nat} : ∀ {as : List en_V} {vs : List Value} (k : Nat) {a : en_V} {v : Value}, en_rvs ba ex as vs → en_rv ba ex a v → en_rvs ba ex (as.set k a) (vs.set k v)
  | [], vs, k, a, v, hr, _ => by rw [en_rvs_nil hr]; exact trivial
  | b :: as, vs, k, a, v, hr, h => by
    obtain ⟨w, ws, rfl, h1, h2⟩ := en_rvs_cons hr
    cases k with
    | zero => exact ⟨h, h2⟩
    | succ k => exact ⟨h1, en_rvs_set k h2 h⟩
theorem en_rvs_app {ba : Nat} {ex : Nat → Nat} : ∀ {as bs : List en_V} {vs ws : List Value}, en_rvs ba ex as vs → en_rvs ba ex bs ws → en_rvs ba ex (as ++ bs) (vs ++ ws)
  | [], bs, vs, ws, h1, h2 => by rw [en_rvs_nil h1]; exact h2
  | a :: as, bs, vs, ws, h1, h2 => by
    obtain ⟨v, vs', rfl, g1, g2⟩ := en_rvs_cons h1
    exact ⟨g1, en_rvs_app g2 h2⟩
theorem en_rvs_cat {ba : Nat} {ex : Nat → Nat} : ∀ {as : List en_V} {vs : List Value}, en_rvs ba ex as vs → (vs.map fun v => v.category) = as.map en_cat
  | [], vs, h => by rw [en_rvs_nil h]; rfl
  | a :: as, vs, h => by
    obtain ⟨v, ws, rfl, h1, h2⟩ := en_rvs_cons h
    rw [List.map_cons, List.map_cons, en_rvs_cat h2, en_rv_cat h1]
/-- locals -/
def en_rls (ba : Nat) (ex : Nat → Nat) : en_L → List (Nat × Value) → Prop
  | [], [] => True
  | a :: as, v :: vs => (a.1 = v.1 ∧ en_rv ba ex a.2 v.2) ∧ en_rls ba ex as vs
  | [], _ :: _ => False
  | _ :: _, [] => False
theorem en_rls_cons {ba : Nat} {ex : Nat → Nat} {a : Nat × en_V} {as : en_L} {vs : List (Nat × Value)} (h : en_rls ba ex (a :: as) vs) : ∃ v ws, vs = v :: ws ∧ a.1 = v.1 ∧ en_rv ba ex a.2 v.2 ∧ en_rls ba ex as ws := by
  cases vs with
  | nil => exact absurd h (by simp [en_rls])
  | cons v ws => exact ⟨v, ws, rfl, h.1.1, h.1.2, h.2⟩
theorem en_rls_nil {ba : Nat} {ex : Nat → Nat} {vs : List (Nat × Value)} (h : en_rls ba ex [] vs) : vs = [] := by
  cases vs with
  | nil => rfl
  | cons v ws => exact absurd h (by simp [en_rls])
theorem en_rls_flt {ba : Nat} {ex : Nat → Nat} {g : Nat × en_V → Bool} {g' : Nat × Value → Bool} (hg : ∀ (a : Nat × en_V) (v : Nat × Value), a.1 = v.1 → en_rv ba ex a.2 v.2 → g a = g' v) :
    ∀ {as : en_L} {vs : List (Nat × Value)}, en_rls ba ex as vs → en_rls ba ex (en_flt g as) (vs.filter g')
  | [], vs, h => by rw [en_rls_nil h]; exact trivial
  | a :: as, vs, h => by
    obtain ⟨v, ws, rfl, h1, h2, h3⟩ := en_rls_cons h
    have ih := en_rls_flt hg h3
    show en_rls ba ex (bif g a then a :: en_flt g as else en_flt g as) _
    rw [List.filter_cons, hg a v h1 h2]
    cases hv : g' v with
    | true => exact ⟨⟨h1, h2⟩, ih⟩
    | false => exact ih
noncomputable def en_ld (ls : en_L) (i : Nat) : Option en_V := List.rec (motive := fun _ => Option en_V) none (fun q _ ih => bif Nat.beq q.1 i then some q.2 else ih) ls
theorem en_ld_at {ba : Nat} {ex : Nat → Nat} {i : Nat} {a : en_V} : ∀ {ls : en_L} {vs : List (Nat × Value)}, en_rls ba ex ls vs → en_ld ls i = some a → ∃ (k : Nat) (v : Value), vs[k]? = some (i, v) ∧ en_rv ba ex a v
  | [], _, _, h => by cases h
  | q :: ls, vs, hr, h => by
    obtain ⟨v, ws, rfl, h1, h2, h3⟩ := en_rls_cons hr
    have h : (bif Nat.beq q.1 i then some q.2 else en_ld ls i) = some a := h
    cases hq : Nat.beq q.1 i with
    | true =>
      rw [hq] at h
      cases h
      have e := Nat.eq_of_beq_eq_true hq
      refine ⟨0, v.2, ?_, h2⟩
      rw [List.getElem?_cons_zero, ← e, h1]
    | false =>
      rw [hq] at h
      obtain ⟨k, w, g1, g2⟩ := en_ld_at h3 h
      exact ⟨k + 1, w, by rw [List.getElem?_cons_succ]; exact g1, g2⟩
def en_keep1 (i : Nat) (q : Nat × en_V) : Bool := bif Nat.beq q.1 i then false else bif Nat.beq (q.1 + 1) i then Nat.beq (en_cat q.2) 1 else true
def en_keep2 (i : Nat) (q : Nat × en_V) : Bool := bif Nat.beq q.1 (i + 1) then false else en_keep1 i q
theorem en_cat_12 (a : en_V) : en_cat a = 1 ∨ en_cat a = 2 := by
  unfold en_cat
  cases Nat.beq (en_kd a) 1
  · exact Or.inl rfl
  · exact Or.inr rfl
theorem en_beq (a b : Nat) : Nat.beq a b = decide (a = b) := by
  by_cases h : a = b
  · subst h; simp
  · rw [decide_eq_false h]
    exact Bool.eq_false_iff.mpr (fun q => h (Nat.eq_of_beq_eq_true q))
theorem en_keep1_ok {ba : Nat} {ex : Nat → Nat} (i : Nat) (a : Nat × en_V) (v : Nat × Value) (h1 : a.1 = v.1) (h2 : en_rv ba ex a.2 v.2) : en_keep1 i a = (!(v.1 == i) && !(v.1 + 1 == i && v.2.category == 2)) := by
  unfold en_keep1
  rw [en_rv_cat h2, ← h1, en_beq, en_beq, en_beq]
  rcases en_cat_12 a.2 with h | h <;> rw [h] <;> by_cases p : a.1 = i <;> by_cases q : a.1 + 1 = i <;> simp [p, q]
theorem en_keep2_ok {ba : Nat} {ex : Nat → Nat} (i : Nat) (a : Nat × en_V) (v : Nat × Value) (h1 : a.1 = v.1) (h2 : en_rv ba ex a.2 v.2) : en_keep2 i a = (!(v.1 == i) && (!(v.1 == i + 1) && !(v.1 + 1 == i && v.2.category == 2))) := by
  unfold en_keep2
  rw [en_keep1_ok i a v h1 h2, en_beq, h1]
  by_cases p : v.1 = i + 1
  · simp [p]
  · have q : (v.1 == i + 1) = false := by simp [p]
    rw [decide_eq_false p, q]
    rfl
def en_lr (ba : Nat) (ex : Nat → Nat) (nL : Nat) (al : en_L) (ls : Array Slot) : Prop := ∃ vl : List (Nat × Value), lv_has ls nL vl ∧ en_rls ba ex al vl
/-- the locals with which a method begins -/
noncomputable def en_args (as : List en_V) : Nat → en_L := List.rec (motive := fun _ => Nat → en_L) (fun _ => []) (fun a _ ih i => (i, a) :: ih (bif Nat.beq (en_cat a) 2 then i + 2 else i + 1)) as
theorem en_args_ok {ba : Nat} {ex : Nat → Nat} : ∀ {as : List en_V} {vs : List Value} (i : Nat), en_rvs ba ex as vs → en_rls ba ex (en_args as i) (lv_args i vs)
  | [], vs, i, h => by rw [en_rvs_nil h]; exact trivial
  | a :: as, vs, i, h => by
    obtain ⟨v, ws, rfl, h1, h2⟩ := en_rvs_cons h
    refine ⟨⟨rfl, h1⟩, ?_⟩
    rw [en_rv_cat h1]
    have ih := en_args_ok (as := as) (vs := ws) (if en_cat a = 2 then i + 2 else i + 1) h2
    rw [en_beq]
    rcases en_cat_12 a with k | k <;> rw [k] at ih ⊢ <;> exact ih
theorem en_args_len {ba : Nat} {ex : Nat → Nat} : ∀ {as : List en_V} {vs : List Value}, en_rvs ba ex as vs → (lg_sl vs).length = (as.map en_cat).sum
  | [], vs, h => by rw [en_rvs_nil h]; rfl
  | a :: as, vs, h => by
    obtain ⟨v, ws, rfl, h1, h2⟩ := en_rvs_cons h
    have ih := en_args_len h2
    have hc := en_rv_cat h1
    unfold lg_sl at ih ⊢
    rw [List.flatMap_cons, List.length_append, ih, List.map_cons, List.sum_cons, hc]
    rcases en_cat_12 a with k | k <;> rw [k] <;> rfl
/-! ### bounds of ints -/
def en_bnd : en_V → Option (Nat × Nat)
  | .inl n => some ((n + 2147483648) % 4294967296, (n + 2147483648) % 4294967296)
  | .inr (.inr (.inr (.inr q))) => some q
  | .inr (.inl _) => none
  | .inr (.inr (.inl _)) => none
  | .inr (.inr (.inr (.inl _))) => none
theorem en_nI_toInt (n : Nat) : (nI n).toInt + 2147483648 = (((n + 2147483648) % 4294967296 : Nat) : Int) := by
  have h : (nI n).toInt = Int.bmod n (2 ^ 32) := Int32.toInt_ofNat'
  rw [h, Int.bmod_def]
  omega
theorem en_bnd_ok {ba : Nat} {ex : Nat → Nat} {a : en_V} {v : Value} {l h : Nat} (hr : en_rv ba ex a v) (hb : en_bnd a = some (l, h)) : ∃ x : Int32, v = .int x ∧ (l : Int) ≤ x.toInt + 2147483648 ∧ x.toInt + 2147483648 ≤ (h : Int) := by
  match a, hr, hb with
  | .inl n, hr, hb =>
    simp only [en_bnd, Option.some.injEq, Prod.mk.injEq] at hb
    obtain ⟨e1, e2⟩ := hb
    exact ⟨nI n, hr, by rw [← e1]; exact Int.le_of_eq (en_nI_toInt n).symm, by rw [← e2]; exact Int.le_of_eq (en_nI_toInt n)⟩
  | .inr (.inr (.inr (.inr q))), hr, hb =>
    cases hb
    exact hr
  | .inr (.inl n), _, hb => cases hb
  | .inr (.inr (.inl r)), _, hb => cases hb
  | .inr (.inr (.inr (.inl j))), _, hb => cases hb
def en_lt (x y : en_V) : Option Bool := match en_bnd x, en_bnd y with
  | some q, some r => bif Nat.blt q.2 r.1 then some true else bif Nat.ble r.2 q.1 then some false else none
  | _, _ => none
def en_eq (x y : en_V) : Option Bool := match en_bnd x, en_bnd y with
  | some q, some r => bif Nat.beq q.1 q.2 && (Nat.beq q.1 r.1 && Nat.beq r.1 r.2) then some true else bif Nat.blt q.2 r.1 || Nat.blt r.2 q.1 then some false else none
  | _, _ => none
theorem en_lt_ok {ba : Nat} {ex : Nat → Nat} {a b : en_V} {v w : Value} {r : Bool} (ha : en_rv ba ex a v) (hb : en_rv ba ex b w) (h : en_lt a b = some r) : ∃ x y : Int32, v = .int x ∧ w = .int y ∧ (x < y ↔ r = true) := by
  unfold en_lt at h
  cases h1 : en_bnd a with
  | none => rw [h1] at h; cases h
  | some q =>
    cases h2 : en_bnd b with
    | none => rw [h1, h2] at h; cases h
    | some u =>
      rw [h1, h2] at h
      obtain ⟨x, rfl, a1, a2⟩ := en_bnd_ok (l := q.1) (h := q.2) ha h1
      obtain ⟨y, rfl, b1, b2⟩ := en_bnd_ok (l := u.1) (h := u.2) hb h2
      refine ⟨x, y, rfl, rfl, ?_⟩
      rw [Int32.lt_iff_toInt_lt]
      dsimp only at h
      cases g1 : Nat.blt q.2 u.1 with
      | true =>
        rw [g1] at h
        cases h
        have g1 := Nat.lt_of_succ_le (Nat.le_of_ble_eq_true g1)
        exact ⟨fun _ => rfl, fun _ => by omega⟩
      | false =>
        rw [g1] at h
        cases g2 : Nat.ble u.2 q.1 with
        | true =>
          rw [g2] at h
          cases h
          have g2 := Nat.le_of_ble_eq_true g2
          exact ⟨fun _ => by omega, fun q => by cases q⟩
        | false => rw [g2] at h; cases h
theorem en_eq_ok {ba : Nat} {ex : Nat → Nat} {a b : en_V} {v w : Value} {r : Bool} (ha : en_rv ba ex a v) (hb : en_rv ba ex b w) (h : en_eq a b = some r) : ∃ x y : Int32, v = .int x ∧ w = .int y ∧ (x = y ↔ r = true) := by
  unfold en_eq at h
  cases h1 : en_bnd a with
  | none => rw [h1] at h; cases h
  | some q =>
    cases h2 : en_bnd b with
    | none => rw [h1, h2] at h; cases h
    | some u =>
      rw [h1, h2] at h
      obtain ⟨x, rfl, a1, a2⟩ := en_bnd_ok (l := q.1) (h := q.2) ha h1
      obtain ⟨y, rfl, b1, b2⟩ := en_bnd_ok (l := u.1) (h := u.2) hb h2
      refine ⟨x, y, rfl, rfl, ?_⟩
      rw [← Int32.toInt_inj]
      dsimp only at h
      rw [en_beq, en_beq, en_beq] at h
      cases g1 : (decide (q.1 = q.2) && (decide (q.1 = u.1) && decide (u.1 = u.2))) with
      | true =>
        rw [g1] at h
        cases h
        simp only [Bool.and_eq_true, decide_eq_true_eq] at g1
        exact ⟨fun _ => rfl, fun _ => by omega⟩
      | false =>
        rw [g1] at h
        cases g2 : (Nat.blt q.2 u.1 || Nat.blt u.2 q.1) with
        | true =>
          rw [g2] at h
          cases h
          have g3 : q.2 < u.1 ∨ u.2 < q.1 := by
            rcases Bool.or_eq_true_iff.mp g2 with g | g
            · exact Or.inl (Nat.le_of_ble_eq_true g)
            · exact Or.inr (Nat.le_of_ble_eq_true g)
          exact ⟨fun _ => by omega, fun q => by cases q⟩
        | false => rw [g2] at h; cases h
end EN
end
section
section EN2
/-! ### operations on numbers -/
theorem en_nI_tn (v : Int32) : nI v.toBitVec.toNat = v := Int32.toBitVec_inj.mp (by simp [nI])
theorem en_lN_tn (v : Int64) : lN v.toBitVec.toNat = v := Int64.toBitVec_inj.mp (by simp [lN])
theorem en_nI_mod (n : Nat) : nI (n % 4294967296) = nI n := by
  apply Int32.toBitVec_inj.mp
  apply BitVec.eq_of_toNat_eq
  simp [nI]
def en_wrap (n : Nat) : Nat := n % 4294967296
/-- a binary operation on ints -/
def en_ii (g : Nat → Nat → Option Nat) (a b : en_V) : Option en_V := match a, b with
  | .inl x, .inl y => (match g x y with | some z => some (.inl z) | none => none)
  | _, _ => none
def en_ll (g : Nat → Nat → Nat) (a b : en_V) : Option en_V := match a, b with
  | .inr (.inl x), .inr (.inl y) => some (.inr (.inl (g x y)))
  | _, _ => none
def en_li (g : Nat → Nat → Nat) (a b : en_V) : Option en_V := match a, b with
  | .inr (.inl x), .inl y => some (.inr (.inl (g x y)))
  | _, _ => none
def en_iadd (a b : en_V) : Option en_V := match a, b with
  | .inl x, .inl y => some (.inl (en_wrap (x + y)))
  | _, _ => (match en_bnd a, en_bnd b with
    | some q, some r => bif Nat.ble 2147483648 (q.1 + r.1) && Nat.blt (q.2 + r.2) 6442450944 then some (.inr (.inr (.inr (.inr (q.1 + r.1 - 2147483648, q.2 + r.2 - 2147483648))))) else none
    | _, _ => none)
def en_isub (x y : Nat) : Option Nat := some (nI x - nI y).toBitVec.toNat
def en_imul (x y : Nat) : Option Nat := some (en_wrap (x * y))
def en_iand (x y : Nat) : Option Nat := some (nI x &&& nI y).toBitVec.toNat
def en_ishl (x y : Nat) : Option Nat := some (nI x <<< (nI y &&& 31)).toBitVec.toNat
def en_ishr (x y : Nat) : Option Nat := some (nI x >>> (nI y &&& 31)).toBitVec.toNat
def en_idiv (x y : Nat) : Option Nat := if nI y = 0 then none else some (nI x / nI y).toBitVec.toNat
def en_irem (x y : Nat) : Option Nat := if nI y = 0 then none else some (nI x - nI x / nI y * nI y).toBitVec.toNat
def en_ladd (x y : Nat) : Nat := (lN x + lN y).toBitVec.toNat
def en_lsub (x y : Nat) : Nat := (lN x - lN y).toBitVec.toNat
def en_land (x y : Nat) : Nat := (lN x &&& lN y).toBitVec.toNat
def en_lor (x y : Nat) : Nat := (lN x ||| lN y).toBitVec.toNat
def en_lshl (x y : Nat) : Nat := (lN x <<< ((nI y).toInt64 &&& 63)).toBitVec.toNat
def en_lushr (x y : Nat) : Nat := ((lN x).toUInt64 >>> ((nI y).toInt64.toUInt64 &&& Int64.toUInt64 63)).toInt64.toBitVec.toNat
def en_lcmp (a b : en_V) : Option en_V := match a, b with
  | .inr (.inl x), .inr (.inl y) => some (.inl (lg_cmp (lN x) (lN y)).toBitVec.toNat)
  | _, _ => none
def en_ac (a b : en_V) : Option Bool := match a, b with
  | .inr (.inr (.inl x)), .inr (.inr (.inl y)) => some (decide (x = y))
  | .inr (.inr (.inl none)), .inr (.inr (.inr (.inl (_ + 1)))) => some false
  | .inr (.inr (.inr (.inl (_ + 1)))), .inr (.inr (.inl none)) => some false
  | _, _ => none
theorem en_ii_ok {ba : Nat} {ex : Nat → Nat} {g : Nat → Nat → Option Nat} {F : Int32 → Int32 → Int32} {P : Int32 → Int32 → Prop} (hg : ∀ x y z, g x y = some z → nI z = F (nI x) (nI y) ∧ P (nI x) (nI y)) {a b v : en_V} {va vb : Value} (ha : en_rv ba ex a va) (hb : en_rv ba ex b vb) (h : en_ii g a b = some v) :
    ∃ x y : Int32, va = .int x ∧ vb = .int y ∧ en_rv ba ex v (.int (F x y)) ∧ P x y := by
  unfold en_ii at h
  split at h
  · rename_i x y
    split at h
    · rename_i z hz
      cases h
      obtain ⟨h1, h2⟩ := hg _ _ _ hz
      exact ⟨nI x, nI y, ha, hb, by show Value.int _ = Value.int _; rw [h1], h2⟩
    · cases h
  · cases h
theorem en_ll_ok {ba : Nat} {ex : Nat → Nat} {g : Nat → Nat → Nat} {F : Int64 → Int64 → Int64} (hg : ∀ x y, lN (g x y) = F (lN x) (lN y)) {a b v : en_V} {va vb : Value} (ha : en_rv ba ex a va) (hb : en_rv ba ex b vb) (h : en_ll g a b = some v) :
    ∃ x y : Int64, va = .long x ∧ vb = .long y ∧ en_rv ba ex v (.long (F x y)) := by
  unfold en_ll at h
  split at h
  · rename_i x y
    cases h
    exact ⟨lN x, lN y, ha, hb, by show Value.long _ = Value.long _; rw [hg]⟩
  · cases h
theorem en_li_ok {ba : Nat} {ex : Nat → Nat} {g : Nat → Nat → Nat} {F : Int64 → Int32 → Int64} (hg : ∀ x y, lN (g x y) = F (lN x) (nI y)) {a b v : en_V} {va vb : Value} (ha : en_rv ba ex a va) (hb : en_rv ba ex b vb) (h : en_li g a b = some v) :
    ∃ (x : Int64) (y : Int32), va = .long x ∧ vb = .int y ∧ en_rv ba ex v (.long (F x y)) := by
  unfold en_li at h
  split at h
  · rename_i x y
    cases h
    exact ⟨lN x, nI y, ha, hb, by show Value.long _ = Value.long _; rw [hg]⟩
  · cases h
theorem en_lcmp_ok {ba : Nat} {ex : Nat → Nat} {a b v : en_V} {va vb : Value} (ha : en_rv ba ex a va) (hb : en_rv ba ex b vb) (h : en_lcmp a b = some v) :
    ∃ x y : Int64, va = .long x ∧ vb = .long y ∧ en_rv ba ex v (.int (lg_cmp x y)) := by
  unfold en_lcmp at h
  split at h
  · rename_i x y
    cases h
    exact ⟨lN x, lN y, ha, hb, by show Value.int _ = Value.int _; rw [en_nI_tn]⟩
  · cases h
theorem en_iadd_ok {ba : Nat} {ex : Nat → Nat} {a b v : en_V} {va vb : Value} (ha : en_rv ba ex a va) (hb : en_rv ba ex b vb) (h : en_iadd a b = some v) :
    ∃ x y : Int32, va = .int x ∧ vb = .int y ∧ en_rv ba ex v (.int (x + y)) := by
  unfold en_iadd at h
  split at h
  · rename_i x y
    cases h
    refine ⟨nI x, nI y, ha, hb, ?_⟩
    show Value.int _ = Value.int _
    unfold en_wrap
    rw [en_nI_mod, nI_add]
  · split at h
    · rename_i q r h1 h2
      obtain ⟨x, rfl, a1, a2⟩ := en_bnd_ok (l := q.1) (h := q.2) ha h1
      obtain ⟨y, rfl, b1, b2⟩ := en_bnd_ok (l := r.1) (h := r.2) hb h2
      cases hc : (Nat.ble 2147483648 (q.1 + r.1) && Nat.blt (q.2 + r.2) 6442450944) with
      | false => rw [hc] at h; cases h
      | true =>
        rw [hc] at h
        have hv : v = .inr (.inr (.inr (.inr (q.1 + r.1 - 2147483648, q.2 + r.2 - 2147483648)))) := (Option.some.inj h).symm
        subst hv
        obtain ⟨g1, g2⟩ := Bool.and_eq_true_iff.mp hc
        have g1 : 2147483648 ≤ q.1 + r.1 := Nat.le_of_ble_eq_true g1
        have g2 : q.2 + r.2 < 6442450944 := Nat.le_of_ble_eq_true g2
        refine ⟨x, y, rfl, rfl, x + y, rfl, ?_⟩
        have e : (x + y).toInt = x.toInt + y.toInt := by
          rw [Int32.toInt_add, Int.bmod_def]
          omega
        rw [e]
        show ((q.1 + r.1 - 2147483648 : Nat) : Int) ≤ _ ∧ _ ≤ ((q.2 + r.2 - 2147483648 : Nat) : Int)
        omega
    · cases h
theorem en_ac_ok {ba : Nat} {ex : Nat → Nat} {a b : en_V} {va vb : Value} {r : Bool} (ha : en_rv ba ex a va) (hb : en_rv ba ex b vb) (h : en_ac a b = some r) :
    ∃ x y : Option Nat, va = va_rf x ∧ vb = va_rf y ∧ (x = y ↔ r = true) := by
  unfold en_ac at h
  split at h
  · rename_i x y
    cases h
    refine ⟨_, _, ha, hb, ?_⟩
    rw [decide_eq_true_iff]
    refine ⟨fun q => ?_, fun q => by rw [q]⟩
    cases x <;> cases y <;> simp at q ⊢
    omega
  · rename_i j
    cases h
    exact ⟨none, some (ex j), ha, hb, by simp⟩
  · rename_i j
    cases h
    exact ⟨some (ex j), none, ha, hb, by simp⟩
  · cases h
/-! ### one step -/
noncomputable def en_load (d i : Nat) (nx : Nat) (ls : en_L) (st : List en_V) (t : en_H) (n sl : Nat) (k : en_K) : Option en_O := match en_ld ls i with
  | some a => bif Nat.beq (en_kd a) d then k nx ls (a :: st) t n sl else none
  | none => none
noncomputable def en_store (d i : Nat) (nx : Nat) (ls : en_L) (st : List en_V) (t : en_H) (n sl : Nat) (k : en_K) : Option en_O := match st with
  | a :: r => bif Nat.beq (en_kd a) d then k nx ((i, a) :: en_flt (bif Nat.beq d 1 then en_keep2 i else en_keep1 i) ls) r t n sl else none
  | [] => none
noncomputable def en_iinc (i x : Nat) (nx : Nat) (ls : en_L) (st : List en_V) (t : en_H) (n sl : Nat) (k : en_K) : Option en_O := match en_ld ls i with
  | some (.inl a) => k nx ((i, .inl (en_wrap (a + x))) :: en_flt (en_keep1 i) ls) st t n sl
  | _ => none
noncomputable def en_bin (g : en_V → en_V → Option en_V) (nx : Nat) (ls : en_L) (st : List en_V) (t : en_H) (n sl : Nat) (k : en_K) : Option en_O := match st with
  | b :: a :: r => (match g a b with | some v => k nx ls (v :: r) t n sl | none => none)
  | _ => none
noncomputable def en_jump (r : Option Bool) (tg nx : Nat) (ls : en_L) (st : List en_V) (t : en_H) (n sl : Nat) (k : en_K) : Option en_O := match r with
  | some b => bif b then k tg ls st t n sl else k nx ls st t n sl
  | none => none
def en_not (r : Option Bool) : Option Bool := match r with
  | some b => some (!b)
  | none => none
def en_rel (q : ClassFile.Cond) (a b : en_V) : Option Bool := match q with
  | .eq => en_eq a b
  | .ne => en_not (en_eq a b)
  | .lt => en_lt a b
  | .ge => en_not (en_lt a b)
  | .gt => en_lt b a
  | .le => en_not (en_lt b a)
noncomputable def en_getf (x1 x2 : Nat) (nx : Nat) (ls : en_L) (st : List en_V) (t : en_H) (n sl : Nat) (k : en_K) : Option en_O := match st with
  | .inr (.inr (.inl (some a))) :: r => (match en_get t a with
    | some (.inr q) => bif Nat.beq q.1 x2 then (match en_nth q.2 x1 with | some v => k nx ls (v :: r) t n sl | none => none) else none
    | _ => none)
  | _ => none
/-- may a value lie in a field of the kind: 0 int, 1 long, 2 a reference, 3 boolean -/
def en_fit (kd : Nat) (v : en_V) : Bool := bif Nat.beq kd 3 then (match v with | .inl x => Nat.ble x 1 | _ => false) else Nat.beq (en_kd v) kd
noncomputable def en_putf (x1 ci kd : Nat) (nx : Nat) (ls : en_L) (st : List en_V) (t : en_H) (n sl : Nat) (k : en_K) : Option en_O := match st with
  | v :: .inr (.inr (.inl (some a))) :: r => (match en_get t a with
    | some (.inr q) => bif Nat.beq q.1 ci && en_fit kd v && Nat.blt x1 (en_len q.2) then k nx ls r (en_set t a (.inr (q.1, en_upd q.2 x1 v))) n sl else none
    | _ => none)
  | _ => none
noncomputable def en_aget (c : Nat → Bool) (nx : Nat) (ls : en_L) (st : List en_V) (t : en_H) (n sl : Nat) (k : en_K) : Option en_O := match st with
  | .inl i :: .inr (.inr (.inl (some a))) :: r => (match en_get t a with
    | some (.inl q) => bif c q.1 && Nat.blt i 2147483648 then (match en_nth q.2 i with | some v => k nx ls (v :: r) t n sl | none => none) else none
    | _ => none)
  | _ => none
/-- may a value lie in an array of the kind -/
noncomputable def en_afit (t : en_H) (d c : Nat) (v : en_V) : Bool := match d, v with
  | 0, .inl _ => Nat.beq c 0
  | 1, .inr (.inl _) => Nat.beq c 3
  | 2, .inl x => Nat.beq c 2 && Nat.ble x 1
  | 3, .inr (.inr (.inl none)) => Nat.beq c 4
  | 3, .inr (.inr (.inl (some y))) => (match en_get t y with
    | some (.inr q) => (Nat.beq c 5 && Nat.beq q.1 7) || (Nat.beq c 6 && Nat.beq q.1 6)
    | _ => false)
  | _, _ => false
noncomputable def en_aput (d : Nat) (nx : Nat) (ls : en_L) (st : List en_V) (t : en_H) (n sl : Nat) (k : en_K) : Option en_O := match st with
  | v :: .inl i :: .inr (.inr (.inl (some a))) :: r => (match en_get t a with
    | some (.inl q) => bif en_afit t d q.1 v && (Nat.blt i 2147483648 && Nat.blt i (en_len q.2)) then k nx ls r (en_set t a (.inl (q.1, en_upd q.2 i v))) n sl else none
    | _ => none)
  | _ => none
noncomputable def en_alen (nx : Nat) (ls : en_L) (st : List en_V) (t : en_H) (n sl : Nat) (k : en_K) : Option en_O := match st with
  | .inr (.inr (.inl (some a))) :: r => (match en_get t a with
    | some (.inl q) => bif Nat.blt q.1 8 then k nx ls (.inl (en_len q.2) :: r) t n sl else none
    | _ => none)
  | _ => none
/-- is the place n the next free one -/
noncomputable def en_free (t : en_H) (n : Nat) : Bool := match en_get t n with
  | some (.inr q) => Nat.beq q.1 99
  | _ => false
noncomputable def en_new (ci : Nat) (fs : List en_V) (nx : Nat) (ls : en_L) (st : List en_V) (t : en_H) (n sl : Nat) (k : en_K) : Option en_O :=
  bif en_free t n then k nx ls (.inr (.inr (.inl (some n))) :: st) (en_set t n (.inr (ci, fs))) (n + 1) (sl + en_len fs) else none
noncomputable def en_newa (c : Nat) (z : en_V) (nx : Nat) (ls : en_L) (st : List en_V) (t : en_H) (n sl : Nat) (k : en_K) : Option en_O := match st with
  | .inl m :: r => bif en_free t n && Nat.ble m 60000 then k nx ls (.inr (.inr (.inl (some n))) :: r) (en_set t n (.inl (c, en_rep m z))) (n + 1) (sl + m) else none
  | _ => none
/-- cells n, n + 1 .. , each an array of ints -/
noncomputable def en_fill (m : Nat) (t : en_H) (n : Nat) : Nat → Option en_H := fun i => Nat.rec (motive := fun _ => Option en_H) (some t) (fun j ih => match ih with
  | some u => bif en_free u (n + j) then some (en_set u (n + j) (.inl (0, en_rep m (.inl 0)))) else none
  | none => none) i
noncomputable def en_refs (n m : Nat) : List en_V := Nat.rec (motive := fun _ => Nat → List en_V) (fun _ => []) (fun _ ih j => .inr (.inr (.inl (some j))) :: ih (j + 1)) m n
noncomputable def en_multi (nx : Nat) (ls : en_L) (st : List en_V) (t : en_H) (n sl : Nat) (k : en_K) : Option en_O := match st with
  | .inl m :: .inl w :: r => bif en_free t n && (Nat.ble m 60000 && Nat.ble w 60000) then (match en_fill m (en_set t n (.inl (7, en_refs (n + 1) w))) (n + 1) w with
    | some u => k nx ls (.inr (.inr (.inl (some n))) :: r) u (n + 1 + w) (sl + w + w * m)
    | none => none) else none
  | _ => none
/-- the topmost m of a stack, the last first, and the rest -/
noncomputable def en_take (m : Nat) : List en_V → List en_V → Option (List en_V × List en_V) := Nat.rec (motive := fun _ => List en_V → List en_V → Option (List en_V × List en_V)) (fun st acc => some (acc, st)) (fun _ ih st acc => match st with
  | a :: r => ih r (a :: acc)
  | [] => none) m
noncomputable def en_sum (l : List en_V) : Nat := List.rec (motive := fun _ => Nat) 0 (fun a _ ih => en_cat a + ih) l
noncomputable def en_recv (t : en_H) (rc : Nat) (as : List en_V) : Bool := match as with
  | .inr (.inr (.inl (some a))) :: _ => (match en_get t a with
    | some (.inr q) => Nat.beq q.1 rc
    | _ => false)
  | _ => false
def en_isref (as : List en_V) : Bool := match as with
  | .inr (.inr (.inl (some _))) :: _ => true
  | _ => false
noncomputable def en_inv (ok : List en_V → Bool) (f : en_F) (mi na : Nat) (nx : Nat) (ls : en_L) (st : List en_V) (t : en_H) (n sl : Nat) (k : en_K) : Option en_O := match en_take na st [] with
  | some q => bif ok q.1 && Nat.ble (en_sum q.2) 8 then (match f mi q.1 t n with
    | some r => bif Nat.ble n r.2.2.1 then k nx ls (r.1.toList ++ q.2) r.2.1 r.2.2.1 (sl + r.2.2.2) else none
    | none => none) else none
  | none => none
noncomputable def en_oinit (nx : Nat) (ls : en_L) (st : List en_V) (t : en_H) (n sl : Nat) (k : en_K) : Option en_O := match st with
  | .inr (.inr (.inl (some _))) :: r => bif Nat.ble (en_sum r) 8 then k nx ls r t n sl else none
  | _ => none
noncomputable def en_switch (pc : Nat) (df lo hi : Int) (os : Array Int) (ls : en_L) (st : List en_V) (t : en_H) (n sl : Nat) (k : en_K) : Option en_O := match st with
  | a :: r => (match en_bnd a with
    | some q => if (q.2 : Int) - 2147483648 < lo ∨ hi < (q.1 : Int) - 2147483648 then (if 0 ≤ (pc : Int) + df then k ((pc : Int) + df).toNat ls r t n sl else none)
      else (if q.1 = q.2 then (match en_nth os.toList ((q.1 : Int) - 2147483648 - lo).toNat with
        | some o => (if 0 ≤ (pc : Int) + o then k ((pc : Int) + o).toNat ls r t n sl else none)
        | none => none) else none)
    | none => none)
  | [] => none
noncomputable def en_ret1 (d b : Nat) (st : List en_V) (t : en_H) (n sl : Nat) : Option en_O := match st with
  | [a] => bif Nat.beq (en_kd a) d && (bif Nat.beq b 1 then en_fit 3 a else true) then some (.inl (some a, t, n, sl)) else none
  | _ => none
noncomputable def en_dup (nx : Nat) (ls : en_L) (st : List en_V) (t : en_H) (n sl : Nat) (k : en_K) : Option en_O := match st with
  | a :: r => bif Nat.beq (en_cat a) 1 then k nx ls (a :: a :: r) t n sl else none
  | [] => none
noncomputable def en_dup2 (nx : Nat) (ls : en_L) (st : List en_V) (t : en_H) (n sl : Nat) (k : en_K) : Option en_O := match st with
  | a :: b :: r => bif Nat.beq (en_cat a) 1 && Nat.beq (en_cat b) 1 then k nx ls (a :: b :: a :: b :: r) t n sl else none
  | _ => none
noncomputable def en_pop (nx : Nat) (ls : en_L) (st : List en_V) (t : en_H) (n sl : Nat) (k : en_K) : Option en_O := match st with
  | a :: r => bif Nat.beq (en_cat a) 1 then k nx ls r t n sl else none
  | [] => none
noncomputable def en_cmp1 (q : ClassFile.Cond) (tg nx : Nat) (ls : en_L) (st : List en_V) (t : en_H) (n sl : Nat) (k : en_K) : Option en_O := match st with
  | a :: r => en_jump (en_rel q a (.inl 0)) tg nx ls r t n sl k
  | [] => none
noncomputable def en_cmp2 (q : ClassFile.Cond) (tg nx : Nat) (ls : en_L) (st : List en_V) (t : en_H) (n sl : Nat) (k : en_K) : Option en_O := match st with
  | b :: a :: r => en_jump (en_rel q a b) tg nx ls r t n sl k
  | _ => none
noncomputable def en_acne (tg nx : Nat) (ls : en_L) (st : List en_V) (t : en_H) (n sl : Nat) (k : en_K) : Option en_O := match st with
  | b :: a :: r => en_jump (en_not (en_ac a b)) tg nx ls r t n sl k
  | _ => none
noncomputable def en_i2l (nx : Nat) (ls : en_L) (st : List en_V) (t : en_H) (n sl : Nat) (k : en_K) : Option en_O := match st with
  | .inl a :: r => k nx ls (.inr (.inl (nI a).toInt64.toBitVec.toNat) :: r) t n sl
  | .inr (.inr (.inr (.inr _))) :: r => k nx ls (.inr (.inr (.inr (.inl 0))) :: r) t n sl
  | _ => none
noncomputable def en_l2i (nx : Nat) (ls : en_L) (st : List en_V) (t : en_H) (n sl : Nat) (k : en_K) : Option en_O := match st with
  | .inr (.inl a) :: r => k nx ls (.inl (lN a).toInt32.toBitVec.toNat :: r) t n sl
  | _ => none
noncomputable def en_step (df : Nat → List en_V) (f : en_F) (pc : Nat) (e : en_I) (ls : en_L) (st : List en_V) (t : en_H) (n sl : Nat) (k : en_K) : Option en_O := match e.1 with
  | .iconst _ => k e.2.1 ls (.inl e.2.2.1 :: st) t n sl
  | .bipush _ => k e.2.1 ls (.inl e.2.2.1 :: st) t n sl
  | .sipush _ => k e.2.1 ls (.inl e.2.2.1 :: st) t n sl
  | .ldc _ => k e.2.1 ls (.inl e.2.2.1 :: st) t n sl
  | .ldc_w _ => k e.2.1 ls (.inl e.2.2.1 :: st) t n sl
  | .lconst _ => k e.2.1 ls (.inr (.inl e.2.2.1) :: st) t n sl
  | .ldc2_w _ => k e.2.1 ls (.inr (.inl e.2.2.1) :: st) t n sl
  | .aconst_null => k e.2.1 ls (.inr (.inr (.inl none)) :: st) t n sl
  | .iload i => en_load 0 i e.2.1 ls st t n sl k
  | .iload_n i => en_load 0 i.val e.2.1 ls st t n sl k
  | .lload i => en_load 1 i e.2.1 ls st t n sl k
  | .lload_n i => en_load 1 i.val e.2.1 ls st t n sl k
  | .aload i => en_load 2 i e.2.1 ls st t n sl k
  | .aload_n i => en_load 2 i.val e.2.1 ls st t n sl k
  | .istore i => en_store 0 i e.2.1 ls st t n sl k
  | .istore_n i => en_store 0 i.val e.2.1 ls st t n sl k
  | .lstore i => en_store 1 i e.2.1 ls st t n sl k
  | .lstore_n i => en_store 1 i.val e.2.1 ls st t n sl k
  | .astore i => en_store 2 i e.2.1 ls st t n sl k
  | .astore_n i => en_store 2 i.val e.2.1 ls st t n sl k
  | .iinc i _ => en_iinc i e.2.2.1 e.2.1 ls st t n sl k
  | .iadd => en_bin en_iadd e.2.1 ls st t n sl k
  | .isub => en_bin (en_ii en_isub) e.2.1 ls st t n sl k
  | .imul => en_bin (en_ii en_imul) e.2.1 ls st t n sl k
  | .iand => en_bin (en_ii en_iand) e.2.1 ls st t n sl k
  | .ishl => en_bin (en_ii en_ishl) e.2.1 ls st t n sl k
  | .ishr => en_bin (en_ii en_ishr) e.2.1 ls st t n sl k
  | .idiv => en_bin (en_ii en_idiv) e.2.1 ls st t n sl k
  | .irem => en_bin (en_ii en_irem) e.2.1 ls st t n sl k
  | .ladd => en_bin (en_ll en_ladd) e.2.1 ls st t n sl k
  | .lsub => en_bin (en_ll en_lsub) e.2.1 ls st t n sl k
  | .land => en_bin (en_ll en_land) e.2.1 ls st t n sl k
  | .lor => en_bin (en_ll en_lor) e.2.1 ls st t n sl k
  | .lshl => en_bin (en_li en_lshl) e.2.1 ls st t n sl k
  | .lushr => en_bin (en_li en_lushr) e.2.1 ls st t n sl k
  | .lcmp => en_bin en_lcmp e.2.1 ls st t n sl k
  | .i2l => en_i2l e.2.1 ls st t n sl k
  | .l2i => en_l2i e.2.1 ls st t n sl k
  | .dup => en_dup e.2.1 ls st t n sl k
  | .dup2 => en_dup2 e.2.1 ls st t n sl k
  | .pop => en_pop e.2.1 ls st t n sl k
  | .ifCond q _ => en_cmp1 q e.2.2.1 e.2.1 ls st t n sl k
  | .if_icmp q _ => en_cmp2 q e.2.2.1 e.2.1 ls st t n sl k
  | .if_acmp .ne _ => en_acne e.2.2.1 e.2.1 ls st t n sl k
  | .goto _ => k e.2.2.1 ls st t n sl
  | .tableswitch d lo hi os => en_switch pc d lo hi os ls st t n sl k
  | .getfield _ => en_getf e.2.2.1 (e.2.2.2 % 16) e.2.1 ls st t n sl k
  | .putfield _ => en_putf e.2.2.1 (e.2.2.2 % 16) (e.2.2.2 / 16 % 4) e.2.1 ls st t n sl k
  | .getstatic _ => k e.2.1 ls (.inr (.inr (.inr (.inl (e.2.2.1 + 1)))) :: st) t n sl
  | .new _ => en_new e.2.2.1 (df e.2.2.1) e.2.1 ls st t n sl k
  | .newarray _ => en_newa e.2.2.1 (bif Nat.beq e.2.2.1 3 then .inr (.inl 0) else .inl 0) e.2.1 ls st t n sl k
  | .anewarray _ => en_newa e.2.2.1 (.inr (.inr (.inl none))) e.2.1 ls st t n sl k
  | .multianewarray _ _ => en_multi e.2.1 ls st t n sl k
  | .arraylength => en_alen e.2.1 ls st t n sl k
  | .iaload => en_aget (fun c => Nat.beq c 0) e.2.1 ls st t n sl k
  | .laload => en_aget (fun c => Nat.beq c 3) e.2.1 ls st t n sl k
  | .baload => en_aget (fun c => Nat.beq c 2) e.2.1 ls st t n sl k
  | .aaload => en_aget (fun c => Nat.ble 4 c && Nat.ble c 7) e.2.1 ls st t n sl k
  | .iastore => en_aput 0 e.2.1 ls st t n sl k
  | .lastore => en_aput 1 e.2.1 ls st t n sl k
  | .bastore => en_aput 2 e.2.1 ls st t n sl k
  | .aastore => en_aput 3 e.2.1 ls st t n sl k
  | .invokestatic _ => en_inv (fun _ => true) f e.2.2.1 e.2.2.2 e.2.1 ls st t n sl k
  | .invokevirtual _ => en_inv (en_recv t (e.2.2.2 / 16)) f e.2.2.1 (e.2.2.2 % 16) e.2.1 ls st t n sl k
  | .invokespecial _ => bif Nat.beq e.2.2.1 9999 then en_oinit e.2.1 ls st t n sl k else en_inv en_isref f e.2.2.1 e.2.2.2 e.2.1 ls st t n sl k
  | .return_ => (match st with | [] => some (.inl (none, t, n, sl)) | _ :: _ => none)
  | .ireturn => en_ret1 0 e.2.2.1 st t n sl
  | .lreturn => en_ret1 1 0 st t n sl
  | _ => none
noncomputable def en_run (df : Nat → List en_V) (f : en_F) (code : Nat → Option en_I) (stop : Nat → Bool) (fuel : Nat) : Nat → en_L → List en_V → en_H → Nat → Nat → Option en_O :=
  Nat.rec (motive := fun _ => Nat → en_L → List en_V → en_H → Nat → Nat → Option en_O) (fun _ _ _ _ _ _ => none) (fun _ ih pc ls st t n sl => match code pc with
    | some e => en_step df f pc e ls st t n sl (fun pc' ls' st' t' n' sl' => bif stop pc' then some (.inr (pc', ls', st', t', n', sl')) else ih pc' ls' st' t' n' sl')
    | none => none) fuel
noncomputable def en_call (df : Nat → List en_V) (code : Nat → Nat → Option en_I) (d : Nat) : en_F :=
  Nat.rec (motive := fun _ => en_F) (fun _ _ _ _ => none) (fun _ ih mi as t n => match en_run df ih (code mi) (fun _ => false) 1000000 0 (en_args as 0) [] t n 0 with
    | some (.inl r) => some r
    | _ => none) d
end EN2
end
