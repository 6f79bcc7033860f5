section
-- ===== PART A: goes FIRST, ahead of the names: the tables' words, and 'selects' of the private methods out of them =====
/-- a private method of a class that the tables say can be made, by its rows of tables_1 -/
def lw_okq (q : MethodName × Nat) : Prop := (q.1.cls ≠ "java/lang/invoke/MethodHandle" ∧ q.1.cls ≠ "java/lang/invoke/VarHandle") ∧ Cond.instantiable q.1.cls q.2 ∈ tables_1 ∧ Cond.privateMethod q.1 ∈ tables_1 ∧ Cond.instanceMethod q.1 ∈ tables_1
theorem lw_p0 : lw_okq (⟨"ThreeSizes", "putOnTape", "(I)V"⟩, 19) := ⟨⟨by decide +kernel, by decide +kernel⟩, List.mem_of_getElem? (i := 23) (by decide +kernel), List.mem_of_getElem? (i := 465) (by decide +kernel), List.mem_of_getElem? (i := 466) (by decide +kernel)⟩
theorem lw_p1 : lw_okq (⟨"ThreeSizes", "takeTape", "()I"⟩, 19) := ⟨⟨by decide +kernel, by decide +kernel⟩, List.mem_of_getElem? (i := 23) (by decide +kernel), List.mem_of_getElem? (i := 477) (by decide +kernel), List.mem_of_getElem? (i := 478) (by decide +kernel)⟩
theorem lw_p2 : lw_okq (⟨"ThreeSizes$Tokens", "readWord", "()V"⟩, 10) := ⟨⟨by decide +kernel, by decide +kernel⟩, List.mem_of_getElem? (i := 31) (by decide +kernel), List.mem_of_getElem? (i := 495) (by decide +kernel), List.mem_of_getElem? (i := 496) (by decide +kernel)⟩
theorem lw_p3 : lw_okq (⟨"ThreeSizes$Tokens", "readNumber", "()V"⟩, 10) := ⟨⟨by decide +kernel, by decide +kernel⟩, List.mem_of_getElem? (i := 31) (by decide +kernel), List.mem_of_getElem? (i := 499) (by decide +kernel), List.mem_of_getElem? (i := 500) (by decide +kernel)⟩
theorem lw_p4 : lw_okq (⟨"ThreeSizes$HouseReader", "readStatement", "(LThreeSizes$House;)V"⟩, 1) := ⟨⟨by decide +kernel, by decide +kernel⟩, List.mem_of_getElem? (i := 121) (by decide +kernel), List.mem_of_getElem? (i := 523) (by decide +kernel), List.mem_of_getElem? (i := 524) (by decide +kernel)⟩
theorem lw_p5 : lw_okq (⟨"ThreeSizes$HouseReader", "readLast", "(LThreeSizes$House;)V"⟩, 1) := ⟨⟨by decide +kernel, by decide +kernel⟩, List.mem_of_getElem? (i := 121) (by decide +kernel), List.mem_of_getElem? (i := 531) (by decide +kernel), List.mem_of_getElem? (i := 532) (by decide +kernel)⟩
theorem lw_p6 : lw_okq (⟨"ThreeSizes$HouseReader", "refuseKnown", "(LThreeSizes$House;II)V"⟩, 1) := ⟨⟨by decide +kernel, by decide +kernel⟩, List.mem_of_getElem? (i := 121) (by decide +kernel), List.mem_of_getElem? (i := 553) (by decide +kernel), List.mem_of_getElem? (i := 554) (by decide +kernel)⟩
theorem lw_p7 : lw_okq (⟨"ThreeSizes$HouseReader", "takeChances", "([I)V"⟩, 1) := ⟨⟨by decide +kernel, by decide +kernel⟩, List.mem_of_getElem? (i := 121) (by decide +kernel), List.mem_of_getElem? (i := 579) (by decide +kernel), List.mem_of_getElem? (i := 580) (by decide +kernel)⟩
theorem lw_p8 : lw_okq (⟨"ThreeSizes$HouseReader", "readSort", "(LThreeSizes$House;)V"⟩, 1) := ⟨⟨by decide +kernel, by decide +kernel⟩, List.mem_of_getElem? (i := 121) (by decide +kernel), List.mem_of_getElem? (i := 583) (by decide +kernel), List.mem_of_getElem? (i := 584) (by decide +kernel)⟩
theorem lw_p9 : lw_okq (⟨"ThreeSizes$HouseReader", "takeHundreds", "([I)V"⟩, 1) := ⟨⟨by decide +kernel, by decide +kernel⟩, List.mem_of_getElem? (i := 121) (by decide +kernel), List.mem_of_getElem? (i := 587) (by decide +kernel), List.mem_of_getElem? (i := 588) (by decide +kernel)⟩
theorem lw_p10 : lw_okq (⟨"ThreeSizes$HouseReader", "readStock", "(LThreeSizes$House;)V"⟩, 1) := ⟨⟨by decide +kernel, by decide +kernel⟩, List.mem_of_getElem? (i := 121) (by decide +kernel), List.mem_of_getElem? (i := 591) (by decide +kernel), List.mem_of_getElem? (i := 592) (by decide +kernel)⟩
theorem lw_p11 : lw_okq (⟨"ThreeSizes$HouseReader", "readAsk", "(LThreeSizes$House;)V"⟩, 1) := ⟨⟨by decide +kernel, by decide +kernel⟩, List.mem_of_getElem? (i := 121) (by decide +kernel), List.mem_of_getElem? (i := 603) (by decide +kernel), List.mem_of_getElem? (i := 604) (by decide +kernel)⟩
theorem lw_p12 : lw_okq (⟨"ThreeSizes", "keepFault", "()V"⟩, 19) := ⟨⟨by decide +kernel, by decide +kernel⟩, List.mem_of_getElem? (i := 23) (by decide +kernel), List.mem_of_getElem? (i := 619) (by decide +kernel), List.mem_of_getElem? (i := 620) (by decide +kernel)⟩
theorem lw_p13 : lw_okq (⟨"ThreeSizes$Rules", "readSizes", "()I"⟩, 6) := ⟨⟨by decide +kernel, by decide +kernel⟩, List.mem_of_getElem? (i := 131) (by decide +kernel), List.mem_of_getElem? (i := 638) (by decide +kernel), List.mem_of_getElem? (i := 639) (by decide +kernel)⟩
theorem lw_p14 : lw_okq (⟨"ThreeSizes$Rules", "atSizeWord", "()Z"⟩, 6) := ⟨⟨by decide +kernel, by decide +kernel⟩, List.mem_of_getElem? (i := 131) (by decide +kernel), List.mem_of_getElem? (i := 642) (by decide +kernel), List.mem_of_getElem? (i := 643) (by decide +kernel)⟩
theorem lw_p15 : lw_okq (⟨"ThreeSizes$Rules", "readTest", "(I)V"⟩, 6) := ⟨⟨by decide +kernel, by decide +kernel⟩, List.mem_of_getElem? (i := 131) (by decide +kernel), List.mem_of_getElem? (i := 649) (by decide +kernel), List.mem_of_getElem? (i := 650) (by decide +kernel)⟩
def lw_privs_1 : List (MethodName × Nat) := [(⟨"ThreeSizes", "putOnTape", "(I)V"⟩, 19), (⟨"ThreeSizes", "takeTape", "()I"⟩, 19), (⟨"ThreeSizes$Tokens", "readWord", "()V"⟩, 10), (⟨"ThreeSizes$Tokens", "readNumber", "()V"⟩, 10), (⟨"ThreeSizes$HouseReader", "readStatement", "(LThreeSizes$House;)V"⟩, 1), (⟨"ThreeSizes$HouseReader", "readLast", "(LThreeSizes$House;)V"⟩, 1), (⟨"ThreeSizes$HouseReader", "refuseKnown", "(LThreeSizes$House;II)V"⟩, 1), (⟨"ThreeSizes$HouseReader", "takeChances", "([I)V"⟩, 1), (⟨"ThreeSizes$HouseReader", "readSort", "(LThreeSizes$House;)V"⟩, 1), (⟨"ThreeSizes$HouseReader", "takeHundreds", "([I)V"⟩, 1), (⟨"ThreeSizes$HouseReader", "readStock", "(LThreeSizes$House;)V"⟩, 1), (⟨"ThreeSizes$HouseReader", "readAsk", "(LThreeSizes$House;)V"⟩, 1), (⟨"ThreeSizes", "keepFault", "()V"⟩, 19), (⟨"ThreeSizes$Rules", "readSizes", "()I"⟩, 6), (⟨"ThreeSizes$Rules", "atSizeWord", "()Z"⟩, 6), (⟨"ThreeSizes$Rules", "readTest", "(I)V"⟩, 6)]
theorem lw_r1 : ∀ q ∈ lw_privs_1, lw_okq q := List.forall_mem_cons.mpr ⟨lw_p0, List.forall_mem_cons.mpr ⟨lw_p1, List.forall_mem_cons.mpr ⟨lw_p2, List.forall_mem_cons.mpr ⟨lw_p3, List.forall_mem_cons.mpr ⟨lw_p4, List.forall_mem_cons.mpr ⟨lw_p5, List.forall_mem_cons.mpr ⟨lw_p6, List.forall_mem_cons.mpr ⟨lw_p7, List.forall_mem_cons.mpr ⟨lw_p8, List.forall_mem_cons.mpr ⟨lw_p9, List.forall_mem_cons.mpr ⟨lw_p10, List.forall_mem_cons.mpr ⟨lw_p11, List.forall_mem_cons.mpr ⟨lw_p12, List.forall_mem_cons.mpr ⟨lw_p13, List.forall_mem_cons.mpr ⟨lw_p14, List.forall_mem_cons.mpr ⟨lw_p15, fun _ h => absurd h List.not_mem_nil⟩⟩⟩⟩⟩⟩⟩⟩⟩⟩⟩⟩⟩⟩⟩⟩
theorem lw_p16 : lw_okq (⟨"ThreeSizes$Rules", "readBoth", "(I)V"⟩, 6) := ⟨⟨by decide +kernel, by decide +kernel⟩, List.mem_of_getElem? (i := 131) (by decide +kernel), List.mem_of_getElem? (i := 653) (by decide +kernel), List.mem_of_getElem? (i := 654) (by decide +kernel)⟩
theorem lw_p17 : lw_okq (⟨"ThreeSizes$Rules", "readFact", "(I)V"⟩, 6) := ⟨⟨by decide +kernel, by decide +kernel⟩, List.mem_of_getElem? (i := 131) (by decide +kernel), List.mem_of_getElem? (i := 657) (by decide +kernel), List.mem_of_getElem? (i := 658) (by decide +kernel)⟩
theorem lw_p18 : lw_okq (⟨"ThreeSizes$Rules", "put", "(I)V"⟩, 6) := ⟨⟨by decide +kernel, by decide +kernel⟩, List.mem_of_getElem? (i := 131) (by decide +kernel), List.mem_of_getElem? (i := 662) (by decide +kernel), List.mem_of_getElem? (i := 663) (by decide +kernel)⟩
theorem lw_p19 : lw_okq (⟨"ThreeSizes$Rules", "enter", "(I)Z"⟩, 6) := ⟨⟨by decide +kernel, by decide +kernel⟩, List.mem_of_getElem? (i := 131) (by decide +kernel), List.mem_of_getElem? (i := 666) (by decide +kernel), List.mem_of_getElem? (i := 667) (by decide +kernel)⟩
theorem lw_p20 : lw_okq (⟨"ThreeSizes$Rules", "readComparison", "(I)V"⟩, 6) := ⟨⟨by decide +kernel, by decide +kernel⟩, List.mem_of_getElem? (i := 131) (by decide +kernel), List.mem_of_getElem? (i := 672) (by decide +kernel), List.mem_of_getElem? (i := 673) (by decide +kernel)⟩
theorem lw_p21 : lw_okq (⟨"ThreeSizes$Rules", "readSum", "(I)V"⟩, 6) := ⟨⟨by decide +kernel, by decide +kernel⟩, List.mem_of_getElem? (i := 131) (by decide +kernel), List.mem_of_getElem? (i := 676) (by decide +kernel), List.mem_of_getElem? (i := 677) (by decide +kernel)⟩
theorem lw_p22 : lw_okq (⟨"ThreeSizes$Rules", "readProduct", "(I)V"⟩, 6) := ⟨⟨by decide +kernel, by decide +kernel⟩, List.mem_of_getElem? (i := 131) (by decide +kernel), List.mem_of_getElem? (i := 680) (by decide +kernel), List.mem_of_getElem? (i := 681) (by decide +kernel)⟩
theorem lw_p23 : lw_okq (⟨"ThreeSizes$Rules", "readPart", "(I)V"⟩, 6) := ⟨⟨by decide +kernel, by decide +kernel⟩, List.mem_of_getElem? (i := 131) (by decide +kernel), List.mem_of_getElem? (i := 684) (by decide +kernel), List.mem_of_getElem? (i := 685) (by decide +kernel)⟩
theorem lw_p24 : lw_okq (⟨"ThreeSizes$Rules", "readBracket", "(IZ)V"⟩, 6) := ⟨⟨by decide +kernel, by decide +kernel⟩, List.mem_of_getElem? (i := 131) (by decide +kernel), List.mem_of_getElem? (i := 693) (by decide +kernel), List.mem_of_getElem? (i := 694) (by decide +kernel)⟩
theorem lw_p25 : lw_okq (⟨"ThreeSizes", "countBoxesOut", "()I"⟩, 19) := ⟨⟨by decide +kernel, by decide +kernel⟩, List.mem_of_getElem? (i := 23) (by decide +kernel), List.mem_of_getElem? (i := 728) (by decide +kernel), List.mem_of_getElem? (i := 729) (by decide +kernel)⟩
theorem lw_p26 : lw_okq (⟨"ThreeSizes", "nameOf", "(II)I"⟩, 19) := ⟨⟨by decide +kernel, by decide +kernel⟩, List.mem_of_getElem? (i := 23) (by decide +kernel), List.mem_of_getElem? (i := 748) (by decide +kernel), List.mem_of_getElem? (i := 749) (by decide +kernel)⟩
theorem lw_p27 : lw_okq (⟨"ThreeSizes", "isLast", "(I)Z"⟩, 19) := ⟨⟨by decide +kernel, by decide +kernel⟩, List.mem_of_getElem? (i := 23) (by decide +kernel), List.mem_of_getElem? (i := 752) (by decide +kernel), List.mem_of_getElem? (i := 753) (by decide +kernel)⟩
theorem lw_p28 : lw_okq (⟨"ThreeSizes", "isSort", "(I)Z"⟩, 19) := ⟨⟨by decide +kernel, by decide +kernel⟩, List.mem_of_getElem? (i := 23) (by decide +kernel), List.mem_of_getElem? (i := 756) (by decide +kernel), List.mem_of_getElem? (i := 757) (by decide +kernel)⟩
theorem lw_p29 : lw_okq (⟨"ThreeSizes", "isQuestion", "(I)Z"⟩, 19) := ⟨⟨by decide +kernel, by decide +kernel⟩, List.mem_of_getElem? (i := 23) (by decide +kernel), List.mem_of_getElem? (i := 760) (by decide +kernel), List.mem_of_getElem? (i := 761) (by decide +kernel)⟩
theorem lw_p30 : lw_okq (⟨"ThreeSizes", "isPerson", "(I)Z"⟩, 19) := ⟨⟨by decide +kernel, by decide +kernel⟩, List.mem_of_getElem? (i := 23) (by decide +kernel), List.mem_of_getElem? (i := 784) (by decide +kernel), List.mem_of_getElem? (i := 785) (by decide +kernel)⟩
theorem lw_p31 : lw_okq (⟨"ThreeSizes", "isBox", "(III)Z"⟩, 19) := ⟨⟨by decide +kernel, by decide +kernel⟩, List.mem_of_getElem? (i := 23) (by decide +kernel), List.mem_of_getElem? (i := 810) (by decide +kernel), List.mem_of_getElem? (i := 811) (by decide +kernel)⟩
def lw_privs_2 : List (MethodName × Nat) := [(⟨"ThreeSizes$Rules", "readBoth", "(I)V"⟩, 6), (⟨"ThreeSizes$Rules", "readFact", "(I)V"⟩, 6), (⟨"ThreeSizes$Rules", "put", "(I)V"⟩, 6), (⟨"ThreeSizes$Rules", "enter", "(I)Z"⟩, 6), (⟨"ThreeSizes$Rules", "readComparison", "(I)V"⟩, 6), (⟨"ThreeSizes$Rules", "readSum", "(I)V"⟩, 6), (⟨"ThreeSizes$Rules", "readProduct", "(I)V"⟩, 6), (⟨"ThreeSizes$Rules", "readPart", "(I)V"⟩, 6), (⟨"ThreeSizes$Rules", "readBracket", "(IZ)V"⟩, 6), (⟨"ThreeSizes", "countBoxesOut", "()I"⟩, 19), (⟨"ThreeSizes", "nameOf", "(II)I"⟩, 19), (⟨"ThreeSizes", "isLast", "(I)Z"⟩, 19), (⟨"ThreeSizes", "isSort", "(I)Z"⟩, 19), (⟨"ThreeSizes", "isQuestion", "(I)Z"⟩, 19), (⟨"ThreeSizes", "isPerson", "(I)Z"⟩, 19), (⟨"ThreeSizes", "isBox", "(III)Z"⟩, 19)]
theorem lw_r2 : ∀ q ∈ lw_privs_2, lw_okq q := List.forall_mem_cons.mpr ⟨lw_p16, List.forall_mem_cons.mpr ⟨lw_p17, List.forall_mem_cons.mpr ⟨lw_p18, List.forall_mem_cons.mpr ⟨lw_p19, List.forall_mem_cons.mpr ⟨lw_p20, List.forall_mem_cons.mpr ⟨lw_p21, List.forall_mem_cons.mpr ⟨lw_p22, List.forall_mem_cons.mpr ⟨lw_p23, List.forall_mem_cons.mpr ⟨lw_p24, List.forall_mem_cons.mpr ⟨lw_p25, List.forall_mem_cons.mpr ⟨lw_p26, List.forall_mem_cons.mpr ⟨lw_p27, List.forall_mem_cons.mpr ⟨lw_p28, List.forall_mem_cons.mpr ⟨lw_p29, List.forall_mem_cons.mpr ⟨lw_p30, List.forall_mem_cons.mpr ⟨lw_p31, fun _ h => absurd h List.not_mem_nil⟩⟩⟩⟩⟩⟩⟩⟩⟩⟩⟩⟩⟩⟩⟩⟩
theorem lw_p32 : lw_okq (⟨"ThreeSizes", "weigh", "(IIII)J"⟩, 19) := ⟨⟨by decide +kernel, by decide +kernel⟩, List.mem_of_getElem? (i := 23) (by decide +kernel), List.mem_of_getElem? (i := 837) (by decide +kernel), List.mem_of_getElem? (i := 838) (by decide +kernel)⟩
theorem lw_p33 : lw_okq (⟨"ThreeSizes", "sortOf", "(LThreeSizes$Person;)LThreeSizes$Sort;"⟩, 19) := ⟨⟨by decide +kernel, by decide +kernel⟩, List.mem_of_getElem? (i := 23) (by decide +kernel), List.mem_of_getElem? (i := 841) (by decide +kernel), List.mem_of_getElem? (i := 842) (by decide +kernel)⟩
theorem lw_p34 : lw_okq (⟨"ThreeSizes$Scales", "chanceThat", "(III)I"⟩, 5) := ⟨⟨by decide +kernel, by decide +kernel⟩, List.mem_of_getElem? (i := 321) (by decide +kernel), List.mem_of_getElem? (i := 859) (by decide +kernel), List.mem_of_getElem? (i := 860) (by decide +kernel)⟩
theorem lw_p35 : lw_okq (⟨"ThreeSizes$Scales", "pleasesBy", "(II)I"⟩, 5) := ⟨⟨by decide +kernel, by decide +kernel⟩, List.mem_of_getElem? (i := 321) (by decide +kernel), List.mem_of_getElem? (i := 868) (by decide +kernel), List.mem_of_getElem? (i := 869) (by decide +kernel)⟩
theorem lw_p36 : lw_okq (⟨"ThreeSizes", "plainMean", "(III)I"⟩, 19) := ⟨⟨by decide +kernel, by decide +kernel⟩, List.mem_of_getElem? (i := 23) (by decide +kernel), List.mem_of_getElem? (i := 897) (by decide +kernel), List.mem_of_getElem? (i := 898) (by decide +kernel)⟩
theorem lw_p37 : lw_okq (⟨"ThreeSizes", "layOut", "(LThreeSizes$Person;[II)V"⟩, 19) := ⟨⟨by decide +kernel, by decide +kernel⟩, List.mem_of_getElem? (i := 23) (by decide +kernel), List.mem_of_getElem? (i := 901) (by decide +kernel), List.mem_of_getElem? (i := 902) (by decide +kernel)⟩
theorem lw_p38 : lw_okq (⟨"ThreeSizes", "meanOf", "(III)I"⟩, 19) := ⟨⟨by decide +kernel, by decide +kernel⟩, List.mem_of_getElem? (i := 23) (by decide +kernel), List.mem_of_getElem? (i := 909) (by decide +kernel), List.mem_of_getElem? (i := 910) (by decide +kernel)⟩
theorem lw_p39 : lw_okq (⟨"ThreeSizes", "orderedMean", "(ILThreeSizes$Person;I)I"⟩, 19) := ⟨⟨by decide +kernel, by decide +kernel⟩, List.mem_of_getElem? (i := 23) (by decide +kernel), List.mem_of_getElem? (i := 934) (by decide +kernel), List.mem_of_getElem? (i := 935) (by decide +kernel)⟩
theorem lw_p40 : lw_okq (⟨"ThreeSizes", "bestMean", "(LThreeSizes$Person;[II)I"⟩, 19) := ⟨⟨by decide +kernel, by decide +kernel⟩, List.mem_of_getElem? (i := 23) (by decide +kernel), List.mem_of_getElem? (i := 944) (by decide +kernel), List.mem_of_getElem? (i := 945) (by decide +kernel)⟩
theorem lw_p41 : lw_okq (⟨"ThreeSizes", "bestBits", "(LThreeSizes$Person;[II)I"⟩, 19) := ⟨⟨by decide +kernel, by decide +kernel⟩, List.mem_of_getElem? (i := 23) (by decide +kernel), List.mem_of_getElem? (i := 948) (by decide +kernel), List.mem_of_getElem? (i := 949) (by decide +kernel)⟩
theorem lw_p42 : lw_okq (⟨"ThreeSizes", "tellFacts", "(LThreeSizes$Person;LThreeSizes$Last;)V"⟩, 19) := ⟨⟨by decide +kernel, by decide +kernel⟩, List.mem_of_getElem? (i := 23) (by decide +kernel), List.mem_of_getElem? (i := 966) (by decide +kernel), List.mem_of_getElem? (i := 967) (by decide +kernel)⟩
theorem lw_p43 : lw_okq (⟨"ThreeSizes$Rules", "push", "(I)V"⟩, 6) := ⟨⟨by decide +kernel, by decide +kernel⟩, List.mem_of_getElem? (i := 131) (by decide +kernel), List.mem_of_getElem? (i := 974) (by decide +kernel), List.mem_of_getElem? (i := 975) (by decide +kernel)⟩
theorem lw_p44 : lw_okq (⟨"ThreeSizes$Rules", "pop", "()I"⟩, 6) := ⟨⟨by decide +kernel, by decide +kernel⟩, List.mem_of_getElem? (i := 131) (by decide +kernel), List.mem_of_getElem? (i := 978) (by decide +kernel), List.mem_of_getElem? (i := 979) (by decide +kernel)⟩
theorem lw_p45 : lw_okq (⟨"ThreeSizes", "bitsOfWay", "(III)I"⟩, 19) := ⟨⟨by decide +kernel, by decide +kernel⟩, List.mem_of_getElem? (i := 23) (by decide +kernel), List.mem_of_getElem? (i := 1006) (by decide +kernel), List.mem_of_getElem? (i := 1007) (by decide +kernel)⟩
theorem lw_p46 : lw_okq (⟨"ThreeSizes", "canSendNow", "(LThreeSizes$Person;II)Z"⟩, 19) := ⟨⟨by decide +kernel, by decide +kernel⟩, List.mem_of_getElem? (i := 23) (by decide +kernel), List.mem_of_getElem? (i := 1016) (by decide +kernel), List.mem_of_getElem? (i := 1017) (by decide +kernel)⟩
theorem lw_p47 : lw_okq (⟨"ThreeSizes", "sendNow", "(LThreeSizes$Person;II)V"⟩, 19) := ⟨⟨by decide +kernel, by decide +kernel⟩, List.mem_of_getElem? (i := 23) (by decide +kernel), List.mem_of_getElem? (i := 1020) (by decide +kernel), List.mem_of_getElem? (i := 1021) (by decide +kernel)⟩
def lw_privs_3 : List (MethodName × Nat) := [(⟨"ThreeSizes", "weigh", "(IIII)J"⟩, 19), (⟨"ThreeSizes", "sortOf", "(LThreeSizes$Person;)LThreeSizes$Sort;"⟩, 19), (⟨"ThreeSizes$Scales", "chanceThat", "(III)I"⟩, 5), (⟨"ThreeSizes$Scales", "pleasesBy", "(II)I"⟩, 5), (⟨"ThreeSizes", "plainMean", "(III)I"⟩, 19), (⟨"ThreeSizes", "layOut", "(LThreeSizes$Person;[II)V"⟩, 19), (⟨"ThreeSizes", "meanOf", "(III)I"⟩, 19), (⟨"ThreeSizes", "orderedMean", "(ILThreeSizes$Person;I)I"⟩, 19), (⟨"ThreeSizes", "bestMean", "(LThreeSizes$Person;[II)I"⟩, 19), (⟨"ThreeSizes", "bestBits", "(LThreeSizes$Person;[II)I"⟩, 19), (⟨"ThreeSizes", "tellFacts", "(LThreeSizes$Person;LThreeSizes$Last;)V"⟩, 19), (⟨"ThreeSizes$Rules", "push", "(I)V"⟩, 6), (⟨"ThreeSizes$Rules", "pop", "()I"⟩, 6), (⟨"ThreeSizes", "bitsOfWay", "(III)I"⟩, 19), (⟨"ThreeSizes", "canSendNow", "(LThreeSizes$Person;II)Z"⟩, 19), (⟨"ThreeSizes", "sendNow", "(LThreeSizes$Person;II)V"⟩, 19)]
theorem lw_r3 : ∀ q ∈ lw_privs_3, lw_okq q := List.forall_mem_cons.mpr ⟨lw_p32, List.forall_mem_cons.mpr ⟨lw_p33, List.forall_mem_cons.mpr ⟨lw_p34, List.forall_mem_cons.mpr ⟨lw_p35, List.forall_mem_cons.mpr ⟨lw_p36, List.forall_mem_cons.mpr ⟨lw_p37, List.forall_mem_cons.mpr ⟨lw_p38, List.forall_mem_cons.mpr ⟨lw_p39, List.forall_mem_cons.mpr ⟨lw_p40, List.forall_mem_cons.mpr ⟨lw_p41, List.forall_mem_cons.mpr ⟨lw_p42, List.forall_mem_cons.mpr ⟨lw_p43, List.forall_mem_cons.mpr ⟨lw_p44, List.forall_mem_cons.mpr ⟨lw_p45, List.forall_mem_cons.mpr ⟨lw_p46, List.forall_mem_cons.mpr ⟨lw_p47, fun _ h => absurd h List.not_mem_nil⟩⟩⟩⟩⟩⟩⟩⟩⟩⟩⟩⟩⟩⟩⟩⟩
theorem lw_p48 : lw_okq (⟨"ThreeSizes", "learnFromBox", "(II)Z"⟩, 19) := ⟨⟨by decide +kernel, by decide +kernel⟩, List.mem_of_getElem? (i := 23) (by decide +kernel), List.mem_of_getElem? (i := 1032) (by decide +kernel), List.mem_of_getElem? (i := 1033) (by decide +kernel)⟩
theorem lw_p49 : lw_okq (⟨"ThreeSizes", "takeBack", "(LThreeSizes$Person;I)V"⟩, 19) := ⟨⟨by decide +kernel, by decide +kernel⟩, List.mem_of_getElem? (i := 23) (by decide +kernel), List.mem_of_getElem? (i := 1036) (by decide +kernel), List.mem_of_getElem? (i := 1037) (by decide +kernel)⟩
theorem lw_p50 : lw_okq (⟨"ThreeSizes$Store", "receive", "(I)V"⟩, 4) := ⟨⟨by decide +kernel, by decide +kernel⟩, List.mem_of_getElem? (i := 170) (by decide +kernel), List.mem_of_getElem? (i := 1059) (by decide +kernel), List.mem_of_getElem? (i := 1060) (by decide +kernel)⟩
theorem lw_p51 : lw_okq (⟨"ThreeSizes", "worthBeside", "(IIII)I"⟩, 19) := ⟨⟨by decide +kernel, by decide +kernel⟩, List.mem_of_getElem? (i := 23) (by decide +kernel), List.mem_of_getElem? (i := 1084) (by decide +kernel), List.mem_of_getElem? (i := 1085) (by decide +kernel)⟩
theorem lw_p52 : lw_okq (⟨"ThreeSizes$Person", "hasKept", "(II)Z"⟩, 9) := ⟨⟨by decide +kernel, by decide +kernel⟩, List.mem_of_getElem? (i := 358) (by decide +kernel), List.mem_of_getElem? (i := 1117) (by decide +kernel), List.mem_of_getElem? (i := 1118) (by decide +kernel)⟩
theorem lw_p53 : lw_okq (⟨"ThreeSizes", "drawFrom", "([I)I"⟩, 19) := ⟨⟨by decide +kernel, by decide +kernel⟩, List.mem_of_getElem? (i := 23) (by decide +kernel), List.mem_of_getElem? (i := 1148) (by decide +kernel), List.mem_of_getElem? (i := 1149) (by decide +kernel)⟩
theorem lw_p54 : lw_okq (⟨"ThreeSizes", "drawOfCertain", "()I"⟩, 19) := ⟨⟨by decide +kernel, by decide +kernel⟩, List.mem_of_getElem? (i := 23) (by decide +kernel), List.mem_of_getElem? (i := 1152) (by decide +kernel), List.mem_of_getElem? (i := 1153) (by decide +kernel)⟩
theorem lw_p55 : lw_okq (⟨"ThreeSizes", "hasTruth", "(II)Z"⟩, 19) := ⟨⟨by decide +kernel, by decide +kernel⟩, List.mem_of_getElem? (i := 23) (by decide +kernel), List.mem_of_getElem? (i := 1169) (by decide +kernel), List.mem_of_getElem? (i := 1170) (by decide +kernel)⟩
theorem lw_p56 : lw_okq (⟨"ThreeSizes", "drawOutcome", "(LThreeSizes$Person;II)I"⟩, 19) := ⟨⟨by decide +kernel, by decide +kernel⟩, List.mem_of_getElem? (i := 23) (by decide +kernel), List.mem_of_getElem? (i := 1173) (by decide +kernel), List.mem_of_getElem? (i := 1174) (by decide +kernel)⟩
theorem lw_p57 : lw_okq (⟨"ThreeSizes$Image", "put", "(I)V"⟩, 2) := ⟨⟨by decide +kernel, by decide +kernel⟩, List.mem_of_getElem? (i := 346) (by decide +kernel), List.mem_of_getElem? (i := 1188) (by decide +kernel), List.mem_of_getElem? (i := 1189) (by decide +kernel)⟩
theorem lw_p58 : lw_okq (⟨"ThreeSizes$Image", "putRow", "([I)V"⟩, 2) := ⟨⟨by decide +kernel, by decide +kernel⟩, List.mem_of_getElem? (i := 346) (by decide +kernel), List.mem_of_getElem? (i := 1192) (by decide +kernel), List.mem_of_getElem? (i := 1193) (by decide +kernel)⟩
theorem lw_p59 : lw_okq (⟨"ThreeSizes", "bringBoxesHome", "()V"⟩, 19) := ⟨⟨by decide +kernel, by decide +kernel⟩, List.mem_of_getElem? (i := 23) (by decide +kernel), List.mem_of_getElem? (i := 1227) (by decide +kernel), List.mem_of_getElem? (i := 1228) (by decide +kernel)⟩
theorem lw_p60 : lw_okq (⟨"ThreeSizesModel", "begins", "()V"⟩, 98) := ⟨⟨by decide +kernel, by decide +kernel⟩, List.mem_of_getElem? (i := 1242) (by decide +kernel), List.mem_of_getElem? (i := 1557) (by decide +kernel), List.mem_of_getElem? (i := 1558) (by decide +kernel)⟩
theorem lw_p61 : lw_okq (⟨"ThreeSizesModel", "look", "()I"⟩, 98) := ⟨⟨by decide +kernel, by decide +kernel⟩, List.mem_of_getElem? (i := 1242) (by decide +kernel), List.mem_of_getElem? (i := 1561) (by decide +kernel), List.mem_of_getElem? (i := 1562) (by decide +kernel)⟩
theorem lw_p62 : lw_okq (⟨"ThreeSizesModel", "houseTold", "()V"⟩, 98) := ⟨⟨by decide +kernel, by decide +kernel⟩, List.mem_of_getElem? (i := 1242) (by decide +kernel), List.mem_of_getElem? (i := 1565) (by decide +kernel), List.mem_of_getElem? (i := 1566) (by decide +kernel)⟩
theorem lw_p63 : lw_okq (⟨"ThreeSizesModel", "fail", "(II)V"⟩, 98) := ⟨⟨by decide +kernel, by decide +kernel⟩, List.mem_of_getElem? (i := 1242) (by decide +kernel), List.mem_of_getElem? (i := 1569) (by decide +kernel), List.mem_of_getElem? (i := 1570) (by decide +kernel)⟩
def lw_privs_4 : List (MethodName × Nat) := [(⟨"ThreeSizes", "learnFromBox", "(II)Z"⟩, 19), (⟨"ThreeSizes", "takeBack", "(LThreeSizes$Person;I)V"⟩, 19), (⟨"ThreeSizes$Store", "receive", "(I)V"⟩, 4), (⟨"ThreeSizes", "worthBeside", "(IIII)I"⟩, 19), (⟨"ThreeSizes$Person", "hasKept", "(II)Z"⟩, 9), (⟨"ThreeSizes", "drawFrom", "([I)I"⟩, 19), (⟨"ThreeSizes", "drawOfCertain", "()I"⟩, 19), (⟨"ThreeSizes", "hasTruth", "(II)Z"⟩, 19), (⟨"ThreeSizes", "drawOutcome", "(LThreeSizes$Person;II)I"⟩, 19), (⟨"ThreeSizes$Image", "put", "(I)V"⟩, 2), (⟨"ThreeSizes$Image", "putRow", "([I)V"⟩, 2), (⟨"ThreeSizes", "bringBoxesHome", "()V"⟩, 19), (⟨"ThreeSizesModel", "begins", "()V"⟩, 98), (⟨"ThreeSizesModel", "look", "()I"⟩, 98), (⟨"ThreeSizesModel", "houseTold", "()V"⟩, 98), (⟨"ThreeSizesModel", "fail", "(II)V"⟩, 98)]
theorem lw_r4 : ∀ q ∈ lw_privs_4, lw_okq q := List.forall_mem_cons.mpr ⟨lw_p48, List.forall_mem_cons.mpr ⟨lw_p49, List.forall_mem_cons.mpr ⟨lw_p50, List.forall_mem_cons.mpr ⟨lw_p51, List.forall_mem_cons.mpr ⟨lw_p52, List.forall_mem_cons.mpr ⟨lw_p53, List.forall_mem_cons.mpr ⟨lw_p54, List.forall_mem_cons.mpr ⟨lw_p55, List.forall_mem_cons.mpr ⟨lw_p56, List.forall_mem_cons.mpr ⟨lw_p57, List.forall_mem_cons.mpr ⟨lw_p58, List.forall_mem_cons.mpr ⟨lw_p59, List.forall_mem_cons.mpr ⟨lw_p60, List.forall_mem_cons.mpr ⟨lw_p61, List.forall_mem_cons.mpr ⟨lw_p62, List.forall_mem_cons.mpr ⟨lw_p63, fun _ h => absurd h List.not_mem_nil⟩⟩⟩⟩⟩⟩⟩⟩⟩⟩⟩⟩⟩⟩⟩⟩
theorem lw_p64 : lw_okq (⟨"ThreeSizesModel", "takes", "([C)Z"⟩, 98) := ⟨⟨by decide +kernel, by decide +kernel⟩, List.mem_of_getElem? (i := 1242) (by decide +kernel), List.mem_of_getElem? (i := 1573) (by decide +kernel), List.mem_of_getElem? (i := 1574) (by decide +kernel)⟩
theorem lw_p65 : lw_okq (⟨"ThreeSizesModel", "isHere", "([C)Z"⟩, 98) := ⟨⟨by decide +kernel, by decide +kernel⟩, List.mem_of_getElem? (i := 1242) (by decide +kernel), List.mem_of_getElem? (i := 1577) (by decide +kernel), List.mem_of_getElem? (i := 1578) (by decide +kernel)⟩
theorem lw_p66 : lw_okq (⟨"ThreeSizesModel", "lastTold", "(I)V"⟩, 98) := ⟨⟨by decide +kernel, by decide +kernel⟩, List.mem_of_getElem? (i := 1242) (by decide +kernel), List.mem_of_getElem? (i := 1584) (by decide +kernel), List.mem_of_getElem? (i := 1585) (by decide +kernel)⟩
theorem lw_p67 : lw_okq (⟨"ThreeSizesModel", "isFull", "(III)Z"⟩, 98) := ⟨⟨by decide +kernel, by decide +kernel⟩, List.mem_of_getElem? (i := 1242) (by decide +kernel), List.mem_of_getElem? (i := 1588) (by decide +kernel), List.mem_of_getElem? (i := 1589) (by decide +kernel)⟩
theorem lw_p68 : lw_okq (⟨"ThreeSizesModel", "newName", "(I)I"⟩, 98) := ⟨⟨by decide +kernel, by decide +kernel⟩, List.mem_of_getElem? (i := 1242) (by decide +kernel), List.mem_of_getElem? (i := 1592) (by decide +kernel), List.mem_of_getElem? (i := 1593) (by decide +kernel)⟩
theorem lw_p69 : lw_okq (⟨"ThreeSizesModel", "name", "()J"⟩, 98) := ⟨⟨by decide +kernel, by decide +kernel⟩, List.mem_of_getElem? (i := 1242) (by decide +kernel), List.mem_of_getElem? (i := 1596) (by decide +kernel), List.mem_of_getElem? (i := 1597) (by decide +kernel)⟩
theorem lw_p70 : lw_okq (⟨"ThreeSizesModel", "isOwnHere", "()Z"⟩, 98) := ⟨⟨by decide +kernel, by decide +kernel⟩, List.mem_of_getElem? (i := 1242) (by decide +kernel), List.mem_of_getElem? (i := 1600) (by decide +kernel), List.mem_of_getElem? (i := 1601) (by decide +kernel)⟩
theorem lw_p71 : lw_okq (⟨"ThreeSizesModel", "nameOf", "(IJ)I"⟩, 98) := ⟨⟨by decide +kernel, by decide +kernel⟩, List.mem_of_getElem? (i := 1242) (by decide +kernel), List.mem_of_getElem? (i := 1606) (by decide +kernel), List.mem_of_getElem? (i := 1607) (by decide +kernel)⟩
theorem lw_p72 : lw_okq (⟨"ThreeSizesModel", "asks", "([C)V"⟩, 98) := ⟨⟨by decide +kernel, by decide +kernel⟩, List.mem_of_getElem? (i := 1242) (by decide +kernel), List.mem_of_getElem? (i := 1610) (by decide +kernel), List.mem_of_getElem? (i := 1611) (by decide +kernel)⟩
theorem lw_p73 : lw_okq (⟨"ThreeSizesModel", "number", "(II)I"⟩, 98) := ⟨⟨by decide +kernel, by decide +kernel⟩, List.mem_of_getElem? (i := 1242) (by decide +kernel), List.mem_of_getElem? (i := 1614) (by decide +kernel), List.mem_of_getElem? (i := 1615) (by decide +kernel)⟩
theorem lw_p74 : lw_okq (⟨"ThreeSizesModel", "chances", "([IIII)V"⟩, 98) := ⟨⟨by decide +kernel, by decide +kernel⟩, List.mem_of_getElem? (i := 1242) (by decide +kernel), List.mem_of_getElem? (i := 1624) (by decide +kernel), List.mem_of_getElem? (i := 1625) (by decide +kernel)⟩
theorem lw_p75 : lw_okq (⟨"ThreeSizesModel", "sortTold", "(I)V"⟩, 98) := ⟨⟨by decide +kernel, by decide +kernel⟩, List.mem_of_getElem? (i := 1242) (by decide +kernel), List.mem_of_getElem? (i := 1628) (by decide +kernel), List.mem_of_getElem? (i := 1629) (by decide +kernel)⟩
theorem lw_p76 : lw_okq (⟨"ThreeSizesModel", "keepsTold", "()V"⟩, 98) := ⟨⟨by decide +kernel, by decide +kernel⟩, List.mem_of_getElem? (i := 1242) (by decide +kernel), List.mem_of_getElem? (i := 1632) (by decide +kernel), List.mem_of_getElem? (i := 1633) (by decide +kernel)⟩
theorem lw_p77 : lw_okq (⟨"ThreeSizesModel", "stockTold", "()V"⟩, 98) := ⟨⟨by decide +kernel, by decide +kernel⟩, List.mem_of_getElem? (i := 1242) (by decide +kernel), List.mem_of_getElem? (i := 1636) (by decide +kernel), List.mem_of_getElem? (i := 1637) (by decide +kernel)⟩
theorem lw_p78 : lw_okq (⟨"ThreeSizesModel", "askTold", "(I)V"⟩, 98) := ⟨⟨by decide +kernel, by decide +kernel⟩, List.mem_of_getElem? (i := 1242) (by decide +kernel), List.mem_of_getElem? (i := 1640) (by decide +kernel), List.mem_of_getElem? (i := 1641) (by decide +kernel)⟩
theorem lw_p79 : lw_okq (⟨"ThreeSizesModel", "asksSign", "(I)V"⟩, 98) := ⟨⟨by decide +kernel, by decide +kernel⟩, List.mem_of_getElem? (i := 1242) (by decide +kernel), List.mem_of_getElem? (i := 1644) (by decide +kernel), List.mem_of_getElem? (i := 1645) (by decide +kernel)⟩
def lw_privs_5 : List (MethodName × Nat) := [(⟨"ThreeSizesModel", "takes", "([C)Z"⟩, 98), (⟨"ThreeSizesModel", "isHere", "([C)Z"⟩, 98), (⟨"ThreeSizesModel", "lastTold", "(I)V"⟩, 98), (⟨"ThreeSizesModel", "isFull", "(III)Z"⟩, 98), (⟨"ThreeSizesModel", "newName", "(I)I"⟩, 98), (⟨"ThreeSizesModel", "name", "()J"⟩, 98), (⟨"ThreeSizesModel", "isOwnHere", "()Z"⟩, 98), (⟨"ThreeSizesModel", "nameOf", "(IJ)I"⟩, 98), (⟨"ThreeSizesModel", "asks", "([C)V"⟩, 98), (⟨"ThreeSizesModel", "number", "(II)I"⟩, 98), (⟨"ThreeSizesModel", "chances", "([IIII)V"⟩, 98), (⟨"ThreeSizesModel", "sortTold", "(I)V"⟩, 98), (⟨"ThreeSizesModel", "keepsTold", "()V"⟩, 98), (⟨"ThreeSizesModel", "stockTold", "()V"⟩, 98), (⟨"ThreeSizesModel", "askTold", "(I)V"⟩, 98), (⟨"ThreeSizesModel", "asksSign", "(I)V"⟩, 98)]
theorem lw_r5 : ∀ q ∈ lw_privs_5, lw_okq q := List.forall_mem_cons.mpr ⟨lw_p64, List.forall_mem_cons.mpr ⟨lw_p65, List.forall_mem_cons.mpr ⟨lw_p66, List.forall_mem_cons.mpr ⟨lw_p67, List.forall_mem_cons.mpr ⟨lw_p68, List.forall_mem_cons.mpr ⟨lw_p69, List.forall_mem_cons.mpr ⟨lw_p70, List.forall_mem_cons.mpr ⟨lw_p71, List.forall_mem_cons.mpr ⟨lw_p72, List.forall_mem_cons.mpr ⟨lw_p73, List.forall_mem_cons.mpr ⟨lw_p74, List.forall_mem_cons.mpr ⟨lw_p75, List.forall_mem_cons.mpr ⟨lw_p76, List.forall_mem_cons.mpr ⟨lw_p77, List.forall_mem_cons.mpr ⟨lw_p78, List.forall_mem_cons.mpr ⟨lw_p79, fun _ h => absurd h List.not_mem_nil⟩⟩⟩⟩⟩⟩⟩⟩⟩⟩⟩⟩⟩⟩⟩⟩
theorem lw_p80 : lw_okq (⟨"ThreeSizesModel", "takesSign", "(I)Z"⟩, 98) := ⟨⟨by decide +kernel, by decide +kernel⟩, List.mem_of_getElem? (i := 1242) (by decide +kernel), List.mem_of_getElem? (i := 1648) (by decide +kernel), List.mem_of_getElem? (i := 1649) (by decide +kernel)⟩
theorem lw_p81 : lw_okq (⟨"ThreeSizesModel", "stands", "()V"⟩, 98) := ⟨⟨by decide +kernel, by decide +kernel⟩, List.mem_of_getElem? (i := 1242) (by decide +kernel), List.mem_of_getElem? (i := 1652) (by decide +kernel), List.mem_of_getElem? (i := 1653) (by decide +kernel)⟩
theorem lw_p82 : lw_okq (⟨"ThreeSizesModel", "sendTold", "()V"⟩, 98) := ⟨⟨by decide +kernel, by decide +kernel⟩, List.mem_of_getElem? (i := 1242) (by decide +kernel), List.mem_of_getElem? (i := 1661) (by decide +kernel), List.mem_of_getElem? (i := 1662) (by decide +kernel)⟩
theorem lw_p83 : lw_okq (⟨"ThreeSizesModel", "sizesTold", "()I"⟩, 98) := ⟨⟨by decide +kernel, by decide +kernel⟩, List.mem_of_getElem? (i := 1242) (by decide +kernel), List.mem_of_getElem? (i := 1665) (by decide +kernel), List.mem_of_getElem? (i := 1666) (by decide +kernel)⟩
theorem lw_p84 : lw_okq (⟨"ThreeSizesModel", "sizeTold", "()I"⟩, 98) := ⟨⟨by decide +kernel, by decide +kernel⟩, List.mem_of_getElem? (i := 1242) (by decide +kernel), List.mem_of_getElem? (i := 1669) (by decide +kernel), List.mem_of_getElem? (i := 1670) (by decide +kernel)⟩
theorem lw_p85 : lw_okq (⟨"ThreeSizesModel", "test", "()V"⟩, 98) := ⟨⟨by decide +kernel, by decide +kernel⟩, List.mem_of_getElem? (i := 1242) (by decide +kernel), List.mem_of_getElem? (i := 1673) (by decide +kernel), List.mem_of_getElem? (i := 1674) (by decide +kernel)⟩
theorem lw_p86 : lw_okq (⟨"ThreeSizesModel", "opens", "(II)V"⟩, 98) := ⟨⟨by decide +kernel, by decide +kernel⟩, List.mem_of_getElem? (i := 1242) (by decide +kernel), List.mem_of_getElem? (i := 1677) (by decide +kernel), List.mem_of_getElem? (i := 1678) (by decide +kernel)⟩
theorem lw_p87 : lw_okq (⟨"ThreeSizesModel", "fact", "()V"⟩, 98) := ⟨⟨by decide +kernel, by decide +kernel⟩, List.mem_of_getElem? (i := 1242) (by decide +kernel), List.mem_of_getElem? (i := 1681) (by decide +kernel), List.mem_of_getElem? (i := 1682) (by decide +kernel)⟩
theorem lw_p88 : lw_okq (⟨"ThreeSizesModel", "code", "(I)V"⟩, 98) := ⟨⟨by decide +kernel, by decide +kernel⟩, List.mem_of_getElem? (i := 1242) (by decide +kernel), List.mem_of_getElem? (i := 1685) (by decide +kernel), List.mem_of_getElem? (i := 1686) (by decide +kernel)⟩
theorem lw_p89 : lw_okq (⟨"ThreeSizesModel", "sums", "()V"⟩, 98) := ⟨⟨by decide +kernel, by decide +kernel⟩, List.mem_of_getElem? (i := 1242) (by decide +kernel), List.mem_of_getElem? (i := 1689) (by decide +kernel), List.mem_of_getElem? (i := 1690) (by decide +kernel)⟩
theorem lw_p90 : lw_okq (⟨"ThreeSizesModel", "onePart", "()V"⟩, 98) := ⟨⟨by decide +kernel, by decide +kernel⟩, List.mem_of_getElem? (i := 1242) (by decide +kernel), List.mem_of_getElem? (i := 1693) (by decide +kernel), List.mem_of_getElem? (i := 1694) (by decide +kernel)⟩
theorem lw_p91 : lw_okq (⟨"ThreeSizesModel", "goesOn", "()Z"⟩, 98) := ⟨⟨by decide +kernel, by decide +kernel⟩, List.mem_of_getElem? (i := 1242) (by decide +kernel), List.mem_of_getElem? (i := 1697) (by decide +kernel), List.mem_of_getElem? (i := 1698) (by decide +kernel)⟩
theorem lw_p92 : lw_okq (⟨"ThreeSizesModel", "mark", "()I"⟩, 98) := ⟨⟨by decide +kernel, by decide +kernel⟩, List.mem_of_getElem? (i := 1242) (by decide +kernel), List.mem_of_getElem? (i := 1701) (by decide +kernel), List.mem_of_getElem? (i := 1702) (by decide +kernel)⟩
theorem lw_p93 : lw_okq (⟨"ThreeSizesModel", "isMark", "(I)Z"⟩, 98) := ⟨⟨by decide +kernel, by decide +kernel⟩, List.mem_of_getElem? (i := 1242) (by decide +kernel), List.mem_of_getElem? (i := 1705) (by decide +kernel), List.mem_of_getElem? (i := 1706) (by decide +kernel)⟩
theorem lw_p94 : lw_okq (⟨"ThreeSizesModel", "dropsToMark", "()V"⟩, 98) := ⟨⟨by decide +kernel, by decide +kernel⟩, List.mem_of_getElem? (i := 1242) (by decide +kernel), List.mem_of_getElem? (i := 1709) (by decide +kernel), List.mem_of_getElem? (i := 1710) (by decide +kernel)⟩
theorem lw_p95 : lw_okq (⟨"ThreeSizesModel", "drops", "()V"⟩, 98) := ⟨⟨by decide +kernel, by decide +kernel⟩, List.mem_of_getElem? (i := 1242) (by decide +kernel), List.mem_of_getElem? (i := 1713) (by decide +kernel), List.mem_of_getElem? (i := 1714) (by decide +kernel)⟩
def lw_privs_6 : List (MethodName × Nat) := [(⟨"ThreeSizesModel", "takesSign", "(I)Z"⟩, 98), (⟨"ThreeSizesModel", "stands", "()V"⟩, 98), (⟨"ThreeSizesModel", "sendTold", "()V"⟩, 98), (⟨"ThreeSizesModel", "sizesTold", "()I"⟩, 98), (⟨"ThreeSizesModel", "sizeTold", "()I"⟩, 98), (⟨"ThreeSizesModel", "test", "()V"⟩, 98), (⟨"ThreeSizesModel", "opens", "(II)V"⟩, 98), (⟨"ThreeSizesModel", "fact", "()V"⟩, 98), (⟨"ThreeSizesModel", "code", "(I)V"⟩, 98), (⟨"ThreeSizesModel", "sums", "()V"⟩, 98), (⟨"ThreeSizesModel", "onePart", "()V"⟩, 98), (⟨"ThreeSizesModel", "goesOn", "()Z"⟩, 98), (⟨"ThreeSizesModel", "mark", "()I"⟩, 98), (⟨"ThreeSizesModel", "isMark", "(I)Z"⟩, 98), (⟨"ThreeSizesModel", "dropsToMark", "()V"⟩, 98), (⟨"ThreeSizesModel", "drops", "()V"⟩, 98)]
theorem lw_r6 : ∀ q ∈ lw_privs_6, lw_okq q := List.forall_mem_cons.mpr ⟨lw_p80, List.forall_mem_cons.mpr ⟨lw_p81, List.forall_mem_cons.mpr ⟨lw_p82, List.forall_mem_cons.mpr ⟨lw_p83, List.forall_mem_cons.mpr ⟨lw_p84, List.forall_mem_cons.mpr ⟨lw_p85, List.forall_mem_cons.mpr ⟨lw_p86, List.forall_mem_cons.mpr ⟨lw_p87, List.forall_mem_cons.mpr ⟨lw_p88, List.forall_mem_cons.mpr ⟨lw_p89, List.forall_mem_cons.mpr ⟨lw_p90, List.forall_mem_cons.mpr ⟨lw_p91, List.forall_mem_cons.mpr ⟨lw_p92, List.forall_mem_cons.mpr ⟨lw_p93, List.forall_mem_cons.mpr ⟨lw_p94, List.forall_mem_cons.mpr ⟨lw_p95, fun _ h => absurd h List.not_mem_nil⟩⟩⟩⟩⟩⟩⟩⟩⟩⟩⟩⟩⟩⟩⟩⟩
theorem lw_p96 : lw_okq (⟨"ThreeSizesModel", "isOn", "(I)Z"⟩, 98) := ⟨⟨by decide +kernel, by decide +kernel⟩, List.mem_of_getElem? (i := 1242) (by decide +kernel), List.mem_of_getElem? (i := 1717) (by decide +kernel), List.mem_of_getElem? (i := 1718) (by decide +kernel)⟩
theorem lw_p97 : lw_okq (⟨"ThreeSizesModel", "dropsNots", "()V"⟩, 98) := ⟨⟨by decide +kernel, by decide +kernel⟩, List.mem_of_getElem? (i := 1242) (by decide +kernel), List.mem_of_getElem? (i := 1721) (by decide +kernel), List.mem_of_getElem? (i := 1722) (by decide +kernel)⟩
theorem lw_p98 : lw_okq (⟨"ThreeSizesModel", "goesOnTest", "()Z"⟩, 98) := ⟨⟨by decide +kernel, by decide +kernel⟩, List.mem_of_getElem? (i := 1242) (by decide +kernel), List.mem_of_getElem? (i := 1725) (by decide +kernel), List.mem_of_getElem? (i := 1726) (by decide +kernel)⟩
theorem lw_p99 : lw_okq (⟨"ThreeSizesModel", "hasSquare", "()Z"⟩, 98) := ⟨⟨by decide +kernel, by decide +kernel⟩, List.mem_of_getElem? (i := 1242) (by decide +kernel), List.mem_of_getElem? (i := 1729) (by decide +kernel), List.mem_of_getElem? (i := 1730) (by decide +kernel)⟩
theorem lw_p100 : lw_okq (⟨"ThreeSizesModel", "isAsked", "(II)Z"⟩, 98) := ⟨⟨by decide +kernel, by decide +kernel⟩, List.mem_of_getElem? (i := 1242) (by decide +kernel), List.mem_of_getElem? (i := 1750) (by decide +kernel), List.mem_of_getElem? (i := 1751) (by decide +kernel)⟩
theorem lw_p101 : lw_okq (⟨"ThreeSizesModel", "comes", "(III)V"⟩, 98) := ⟨⟨by decide +kernel, by decide +kernel⟩, List.mem_of_getElem? (i := 1242) (by decide +kernel), List.mem_of_getElem? (i := 1756) (by decide +kernel), List.mem_of_getElem? (i := 1757) (by decide +kernel)⟩
theorem lw_p102 : lw_okq (⟨"ThreeSizesModel", "isPerson", "(I)Z"⟩, 98) := ⟨⟨by decide +kernel, by decide +kernel⟩, List.mem_of_getElem? (i := 1242) (by decide +kernel), List.mem_of_getElem? (i := 1764) (by decide +kernel), List.mem_of_getElem? (i := 1765) (by decide +kernel)⟩
theorem lw_p103 : lw_okq (⟨"ThreeSizesModel", "isLast", "(I)Z"⟩, 98) := ⟨⟨by decide +kernel, by decide +kernel⟩, List.mem_of_getElem? (i := 1242) (by decide +kernel), List.mem_of_getElem? (i := 1773) (by decide +kernel), List.mem_of_getElem? (i := 1774) (by decide +kernel)⟩
theorem lw_p104 : lw_okq (⟨"ThreeSizesModel", "lasts", "()I"⟩, 98) := ⟨⟨by decide +kernel, by decide +kernel⟩, List.mem_of_getElem? (i := 1242) (by decide +kernel), List.mem_of_getElem? (i := 1777) (by decide +kernel), List.mem_of_getElem? (i := 1778) (by decide +kernel)⟩
theorem lw_p105 : lw_okq (⟨"ThreeSizesModel", "pairsKept", "(I)I"⟩, 98) := ⟨⟨by decide +kernel, by decide +kernel⟩, List.mem_of_getElem? (i := 1242) (by decide +kernel), List.mem_of_getElem? (i := 1786) (by decide +kernel), List.mem_of_getElem? (i := 1787) (by decide +kernel)⟩
theorem lw_p106 : lw_okq (⟨"ThreeSizesModel", "isBox", "(III)Z"⟩, 98) := ⟨⟨by decide +kernel, by decide +kernel⟩, List.mem_of_getElem? (i := 1242) (by decide +kernel), List.mem_of_getElem? (i := 1794) (by decide +kernel), List.mem_of_getElem? (i := 1795) (by decide +kernel)⟩
theorem lw_p107 : lw_okq (⟨"ThreeSizesModel", "weights", "(IIIIII)J"⟩, 98) := ⟨⟨by decide +kernel, by decide +kernel⟩, List.mem_of_getElem? (i := 1242) (by decide +kernel), List.mem_of_getElem? (i := 1803) (by decide +kernel), List.mem_of_getElem? (i := 1804) (by decide +kernel)⟩
theorem lw_p108 : lw_okq (⟨"ThreeSizesModel", "likely", "(IIIII)I"⟩, 98) := ⟨⟨by decide +kernel, by decide +kernel⟩, List.mem_of_getElem? (i := 1242) (by decide +kernel), List.mem_of_getElem? (i := 1807) (by decide +kernel), List.mem_of_getElem? (i := 1808) (by decide +kernel)⟩
theorem lw_p109 : lw_okq (⟨"ThreeSizesModel", "bestPair", "(III)I"⟩, 98) := ⟨⟨by decide +kernel, by decide +kernel⟩, List.mem_of_getElem? (i := 1242) (by decide +kernel), List.mem_of_getElem? (i := 1811) (by decide +kernel), List.mem_of_getElem? (i := 1812) (by decide +kernel)⟩
theorem lw_p110 : lw_okq (⟨"ThreeSizesModel", "pleases", "(III)I"⟩, 98) := ⟨⟨by decide +kernel, by decide +kernel⟩, List.mem_of_getElem? (i := 1242) (by decide +kernel), List.mem_of_getElem? (i := 1815) (by decide +kernel), List.mem_of_getElem? (i := 1816) (by decide +kernel)⟩
theorem lw_p111 : lw_okq (⟨"ThreeSizesModel", "meanOf", "(III)I"⟩, 98) := ⟨⟨by decide +kernel, by decide +kernel⟩, List.mem_of_getElem? (i := 1242) (by decide +kernel), List.mem_of_getElem? (i := 1824) (by decide +kernel), List.mem_of_getElem? (i := 1825) (by decide +kernel)⟩
def lw_privs_7 : List (MethodName × Nat) := [(⟨"ThreeSizesModel", "isOn", "(I)Z"⟩, 98), (⟨"ThreeSizesModel", "dropsNots", "()V"⟩, 98), (⟨"ThreeSizesModel", "goesOnTest", "()Z"⟩, 98), (⟨"ThreeSizesModel", "hasSquare", "()Z"⟩, 98), (⟨"ThreeSizesModel", "isAsked", "(II)Z"⟩, 98), (⟨"ThreeSizesModel", "comes", "(III)V"⟩, 98), (⟨"ThreeSizesModel", "isPerson", "(I)Z"⟩, 98), (⟨"ThreeSizesModel", "isLast", "(I)Z"⟩, 98), (⟨"ThreeSizesModel", "lasts", "()I"⟩, 98), (⟨"ThreeSizesModel", "pairsKept", "(I)I"⟩, 98), (⟨"ThreeSizesModel", "isBox", "(III)Z"⟩, 98), (⟨"ThreeSizesModel", "weights", "(IIIIII)J"⟩, 98), (⟨"ThreeSizesModel", "likely", "(IIIII)I"⟩, 98), (⟨"ThreeSizesModel", "bestPair", "(III)I"⟩, 98), (⟨"ThreeSizesModel", "pleases", "(III)I"⟩, 98), (⟨"ThreeSizesModel", "meanOf", "(III)I"⟩, 98)]
theorem lw_r7 : ∀ q ∈ lw_privs_7, lw_okq q := List.forall_mem_cons.mpr ⟨lw_p96, List.forall_mem_cons.mpr ⟨lw_p97, List.forall_mem_cons.mpr ⟨lw_p98, List.forall_mem_cons.mpr ⟨lw_p99, List.forall_mem_cons.mpr ⟨lw_p100, List.forall_mem_cons.mpr ⟨lw_p101, List.forall_mem_cons.mpr ⟨lw_p102, List.forall_mem_cons.mpr ⟨lw_p103, List.forall_mem_cons.mpr ⟨lw_p104, List.forall_mem_cons.mpr ⟨lw_p105, List.forall_mem_cons.mpr ⟨lw_p106, List.forall_mem_cons.mpr ⟨lw_p107, List.forall_mem_cons.mpr ⟨lw_p108, List.forall_mem_cons.mpr ⟨lw_p109, List.forall_mem_cons.mpr ⟨lw_p110, List.forall_mem_cons.mpr ⟨lw_p111, fun _ h => absurd h List.not_mem_nil⟩⟩⟩⟩⟩⟩⟩⟩⟩⟩⟩⟩⟩⟩⟩⟩
theorem lw_p112 : lw_okq (⟨"ThreeSizesModel", "money", "(IIZ)I"⟩, 98) := ⟨⟨by decide +kernel, by decide +kernel⟩, List.mem_of_getElem? (i := 1242) (by decide +kernel), List.mem_of_getElem? (i := 1829) (by decide +kernel), List.mem_of_getElem? (i := 1830) (by decide +kernel)⟩
theorem lw_p113 : lw_okq (⟨"ThreeSizesModel", "ordered", "(II)I"⟩, 98) := ⟨⟨by decide +kernel, by decide +kernel⟩, List.mem_of_getElem? (i := 1242) (by decide +kernel), List.mem_of_getElem? (i := 1837) (by decide +kernel), List.mem_of_getElem? (i := 1838) (by decide +kernel)⟩
theorem lw_p114 : lw_okq (⟨"ThreeSizesModel", "bestBox", "(II)I"⟩, 98) := ⟨⟨by decide +kernel, by decide +kernel⟩, List.mem_of_getElem? (i := 1242) (by decide +kernel), List.mem_of_getElem? (i := 1845) (by decide +kernel), List.mem_of_getElem? (i := 1846) (by decide +kernel)⟩
theorem lw_p115 : lw_okq (⟨"ThreeSizesModel", "isInStock", "(III)Z"⟩, 98) := ⟨⟨by decide +kernel, by decide +kernel⟩, List.mem_of_getElem? (i := 1242) (by decide +kernel), List.mem_of_getElem? (i := 1849) (by decide +kernel), List.mem_of_getElem? (i := 1850) (by decide +kernel)⟩
theorem lw_p116 : lw_okq (⟨"ThreeSizesModel", "stockAt", "(II)I"⟩, 98) := ⟨⟨by decide +kernel, by decide +kernel⟩, List.mem_of_getElem? (i := 1242) (by decide +kernel), List.mem_of_getElem? (i := 1853) (by decide +kernel), List.mem_of_getElem? (i := 1854) (by decide +kernel)⟩
theorem lw_p117 : lw_okq (⟨"ThreeSizesModel", "isRuled", "(I)Z"⟩, 98) := ⟨⟨by decide +kernel, by decide +kernel⟩, List.mem_of_getElem? (i := 1242) (by decide +kernel), List.mem_of_getElem? (i := 1861) (by decide +kernel), List.mem_of_getElem? (i := 1862) (by decide +kernel)⟩
theorem lw_p118 : lw_okq (⟨"ThreeSizesModel", "ruled", "(III)I"⟩, 98) := ⟨⟨by decide +kernel, by decide +kernel⟩, List.mem_of_getElem? (i := 1242) (by decide +kernel), List.mem_of_getElem? (i := 1865) (by decide +kernel), List.mem_of_getElem? (i := 1866) (by decide +kernel)⟩
theorem lw_p119 : lw_okq (⟨"ThreeSizesModel", "holds", "(III)Z"⟩, 98) := ⟨⟨by decide +kernel, by decide +kernel⟩, List.mem_of_getElem? (i := 1242) (by decide +kernel), List.mem_of_getElem? (i := 1869) (by decide +kernel), List.mem_of_getElem? (i := 1870) (by decide +kernel)⟩
theorem lw_p120 : lw_okq (⟨"ThreeSizesModel", "puts", "(J)V"⟩, 98) := ⟨⟨by decide +kernel, by decide +kernel⟩, List.mem_of_getElem? (i := 1242) (by decide +kernel), List.mem_of_getElem? (i := 1873) (by decide +kernel), List.mem_of_getElem? (i := 1874) (by decide +kernel)⟩
theorem lw_p121 : lw_okq (⟨"ThreeSizesModel", "asked", "(III)I"⟩, 98) := ⟨⟨by decide +kernel, by decide +kernel⟩, List.mem_of_getElem? (i := 1242) (by decide +kernel), List.mem_of_getElem? (i := 1880) (by decide +kernel), List.mem_of_getElem? (i := 1881) (by decide +kernel)⟩
theorem lw_p122 : lw_okq (⟨"ThreeSizesModel", "joins", "(I)V"⟩, 98) := ⟨⟨by decide +kernel, by decide +kernel⟩, List.mem_of_getElem? (i := 1242) (by decide +kernel), List.mem_of_getElem? (i := 1884) (by decide +kernel), List.mem_of_getElem? (i := 1885) (by decide +kernel)⟩
theorem lw_p123 : lw_okq (⟨"ThreeSizesModel", "cut", "(II)I"⟩, 98) := ⟨⟨by decide +kernel, by decide +kernel⟩, List.mem_of_getElem? (i := 1242) (by decide +kernel), List.mem_of_getElem? (i := 1896) (by decide +kernel), List.mem_of_getElem? (i := 1897) (by decide +kernel)⟩
theorem lw_p124 : lw_okq (⟨"ThreeSizesModel", "isWay", "(III)Z"⟩, 98) := ⟨⟨by decide +kernel, by decide +kernel⟩, List.mem_of_getElem? (i := 1242) (by decide +kernel), List.mem_of_getElem? (i := 1904) (by decide +kernel), List.mem_of_getElem? (i := 1905) (by decide +kernel)⟩
theorem lw_p125 : lw_okq (⟨"ThreeSizesModel", "wayBox", "(III)I"⟩, 98) := ⟨⟨by decide +kernel, by decide +kernel⟩, List.mem_of_getElem? (i := 1242) (by decide +kernel), List.mem_of_getElem? (i := 1908) (by decide +kernel), List.mem_of_getElem? (i := 1909) (by decide +kernel)⟩
theorem lw_p126 : lw_okq (⟨"ThreeSizesModel", "sent", "(III)V"⟩, 98) := ⟨⟨by decide +kernel, by decide +kernel⟩, List.mem_of_getElem? (i := 1242) (by decide +kernel), List.mem_of_getElem? (i := 1916) (by decide +kernel), List.mem_of_getElem? (i := 1917) (by decide +kernel)⟩
theorem lw_p127 : lw_okq (⟨"ThreeSizesModel", "isTaught", "(IIII)Z"⟩, 98) := ⟨⟨by decide +kernel, by decide +kernel⟩, List.mem_of_getElem? (i := 1242) (by decide +kernel), List.mem_of_getElem? (i := 1925) (by decide +kernel), List.mem_of_getElem? (i := 1926) (by decide +kernel)⟩
def lw_privs_8 : List (MethodName × Nat) := [(⟨"ThreeSizesModel", "money", "(IIZ)I"⟩, 98), (⟨"ThreeSizesModel", "ordered", "(II)I"⟩, 98), (⟨"ThreeSizesModel", "bestBox", "(II)I"⟩, 98), (⟨"ThreeSizesModel", "isInStock", "(III)Z"⟩, 98), (⟨"ThreeSizesModel", "stockAt", "(II)I"⟩, 98), (⟨"ThreeSizesModel", "isRuled", "(I)Z"⟩, 98), (⟨"ThreeSizesModel", "ruled", "(III)I"⟩, 98), (⟨"ThreeSizesModel", "holds", "(III)Z"⟩, 98), (⟨"ThreeSizesModel", "puts", "(J)V"⟩, 98), (⟨"ThreeSizesModel", "asked", "(III)I"⟩, 98), (⟨"ThreeSizesModel", "joins", "(I)V"⟩, 98), (⟨"ThreeSizesModel", "cut", "(II)I"⟩, 98), (⟨"ThreeSizesModel", "isWay", "(III)Z"⟩, 98), (⟨"ThreeSizesModel", "wayBox", "(III)I"⟩, 98), (⟨"ThreeSizesModel", "sent", "(III)V"⟩, 98), (⟨"ThreeSizesModel", "isTaught", "(IIII)Z"⟩, 98)]
theorem lw_r8 : ∀ q ∈ lw_privs_8, lw_okq q := List.forall_mem_cons.mpr ⟨lw_p112, List.forall_mem_cons.mpr ⟨lw_p113, List.forall_mem_cons.mpr ⟨lw_p114, List.forall_mem_cons.mpr ⟨lw_p115, List.forall_mem_cons.mpr ⟨lw_p116, List.forall_mem_cons.mpr ⟨lw_p117, List.forall_mem_cons.mpr ⟨lw_p118, List.forall_mem_cons.mpr ⟨lw_p119, List.forall_mem_cons.mpr ⟨lw_p120, List.forall_mem_cons.mpr ⟨lw_p121, List.forall_mem_cons.mpr ⟨lw_p122, List.forall_mem_cons.mpr ⟨lw_p123, List.forall_mem_cons.mpr ⟨lw_p124, List.forall_mem_cons.mpr ⟨lw_p125, List.forall_mem_cons.mpr ⟨lw_p126, List.forall_mem_cons.mpr ⟨lw_p127, fun _ h => absurd h List.not_mem_nil⟩⟩⟩⟩⟩⟩⟩⟩⟩⟩⟩⟩⟩⟩⟩⟩
theorem lw_p128 : lw_okq (⟨"ThreeSizesModel", "wouldLearn", "(IIII)V"⟩, 98) := ⟨⟨by decide +kernel, by decide +kernel⟩, List.mem_of_getElem? (i := 1242) (by decide +kernel), List.mem_of_getElem? (i := 1929) (by decide +kernel), List.mem_of_getElem? (i := 1930) (by decide +kernel)⟩
theorem lw_p129 : lw_okq (⟨"ThreeSizesModel", "takes", "([III)V"⟩, 98) := ⟨⟨by decide +kernel, by decide +kernel⟩, List.mem_of_getElem? (i := 1242) (by decide +kernel), List.mem_of_getElem? (i := 1934) (by decide +kernel), List.mem_of_getElem? (i := 1935) (by decide +kernel)⟩
theorem lw_p130 : lw_okq (⟨"ThreeSizesModel", "cameBack", "(II)V"⟩, 98) := ⟨⟨by decide +kernel, by decide +kernel⟩, List.mem_of_getElem? (i := 1242) (by decide +kernel), List.mem_of_getElem? (i := 1946) (by decide +kernel), List.mem_of_getElem? (i := 1947) (by decide +kernel)⟩
theorem lw_p131 : lw_okq (⟨"ThreeSizesModel", "learns", "(IIII)V"⟩, 98) := ⟨⟨by decide +kernel, by decide +kernel⟩, List.mem_of_getElem? (i := 1242) (by decide +kernel), List.mem_of_getElem? (i := 1950) (by decide +kernel), List.mem_of_getElem? (i := 1951) (by decide +kernel)⟩
theorem lw_p132 : lw_okq (⟨"ThreeSizesModel", "isQuestion", "(I)Z"⟩, 98) := ⟨⟨by decide +kernel, by decide +kernel⟩, List.mem_of_getElem? (i := 1242) (by decide +kernel), List.mem_of_getElem? (i := 1970) (by decide +kernel), List.mem_of_getElem? (i := 1971) (by decide +kernel)⟩
theorem lw_p133 : lw_okq (⟨"ThreeSizesModel", "allOf", "(IIZ)I"⟩, 98) := ⟨⟨by decide +kernel, by decide +kernel⟩, List.mem_of_getElem? (i := 1242) (by decide +kernel), List.mem_of_getElem? (i := 1974) (by decide +kernel), List.mem_of_getElem? (i := 1975) (by decide +kernel)⟩
theorem lw_p134 : lw_okq (⟨"ThreeSizesModel", "chance", "(IIZ)I"⟩, 98) := ⟨⟨by decide +kernel, by decide +kernel⟩, List.mem_of_getElem? (i := 1242) (by decide +kernel), List.mem_of_getElem? (i := 1978) (by decide +kernel), List.mem_of_getElem? (i := 1979) (by decide +kernel)⟩
theorem lw_p135 : lw_okq (⟨"ThreeSizesModel", "answered", "(IIZ)V"⟩, 98) := ⟨⟨by decide +kernel, by decide +kernel⟩, List.mem_of_getElem? (i := 1242) (by decide +kernel), List.mem_of_getElem? (i := 1982) (by decide +kernel), List.mem_of_getElem? (i := 1983) (by decide +kernel)⟩
theorem lw_p136 : lw_okq (⟨"ThreeSizesModel", "behind", "(IIIZ)J"⟩, 98) := ⟨⟨by decide +kernel, by decide +kernel⟩, List.mem_of_getElem? (i := 1242) (by decide +kernel), List.mem_of_getElem? (i := 1990) (by decide +kernel), List.mem_of_getElem? (i := 1991) (by decide +kernel)⟩
theorem lw_p137 : lw_okq (⟨"ThreeSizesModel", "areAlike", "(II)Z"⟩, 98) := ⟨⟨by decide +kernel, by decide +kernel⟩, List.mem_of_getElem? (i := 1242) (by decide +kernel), List.mem_of_getElem? (i := 2016) (by decide +kernel), List.mem_of_getElem? (i := 2017) (by decide +kernel)⟩
theorem lw_p138 : lw_okq (⟨"ThreeSizesModel", "drawnOf", "([II)I"⟩, 98) := ⟨⟨by decide +kernel, by decide +kernel⟩, List.mem_of_getElem? (i := 1242) (by decide +kernel), List.mem_of_getElem? (i := 2038) (by decide +kernel), List.mem_of_getElem? (i := 2039) (by decide +kernel)⟩
theorem lw_p139 : lw_okq (⟨"ThreeSizesModel", "drawOf", "(I)I"⟩, 98) := ⟨⟨by decide +kernel, by decide +kernel⟩, List.mem_of_getElem? (i := 1242) (by decide +kernel), List.mem_of_getElem? (i := 2042) (by decide +kernel), List.mem_of_getElem? (i := 2043) (by decide +kernel)⟩
theorem lw_p140 : lw_okq (⟨"ThreeSizesModel", "writes", "(I)V"⟩, 98) := ⟨⟨by decide +kernel, by decide +kernel⟩, List.mem_of_getElem? (i := 1242) (by decide +kernel), List.mem_of_getElem? (i := 2062) (by decide +kernel), List.mem_of_getElem? (i := 2063) (by decide +kernel)⟩
theorem lw_p141 : lw_okq (⟨"ThreeSizesModel", "writesTwo", "(I)V"⟩, 98) := ⟨⟨by decide +kernel, by decide +kernel⟩, List.mem_of_getElem? (i := 1242) (by decide +kernel), List.mem_of_getElem? (i := 2066) (by decide +kernel), List.mem_of_getElem? (i := 2067) (by decide +kernel)⟩
theorem lw_p142 : lw_okq (⟨"ThreeSizesModel", "isTold", "(I)Z"⟩, 98) := ⟨⟨by decide +kernel, by decide +kernel⟩, List.mem_of_getElem? (i := 1242) (by decide +kernel), List.mem_of_getElem? (i := 2081) (by decide +kernel), List.mem_of_getElem? (i := 2082) (by decide +kernel)⟩
theorem lw_p143 : lw_okq (⟨"ThreeSizesModel", "isWhole", "(II)Z"⟩, 98) := ⟨⟨by decide +kernel, by decide +kernel⟩, List.mem_of_getElem? (i := 1242) (by decide +kernel), List.mem_of_getElem? (i := 2085) (by decide +kernel), List.mem_of_getElem? (i := 2086) (by decide +kernel)⟩
def lw_privs_9 : List (MethodName × Nat) := [(⟨"ThreeSizesModel", "wouldLearn", "(IIII)V"⟩, 98), (⟨"ThreeSizesModel", "takes", "([III)V"⟩, 98), (⟨"ThreeSizesModel", "cameBack", "(II)V"⟩, 98), (⟨"ThreeSizesModel", "learns", "(IIII)V"⟩, 98), (⟨"ThreeSizesModel", "isQuestion", "(I)Z"⟩, 98), (⟨"ThreeSizesModel", "allOf", "(IIZ)I"⟩, 98), (⟨"ThreeSizesModel", "chance", "(IIZ)I"⟩, 98), (⟨"ThreeSizesModel", "answered", "(IIZ)V"⟩, 98), (⟨"ThreeSizesModel", "behind", "(IIIZ)J"⟩, 98), (⟨"ThreeSizesModel", "areAlike", "(II)Z"⟩, 98), (⟨"ThreeSizesModel", "drawnOf", "([II)I"⟩, 98), (⟨"ThreeSizesModel", "drawOf", "(I)I"⟩, 98), (⟨"ThreeSizesModel", "writes", "(I)V"⟩, 98), (⟨"ThreeSizesModel", "writesTwo", "(I)V"⟩, 98), (⟨"ThreeSizesModel", "isTold", "(I)Z"⟩, 98), (⟨"ThreeSizesModel", "isWhole", "(II)Z"⟩, 98)]
theorem lw_r9 : ∀ q ∈ lw_privs_9, lw_okq q := List.forall_mem_cons.mpr ⟨lw_p128, List.forall_mem_cons.mpr ⟨lw_p129, List.forall_mem_cons.mpr ⟨lw_p130, List.forall_mem_cons.mpr ⟨lw_p131, List.forall_mem_cons.mpr ⟨lw_p132, List.forall_mem_cons.mpr ⟨lw_p133, List.forall_mem_cons.mpr ⟨lw_p134, List.forall_mem_cons.mpr ⟨lw_p135, List.forall_mem_cons.mpr ⟨lw_p136, List.forall_mem_cons.mpr ⟨lw_p137, List.forall_mem_cons.mpr ⟨lw_p138, List.forall_mem_cons.mpr ⟨lw_p139, List.forall_mem_cons.mpr ⟨lw_p140, List.forall_mem_cons.mpr ⟨lw_p141, List.forall_mem_cons.mpr ⟨lw_p142, List.forall_mem_cons.mpr ⟨lw_p143, fun _ h => absurd h List.not_mem_nil⟩⟩⟩⟩⟩⟩⟩⟩⟩⟩⟩⟩⟩⟩⟩⟩
theorem lw_p144 : lw_okq (⟨"ThreeSizesModel", "twoAt", "(I)I"⟩, 98) := ⟨⟨by decide +kernel, by decide +kernel⟩, List.mem_of_getElem? (i := 1242) (by decide +kernel), List.mem_of_getElem? (i := 2089) (by decide +kernel), List.mem_of_getElem? (i := 2090) (by decide +kernel)⟩
def lw_privs_10 : List (MethodName × Nat) := [(⟨"ThreeSizesModel", "twoAt", "(I)I"⟩, 98)]
theorem lw_r10 : ∀ q ∈ lw_privs_10, lw_okq q := List.forall_mem_cons.mpr ⟨lw_p144, fun _ h => absurd h List.not_mem_nil⟩
def lw_privs : List (MethodName × Nat) := lw_privs_1 ++ (lw_privs_2 ++ (lw_privs_3 ++ (lw_privs_4 ++ (lw_privs_5 ++ (lw_privs_6 ++ (lw_privs_7 ++ (lw_privs_8 ++ (lw_privs_9 ++ (lw_privs_10)))))))))
def lw_tbl : List Cond := k2_sels lw_privs ++ tables_1
theorem lw_privs_ok : ∀ q ∈ lw_privs, lw_okq q := by
  show ∀ q ∈ lw_privs_1 ++ (lw_privs_2 ++ (lw_privs_3 ++ (lw_privs_4 ++ (lw_privs_5 ++ (lw_privs_6 ++ (lw_privs_7 ++ (lw_privs_8 ++ (lw_privs_9 ++ (lw_privs_10))))))))), lw_okq q
  exact List.forall_mem_append.mpr ⟨lw_r1, List.forall_mem_append.mpr ⟨lw_r2, List.forall_mem_append.mpr ⟨lw_r3, List.forall_mem_append.mpr ⟨lw_r4, List.forall_mem_append.mpr ⟨lw_r5, List.forall_mem_append.mpr ⟨lw_r6, List.forall_mem_append.mpr ⟨lw_r7, List.forall_mem_append.mpr ⟨lw_r8, List.forall_mem_append.mpr ⟨lw_r9, lw_r10⟩⟩⟩⟩⟩⟩⟩⟩⟩
end
section
def RX0 : String := "ThreeSizes$House"
def TX0 : u_T := fun k => match k with
  | 0 => ("ThreeSizes$House", "last", "[LThreeSizes$Last;", true)
  | 1 => ("ThreeSizes$House", "sort", "[LThreeSizes$Sort;", true)
  | 2 => ("ThreeSizes$House", "question", "[LThreeSizes$Question;", true)
  | 3 => ("ThreeSizes$House", "pleases", "[I", true)
  | 4 => ("ThreeSizes$House", "store", "LThreeSizes$Store;", true)
  | 5 => ("ThreeSizes$House", "lasts", "I", false)
  | 6 => ("ThreeSizes$House", "sorts", "I", false)
  | 7 => ("ThreeSizes$House", "questions", "I", false)
  | 8 => ("ThreeSizes$House", "fare", "I", false)
  | 9 => ("ThreeSizes$House", "wipe", "I", false)
  | _ => ("ThreeSizes$House", "charge", "I", false)
def tyX0 : Nat → FieldType := fun k => match k with
  | 0 => .array (.object "ThreeSizes$Last")
  | 1 => .array (.object "ThreeSizes$Sort")
  | 2 => .array (.object "ThreeSizes$Question")
  | 3 => .array .int
  | 4 => .object "ThreeSizes$Store"
  | 5 => .int
  | 6 => .int
  | 7 => .int
  | 8 => .int
  | 9 => .int
  | _ => .int
abbrev wsX00 : List Cond := u_ws RX0 TX0 11
theorem nmX0 : ∀ a, a < 11 → ∀ b, b < 11 → a ≠ b → (TX0 a).2.1 ≠ (TX0 b).2.1 := by decide +kernel
theorem tyX0_ok : ∀ k, k < 11 → parseFieldDescriptor (TX0 k).2.2.1 = some (tyX0 k) := by decide +kernel
abbrev cX0_init : ByteArray := prog_2_method_1_code
def yX0_init : MethodName := ⟨RX0, "<init>", "()V"⟩
abbrev cX0_clear : ByteArray := prog_2_method_2_code
def yX0_clear : MethodName := ⟨RX0, "clear", "()V"⟩
abbrev cX0_lastNamed : ByteArray := prog_2_method_3_code
def yX0_lastNamed : MethodName := ⟨RX0, "lastNamed", "(I)I"⟩
abbrev cX0_hasName : ByteArray := prog_2_method_4_code
def yX0_hasName : MethodName := ⟨RX0, "hasName", "(I)Z"⟩
abbrev cX0_moneyOfOneKept : ByteArray := prog_2_method_5_code
def yX0_moneyOfOneKept : MethodName := ⟨RX0, "moneyOfOneKept", "(II)I"⟩
abbrev cX0_moneyOfNone : ByteArray := prog_2_method_6_code
def yX0_moneyOfNone : MethodName := ⟨RX0, "moneyOfNone", "(II)I"⟩
def RX1 : String := "ThreeSizes$HouseReader"
def TX1 : u_T := fun k => match k with
  | _ => ("ThreeSizes$HouseReader", "tokens", "LThreeSizes$Tokens;", true)
def tyX1 : Nat → FieldType := fun k => match k with
  | _ => .object "ThreeSizes$Tokens"
abbrev wsX10 : List Cond := u_ws RX1 TX1 1
theorem nmX1 : ∀ a, a < 1 → ∀ b, b < 1 → a ≠ b → (TX1 a).2.1 ≠ (TX1 b).2.1 := by decide +kernel
theorem tyX1_ok : ∀ k, k < 1 → parseFieldDescriptor (TX1 k).2.2.1 = some (tyX1 k) := by decide +kernel
abbrev cX1_init : ByteArray := prog_3_method_1_code
def yX1_init : MethodName := ⟨RX1, "<init>", "(LThreeSizes$Tokens;)V"⟩
abbrev cX1_read : ByteArray := prog_3_method_2_code
def yX1_read : MethodName := ⟨RX1, "read", "(LThreeSizes$House;)I"⟩
abbrev cX1_readStatement : ByteArray := prog_3_method_3_code
def yX1_readStatement : MethodName := ⟨RX1, "readStatement", "(LThreeSizes$House;)V"⟩
abbrev cX1_readLast : ByteArray := prog_3_method_4_code
def yX1_readLast : MethodName := ⟨RX1, "readLast", "(LThreeSizes$House;)V"⟩
abbrev cX1_readSort : ByteArray := prog_3_method_5_code
def yX1_readSort : MethodName := ⟨RX1, "readSort", "(LThreeSizes$House;)V"⟩
abbrev cX1_readStock : ByteArray := prog_3_method_6_code
def yX1_readStock : MethodName := ⟨RX1, "readStock", "(LThreeSizes$House;)V"⟩
abbrev cX1_readAsk : ByteArray := prog_3_method_7_code
def yX1_readAsk : MethodName := ⟨RX1, "readAsk", "(LThreeSizes$House;)V"⟩
abbrev cX1_refuseKnown : ByteArray := prog_3_method_8_code
def yX1_refuseKnown : MethodName := ⟨RX1, "refuseKnown", "(LThreeSizes$House;II)V"⟩
abbrev cX1_takeHundreds : ByteArray := prog_3_method_9_code
def yX1_takeHundreds : MethodName := ⟨RX1, "takeHundreds", "([I)V"⟩
abbrev cX1_takeChances : ByteArray := prog_3_method_10_code
def yX1_takeChances : MethodName := ⟨RX1, "takeChances", "([I)V"⟩
def RX2 : String := "ThreeSizes$Image"
def TX2 : u_T := fun k => match k with
  | 0 => ("ThreeSizes$Image", "bytes", "[B", true)
  | _ => ("ThreeSizes$Image", "length", "I", false)
def tyX2 : Nat → FieldType := fun k => match k with
  | 0 => .array .byte
  | _ => .int
abbrev wsX20 : List Cond := u_ws RX2 TX2 2
theorem nmX2 : ∀ a, a < 2 → ∀ b, b < 2 → a ≠ b → (TX2 a).2.1 ≠ (TX2 b).2.1 := by decide +kernel
theorem tyX2_ok : ∀ k, k < 2 → parseFieldDescriptor (TX2 k).2.2.1 = some (tyX2 k) := by decide +kernel
abbrev cX2_init : ByteArray := prog_4_method_1_code
def yX2_init : MethodName := ⟨RX2, "<init>", "()V"⟩
abbrev cX2_byteAt : ByteArray := prog_4_method_2_code
def yX2_byteAt : MethodName := ⟨RX2, "byteAt", "(I)I"⟩
abbrev cX2_write : ByteArray := prog_4_method_3_code
def yX2_write : MethodName := ⟨RX2, "write", "([LThreeSizes$Person;ILThreeSizes$House;)I"⟩
abbrev cX2_put : ByteArray := prog_4_method_4_code
def yX2_put : MethodName := ⟨RX2, "put", "(I)V"⟩
abbrev cX2_putRow : ByteArray := prog_4_method_5_code
def yX2_putRow : MethodName := ⟨RX2, "putRow", "([I)V"⟩
abbrev cX2_check : ByteArray := prog_4_method_6_code
def yX2_check : MethodName := ⟨RX2, "check", "([BI)I"⟩
abbrev cX2_personAt : ByteArray := prog_4_method_7_code
def yX2_personAt : MethodName := ⟨RX2, "personAt", "(I)I"⟩
abbrev cX2_isOne : ByteArray := prog_4_method_8_code
def yX2_isOne : MethodName := ⟨RX2, "isOne", "([BILThreeSizes$House;)Z"⟩
abbrev cX2_isPersonAt : ByteArray := prog_4_method_9_code
def yX2_isPersonAt : MethodName := ⟨RX2, "isPersonAt", "([BILThreeSizes$House;)Z"⟩
abbrev cX2_numberAt : ByteArray := prog_4_method_10_code
def yX2_numberAt : MethodName := ⟨RX2, "numberAt", "([BI)I"⟩
abbrev cX2_isCertain : ByteArray := prog_4_method_11_code
def yX2_isCertain : MethodName := ⟨RX2, "isCertain", "([BII)Z"⟩
abbrev cX2_takeRow : ByteArray := prog_4_method_12_code
def yX2_takeRow : MethodName := ⟨RX2, "takeRow", "([BI[I)V"⟩
abbrev cX2_takePeople : ByteArray := prog_4_method_13_code
def yX2_takePeople : MethodName := ⟨RX2, "takePeople", "([B[LThreeSizes$Person;)I"⟩
abbrev cX2_takeRuns : ByteArray := prog_4_method_14_code
def yX2_takeRuns : MethodName := ⟨RX2, "takeRuns", "([BILThreeSizes$House;)V"⟩
def RX3 : String := "ThreeSizes$Last"
def TX3 : u_T := fun k => match k with
  | 0 => ("ThreeSizes$Last", "name", "I", false)
  | 1 => ("ThreeSizes$Last", "price", "I", false)
  | 2 => ("ThreeSizes$Last", "runs", "[I", true)
  | _ => ("ThreeSizes$Last", "trueRun", "I", false)
def tyX3 : Nat → FieldType := fun k => match k with
  | 0 => .int
  | 1 => .int
  | 2 => .array .int
  | _ => .int
abbrev wsX30 : List Cond := u_ws RX3 TX3 4
theorem nmX3 : ∀ a, a < 4 → ∀ b, b < 4 → a ≠ b → (TX3 a).2.1 ≠ (TX3 b).2.1 := by decide +kernel
theorem tyX3_ok : ∀ k, k < 4 → parseFieldDescriptor (TX3 k).2.2.1 = some (tyX3 k) := by decide +kernel
abbrev cX3_init : ByteArray := prog_5_method_1_code
def yX3_init : MethodName := ⟨RX3, "<init>", "()V"⟩
abbrev cX3_lean : ByteArray := prog_5_method_2_code
def yX3_lean : MethodName := ⟨RX3, "lean", "()I"⟩
def RX4 : String := "ThreeSizes$Person"
def TX4 : u_T := fun k => match k with
  | 0 => ("ThreeSizes$Person", "sort", "I", false)
  | 1 => ("ThreeSizes$Person", "asked", "I", false)
  | 2 => ("ThreeSizes$Person", "feet", "[I", true)
  | 3 => ("ThreeSizes$Person", "came", "I", false)
  | 4 => ("ThreeSizes$Person", "whole", "I", false)
  | 5 => ("ThreeSizes$Person", "boxLast", "I", false)
  | 6 => ("ThreeSizes$Person", "boxBits", "I", false)
  | 7 => ("ThreeSizes$Person", "trueFoot", "I", false)
  | _ => ("ThreeSizes$Person", "kept", "[I", true)
def tyX4 : Nat → FieldType := fun k => match k with
  | 0 => .int
  | 1 => .int
  | 2 => .array .int
  | 3 => .int
  | 4 => .int
  | 5 => .int
  | 6 => .int
  | 7 => .int
  | _ => .array .int
abbrev wsX40 : List Cond := u_ws RX4 TX4 9
theorem nmX4 : ∀ a, a < 9 → ∀ b, b < 9 → a ≠ b → (TX4 a).2.1 ≠ (TX4 b).2.1 := by decide +kernel
theorem tyX4_ok : ∀ k, k < 9 → parseFieldDescriptor (TX4 k).2.2.1 = some (tyX4 k) := by decide +kernel
abbrev cX4_init : ByteArray := prog_6_method_1_code
def yX4_init : MethodName := ⟨RX4, "<init>", "()V"⟩
abbrev cX4_begin : ByteArray := prog_6_method_2_code
def yX4_begin : MethodName := ⟨RX4, "begin", "(II[I)V"⟩
abbrev cX4_hasBox : ByteArray := prog_6_method_3_code
def yX4_hasBox : MethodName := ⟨RX4, "hasBox", "()Z"⟩
abbrev cX4_canBeSent : ByteArray := prog_6_method_4_code
def yX4_canBeSent : MethodName := ⟨RX4, "canBeSent", "(I)Z"⟩
abbrev cX4_withinSizes : ByteArray := prog_6_method_5_code
def yX4_withinSizes : MethodName := ⟨RX4, "withinSizes", "(I)I"⟩
abbrev cX4_endBox : ByteArray := prog_6_method_6_code
def yX4_endBox : MethodName := ⟨RX4, "endBox", "(I)V"⟩
abbrev cX4_isSeldomHonest : ByteArray := prog_6_method_7_code
def yX4_isSeldomHonest : MethodName := ⟨RX4, "isSeldomHonest", "()Z"⟩
abbrev cX4_hasKept : ByteArray := prog_6_method_8_code
def yX4_hasKept : MethodName := ⟨RX4, "hasKept", "(II)Z"⟩
abbrev cX4_isAlike : ByteArray := prog_6_method_9_code
def yX4_isAlike : MethodName := ⟨RX4, "isAlike", "(LThreeSizes$Person;)Z"⟩
abbrev cX4_countKept : ByteArray := prog_6_method_10_code
def yX4_countKept : MethodName := ⟨RX4, "countKept", "(I[I)V"⟩
abbrev cX4_grow : ByteArray := prog_6_method_11_code
def yX4_grow : MethodName := ⟨RX4, "grow", "(I)V"⟩
def RX5 : String := "ThreeSizes$Question"
def TX5 : u_T := fun k => match k with
  | 0 => ("ThreeSizes$Question", "name", "I", false)
  | _ => ("ThreeSizes$Question", "yes", "[I", true)
def tyX5 : Nat → FieldType := fun k => match k with
  | 0 => .int
  | _ => .array .int
abbrev wsX50 : List Cond := u_ws RX5 TX5 2
theorem nmX5 : ∀ a, a < 2 → ∀ b, b < 2 → a ≠ b → (TX5 a).2.1 ≠ (TX5 b).2.1 := by decide +kernel
theorem tyX5_ok : ∀ k, k < 2 → parseFieldDescriptor (TX5 k).2.2.1 = some (tyX5 k) := by decide +kernel
abbrev cX5_init : ByteArray := prog_7_method_1_code
def yX5_init : MethodName := ⟨RX5, "<init>", "()V"⟩
def RX6 : String := "ThreeSizes$Rules"
def TX6 : u_T := fun k => match k with
  | 0 => ("ThreeSizes$Rules", "tokens", "LThreeSizes$Tokens;", true)
  | 1 => ("ThreeSizes$Rules", "steps", "[[I", true)
  | 2 => ("ThreeSizes$Rules", "draft", "[I", true)
  | 3 => ("ThreeSizes$Rules", "drafted", "I", false)
  | 4 => ("ThreeSizes$Rules", "stack", "[I", true)
  | _ => ("ThreeSizes$Rules", "height", "I", false)
def tyX6 : Nat → FieldType := fun k => match k with
  | 0 => .object "ThreeSizes$Tokens"
  | 1 => .array (.array .int)
  | 2 => .array .int
  | 3 => .int
  | 4 => .array .int
  | _ => .int
abbrev wsX60 : List Cond := u_ws RX6 TX6 6
theorem nmX6 : ∀ a, a < 6 → ∀ b, b < 6 → a ≠ b → (TX6 a).2.1 ≠ (TX6 b).2.1 := by decide +kernel
theorem tyX6_ok : ∀ k, k < 6 → parseFieldDescriptor (TX6 k).2.2.1 = some (tyX6 k) := by decide +kernel
abbrev cX6_init : ByteArray := prog_8_method_1_code
def yX6_init : MethodName := ⟨RX6, "<init>", "(LThreeSizes$Tokens;)V"⟩
abbrev cX6_isThere : ByteArray := prog_8_method_2_code
def yX6_isThere : MethodName := ⟨RX6, "isThere", "(I)Z"⟩
abbrev cX6_count : ByteArray := prog_8_method_3_code
def yX6_count : MethodName := ⟨RX6, "count", "()I"⟩
abbrev cX6_choose : ByteArray := prog_8_method_4_code
def yX6_choose : MethodName := ⟨RX6, "choose", "(I[I)I"⟩
abbrev cX6_push : ByteArray := prog_8_method_5_code
def yX6_push : MethodName := ⟨RX6, "push", "(I)V"⟩
abbrev cX6_pop : ByteArray := prog_8_method_6_code
def yX6_pop : MethodName := ⟨RX6, "pop", "()I"⟩
abbrev cX6_reckon : ByteArray := prog_8_method_7_code
def yX6_reckon : MethodName := ⟨RX6, "reckon", "(III)I"⟩
abbrev cX6_bound : ByteArray := prog_8_method_8_code
def yX6_bound : MethodName := ⟨RX6, "bound", "(J)I"⟩
abbrev cX6_read : ByteArray := prog_8_method_9_code
def yX6_read : MethodName := ⟨RX6, "read", "(I)I"⟩
abbrev cX6_put : ByteArray := prog_8_method_10_code
def yX6_put : MethodName := ⟨RX6, "put", "(I)V"⟩
abbrev cX6_readSizes : ByteArray := prog_8_method_11_code
def yX6_readSizes : MethodName := ⟨RX6, "readSizes", "()I"⟩
abbrev cX6_atSizeWord : ByteArray := prog_8_method_12_code
def yX6_atSizeWord : MethodName := ⟨RX6, "atSizeWord", "()Z"⟩
abbrev cX6_readTest : ByteArray := prog_8_method_13_code
def yX6_readTest : MethodName := ⟨RX6, "readTest", "(I)V"⟩
abbrev cX6_readBoth : ByteArray := prog_8_method_14_code
def yX6_readBoth : MethodName := ⟨RX6, "readBoth", "(I)V"⟩
abbrev cX6_readFact : ByteArray := prog_8_method_15_code
def yX6_readFact : MethodName := ⟨RX6, "readFact", "(I)V"⟩
abbrev cX6_enter : ByteArray := prog_8_method_16_code
def yX6_enter : MethodName := ⟨RX6, "enter", "(I)Z"⟩
abbrev cX6_readComparison : ByteArray := prog_8_method_17_code
def yX6_readComparison : MethodName := ⟨RX6, "readComparison", "(I)V"⟩
abbrev cX6_readSum : ByteArray := prog_8_method_18_code
def yX6_readSum : MethodName := ⟨RX6, "readSum", "(I)V"⟩
abbrev cX6_readProduct : ByteArray := prog_8_method_19_code
def yX6_readProduct : MethodName := ⟨RX6, "readProduct", "(I)V"⟩
abbrev cX6_readPart : ByteArray := prog_8_method_20_code
def yX6_readPart : MethodName := ⟨RX6, "readPart", "(I)V"⟩
abbrev cX6_readBracket : ByteArray := prog_8_method_21_code
def yX6_readBracket : MethodName := ⟨RX6, "readBracket", "(IZ)V"⟩
def RX7 : String := "ThreeSizes$Scales"
def TX7 : u_T := fun k => match k with
  | 0 => ("ThreeSizes$Scales", "byFoot", "[J", true)
  | 1 => ("ThreeSizes$Scales", "byRun", "[J", true)
  | 2 => ("ThreeSizes$Scales", "byGap", "[J", true)
  | 3 => ("ThreeSizes$Scales", "pleases", "[I", false)
  | _ => ("ThreeSizes$Scales", "honest", "I", false)
def tyX7 : Nat → FieldType := fun k => match k with
  | 0 => .array .long
  | 1 => .array .long
  | 2 => .array .long
  | 3 => .array .int
  | _ => .int
abbrev wsX70 : List Cond := u_ws RX7 TX7 5
theorem nmX7 : ∀ a, a < 5 → ∀ b, b < 5 → a ≠ b → (TX7 a).2.1 ≠ (TX7 b).2.1 := by decide +kernel
theorem tyX7_ok : ∀ k, k < 5 → parseFieldDescriptor (TX7 k).2.2.1 = some (tyX7 k) := by decide +kernel
abbrev cX7_init : ByteArray := prog_9_method_1_code
def yX7_init : MethodName := ⟨RX7, "<init>", "()V"⟩
abbrev cX7_putOn : ByteArray := prog_9_method_2_code
def yX7_putOn : MethodName := ⟨RX7, "putOn", "([II)V"⟩
abbrev cX7_gapOf : ByteArray := prog_9_method_3_code
def yX7_gapOf : MethodName := ⟨RX7, "gapOf", "(II)I"⟩
abbrev cX7_pleasesBy : ByteArray := prog_9_method_4_code
def yX7_pleasesBy : MethodName := ⟨RX7, "pleasesBy", "(II)I"⟩
abbrev cX7_bestPair : ByteArray := prog_9_method_5_code
def yX7_bestPair : MethodName := ⟨RX7, "bestPair", "(II)I"⟩
abbrev cX7_chanceOf : ByteArray := prog_9_method_6_code
def yX7_chanceOf : MethodName := ⟨RX7, "chanceOf", "(II)I"⟩
abbrev cX7_weigh : ByteArray := prog_9_method_7_code
def yX7_weigh : MethodName := ⟨RX7, "weigh", "([I[III)J"⟩
abbrev cX7_chanceThat : ByteArray := prog_9_method_8_code
def yX7_chanceThat : MethodName := ⟨RX7, "chanceThat", "(III)I"⟩
abbrev cX7_weighAnswer : ByteArray := prog_9_method_9_code
def yX7_weighAnswer : MethodName := ⟨RX7, "weighAnswer", "([I[IZ)J"⟩
abbrev cX7_layOut : ByteArray := prog_9_method_10_code
def yX7_layOut : MethodName := ⟨RX7, "layOut", "([I[I)V"⟩
abbrev cX7_keptOf : ByteArray := prog_9_method_11_code
def yX7_keptOf : MethodName := ⟨RX7, "keptOf", "(I)J"⟩
abbrev cX7_learn : ByteArray := prog_9_method_12_code
def yX7_learn : MethodName := ⟨RX7, "learn", "([J[I)V"⟩
abbrev cX7_makeCertain : ByteArray := prog_9_method_13_code
def yX7_makeCertain : MethodName := ⟨RX7, "makeCertain", "([I)V"⟩
def RX8 : String := "ThreeSizes$Sort"
def TX8 : u_T := fun k => match k with
  | 0 => ("ThreeSizes$Sort", "name", "I", false)
  | 1 => ("ThreeSizes$Sort", "feet", "[I", true)
  | 2 => ("ThreeSizes$Sort", "wear", "I", false)
  | 3 => ("ThreeSizes$Sort", "grow", "I", false)
  | _ => ("ThreeSizes$Sort", "leave", "I", false)
def tyX8 : Nat → FieldType := fun k => match k with
  | 0 => .int
  | 1 => .array .int
  | 2 => .int
  | 3 => .int
  | _ => .int
abbrev wsX80 : List Cond := u_ws RX8 TX8 5
theorem nmX8 : ∀ a, a < 5 → ∀ b, b < 5 → a ≠ b → (TX8 a).2.1 ≠ (TX8 b).2.1 := by decide +kernel
theorem tyX8_ok : ∀ k, k < 5 → parseFieldDescriptor (TX8 k).2.2.1 = some (tyX8 k) := by decide +kernel
abbrev cX8_init : ByteArray := prog_10_method_1_code
def yX8_init : MethodName := ⟨RX8, "<init>", "()V"⟩
def RX9 : String := "ThreeSizes$Store"
def TX9 : u_T := fun k => match k with
  | 0 => ("ThreeSizes$Store", "pairs", "[I", true)
  | 1 => ("ThreeSizes$Store", "coming", "[I", true)
  | 2 => ("ThreeSizes$Store", "comingCount", "I", false)
  | _ => ("ThreeSizes$Store", "today", "I", false)
def tyX9 : Nat → FieldType := fun k => match k with
  | 0 => .array .int
  | 1 => .array .int
  | 2 => .int
  | _ => .int
abbrev wsX90 : List Cond := u_ws RX9 TX9 4
theorem nmX9 : ∀ a, a < 4 → ∀ b, b < 4 → a ≠ b → (TX9 a).2.1 ≠ (TX9 b).2.1 := by decide +kernel
theorem tyX9_ok : ∀ k, k < 4 → parseFieldDescriptor (TX9 k).2.2.1 = some (tyX9 k) := by decide +kernel
abbrev cX9_init : ByteArray := prog_11_method_1_code
def yX9_init : MethodName := ⟨RX9, "<init>", "()V"⟩
abbrev cX9_clear : ByteArray := prog_11_method_2_code
def yX9_clear : MethodName := ⟨RX9, "clear", "()V"⟩
abbrev cX9_day : ByteArray := prog_11_method_3_code
def yX9_day : MethodName := ⟨RX9, "day", "()I"⟩
abbrev cX9_onTheWay : ByteArray := prog_11_method_4_code
def yX9_onTheWay : MethodName := ⟨RX9, "onTheWay", "()I"⟩
abbrev cX9_placeOf : ByteArray := prog_11_method_5_code
def yX9_placeOf : MethodName := ⟨RX9, "placeOf", "(II)I"⟩
abbrev cX9_set : ByteArray := prog_11_method_6_code
def yX9_set : MethodName := ⟨RX9, "set", "(III)V"⟩
abbrev cX9_count : ByteArray := prog_11_method_7_code
def yX9_count : MethodName := ⟨RX9, "count", "(II)I"⟩
abbrev cX9_hasAll : ByteArray := prog_11_method_8_code
def yX9_hasAll : MethodName := ⟨RX9, "hasAll", "(III)Z"⟩
abbrev cX9_change : ByteArray := prog_11_method_9_code
def yX9_change : MethodName := ⟨RX9, "change", "(IIII)V"⟩
abbrev cX9_expect : ByteArray := prog_11_method_10_code
def yX9_expect : MethodName := ⟨RX9, "expect", "(III)V"⟩
abbrev cX9_pass : ByteArray := prog_11_method_11_code
def yX9_pass : MethodName := ⟨RX9, "pass", "(I)V"⟩
abbrev cX9_receive : ByteArray := prog_11_method_12_code
def yX9_receive : MethodName := ⟨RX9, "receive", "(I)V"⟩
def RX10 : String := "ThreeSizes$Tokens"
def TX10 : u_T := fun k => match k with
  | 0 => ("ThreeSizes$Tokens", "ownNames", "[I", true)
  | 1 => ("ThreeSizes$Tokens", "text", "[B", false)
  | 2 => ("ThreeSizes$Tokens", "length", "I", false)
  | 3 => ("ThreeSizes$Tokens", "next", "I", false)
  | 4 => ("ThreeSizes$Tokens", "kind", "I", false)
  | 5 => ("ThreeSizes$Tokens", "start", "I", false)
  | 6 => ("ThreeSizes$Tokens", "value", "I", false)
  | 7 => ("ThreeSizes$Tokens", "ownWord", "I", false)
  | 8 => ("ThreeSizes$Tokens", "fault", "I", false)
  | _ => ("ThreeSizes$Tokens", "place", "I", false)
def tyX10 : Nat → FieldType := fun k => match k with
  | 0 => .array .int
  | 1 => .array .byte
  | 2 => .int
  | 3 => .int
  | 4 => .int
  | 5 => .int
  | 6 => .int
  | 7 => .int
  | 8 => .int
  | _ => .int
abbrev wsX100 : List Cond := u_ws RX10 TX10 10
theorem nmX10 : ∀ a, a < 10 → ∀ b, b < 10 → a ≠ b → (TX10 a).2.1 ≠ (TX10 b).2.1 := by decide +kernel
theorem tyX10_ok : ∀ k, k < 10 → parseFieldDescriptor (TX10 k).2.2.1 = some (tyX10 k) := by decide +kernel
abbrev cX10_init : ByteArray := prog_12_method_1_code
def yX10_init : MethodName := ⟨RX10, "<init>", "()V"⟩
abbrev cX10_letterOf : ByteArray := prog_12_method_2_code
def yX10_letterOf : MethodName := ⟨RX10, "letterOf", "(II)I"⟩
abbrev cX10_faultFound : ByteArray := prog_12_method_3_code
def yX10_faultFound : MethodName := ⟨RX10, "faultFound", "()I"⟩
abbrev cX10_faultPlace : ByteArray := prog_12_method_4_code
def yX10_faultPlace : MethodName := ⟨RX10, "faultPlace", "()I"⟩
abbrev cX10_start : ByteArray := prog_12_method_5_code
def yX10_start : MethodName := ⟨RX10, "start", "()I"⟩
abbrev cX10_open : ByteArray := prog_12_method_6_code
def yX10_open : MethodName := ⟨RX10, "open", "([BI)V"⟩
abbrev cX10_advance : ByteArray := prog_12_method_7_code
def yX10_advance : MethodName := ⟨RX10, "advance", "()V"⟩
abbrev cX10_kindOf : ByteArray := prog_12_method_8_code
def yX10_kindOf : MethodName := ⟨RX10, "kindOf", "(B)I"⟩
abbrev cX10_readWord : ByteArray := prog_12_method_9_code
def yX10_readWord : MethodName := ⟨RX10, "readWord", "()V"⟩
abbrev cX10_readNumber : ByteArray := prog_12_method_10_code
def yX10_readNumber : MethodName := ⟨RX10, "readNumber", "()V"⟩
abbrev cX10_atEnd : ByteArray := prog_12_method_11_code
def yX10_atEnd : MethodName := ⟨RX10, "atEnd", "()Z"⟩
abbrev cX10_atNumber : ByteArray := prog_12_method_12_code
def yX10_atNumber : MethodName := ⟨RX10, "atNumber", "()Z"⟩
abbrev cX10_atSign : ByteArray := prog_12_method_13_code
def yX10_atSign : MethodName := ⟨RX10, "atSign", "(C)Z"⟩
abbrev cX10_ownWord : ByteArray := prog_12_method_14_code
def yX10_ownWord : MethodName := ⟨RX10, "ownWord", "()I"⟩
abbrev cX10_atWord : ByteArray := prog_12_method_15_code
def yX10_atWord : MethodName := ⟨RX10, "atWord", "(I)Z"⟩
abbrev cX10_fail : ByteArray := prog_12_method_16_code
def yX10_fail : MethodName := ⟨RX10, "fail", "(II)V"⟩
abbrev cX10_failHere : ByteArray := prog_12_method_17_code
def yX10_failHere : MethodName := ⟨RX10, "failHere", "(I)V"⟩
abbrev cX10_takeWord : ByteArray := prog_12_method_18_code
def yX10_takeWord : MethodName := ⟨RX10, "takeWord", "(I)V"⟩
abbrev cX10_takeSign : ByteArray := prog_12_method_19_code
def yX10_takeSign : MethodName := ⟨RX10, "takeSign", "(C)V"⟩
abbrev cX10_takeNumber : ByteArray := prog_12_method_20_code
def yX10_takeNumber : MethodName := ⟨RX10, "takeNumber", "(II)I"⟩
abbrev cX10_takeName : ByteArray := prog_12_method_21_code
def yX10_takeName : MethodName := ⟨RX10, "takeName", "()I"⟩
def RX11 : String := "ThreeSizes"
def TX11 : u_T := fun k => match k with
  | 0 => ("ThreeSizes", "tape", "[B", true)
  | 1 => ("ThreeSizes", "taped", "I", false)
  | 2 => ("ThreeSizes", "tokens", "LThreeSizes$Tokens;", true)
  | 3 => ("ThreeSizes", "houseReader", "LThreeSizes$HouseReader;", true)
  | 4 => ("ThreeSizes", "rules", "LThreeSizes$Rules;", true)
  | 5 => ("ThreeSizes", "present", "LThreeSizes$House;", false)
  | 6 => ("ThreeSizes", "spare", "LThreeSizes$House;", false)
  | 7 => ("ThreeSizes", "faultFound", "I", false)
  | 8 => ("ThreeSizes", "faultPlace", "I", false)
  | 9 => ("ThreeSizes", "people", "[LThreeSizes$Person;", true)
  | 10 => ("ThreeSizes", "peopleCount", "I", false)
  | 11 => ("ThreeSizes", "money", "I", false)
  | 12 => ("ThreeSizes", "seedNow", "J", false)
  | 13 => ("ThreeSizes", "scales", "LThreeSizes$Scales;", true)
  | 14 => ("ThreeSizes", "picture", "LThreeSizes$Image;", true)
  | 15 => ("ThreeSizes", "footRow", "[I", true)
  | 16 => ("ThreeSizes", "runRow", "[I", true)
  | 17 => ("ThreeSizes", "factRow", "[I", true)
  | _ => ("ThreeSizes", "sizeRow", "[I", true)
def tyX11 : Nat → FieldType := fun k => match k with
  | 0 => .array .byte
  | 1 => .int
  | 2 => .object "ThreeSizes$Tokens"
  | 3 => .object "ThreeSizes$HouseReader"
  | 4 => .object "ThreeSizes$Rules"
  | 5 => .object "ThreeSizes$House"
  | 6 => .object "ThreeSizes$House"
  | 7 => .int
  | 8 => .int
  | 9 => .array (.object "ThreeSizes$Person")
  | 10 => .int
  | 11 => .int
  | 12 => .long
  | 13 => .object "ThreeSizes$Scales"
  | 14 => .object "ThreeSizes$Image"
  | 15 => .array .int
  | 16 => .array .int
  | 17 => .array .int
  | _ => .array .int
abbrev wsX110 : List Cond := u_ws RX11 TX11 19
theorem nmX11 : ∀ a, a < 19 → ∀ b, b < 19 → a ≠ b → (TX11 a).2.1 ≠ (TX11 b).2.1 := by decide +kernel
theorem tyX11_ok : ∀ k, k < 19 → parseFieldDescriptor (TX11 k).2.2.1 = some (tyX11 k) := by decide +kernel
abbrev cX11_init : ByteArray := prog_1_method_1_code
def yX11_init : MethodName := ⟨RX11, "<init>", "()V"⟩
abbrev cX11_feed : ByteArray := prog_1_method_2_code
def yX11_feed : MethodName := ⟨RX11, "feed", "(IIIII)I"⟩
abbrev cX11_putOnTape : ByteArray := prog_1_method_3_code
def yX11_putOnTape : MethodName := ⟨RX11, "putOnTape", "(I)V"⟩
abbrev cX11_end : ByteArray := prog_1_method_4_code
def yX11_end : MethodName := ⟨RX11, "end", "(I)Z"⟩
abbrev cX11_takeTape : ByteArray := prog_1_method_5_code
def yX11_takeTape : MethodName := ⟨RX11, "takeTape", "()I"⟩
abbrev cX11_house : ByteArray := prog_1_method_6_code
def yX11_house : MethodName := ⟨RX11, "house", "()I"⟩
abbrev cX11_rule : ByteArray := prog_1_method_7_code
def yX11_rule : MethodName := ⟨RX11, "rule", "(I)I"⟩
abbrev cX11_keepFault : ByteArray := prog_1_method_8_code
def yX11_keepFault : MethodName := ⟨RX11, "keepFault", "()V"⟩
abbrev cX11_fault : ByteArray := prog_1_method_9_code
def yX11_fault : MethodName := ⟨RX11, "fault", "(I)I"⟩
abbrev cX11_has : ByteArray := prog_1_method_10_code
def yX11_has : MethodName := ⟨RX11, "has", "(I)I"⟩
abbrev cX11_countBoxesOut : ByteArray := prog_1_method_11_code
def yX11_countBoxesOut : MethodName := ⟨RX11, "countBoxesOut", "()I"⟩
abbrev cX11_letter : ByteArray := prog_1_method_12_code
def yX11_letter : MethodName := ⟨RX11, "letter", "(III)I"⟩
abbrev cX11_nameOf : ByteArray := prog_1_method_13_code
def yX11_nameOf : MethodName := ⟨RX11, "nameOf", "(II)I"⟩
abbrev cX11_isLast : ByteArray := prog_1_method_14_code
def yX11_isLast : MethodName := ⟨RX11, "isLast", "(I)Z"⟩
abbrev cX11_isSort : ByteArray := prog_1_method_15_code
def yX11_isSort : MethodName := ⟨RX11, "isSort", "(I)Z"⟩
abbrev cX11_isQuestion : ByteArray := prog_1_method_16_code
def yX11_isQuestion : MethodName := ⟨RX11, "isQuestion", "(I)Z"⟩
abbrev cX11_isPerson : ByteArray := prog_1_method_17_code
def yX11_isPerson : MethodName := ⟨RX11, "isPerson", "(I)Z"⟩
abbrev cX11_isSize : ByteArray := prog_1_method_18_code
def yX11_isSize : MethodName := ⟨RX11, "isSize", "(I)Z"⟩
abbrev cX11_isFoot : ByteArray := prog_1_method_19_code
def yX11_isFoot : MethodName := ⟨RX11, "isFoot", "(I)Z"⟩
abbrev cX11_isRun : ByteArray := prog_1_method_20_code
def yX11_isRun : MethodName := ⟨RX11, "isRun", "(I)Z"⟩
abbrev cX11_isBox : ByteArray := prog_1_method_21_code
def yX11_isBox : MethodName := ⟨RX11, "isBox", "(III)Z"⟩
abbrev cX11_isOutcome : ByteArray := prog_1_method_22_code
def yX11_isOutcome : MethodName := ⟨RX11, "isOutcome", "(II)Z"⟩
abbrev cX11_isInBox : ByteArray := prog_1_method_23_code
def yX11_isInBox : MethodName := ⟨RX11, "isInBox", "(II)Z"⟩
abbrev cX11_sortOf : ByteArray := prog_1_method_24_code
def yX11_sortOf : MethodName := ⟨RX11, "sortOf", "(LThreeSizes$Person;)LThreeSizes$Sort;"⟩
abbrev cX11_person : ByteArray := prog_1_method_25_code
def yX11_person : MethodName := ⟨RX11, "person", "(II)I"⟩
abbrev cX11_foot : ByteArray := prog_1_method_26_code
def yX11_foot : MethodName := ⟨RX11, "foot", "(II)I"⟩
abbrev cX11_last : ByteArray := prog_1_method_27_code
def yX11_last : MethodName := ⟨RX11, "last", "(II)I"⟩
abbrev cX11_who : ByteArray := prog_1_method_28_code
def yX11_who : MethodName := ⟨RX11, "who", "(II)I"⟩
abbrev cX11_keeps : ByteArray := prog_1_method_29_code
def yX11_keeps : MethodName := ⟨RX11, "keeps", "(IIII)J"⟩
abbrev cX11_weigh : ByteArray := prog_1_method_30_code
def yX11_weigh : MethodName := ⟨RX11, "weigh", "(IIII)J"⟩
abbrev cX11_after : ByteArray := prog_1_method_31_code
def yX11_after : MethodName := ⟨RX11, "after", "(IIIII)I"⟩
abbrev cX11_teaches : ByteArray := prog_1_method_32_code
def yX11_teaches : MethodName := ⟨RX11, "teaches", "(IIIII)I"⟩
abbrev cX11_mean : ByteArray := prog_1_method_33_code
def yX11_mean : MethodName := ⟨RX11, "mean", "(IIIZ)I"⟩
abbrev cX11_plainMean : ByteArray := prog_1_method_34_code
def yX11_plainMean : MethodName := ⟨RX11, "plainMean", "(III)I"⟩
abbrev cX11_layOut : ByteArray := prog_1_method_35_code
def yX11_layOut : MethodName := ⟨RX11, "layOut", "(LThreeSizes$Person;[II)V"⟩
abbrev cX11_meanOf : ByteArray := prog_1_method_36_code
def yX11_meanOf : MethodName := ⟨RX11, "meanOf", "(III)I"⟩
abbrev cX11_orderedMean : ByteArray := prog_1_method_37_code
def yX11_orderedMean : MethodName := ⟨RX11, "orderedMean", "(ILThreeSizes$Person;I)I"⟩
abbrev cX11_best : ByteArray := prog_1_method_38_code
def yX11_best : MethodName := ⟨RX11, "best", "(IIZ)I"⟩
abbrev cX11_bestBits : ByteArray := prog_1_method_39_code
def yX11_bestBits : MethodName := ⟨RX11, "bestBits", "(LThreeSizes$Person;[II)I"⟩
abbrev cX11_bestMean : ByteArray := prog_1_method_40_code
def yX11_bestMean : MethodName := ⟨RX11, "bestMean", "(LThreeSizes$Person;[II)I"⟩
abbrev cX11_box : ByteArray := prog_1_method_41_code
def yX11_box : MethodName := ⟨RX11, "box", "(III)I"⟩
abbrev cX11_tellFacts : ByteArray := prog_1_method_42_code
def yX11_tellFacts : MethodName := ⟨RX11, "tellFacts", "(LThreeSizes$Person;LThreeSizes$Last;)V"⟩
abbrev cX11_way : ByteArray := prog_1_method_43_code
def yX11_way : MethodName := ⟨RX11, "way", "(III)I"⟩
abbrev cX11_bitsOfWay : ByteArray := prog_1_method_44_code
def yX11_bitsOfWay : MethodName := ⟨RX11, "bitsOfWay", "(III)I"⟩
abbrev cX11_send : ByteArray := prog_1_method_45_code
def yX11_send : MethodName := ⟨RX11, "send", "(III)I"⟩
abbrev cX11_canSendNow : ByteArray := prog_1_method_46_code
def yX11_canSendNow : MethodName := ⟨RX11, "canSendNow", "(LThreeSizes$Person;II)Z"⟩
abbrev cX11_sendNow : ByteArray := prog_1_method_47_code
def yX11_sendNow : MethodName := ⟨RX11, "sendNow", "(LThreeSizes$Person;II)V"⟩
abbrev cX11_back : ByteArray := prog_1_method_48_code
def yX11_back : MethodName := ⟨RX11, "back", "(II)Z"⟩
abbrev cX11_learnFromBox : ByteArray := prog_1_method_49_code
def yX11_learnFromBox : MethodName := ⟨RX11, "learnFromBox", "(II)Z"⟩
abbrev cX11_takeBack : ByteArray := prog_1_method_50_code
def yX11_takeBack : MethodName := ⟨RX11, "takeBack", "(LThreeSizes$Person;I)V"⟩
abbrev cX11_days : ByteArray := prog_1_method_51_code
def yX11_days : MethodName := ⟨RX11, "days", "(I)I"⟩
abbrev cX11_stock : ByteArray := prog_1_method_52_code
def yX11_stock : MethodName := ⟨RX11, "stock", "(II)I"⟩
abbrev cX11_earned : ByteArray := prog_1_method_53_code
def yX11_earned : MethodName := ⟨RX11, "earned", "()I"⟩
abbrev cX11_answer : ByteArray := prog_1_method_54_code
def yX11_answer : MethodName := ⟨RX11, "answer", "(IIZ)Z"⟩
abbrev cX11_worth : ByteArray := prog_1_method_55_code
def yX11_worth : MethodName := ⟨RX11, "worth", "(III)I"⟩
abbrev cX11_worthBeside : ByteArray := prog_1_method_56_code
def yX11_worthBeside : MethodName := ⟨RX11, "worthBeside", "(IIII)I"⟩
abbrev cX11_question : ByteArray := prog_1_method_57_code
def yX11_question : MethodName := ⟨RX11, "question", "(II)I"⟩
abbrev cX11_fee : ByteArray := prog_1_method_58_code
def yX11_fee : MethodName := ⟨RX11, "fee", "(I)I"⟩
abbrev cX11_step : ByteArray := prog_1_method_59_code
def yX11_step : MethodName := ⟨RX11, "step", "(III)I"⟩
abbrev cX11_print : ByteArray := prog_1_method_60_code
def yX11_print : MethodName := ⟨RX11, "print", "(I)I"⟩
abbrev cX11_alike : ByteArray := prog_1_method_61_code
def yX11_alike : MethodName := ⟨RX11, "alike", "(II)I"⟩
abbrev cX11_strangers : ByteArray := prog_1_method_62_code
def yX11_strangers : MethodName := ⟨RX11, "strangers", "(II)I"⟩
abbrev cX11_hold : ByteArray := prog_1_method_63_code
def yX11_hold : MethodName := ⟨RX11, "hold", "(II)I"⟩
abbrev cX11_year : ByteArray := prog_1_method_64_code
def yX11_year : MethodName := ⟨RX11, "year", "()I"⟩
abbrev cX11_draw : ByteArray := prog_1_method_65_code
def yX11_draw : MethodName := ⟨RX11, "draw", "(I)I"⟩
abbrev cX11_drawOfCertain : ByteArray := prog_1_method_66_code
def yX11_drawOfCertain : MethodName := ⟨RX11, "drawOfCertain", "()I"⟩
abbrev cX11_drawFrom : ByteArray := prog_1_method_67_code
def yX11_drawFrom : MethodName := ⟨RX11, "drawFrom", "([I)I"⟩
abbrev cX11_truth : ByteArray := prog_1_method_68_code
def yX11_truth : MethodName := ⟨RX11, "truth", "(I)I"⟩
abbrev cX11_trial : ByteArray := prog_1_method_69_code
def yX11_trial : MethodName := ⟨RX11, "trial", "(III)I"⟩
abbrev cX11_hasTruth : ByteArray := prog_1_method_70_code
def yX11_hasTruth : MethodName := ⟨RX11, "hasTruth", "(II)Z"⟩
abbrev cX11_drawOutcome : ByteArray := prog_1_method_71_code
def yX11_drawOutcome : MethodName := ⟨RX11, "drawOutcome", "(LThreeSizes$Person;II)I"⟩
abbrev cX11_image : ByteArray := prog_1_method_72_code
def yX11_image : MethodName := ⟨RX11, "image", "()I"⟩
abbrev cX11_octet : ByteArray := prog_1_method_73_code
def yX11_octet : MethodName := ⟨RX11, "octet", "(I)I"⟩
abbrev cX11_on : ByteArray := prog_1_method_74_code
def yX11_on : MethodName := ⟨RX11, "on", "()Z"⟩
abbrev cX11_bringBoxesHome : ByteArray := prog_1_method_75_code
def yX11_bringBoxesHome : MethodName := ⟨RX11, "bringBoxesHome", "()V"⟩
def RX12 : String := "ThreeSizesModel"
def TX12 : u_T := fun k => match k with
  | 0 => ("ThreeSizesModel", "tape", "[I", true)
  | 1 => ("ThreeSizesModel", "taped", "I", false)
  | 2 => ("ThreeSizesModel", "at", "I", false)
  | 3 => ("ThreeSizesModel", "end", "I", false)
  | 4 => ("ThreeSizesModel", "ended", "I", false)
  | 5 => ("ThreeSizesModel", "bad", "I", false)
  | 6 => ("ThreeSizesModel", "badPlace", "I", false)
  | 7 => ("ThreeSizesModel", "fault", "I", false)
  | 8 => ("ThreeSizesModel", "faultPlace", "I", false)
  | 9 => ("ThreeSizesModel", "numberPlace", "I", false)
  | 10 => ("ThreeSizesModel", "lastWord", "[C", true)
  | 11 => ("ThreeSizesModel", "priceWord", "[C", true)
  | 12 => ("ThreeSizesModel", "runsWord", "[C", true)
  | 13 => ("ThreeSizesModel", "sortWord", "[C", true)
  | 14 => ("ThreeSizesModel", "offWord", "[C", true)
  | 15 => ("ThreeSizesModel", "wearWord", "[C", true)
  | 16 => ("ThreeSizesModel", "growWord", "[C", true)
  | 17 => ("ThreeSizesModel", "leaveWord", "[C", true)
  | 18 => ("ThreeSizesModel", "keepsWord", "[C", true)
  | 19 => ("ThreeSizesModel", "fareWord", "[C", true)
  | 20 => ("ThreeSizesModel", "wipeWord", "[C", true)
  | 21 => ("ThreeSizesModel", "feeWord", "[C", true)
  | 22 => ("ThreeSizesModel", "stockWord", "[C", true)
  | 23 => ("ThreeSizesModel", "askWord", "[C", true)
  | 24 => ("ThreeSizesModel", "sendWord", "[C", true)
  | 25 => ("ThreeSizesModel", "downWord", "[C", true)
  | 26 => ("ThreeSizesModel", "belowWord", "[C", true)
  | 27 => ("ThreeSizesModel", "sameWord", "[C", true)
  | 28 => ("ThreeSizesModel", "aboveWord", "[C", true)
  | 29 => ("ThreeSizesModel", "upWord", "[C", true)
  | 30 => ("ThreeSizesModel", "whenWord", "[C", true)
  | 31 => ("ThreeSizesModel", "orWord", "[C", true)
  | 32 => ("ThreeSizesModel", "andWord", "[C", true)
  | 33 => ("ThreeSizesModel", "notWord", "[C", true)
  | 34 => ("ThreeSizesModel", "allWord", "[C", true)
  | 35 => ("ThreeSizesModel", "kindWord", "[C", true)
  | 36 => ("ThreeSizesModel", "triedWord", "[C", true)
  | 37 => ("ThreeSizesModel", "lessWord", "[C", true)
  | 38 => ("ThreeSizesModel", "moreWord", "[C", true)
  | 39 => ("ThreeSizesModel", "smallWord", "[C", true)
  | 40 => ("ThreeSizesModel", "largeWord", "[C", true)
  | 41 => ("ThreeSizesModel", "costWord", "[C", true)
  | 42 => ("ThreeSizesModel", "chargeWord", "[C", true)
  | 43 => ("ThreeSizesModel", "minWord", "[C", true)
  | 44 => ("ThreeSizesModel", "maxWord", "[C", true)
  | 45 => ("ThreeSizesModel", "namePlace", "I", false)
  | 46 => ("ThreeSizesModel", "names", "[J", true)
  | 47 => ("ThreeSizesModel", "many", "[I", true)
  | 48 => ("ThreeSizesModel", "prices", "[I", true)
  | 49 => ("ThreeSizesModel", "runs", "[I", true)
  | 50 => ("ThreeSizesModel", "offs", "[I", true)
  | 51 => ("ThreeSizesModel", "wears", "[I", true)
  | 52 => ("ThreeSizesModel", "grows", "[I", true)
  | 53 => ("ThreeSizesModel", "leaves", "[I", true)
  | 54 => ("ThreeSizesModel", "yes", "[I", true)
  | 55 => ("ThreeSizesModel", "please", "[I", true)
  | 56 => ("ThreeSizesModel", "set", "[I", true)
  | 57 => ("ThreeSizesModel", "stocks", "[I", true)
  | 58 => ("ThreeSizesModel", "statements", "I", false)
  | 59 => ("ThreeSizesModel", "codes", "[I", true)
  | 60 => ("ThreeSizesModel", "coded", "I", false)
  | 61 => ("ThreeSizesModel", "wait", "[I", true)
  | 62 => ("ThreeSizesModel", "waits", "I", false)
  | 63 => ("ThreeSizesModel", "open", "I", false)
  | 64 => ("ThreeSizesModel", "isRule", "[Z", true)
  | 65 => ("ThreeSizesModel", "sends", "[I", true)
  | 66 => ("ThreeSizesModel", "sendBits", "[I", true)
  | 67 => ("ThreeSizesModel", "sendFrom", "[I", true)
  | 68 => ("ThreeSizesModel", "sendEnd", "[I", true)
  | 69 => ("ThreeSizesModel", "base", "I", false)
  | 70 => ("ThreeSizesModel", "people", "I", false)
  | 71 => ("ThreeSizesModel", "personSort", "[I", true)
  | 72 => ("ThreeSizesModel", "personSize", "[I", true)
  | 73 => ("ThreeSizesModel", "footThought", "[I", true)
  | 74 => ("ThreeSizesModel", "lastThought", "[I", true)
  | 75 => ("ThreeSizesModel", "tried", "[I", true)
  | 76 => ("ThreeSizesModel", "whole", "[I", true)
  | 77 => ("ThreeSizesModel", "boxLast", "[I", true)
  | 78 => ("ThreeSizesModel", "boxBits", "[I", true)
  | 79 => ("ThreeSizesModel", "truthFoot", "[I", true)
  | 80 => ("ThreeSizesModel", "truthRun", "[I", true)
  | 81 => ("ThreeSizesModel", "kept", "[I", true)
  | 82 => ("ThreeSizesModel", "day", "I", false)
  | 83 => ("ThreeSizesModel", "gain", "I", false)
  | 84 => ("ThreeSizesModel", "coming", "I", false)
  | 85 => ("ThreeSizesModel", "comingAt", "[I", true)
  | 86 => ("ThreeSizesModel", "comingDay", "[I", true)
  | 87 => ("ThreeSizesModel", "pile", "[J", true)
  | 88 => ("ThreeSizesModel", "piled", "I", false)
  | 89 => ("ThreeSizesModel", "learnt", "[I", true)
  | 90 => ("ThreeSizesModel", "footWeights", "[J", true)
  | 91 => ("ThreeSizesModel", "runWeights", "[J", true)
  | 92 => ("ThreeSizesModel", "newFoot", "[I", true)
  | 93 => ("ThreeSizesModel", "newRun", "[I", true)
  | 94 => ("ThreeSizesModel", "aside", "[I", true)
  | 95 => ("ThreeSizesModel", "seeded", "J", false)
  | 96 => ("ThreeSizesModel", "octet", "[I", true)
  | _ => ("ThreeSizesModel", "octets", "I", false)
def tyX12 : Nat → FieldType := fun k => match k with
  | 0 => .array .int
  | 1 => .int
  | 2 => .int
  | 3 => .int
  | 4 => .int
  | 5 => .int
  | 6 => .int
  | 7 => .int
  | 8 => .int
  | 9 => .int
  | 10 => .array .char
  | 11 => .array .char
  | 12 => .array .char
  | 13 => .array .char
  | 14 => .array .char
  | 15 => .array .char
  | 16 => .array .char
  | 17 => .array .char
  | 18 => .array .char
  | 19 => .array .char
  | 20 => .array .char
  | 21 => .array .char
  | 22 => .array .char
  | 23 => .array .char
  | 24 => .array .char
  | 25 => .array .char
  | 26 => .array .char
  | 27 => .array .char
  | 28 => .array .char
  | 29 => .array .char
  | 30 => .array .char
  | 31 => .array .char
  | 32 => .array .char
  | 33 => .array .char
  | 34 => .array .char
  | 35 => .array .char
  | 36 => .array .char
  | 37 => .array .char
  | 38 => .array .char
  | 39 => .array .char
  | 40 => .array .char
  | 41 => .array .char
  | 42 => .array .char
  | 43 => .array .char
  | 44 => .array .char
  | 45 => .int
  | 46 => .array .long
  | 47 => .array .int
  | 48 => .array .int
  | 49 => .array .int
  | 50 => .array .int
  | 51 => .array .int
  | 52 => .array .int
  | 53 => .array .int
  | 54 => .array .int
  | 55 => .array .int
  | 56 => .array .int
  | 57 => .array .int
  | 58 => .int
  | 59 => .array .int
  | 60 => .int
  | 61 => .array .int
  | 62 => .int
  | 63 => .int
  | 64 => .array .boolean
  | 65 => .array .int
  | 66 => .array .int
  | 67 => .array .int
  | 68 => .array .int
  | 69 => .int
  | 70 => .int
  | 71 => .array .int
  | 72 => .array .int
  | 73 => .array .int
  | 74 => .array .int
  | 75 => .array .int
  | 76 => .array .int
  | 77 => .array .int
  | 78 => .array .int
  | 79 => .array .int
  | 80 => .array .int
  | 81 => .array .int
  | 82 => .int
  | 83 => .int
  | 84 => .int
  | 85 => .array .int
  | 86 => .array .int
  | 87 => .array .long
  | 88 => .int
  | 89 => .array .int
  | 90 => .array .long
  | 91 => .array .long
  | 92 => .array .int
  | 93 => .array .int
  | 94 => .array .int
  | 95 => .long
  | 96 => .array .int
  | _ => .int
abbrev wsX120 : List Cond := u_ws RX12 TX12 98
theorem nmX12 : ∀ a, a < 98 → ∀ b, b < 98 → a ≠ b → (TX12 a).2.1 ≠ (TX12 b).2.1 := by decide +kernel
theorem tyX12_ok : ∀ k, k < 98 → parseFieldDescriptor (TX12 k).2.2.1 = some (tyX12 k) := by decide +kernel
abbrev cX12_init : ByteArray := prog_14_method_1_code
def yX12_init : MethodName := ⟨RX12, "<init>", "()V"⟩
abbrev cX12_isIn : ByteArray := prog_14_method_2_code
def yX12_isIn : MethodName := ⟨RX12, "isIn", "(JJJ)Z"⟩
abbrev cX12_feed : ByteArray := prog_14_method_3_code
def yX12_feed : MethodName := ⟨RX12, "feed", "(IIIII)I"⟩
abbrev cX12_end : ByteArray := prog_14_method_4_code
def yX12_end : MethodName := ⟨RX12, "end", "(I)Z"⟩
abbrev cX12_fail : ByteArray := prog_14_method_5_code
def yX12_fail : MethodName := ⟨RX12, "fail", "(II)V"⟩
abbrev cX12_isLetter : ByteArray := prog_14_method_6_code
def yX12_isLetter : MethodName := ⟨RX12, "isLetter", "(I)Z"⟩
abbrev cX12_isDigit : ByteArray := prog_14_method_7_code
def yX12_isDigit : MethodName := ⟨RX12, "isDigit", "(I)Z"⟩
abbrev cX12_look : ByteArray := prog_14_method_8_code
def yX12_look : MethodName := ⟨RX12, "look", "()I"⟩
abbrev cX12_isHere : ByteArray := prog_14_method_9_code
def yX12_isHere : MethodName := ⟨RX12, "isHere", "([C)Z"⟩
abbrev cX12_takes : ByteArray := prog_14_method_10_code
def yX12_takes : MethodName := ⟨RX12, "takes", "([C)Z"⟩
abbrev cX12_asks : ByteArray := prog_14_method_11_code
def yX12_asks : MethodName := ⟨RX12, "asks", "([C)V"⟩
abbrev cX12_takesSign : ByteArray := prog_14_method_12_code
def yX12_takesSign : MethodName := ⟨RX12, "takesSign", "(I)Z"⟩
abbrev cX12_asksSign : ByteArray := prog_14_method_13_code
def yX12_asksSign : MethodName := ⟨RX12, "asksSign", "(I)V"⟩
abbrev cX12_number : ByteArray := prog_14_method_14_code
def yX12_number : MethodName := ⟨RX12, "number", "(II)I"⟩
abbrev cX12_isOwnHere : ByteArray := prog_14_method_15_code
def yX12_isOwnHere : MethodName := ⟨RX12, "isOwnHere", "()Z"⟩
abbrev cX12_name : ByteArray := prog_14_method_16_code
def yX12_name : MethodName := ⟨RX12, "name", "()J"⟩
abbrev cX12_begins : ByteArray := prog_14_method_17_code
def yX12_begins : MethodName := ⟨RX12, "begins", "()V"⟩
abbrev cX12_nameOf : ByteArray := prog_14_method_18_code
def yX12_nameOf : MethodName := ⟨RX12, "nameOf", "(IJ)I"⟩
abbrev cX12_newName : ByteArray := prog_14_method_19_code
def yX12_newName : MethodName := ⟨RX12, "newName", "(I)I"⟩
abbrev cX12_isFull : ByteArray := prog_14_method_20_code
def yX12_isFull : MethodName := ⟨RX12, "isFull", "(III)Z"⟩
abbrev cX12_chances : ByteArray := prog_14_method_21_code
def yX12_chances : MethodName := ⟨RX12, "chances", "([IIII)V"⟩
abbrev cX12_lastTold : ByteArray := prog_14_method_22_code
def yX12_lastTold : MethodName := ⟨RX12, "lastTold", "(I)V"⟩
abbrev cX12_sortTold : ByteArray := prog_14_method_23_code
def yX12_sortTold : MethodName := ⟨RX12, "sortTold", "(I)V"⟩
abbrev cX12_askTold : ByteArray := prog_14_method_24_code
def yX12_askTold : MethodName := ⟨RX12, "askTold", "(I)V"⟩
abbrev cX12_keepsTold : ByteArray := prog_14_method_25_code
def yX12_keepsTold : MethodName := ⟨RX12, "keepsTold", "()V"⟩
abbrev cX12_stockTold : ByteArray := prog_14_method_26_code
def yX12_stockTold : MethodName := ⟨RX12, "stockTold", "()V"⟩
abbrev cX12_houseTold : ByteArray := prog_14_method_27_code
def yX12_houseTold : MethodName := ⟨RX12, "houseTold", "()V"⟩
abbrev cX12_house : ByteArray := prog_14_method_28_code
def yX12_house : MethodName := ⟨RX12, "house", "()I"⟩
abbrev cX12_stands : ByteArray := prog_14_method_29_code
def yX12_stands : MethodName := ⟨RX12, "stands", "()V"⟩
abbrev cX12_code : ByteArray := prog_14_method_30_code
def yX12_code : MethodName := ⟨RX12, "code", "(I)V"⟩
abbrev cX12_opens : ByteArray := prog_14_method_31_code
def yX12_opens : MethodName := ⟨RX12, "opens", "(II)V"⟩
abbrev cX12_isOn : ByteArray := prog_14_method_32_code
def yX12_isOn : MethodName := ⟨RX12, "isOn", "(I)Z"⟩
abbrev cX12_drops : ByteArray := prog_14_method_33_code
def yX12_drops : MethodName := ⟨RX12, "drops", "()V"⟩
abbrev cX12_isMark : ByteArray := prog_14_method_34_code
def yX12_isMark : MethodName := ⟨RX12, "isMark", "(I)Z"⟩
abbrev cX12_mark : ByteArray := prog_14_method_35_code
def yX12_mark : MethodName := ⟨RX12, "mark", "()I"⟩
abbrev cX12_dropsToMark : ByteArray := prog_14_method_36_code
def yX12_dropsToMark : MethodName := ⟨RX12, "dropsToMark", "()V"⟩
abbrev cX12_onePart : ByteArray := prog_14_method_37_code
def yX12_onePart : MethodName := ⟨RX12, "onePart", "()V"⟩
abbrev cX12_goesOn : ByteArray := prog_14_method_38_code
def yX12_goesOn : MethodName := ⟨RX12, "goesOn", "()Z"⟩
abbrev cX12_sums : ByteArray := prog_14_method_39_code
def yX12_sums : MethodName := ⟨RX12, "sums", "()V"⟩
abbrev cX12_fact : ByteArray := prog_14_method_40_code
def yX12_fact : MethodName := ⟨RX12, "fact", "()V"⟩
abbrev cX12_hasSquare : ByteArray := prog_14_method_41_code
def yX12_hasSquare : MethodName := ⟨RX12, "hasSquare", "()Z"⟩
abbrev cX12_dropsNots : ByteArray := prog_14_method_42_code
def yX12_dropsNots : MethodName := ⟨RX12, "dropsNots", "()V"⟩
abbrev cX12_test : ByteArray := prog_14_method_43_code
def yX12_test : MethodName := ⟨RX12, "test", "()V"⟩
abbrev cX12_goesOnTest : ByteArray := prog_14_method_44_code
def yX12_goesOnTest : MethodName := ⟨RX12, "goesOnTest", "()Z"⟩
abbrev cX12_sizeTold : ByteArray := prog_14_method_45_code
def yX12_sizeTold : MethodName := ⟨RX12, "sizeTold", "()I"⟩
abbrev cX12_sizesTold : ByteArray := prog_14_method_46_code
def yX12_sizesTold : MethodName := ⟨RX12, "sizesTold", "()I"⟩
abbrev cX12_sendTold : ByteArray := prog_14_method_47_code
def yX12_sendTold : MethodName := ⟨RX12, "sendTold", "()V"⟩
abbrev cX12_rule : ByteArray := prog_14_method_48_code
def yX12_rule : MethodName := ⟨RX12, "rule", "(I)I"⟩
abbrev cX12_fault : ByteArray := prog_14_method_49_code
def yX12_fault : MethodName := ⟨RX12, "fault", "(I)I"⟩
abbrev cX12_lasts : ByteArray := prog_14_method_50_code
def yX12_lasts : MethodName := ⟨RX12, "lasts", "()I"⟩
abbrev cX12_has : ByteArray := prog_14_method_51_code
def yX12_has : MethodName := ⟨RX12, "has", "(I)I"⟩
abbrev cX12_letter : ByteArray := prog_14_method_52_code
def yX12_letter : MethodName := ⟨RX12, "letter", "(III)I"⟩
abbrev cX12_isPerson : ByteArray := prog_14_method_53_code
def yX12_isPerson : MethodName := ⟨RX12, "isPerson", "(I)Z"⟩
abbrev cX12_isLast : ByteArray := prog_14_method_54_code
def yX12_isLast : MethodName := ⟨RX12, "isLast", "(I)Z"⟩
abbrev cX12_comes : ByteArray := prog_14_method_55_code
def yX12_comes : MethodName := ⟨RX12, "comes", "(III)V"⟩
abbrev cX12_isAsked : ByteArray := prog_14_method_56_code
def yX12_isAsked : MethodName := ⟨RX12, "isAsked", "(II)Z"⟩
abbrev cX12_person : ByteArray := prog_14_method_57_code
def yX12_person : MethodName := ⟨RX12, "person", "(II)I"⟩
abbrev cX12_foot : ByteArray := prog_14_method_58_code
def yX12_foot : MethodName := ⟨RX12, "foot", "(II)I"⟩
abbrev cX12_last : ByteArray := prog_14_method_59_code
def yX12_last : MethodName := ⟨RX12, "last", "(II)I"⟩
abbrev cX12_pairsKept : ByteArray := prog_14_method_60_code
def yX12_pairsKept : MethodName := ⟨RX12, "pairsKept", "(I)I"⟩
abbrev cX12_who : ByteArray := prog_14_method_61_code
def yX12_who : MethodName := ⟨RX12, "who", "(II)I"⟩
abbrev cX12_pairsOf : ByteArray := prog_14_method_62_code
def yX12_pairsOf : MethodName := ⟨RX12, "pairsOf", "(I)I"⟩
abbrev cX12_isBox : ByteArray := prog_14_method_63_code
def yX12_isBox : MethodName := ⟨RX12, "isBox", "(III)Z"⟩
abbrev cX12_pleases : ByteArray := prog_14_method_64_code
def yX12_pleases : MethodName := ⟨RX12, "pleases", "(III)I"⟩
abbrev cX12_bestPair : ByteArray := prog_14_method_65_code
def yX12_bestPair : MethodName := ⟨RX12, "bestPair", "(III)I"⟩
abbrev cX12_likely : ByteArray := prog_14_method_66_code
def yX12_likely : MethodName := ⟨RX12, "likely", "(IIIII)I"⟩
abbrev cX12_weights : ByteArray := prog_14_method_67_code
def yX12_weights : MethodName := ⟨RX12, "weights", "(IIIIII)J"⟩
abbrev cX12_keeps : ByteArray := prog_14_method_68_code
def yX12_keeps : MethodName := ⟨RX12, "keeps", "(IIII)J"⟩
abbrev cX12_money : ByteArray := prog_14_method_69_code
def yX12_money : MethodName := ⟨RX12, "money", "(IIZ)I"⟩
abbrev cX12_floorOf : ByteArray := prog_14_method_70_code
def yX12_floorOf : MethodName := ⟨RX12, "floorOf", "(JJ)J"⟩
abbrev cX12_meanOf : ByteArray := prog_14_method_71_code
def yX12_meanOf : MethodName := ⟨RX12, "meanOf", "(III)I"⟩
abbrev cX12_ordered : ByteArray := prog_14_method_72_code
def yX12_ordered : MethodName := ⟨RX12, "ordered", "(II)I"⟩
abbrev cX12_mean : ByteArray := prog_14_method_73_code
def yX12_mean : MethodName := ⟨RX12, "mean", "(IIIZ)I"⟩
abbrev cX12_stockAt : ByteArray := prog_14_method_74_code
def yX12_stockAt : MethodName := ⟨RX12, "stockAt", "(II)I"⟩
abbrev cX12_isInStock : ByteArray := prog_14_method_75_code
def yX12_isInStock : MethodName := ⟨RX12, "isInStock", "(III)Z"⟩
abbrev cX12_bestBox : ByteArray := prog_14_method_76_code
def yX12_bestBox : MethodName := ⟨RX12, "bestBox", "(II)I"⟩
abbrev cX12_best : ByteArray := prog_14_method_77_code
def yX12_best : MethodName := ⟨RX12, "best", "(IIZ)I"⟩
abbrev cX12_clip : ByteArray := prog_14_method_78_code
def yX12_clip : MethodName := ⟨RX12, "clip", "(J)J"⟩
abbrev cX12_floor : ByteArray := prog_14_method_79_code
def yX12_floor : MethodName := ⟨RX12, "floor", "(JJ)J"⟩
abbrev cX12_puts : ByteArray := prog_14_method_80_code
def yX12_puts : MethodName := ⟨RX12, "puts", "(J)V"⟩
abbrev cX12_joins : ByteArray := prog_14_method_81_code
def yX12_joins : MethodName := ⟨RX12, "joins", "(I)V"⟩
abbrev cX12_holds : ByteArray := prog_14_method_82_code
def yX12_holds : MethodName := ⟨RX12, "holds", "(III)Z"⟩
abbrev cX12_asked : ByteArray := prog_14_method_83_code
def yX12_asked : MethodName := ⟨RX12, "asked", "(III)I"⟩
abbrev cX12_cut : ByteArray := prog_14_method_84_code
def yX12_cut : MethodName := ⟨RX12, "cut", "(II)I"⟩
abbrev cX12_ruled : ByteArray := prog_14_method_85_code
def yX12_ruled : MethodName := ⟨RX12, "ruled", "(III)I"⟩
abbrev cX12_isRuled : ByteArray := prog_14_method_86_code
def yX12_isRuled : MethodName := ⟨RX12, "isRuled", "(I)Z"⟩
abbrev cX12_box : ByteArray := prog_14_method_87_code
def yX12_box : MethodName := ⟨RX12, "box", "(III)I"⟩
abbrev cX12_wayBox : ByteArray := prog_14_method_88_code
def yX12_wayBox : MethodName := ⟨RX12, "wayBox", "(III)I"⟩
abbrev cX12_isWay : ByteArray := prog_14_method_89_code
def yX12_isWay : MethodName := ⟨RX12, "isWay", "(III)Z"⟩
abbrev cX12_way : ByteArray := prog_14_method_90_code
def yX12_way : MethodName := ⟨RX12, "way", "(III)I"⟩
abbrev cX12_sent : ByteArray := prog_14_method_91_code
def yX12_sent : MethodName := ⟨RX12, "sent", "(III)V"⟩
abbrev cX12_send : ByteArray := prog_14_method_92_code
def yX12_send : MethodName := ⟨RX12, "send", "(III)I"⟩
abbrev cX12_takes_ : ByteArray := prog_14_method_93_code
def yX12_takes_ : MethodName := ⟨RX12, "takes", "([III)V"⟩
abbrev cX12_wouldLearn : ByteArray := prog_14_method_94_code
def yX12_wouldLearn : MethodName := ⟨RX12, "wouldLearn", "(IIII)V"⟩
abbrev cX12_learns : ByteArray := prog_14_method_95_code
def yX12_learns : MethodName := ⟨RX12, "learns", "(IIII)V"⟩
abbrev cX12_isTaught : ByteArray := prog_14_method_96_code
def yX12_isTaught : MethodName := ⟨RX12, "isTaught", "(IIII)Z"⟩
abbrev cX12_after : ByteArray := prog_14_method_97_code
def yX12_after : MethodName := ⟨RX12, "after", "(IIIII)I"⟩
abbrev cX12_teaches : ByteArray := prog_14_method_98_code
def yX12_teaches : MethodName := ⟨RX12, "teaches", "(IIIII)I"⟩
abbrev cX12_cameBack : ByteArray := prog_14_method_99_code
def yX12_cameBack : MethodName := ⟨RX12, "cameBack", "(II)V"⟩
abbrev cX12_back : ByteArray := prog_14_method_100_code
def yX12_back : MethodName := ⟨RX12, "back", "(II)Z"⟩
abbrev cX12_days : ByteArray := prog_14_method_101_code
def yX12_days : MethodName := ⟨RX12, "days", "(I)I"⟩
abbrev cX12_stock : ByteArray := prog_14_method_102_code
def yX12_stock : MethodName := ⟨RX12, "stock", "(II)I"⟩
abbrev cX12_earned : ByteArray := prog_14_method_103_code
def yX12_earned : MethodName := ⟨RX12, "earned", "()I"⟩
abbrev cX12_isQuestion : ByteArray := prog_14_method_104_code
def yX12_isQuestion : MethodName := ⟨RX12, "isQuestion", "(I)Z"⟩
abbrev cX12_chance : ByteArray := prog_14_method_105_code
def yX12_chance : MethodName := ⟨RX12, "chance", "(IIZ)I"⟩
abbrev cX12_allOf : ByteArray := prog_14_method_106_code
def yX12_allOf : MethodName := ⟨RX12, "allOf", "(IIZ)I"⟩
abbrev cX12_answered : ByteArray := prog_14_method_107_code
def yX12_answered : MethodName := ⟨RX12, "answered", "(IIZ)V"⟩
abbrev cX12_answer : ByteArray := prog_14_method_108_code
def yX12_answer : MethodName := ⟨RX12, "answer", "(IIZ)Z"⟩
abbrev cX12_behind : ByteArray := prog_14_method_109_code
def yX12_behind : MethodName := ⟨RX12, "behind", "(IIIZ)J"⟩
abbrev cX12_worth : ByteArray := prog_14_method_110_code
def yX12_worth : MethodName := ⟨RX12, "worth", "(III)I"⟩
abbrev cX12_question : ByteArray := prog_14_method_111_code
def yX12_question : MethodName := ⟨RX12, "question", "(II)I"⟩
abbrev cX12_fee : ByteArray := prog_14_method_112_code
def yX12_fee : MethodName := ⟨RX12, "fee", "(I)I"⟩
abbrev cX12_step : ByteArray := prog_14_method_113_code
def yX12_step : MethodName := ⟨RX12, "step", "(III)I"⟩
abbrev cX12_print : ByteArray := prog_14_method_114_code
def yX12_print : MethodName := ⟨RX12, "print", "(I)I"⟩
abbrev cX12_areAlike : ByteArray := prog_14_method_115_code
def yX12_areAlike : MethodName := ⟨RX12, "areAlike", "(II)Z"⟩
abbrev cX12_alike : ByteArray := prog_14_method_116_code
def yX12_alike : MethodName := ⟨RX12, "alike", "(II)I"⟩
abbrev cX12_strangers : ByteArray := prog_14_method_117_code
def yX12_strangers : MethodName := ⟨RX12, "strangers", "(II)I"⟩
abbrev cX12_hold : ByteArray := prog_14_method_118_code
def yX12_hold : MethodName := ⟨RX12, "hold", "(II)I"⟩
abbrev cX12_year : ByteArray := prog_14_method_119_code
def yX12_year : MethodName := ⟨RX12, "year", "()I"⟩
abbrev cX12_drawOf : ByteArray := prog_14_method_120_code
def yX12_drawOf : MethodName := ⟨RX12, "drawOf", "(I)I"⟩
abbrev cX12_drawnOf : ByteArray := prog_14_method_121_code
def yX12_drawnOf : MethodName := ⟨RX12, "drawnOf", "([II)I"⟩
abbrev cX12_draw : ByteArray := prog_14_method_122_code
def yX12_draw : MethodName := ⟨RX12, "draw", "(I)I"⟩
abbrev cX12_truth : ByteArray := prog_14_method_123_code
def yX12_truth : MethodName := ⟨RX12, "truth", "(I)I"⟩
abbrev cX12_trial : ByteArray := prog_14_method_124_code
def yX12_trial : MethodName := ⟨RX12, "trial", "(III)I"⟩
abbrev cX12_writes : ByteArray := prog_14_method_125_code
def yX12_writes : MethodName := ⟨RX12, "writes", "(I)V"⟩
abbrev cX12_writesTwo : ByteArray := prog_14_method_126_code
def yX12_writesTwo : MethodName := ⟨RX12, "writesTwo", "(I)V"⟩
abbrev cX12_checked : ByteArray := prog_14_method_127_code
def yX12_checked : MethodName := ⟨RX12, "checked", "([II)I"⟩
abbrev cX12_image : ByteArray := prog_14_method_128_code
def yX12_image : MethodName := ⟨RX12, "image", "()I"⟩
abbrev cX12_octet : ByteArray := prog_14_method_129_code
def yX12_octet : MethodName := ⟨RX12, "octet", "(I)I"⟩
abbrev cX12_twoAt : ByteArray := prog_14_method_130_code
def yX12_twoAt : MethodName := ⟨RX12, "twoAt", "(I)I"⟩
abbrev cX12_isWhole : ByteArray := prog_14_method_131_code
def yX12_isWhole : MethodName := ⟨RX12, "isWhole", "(II)Z"⟩
abbrev cX12_isTold : ByteArray := prog_14_method_132_code
def yX12_isTold : MethodName := ⟨RX12, "isTold", "(I)Z"⟩
abbrev cX12_on : ByteArray := prog_14_method_133_code
def yX12_on : MethodName := ⟨RX12, "on", "()Z"⟩
def RJ6 : String := "java/lang/Integer"
def TJ6 : u_T := fun k => match k with
  | _ => ("", "", "", false)
def tyJ6 : Nat → FieldType := fun k => match k with
  | _ => .int
abbrev wsJ60 : List Cond := u_ws RJ6 TJ6 0
theorem nmJ6 : ∀ a, a < 0 → ∀ b, b < 0 → a ≠ b → (TJ6 a).2.1 ≠ (TJ6 b).2.1 := by decide +kernel
theorem tyJ6_ok : ∀ k, k < 0 → parseFieldDescriptor (TJ6 k).2.2.1 = some (tyJ6 k) := by decide +kernel
abbrev cJ6_bitCount_0f7a4 : ByteArray := prog_16_method_49_code
def yJ6_bitCount_0f7a4 : MethodName := ⟨RJ6, "bitCount", "(I)I"⟩
def RJ9 : String := "java/lang/Math"
def TJ9 : u_T := fun k => match k with
  | _ => ("", "", "", false)
def tyJ9 : Nat → FieldType := fun k => match k with
  | _ => .int
abbrev wsJ90 : List Cond := u_ws RJ9 TJ9 0
theorem nmJ9 : ∀ a, a < 0 → ∀ b, b < 0 → a ≠ b → (TJ9 a).2.1 ≠ (TJ9 b).2.1 := by decide +kernel
theorem tyJ9_ok : ∀ k, k < 0 → parseFieldDescriptor (TJ9 k).2.2.1 = some (tyJ9 k) := by decide +kernel
abbrev cJ9_floorDiv_7cf53 : ByteArray := prog_17_method_47_code
def yJ9_floorDiv_7cf53 : MethodName := ⟨RJ9, "floorDiv", "(II)I"⟩
abbrev cJ9_floorDiv_f86c9 : ByteArray := prog_17_method_49_code
def yJ9_floorDiv_f86c9 : MethodName := ⟨RJ9, "floorDiv", "(JJ)J"⟩
abbrev cJ9_floorMod_7cf53 : ByteArray := prog_17_method_50_code
def yJ9_floorMod_7cf53 : MethodName := ⟨RJ9, "floorMod", "(II)I"⟩
abbrev cJ9_max_7cf53 : ByteArray := prog_17_method_65_code
def yJ9_max_7cf53 : MethodName := ⟨RJ9, "max", "(II)I"⟩
abbrev cJ9_max_f86c9 : ByteArray := prog_17_method_66_code
def yJ9_max_f86c9 : MethodName := ⟨RJ9, "max", "(JJ)J"⟩
abbrev cJ9_min_7cf53 : ByteArray := prog_17_method_69_code
def yJ9_min_7cf53 : MethodName := ⟨RJ9, "min", "(II)I"⟩
abbrev cJ9_min_f86c9 : ByteArray := prog_17_method_70_code
def yJ9_min_f86c9 : MethodName := ⟨RJ9, "min", "(JJ)J"⟩
def RJ0 : String := "java/lang/String"
def TJ0 : u_T := fun k => match k with
  | _ => ("", "", "", false)
def tyJ0 : Nat → FieldType := fun k => match k with
  | _ => .int
abbrev wsJ00 : List Cond := u_ws RJ0 TJ0 0
theorem nmJ0 : ∀ a, a < 0 → ∀ b, b < 0 → a ≠ b → (TJ0 a).2.1 ≠ (TJ0 b).2.1 := by decide +kernel
theorem tyJ0_ok : ∀ k, k < 0 → parseFieldDescriptor (TJ0 k).2.2.1 = some (tyJ0 k) := by decide +kernel
abbrev cJ0_length_8abf5 : ByteArray := prog_18_method_54_code
def yJ0_length_8abf5 : MethodName := ⟨RJ0, "length", "()I"⟩
abbrev cJ0_charAt_5068e : ByteArray := prog_18_method_56_code
def yJ0_charAt_5068e : MethodName := ⟨RJ0, "charAt", "(I)C"⟩
abbrev cJ0_coder_7d493 : ByteArray := prog_18_method_152_code
def yJ0_coder_7d493 : MethodName := ⟨RJ0, "coder", "()B"⟩
abbrev cJ0_isLatin1_aae02 : ByteArray := prog_18_method_154_code
def yJ0_isLatin1_aae02 : MethodName := ⟨RJ0, "isLatin1", "()Z"⟩
abbrev cJ0_checkIndex_df160 : ByteArray := prog_18_method_155_code
def yJ0_checkIndex_df160 : MethodName := ⟨RJ0, "checkIndex", "(II)V"⟩
def RJ1 : String := "java/lang/StringLatin1"
def TJ1 : u_T := fun k => match k with
  | _ => ("", "", "", false)
def tyJ1 : Nat → FieldType := fun k => match k with
  | _ => .int
abbrev wsJ10 : List Cond := u_ws RJ1 TJ1 0
theorem nmJ1 : ∀ a, a < 0 → ∀ b, b < 0 → a ≠ b → (TJ1 a).2.1 ≠ (TJ1 b).2.1 := by decide +kernel
theorem tyJ1_ok : ∀ k, k < 0 → parseFieldDescriptor (TJ1 k).2.2.1 = some (tyJ1 k) := by decide +kernel
abbrev cJ1_charAt_3b067 : ByteArray := prog_19_method_2_code
def yJ1_charAt_3b067 : MethodName := ⟨RJ1, "charAt", "([BI)C"⟩
def RJ2 : String := "java/lang/StringUTF16"
def TJ2 : u_T := fun k => match k with
  | _ => ("", "", "", false)
def tyJ2 : Nat → FieldType := fun k => match k with
  | _ => .int
abbrev wsJ20 : List Cond := u_ws RJ2 TJ2 0
theorem nmJ2 : ∀ a, a < 0 → ∀ b, b < 0 → a ≠ b → (TJ2 a).2.1 ≠ (TJ2 b).2.1 := by decide +kernel
theorem tyJ2_ok : ∀ k, k < 0 → parseFieldDescriptor (TJ2 k).2.2.1 = some (tyJ2 k) := by decide +kernel
abbrev cJ2_getChar_3b067 : ByteArray := prog_20_method_5_code
def yJ2_getChar_3b067 : MethodName := ⟨RJ2, "getChar", "([BI)C"⟩
abbrev cJ2_length_9d52b : ByteArray := prog_20_method_6_code
def yJ2_length_9d52b : MethodName := ⟨RJ2, "length", "([B)I"⟩
abbrev cJ2_charAt_3b067 : ByteArray := prog_20_method_83_code
def yJ2_charAt_3b067 : MethodName := ⟨RJ2, "charAt", "([BI)C"⟩
abbrev cJ2_checkIndex_2214a : ByteArray := prog_20_method_91_code
def yJ2_checkIndex_2214a : MethodName := ⟨RJ2, "checkIndex", "(I[B)V"⟩
def RJ10 : String := "java/lang/System"
def TJ10 : u_T := fun k => match k with
  | _ => ("", "", "", false)
def tyJ10 : Nat → FieldType := fun k => match k with
  | _ => .int
abbrev wsJ100 : List Cond := u_ws RJ10 TJ10 0
theorem nmJ10 : ∀ a, a < 0 → ∀ b, b < 0 → a ≠ b → (TJ10 a).2.1 ≠ (TJ10 b).2.1 := by decide +kernel
theorem tyJ10_ok : ∀ k, k < 0 → parseFieldDescriptor (TJ10 k).2.2.1 = some (tyJ10 k) := by decide +kernel
def RJ7 : String := "java/util/Arrays"
def TJ7 : u_T := fun k => match k with
  | _ => ("", "", "", false)
def tyJ7 : Nat → FieldType := fun k => match k with
  | _ => .int
abbrev wsJ70 : List Cond := u_ws RJ7 TJ7 0
theorem nmJ7 : ∀ a, a < 0 → ∀ b, b < 0 → a ≠ b → (TJ7 a).2.1 ≠ (TJ7 b).2.1 := by decide +kernel
theorem tyJ7_ok : ∀ k, k < 0 → parseFieldDescriptor (TJ7 k).2.2.1 = some (tyJ7 k) := by decide +kernel
abbrev cJ7_fill_d0a16 : ByteArray := prog_22_method_101_code
def yJ7_fill_d0a16 : MethodName := ⟨RJ7, "fill", "([JJ)V"⟩
abbrev cJ7_fill_53178 : ByteArray := prog_22_method_103_code
def yJ7_fill_53178 : MethodName := ⟨RJ7, "fill", "([II)V"⟩
abbrev cJ7_copyOf_59c91 : ByteArray := prog_22_method_123_code
def yJ7_copyOf_59c91 : MethodName := ⟨RJ7, "copyOf", "([II)[I"⟩
def RJ3 : String := "jdk/internal/util/Preconditions"
def TJ3 : u_T := fun k => match k with
  | _ => ("", "", "", false)
def tyJ3 : Nat → FieldType := fun k => match k with
  | _ => .int
abbrev wsJ30 : List Cond := u_ws RJ3 TJ3 0
theorem nmJ3 : ∀ a, a < 0 → ∀ b, b < 0 → a ≠ b → (TJ3 a).2.1 ≠ (TJ3 b).2.1 := by decide +kernel
theorem tyJ3_ok : ∀ k, k < 0 → parseFieldDescriptor (TJ3 k).2.2.1 = some (tyJ3 k) := by decide +kernel
abbrev cJ3_checkIndex_8e157 : ByteArray := prog_23_method_11_code
def yJ3_checkIndex_8e157 : MethodName := ⟨RJ3, "checkIndex", "(IILjava/util/function/BiFunction;)I"⟩
def RL : String := "ThreeSizesLaw"
abbrev cL_law : ByteArray := code
def yL_law : MethodName := ⟨RL, "law", "([I)Z"⟩
abbrev vwCl : List vw_C := [(RX0, TX0, 11), (RX1, TX1, 1), (RX2, TX2, 2), (RX3, TX3, 4), (RX4, TX4, 9), (RX5, TX5, 2), (RX6, TX6, 6), (RX7, TX7, 5), (RX8, TX8, 5), (RX9, TX9, 4), (RX10, TX10, 10), (RX11, TX11, 19), (RX12, TX12, 98)]
end
