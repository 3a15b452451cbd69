-- ===== PART A: goes FIRST, ahead of the names: the tables' words, and 'selects' of the private methods out of them =====
/-- a private method of a class that the tables say can be made, by its rows of tables_1 -/
def lw_okq (q : MethodName × Nat) : Prop := (q.1.cls ≠ "java/lang/invoke/MethodHandle" ∧ q.1.cls ≠ "java/lang/invoke/VarHandle") ∧ Cond.instantiable q.1.cls q.2 ∈ tables_1 ∧ Cond.privateMethod q.1 ∈ tables_1 ∧ Cond.instanceMethod q.1 ∈ tables_1
theorem lw_p0 : lw_okq (⟨"EndowBook", "refuse", "(I)I"⟩, 13) := ⟨⟨by decide +kernel, by decide +kernel⟩, List.mem_of_getElem? (i := 16) (by decide +kernel), List.mem_of_getElem? (i := 291) (by decide +kernel), List.mem_of_getElem? (i := 292) (by decide +kernel)⟩
theorem lw_p1 : lw_okq (⟨"EndowBook$Kin", "countLines", "()V"⟩, 10) := ⟨⟨by decide +kernel, by decide +kernel⟩, List.mem_of_getElem? (i := 24) (by decide +kernel), List.mem_of_getElem? (i := 342) (by decide +kernel), List.mem_of_getElem? (i := 343) (by decide +kernel)⟩
theorem lw_p2 : lw_okq (⟨"EndowBook", "hasDeed", "(I)Z"⟩, 13) := ⟨⟨by decide +kernel, by decide +kernel⟩, List.mem_of_getElem? (i := 16) (by decide +kernel), List.mem_of_getElem? (i := 380) (by decide +kernel), List.mem_of_getElem? (i := 381) (by decide +kernel)⟩
theorem lw_p3 : lw_okq (⟨"EndowBook$Tape", "readEnd", "(LEndowBook$Deed;I)Z"⟩, 4) := ⟨⟨by decide +kernel, by decide +kernel⟩, List.mem_of_getElem? (i := 104) (by decide +kernel), List.mem_of_getElem? (i := 416) (by decide +kernel), List.mem_of_getElem? (i := 417) (by decide +kernel)⟩
theorem lw_p4 : lw_okq (⟨"EndowBook$Tape", "next", "()I"⟩, 4) := ⟨⟨by decide +kernel, by decide +kernel⟩, List.mem_of_getElem? (i := 104) (by decide +kernel), List.mem_of_getElem? (i := 420) (by decide +kernel), List.mem_of_getElem? (i := 421) (by decide +kernel)⟩
theorem lw_p5 : lw_okq (⟨"EndowBook$Tape", "readFixed", "(LEndowBook$Deed;I)Z"⟩, 4) := ⟨⟨by decide +kernel, by decide +kernel⟩, List.mem_of_getElem? (i := 104) (by decide +kernel), List.mem_of_getElem? (i := 424) (by decide +kernel), List.mem_of_getElem? (i := 425) (by decide +kernel)⟩
theorem lw_p6 : lw_okq (⟨"EndowBook$Tape", "readWord", "(Ljava/lang/String;)Z"⟩, 4) := ⟨⟨by decide +kernel, by decide +kernel⟩, List.mem_of_getElem? (i := 104) (by decide +kernel), List.mem_of_getElem? (i := 429) (by decide +kernel), List.mem_of_getElem? (i := 430) (by decide +kernel)⟩
theorem lw_p7 : lw_okq (⟨"EndowBook$Tape", "readNumber", "(I)Z"⟩, 4) := ⟨⟨by decide +kernel, by decide +kernel⟩, List.mem_of_getElem? (i := 104) (by decide +kernel), List.mem_of_getElem? (i := 481) (by decide +kernel), List.mem_of_getElem? (i := 482) (by decide +kernel)⟩
theorem lw_p8 : lw_okq (⟨"EndowBook$Tape", "readHouse", "(LEndowBook$Deed;I)Z"⟩, 4) := ⟨⟨by decide +kernel, by decide +kernel⟩, List.mem_of_getElem? (i := 104) (by decide +kernel), List.mem_of_getElem? (i := 486) (by decide +kernel), List.mem_of_getElem? (i := 487) (by decide +kernel)⟩
theorem lw_p9 : lw_okq (⟨"EndowBook$Tape", "readTest", "(LEndowBook$Deed;I)Z"⟩, 4) := ⟨⟨by decide +kernel, by decide +kernel⟩, List.mem_of_getElem? (i := 104) (by decide +kernel), List.mem_of_getElem? (i := 490) (by decide +kernel), List.mem_of_getElem? (i := 491) (by decide +kernel)⟩
theorem lw_p10 : lw_okq (⟨"EndowBook$Tape", "readField", "(LEndowBook$Deed;I)Z"⟩, 4) := ⟨⟨by decide +kernel, by decide +kernel⟩, List.mem_of_getElem? (i := 104) (by decide +kernel), List.mem_of_getElem? (i := 495) (by decide +kernel), List.mem_of_getElem? (i := 496) (by decide +kernel)⟩
theorem lw_p11 : lw_okq (⟨"EndowBook$Tape", "readLine", "(LEndowBook$Deed;I)Z"⟩, 4) := ⟨⟨by decide +kernel, by decide +kernel⟩, List.mem_of_getElem? (i := 104) (by decide +kernel), List.mem_of_getElem? (i := 503) (by decide +kernel), List.mem_of_getElem? (i := 504) (by decide +kernel)⟩
theorem lw_p12 : lw_okq (⟨"EndowBook$Tape", "readPerson", "(LEndowBook$Deed;I)Z"⟩, 4) := ⟨⟨by decide +kernel, by decide +kernel⟩, List.mem_of_getElem? (i := 104) (by decide +kernel), List.mem_of_getElem? (i := 508) (by decide +kernel), List.mem_of_getElem? (i := 509) (by decide +kernel)⟩
theorem lw_p13 : lw_okq (⟨"EndowBook$Tape", "readManager", "(LEndowBook$Deed;I)Z"⟩, 4) := ⟨⟨by decide +kernel, by decide +kernel⟩, List.mem_of_getElem? (i := 104) (by decide +kernel), List.mem_of_getElem? (i := 515) (by decide +kernel), List.mem_of_getElem? (i := 516) (by decide +kernel)⟩
theorem lw_p14 : lw_okq (⟨"EndowBook$Tape", "readRest", "(LEndowBook$Deed;I)Z"⟩, 4) := ⟨⟨by decide +kernel, by decide +kernel⟩, List.mem_of_getElem? (i := 104) (by decide +kernel), List.mem_of_getElem? (i := 520) (by decide +kernel), List.mem_of_getElem? (i := 521) (by decide +kernel)⟩
theorem lw_p15 : lw_okq (⟨"EndowBook", "deedAt", "(I)LEndowBook$Deed;"⟩, 13) := ⟨⟨by decide +kernel, by decide +kernel⟩, List.mem_of_getElem? (i := 16) (by decide +kernel), List.mem_of_getElem? (i := 535) (by decide +kernel), List.mem_of_getElem? (i := 536) (by decide +kernel)⟩
def lw_privs_1 : List (MethodName × Nat) := [(⟨"EndowBook", "refuse", "(I)I"⟩, 13), (⟨"EndowBook$Kin", "countLines", "()V"⟩, 10), (⟨"EndowBook", "hasDeed", "(I)Z"⟩, 13), (⟨"EndowBook$Tape", "readEnd", "(LEndowBook$Deed;I)Z"⟩, 4), (⟨"EndowBook$Tape", "next", "()I"⟩, 4), (⟨"EndowBook$Tape", "readFixed", "(LEndowBook$Deed;I)Z"⟩, 4), (⟨"EndowBook$Tape", "readWord", "(Ljava/lang/String;)Z"⟩, 4), (⟨"EndowBook$Tape", "readNumber", "(I)Z"⟩, 4), (⟨"EndowBook$Tape", "readHouse", "(LEndowBook$Deed;I)Z"⟩, 4), (⟨"EndowBook$Tape", "readTest", "(LEndowBook$Deed;I)Z"⟩, 4), (⟨"EndowBook$Tape", "readField", "(LEndowBook$Deed;I)Z"⟩, 4), (⟨"EndowBook$Tape", "readLine", "(LEndowBook$Deed;I)Z"⟩, 4), (⟨"EndowBook$Tape", "readPerson", "(LEndowBook$Deed;I)Z"⟩, 4), (⟨"EndowBook$Tape", "readManager", "(LEndowBook$Deed;I)Z"⟩, 4), (⟨"EndowBook$Tape", "readRest", "(LEndowBook$Deed;I)Z"⟩, 4), (⟨"EndowBook", "deedAt", "(I)LEndowBook$Deed;"⟩, 13)]
theorem lw_r1 : ∀ q ∈ lw_privs_1, lw_okq q := List.forall_mem_cons.mpr ⟨lw_p0, List.forall_mem_cons.mpr ⟨lw_p1, List.forall_mem_cons.mpr ⟨lw_p2, List.forall_mem_cons.mpr ⟨lw_p3, List.forall_mem_cons.mpr ⟨lw_p4, List.forall_mem_cons.mpr ⟨lw_p5, List.forall_mem_cons.mpr ⟨lw_p6, List.forall_mem_cons.mpr ⟨lw_p7, List.forall_mem_cons.mpr ⟨lw_p8, List.forall_mem_cons.mpr ⟨lw_p9, List.forall_mem_cons.mpr ⟨lw_p10, List.forall_mem_cons.mpr ⟨lw_p11, List.forall_mem_cons.mpr ⟨lw_p12, List.forall_mem_cons.mpr ⟨lw_p13, List.forall_mem_cons.mpr ⟨lw_p14, List.forall_mem_cons.mpr ⟨lw_p15, fun _ h => absurd h List.not_mem_nil⟩⟩⟩⟩⟩⟩⟩⟩⟩⟩⟩⟩⟩⟩⟩⟩
theorem lw_p16 : lw_okq (⟨"EndowBook", "splitNow", "(LEndowBook$Deed;I)V"⟩, 13) := ⟨⟨by decide +kernel, by decide +kernel⟩, List.mem_of_getElem? (i := 16) (by decide +kernel), List.mem_of_getElem? (i := 543) (by decide +kernel), List.mem_of_getElem? (i := 544) (by decide +kernel)⟩
theorem lw_p17 : lw_okq (⟨"EndowBook$Split", "clear", "()V"⟩, 6) := ⟨⟨by decide +kernel, by decide +kernel⟩, List.mem_of_getElem? (i := 180) (by decide +kernel), List.mem_of_getElem? (i := 555) (by decide +kernel), List.mem_of_getElem? (i := 556) (by decide +kernel)⟩
theorem lw_p18 : lw_okq (⟨"EndowBook$Split", "judgeTests", "(LEndowBook$Kin;LEndowBook$Deed;II)V"⟩, 6) := ⟨⟨by decide +kernel, by decide +kernel⟩, List.mem_of_getElem? (i := 180) (by decide +kernel), List.mem_of_getElem? (i := 559) (by decide +kernel), List.mem_of_getElem? (i := 560) (by decide +kernel)⟩
theorem lw_p19 : lw_okq (⟨"EndowBook$Split", "payManager", "(LEndowBook$Kin;LEndowBook$Deed;I)I"⟩, 6) := ⟨⟨by decide +kernel, by decide +kernel⟩, List.mem_of_getElem? (i := 180) (by decide +kernel), List.mem_of_getElem? (i := 579) (by decide +kernel), List.mem_of_getElem? (i := 580) (by decide +kernel)⟩
theorem lw_p20 : lw_okq (⟨"EndowBook$Split", "payFixed", "(LEndowBook$Deed;I)I"⟩, 6) := ⟨⟨by decide +kernel, by decide +kernel⟩, List.mem_of_getElem? (i := 180) (by decide +kernel), List.mem_of_getElem? (i := 588) (by decide +kernel), List.mem_of_getElem? (i := 589) (by decide +kernel)⟩
theorem lw_p21 : lw_okq (⟨"EndowBook$Split", "payLine", "(LEndowBook$Kin;LEndowBook$Deed;I)I"⟩, 6) := ⟨⟨by decide +kernel, by decide +kernel⟩, List.mem_of_getElem? (i := 180) (by decide +kernel), List.mem_of_getElem? (i := 595) (by decide +kernel), List.mem_of_getElem? (i := 596) (by decide +kernel)⟩
theorem lw_p22 : lw_okq (⟨"EndowBook$Split", "shareByHeads", "(LEndowBook$Kin;I)V"⟩, 6) := ⟨⟨by decide +kernel, by decide +kernel⟩, List.mem_of_getElem? (i := 180) (by decide +kernel), List.mem_of_getElem? (i := 603) (by decide +kernel), List.mem_of_getElem? (i := 604) (by decide +kernel)⟩
theorem lw_p23 : lw_okq (⟨"EndowBook$Split", "shareByStem", "(LEndowBook$Kin;I)V"⟩, 6) := ⟨⟨by decide +kernel, by decide +kernel⟩, List.mem_of_getElem? (i := 180) (by decide +kernel), List.mem_of_getElem? (i := 607) (by decide +kernel), List.mem_of_getElem? (i := 608) (by decide +kernel)⟩
theorem lw_p24 : lw_okq (⟨"EndowBook", "goBy", "()V"⟩, 13) := ⟨⟨by decide +kernel, by decide +kernel⟩, List.mem_of_getElem? (i := 16) (by decide +kernel), List.mem_of_getElem? (i := 648) (by decide +kernel), List.mem_of_getElem? (i := 649) (by decide +kernel)⟩
theorem lw_p25 : lw_okq (⟨"EndowBook", "payOut", "(LEndowBook$Deed;)V"⟩, 13) := ⟨⟨by decide +kernel, by decide +kernel⟩, List.mem_of_getElem? (i := 16) (by decide +kernel), List.mem_of_getElem? (i := 652) (by decide +kernel), List.mem_of_getElem? (i := 653) (by decide +kernel)⟩
theorem lw_p26 : lw_okq (⟨"EndowBookModel", "isPerson", "(I)Z"⟩, 40) := ⟨⟨by decide +kernel, by decide +kernel⟩, List.mem_of_getElem? (i := 736) (by decide +kernel), List.mem_of_getElem? (i := 867) (by decide +kernel), List.mem_of_getElem? (i := 868) (by decide +kernel)⟩
theorem lw_p27 : lw_okq (⟨"EndowBookModel", "refuse", "(I)I"⟩, 40) := ⟨⟨by decide +kernel, by decide +kernel⟩, List.mem_of_getElem? (i := 736) (by decide +kernel), List.mem_of_getElem? (i := 874) (by decide +kernel), List.mem_of_getElem? (i := 875) (by decide +kernel)⟩
theorem lw_p28 : lw_okq (⟨"EndowBookModel", "unknowns", "()I"⟩, 40) := ⟨⟨by decide +kernel, by decide +kernel⟩, List.mem_of_getElem? (i := 736) (by decide +kernel), List.mem_of_getElem? (i := 886) (by decide +kernel), List.mem_of_getElem? (i := 887) (by decide +kernel)⟩
theorem lw_p29 : lw_okq (⟨"EndowBookModel", "lives", "(I)Z"⟩, 40) := ⟨⟨by decide +kernel, by decide +kernel⟩, List.mem_of_getElem? (i := 736) (by decide +kernel), List.mem_of_getElem? (i := 898) (by decide +kernel), List.mem_of_getElem? (i := 899) (by decide +kernel)⟩
theorem lw_p30 : lw_okq (⟨"EndowBookModel", "children", "(I)I"⟩, 40) := ⟨⟨by decide +kernel, by decide +kernel⟩, List.mem_of_getElem? (i := 736) (by decide +kernel), List.mem_of_getElem? (i := 902) (by decide +kernel), List.mem_of_getElem? (i := 903) (by decide +kernel)⟩
theorem lw_p31 : lw_okq (⟨"EndowBookModel", "ofLine", "(I)I"⟩, 40) := ⟨⟨by decide +kernel, by decide +kernel⟩, List.mem_of_getElem? (i := 736) (by decide +kernel), List.mem_of_getElem? (i := 906) (by decide +kernel), List.mem_of_getElem? (i := 907) (by decide +kernel)⟩
def lw_privs_2 : List (MethodName × Nat) := [(⟨"EndowBook", "splitNow", "(LEndowBook$Deed;I)V"⟩, 13), (⟨"EndowBook$Split", "clear", "()V"⟩, 6), (⟨"EndowBook$Split", "judgeTests", "(LEndowBook$Kin;LEndowBook$Deed;II)V"⟩, 6), (⟨"EndowBook$Split", "payManager", "(LEndowBook$Kin;LEndowBook$Deed;I)I"⟩, 6), (⟨"EndowBook$Split", "payFixed", "(LEndowBook$Deed;I)I"⟩, 6), (⟨"EndowBook$Split", "payLine", "(LEndowBook$Kin;LEndowBook$Deed;I)I"⟩, 6), (⟨"EndowBook$Split", "shareByHeads", "(LEndowBook$Kin;I)V"⟩, 6), (⟨"EndowBook$Split", "shareByStem", "(LEndowBook$Kin;I)V"⟩, 6), (⟨"EndowBook", "goBy", "()V"⟩, 13), (⟨"EndowBook", "payOut", "(LEndowBook$Deed;)V"⟩, 13), (⟨"EndowBookModel", "isPerson", "(I)Z"⟩, 40), (⟨"EndowBookModel", "refuse", "(I)I"⟩, 40), (⟨"EndowBookModel", "unknowns", "()I"⟩, 40), (⟨"EndowBookModel", "lives", "(I)Z"⟩, 40), (⟨"EndowBookModel", "children", "(I)I"⟩, 40), (⟨"EndowBookModel", "ofLine", "(I)I"⟩, 40)]
theorem lw_r2 : ∀ q ∈ lw_privs_2, lw_okq q := List.forall_mem_cons.mpr ⟨lw_p16, List.forall_mem_cons.mpr ⟨lw_p17, List.forall_mem_cons.mpr ⟨lw_p18, List.forall_mem_cons.mpr ⟨lw_p19, List.forall_mem_cons.mpr ⟨lw_p20, List.forall_mem_cons.mpr ⟨lw_p21, List.forall_mem_cons.mpr ⟨lw_p22, List.forall_mem_cons.mpr ⟨lw_p23, List.forall_mem_cons.mpr ⟨lw_p24, List.forall_mem_cons.mpr ⟨lw_p25, List.forall_mem_cons.mpr ⟨lw_p26, List.forall_mem_cons.mpr ⟨lw_p27, List.forall_mem_cons.mpr ⟨lw_p28, List.forall_mem_cons.mpr ⟨lw_p29, List.forall_mem_cons.mpr ⟨lw_p30, List.forall_mem_cons.mpr ⟨lw_p31, fun _ h => absurd h List.not_mem_nil⟩⟩⟩⟩⟩⟩⟩⟩⟩⟩⟩⟩⟩⟩⟩⟩
theorem lw_p32 : lw_okq (⟨"EndowBookModel", "findLine", "(I)V"⟩, 40) := ⟨⟨by decide +kernel, by decide +kernel⟩, List.mem_of_getElem? (i := 736) (by decide +kernel), List.mem_of_getElem? (i := 910) (by decide +kernel), List.mem_of_getElem? (i := 911) (by decide +kernel)⟩
theorem lw_p33 : lw_okq (⟨"EndowBookModel", "isThing", "(I)Z"⟩, 40) := ⟨⟨by decide +kernel, by decide +kernel⟩, List.mem_of_getElem? (i := 736) (by decide +kernel), List.mem_of_getElem? (i := 922) (by decide +kernel), List.mem_of_getElem? (i := 923) (by decide +kernel)⟩
theorem lw_p34 : lw_okq (⟨"EndowBookModel", "isDeed", "(I)Z"⟩, 40) := ⟨⟨by decide +kernel, by decide +kernel⟩, List.mem_of_getElem? (i := 736) (by decide +kernel), List.mem_of_getElem? (i := 934) (by decide +kernel), List.mem_of_getElem? (i := 935) (by decide +kernel)⟩
theorem lw_p35 : lw_okq (⟨"EndowBookModel", "leftOf", "(I)I"⟩, 40) := ⟨⟨by decide +kernel, by decide +kernel⟩, List.mem_of_getElem? (i := 736) (by decide +kernel), List.mem_of_getElem? (i := 938) (by decide +kernel), List.mem_of_getElem? (i := 939) (by decide +kernel)⟩
theorem lw_p36 : lw_okq (⟨"EndowBookModel", "reads", "()I"⟩, 40) := ⟨⟨by decide +kernel, by decide +kernel⟩, List.mem_of_getElem? (i := 736) (by decide +kernel), List.mem_of_getElem? (i := 958) (by decide +kernel), List.mem_of_getElem? (i := 959) (by decide +kernel)⟩
theorem lw_p37 : lw_okq (⟨"EndowBookModel", "here", "()I"⟩, 40) := ⟨⟨by decide +kernel, by decide +kernel⟩, List.mem_of_getElem? (i := 736) (by decide +kernel), List.mem_of_getElem? (i := 962) (by decide +kernel), List.mem_of_getElem? (i := 963) (by decide +kernel)⟩
theorem lw_p38 : lw_okq (⟨"EndowBookModel", "rest", "(I)V"⟩, 40) := ⟨⟨by decide +kernel, by decide +kernel⟩, List.mem_of_getElem? (i := 736) (by decide +kernel), List.mem_of_getElem? (i := 966) (by decide +kernel), List.mem_of_getElem? (i := 967) (by decide +kernel)⟩
theorem lw_p39 : lw_okq (⟨"EndowBookModel", "eats3", "(III)V"⟩, 40) := ⟨⟨by decide +kernel, by decide +kernel⟩, List.mem_of_getElem? (i := 736) (by decide +kernel), List.mem_of_getElem? (i := 970) (by decide +kernel), List.mem_of_getElem? (i := 971) (by decide +kernel)⟩
theorem lw_p40 : lw_okq (⟨"EndowBookModel", "eats", "(I)V"⟩, 40) := ⟨⟨by decide +kernel, by decide +kernel⟩, List.mem_of_getElem? (i := 736) (by decide +kernel), List.mem_of_getElem? (i := 974) (by decide +kernel), List.mem_of_getElem? (i := 975) (by decide +kernel)⟩
theorem lw_p41 : lw_okq (⟨"EndowBookModel", "house", "()I"⟩, 40) := ⟨⟨by decide +kernel, by decide +kernel⟩, List.mem_of_getElem? (i := 736) (by decide +kernel), List.mem_of_getElem? (i := 978) (by decide +kernel), List.mem_of_getElem? (i := 979) (by decide +kernel)⟩
theorem lw_p42 : lw_okq (⟨"EndowBookModel", "fixed", "(I)V"⟩, 40) := ⟨⟨by decide +kernel, by decide +kernel⟩, List.mem_of_getElem? (i := 736) (by decide +kernel), List.mem_of_getElem? (i := 982) (by decide +kernel), List.mem_of_getElem? (i := 983) (by decide +kernel)⟩
theorem lw_p43 : lw_okq (⟨"EndowBookModel", "digits", "(I)V"⟩, 40) := ⟨⟨by decide +kernel, by decide +kernel⟩, List.mem_of_getElem? (i := 736) (by decide +kernel), List.mem_of_getElem? (i := 986) (by decide +kernel), List.mem_of_getElem? (i := 987) (by decide +kernel)⟩
theorem lw_p44 : lw_okq (⟨"EndowBookModel", "test", "(I)V"⟩, 40) := ⟨⟨by decide +kernel, by decide +kernel⟩, List.mem_of_getElem? (i := 736) (by decide +kernel), List.mem_of_getElem? (i := 990) (by decide +kernel), List.mem_of_getElem? (i := 991) (by decide +kernel)⟩
theorem lw_p45 : lw_okq (⟨"EndowBookModel", "field", "()I"⟩, 40) := ⟨⟨by decide +kernel, by decide +kernel⟩, List.mem_of_getElem? (i := 736) (by decide +kernel), List.mem_of_getElem? (i := 994) (by decide +kernel), List.mem_of_getElem? (i := 995) (by decide +kernel)⟩
theorem lw_p46 : lw_okq (⟨"EndowBookModel", "line", "(I)V"⟩, 40) := ⟨⟨by decide +kernel, by decide +kernel⟩, List.mem_of_getElem? (i := 736) (by decide +kernel), List.mem_of_getElem? (i := 998) (by decide +kernel), List.mem_of_getElem? (i := 999) (by decide +kernel)⟩
theorem lw_p47 : lw_okq (⟨"EndowBookModel", "manager0", "(I)V"⟩, 40) := ⟨⟨by decide +kernel, by decide +kernel⟩, List.mem_of_getElem? (i := 736) (by decide +kernel), List.mem_of_getElem? (i := 1002) (by decide +kernel), List.mem_of_getElem? (i := 1003) (by decide +kernel)⟩
def lw_privs_3 : List (MethodName × Nat) := [(⟨"EndowBookModel", "findLine", "(I)V"⟩, 40), (⟨"EndowBookModel", "isThing", "(I)Z"⟩, 40), (⟨"EndowBookModel", "isDeed", "(I)Z"⟩, 40), (⟨"EndowBookModel", "leftOf", "(I)I"⟩, 40), (⟨"EndowBookModel", "reads", "()I"⟩, 40), (⟨"EndowBookModel", "here", "()I"⟩, 40), (⟨"EndowBookModel", "rest", "(I)V"⟩, 40), (⟨"EndowBookModel", "eats3", "(III)V"⟩, 40), (⟨"EndowBookModel", "eats", "(I)V"⟩, 40), (⟨"EndowBookModel", "house", "()I"⟩, 40), (⟨"EndowBookModel", "fixed", "(I)V"⟩, 40), (⟨"EndowBookModel", "digits", "(I)V"⟩, 40), (⟨"EndowBookModel", "test", "(I)V"⟩, 40), (⟨"EndowBookModel", "field", "()I"⟩, 40), (⟨"EndowBookModel", "line", "(I)V"⟩, 40), (⟨"EndowBookModel", "manager0", "(I)V"⟩, 40)]
theorem lw_r3 : ∀ q ∈ lw_privs_3, lw_okq q := List.forall_mem_cons.mpr ⟨lw_p32, List.forall_mem_cons.mpr ⟨lw_p33, List.forall_mem_cons.mpr ⟨lw_p34, List.forall_mem_cons.mpr ⟨lw_p35, List.forall_mem_cons.mpr ⟨lw_p36, List.forall_mem_cons.mpr ⟨lw_p37, List.forall_mem_cons.mpr ⟨lw_p38, List.forall_mem_cons.mpr ⟨lw_p39, List.forall_mem_cons.mpr ⟨lw_p40, List.forall_mem_cons.mpr ⟨lw_p41, List.forall_mem_cons.mpr ⟨lw_p42, List.forall_mem_cons.mpr ⟨lw_p43, List.forall_mem_cons.mpr ⟨lw_p44, List.forall_mem_cons.mpr ⟨lw_p45, List.forall_mem_cons.mpr ⟨lw_p46, List.forall_mem_cons.mpr ⟨lw_p47, fun _ h => absurd h List.not_mem_nil⟩⟩⟩⟩⟩⟩⟩⟩⟩⟩⟩⟩⟩⟩⟩⟩
theorem lw_p48 : lw_okq (⟨"EndowBookModel", "isGood", "(I)Z"⟩, 40) := ⟨⟨by decide +kernel, by decide +kernel⟩, List.mem_of_getElem? (i := 736) (by decide +kernel), List.mem_of_getElem? (i := 1006) (by decide +kernel), List.mem_of_getElem? (i := 1007) (by decide +kernel)⟩
theorem lw_p49 : lw_okq (⟨"EndowBookModel", "works", "(I)V"⟩, 40) := ⟨⟨by decide +kernel, by decide +kernel⟩, List.mem_of_getElem? (i := 736) (by decide +kernel), List.mem_of_getElem? (i := 1014) (by decide +kernel), List.mem_of_getElem? (i := 1015) (by decide +kernel)⟩
theorem lw_p50 : lw_okq (⟨"EndowBookModel", "yieldOf", "(I)I"⟩, 40) := ⟨⟨by decide +kernel, by decide +kernel⟩, List.mem_of_getElem? (i := 736) (by decide +kernel), List.mem_of_getElem? (i := 1018) (by decide +kernel), List.mem_of_getElem? (i := 1019) (by decide +kernel)⟩
theorem lw_p51 : lw_okq (⟨"EndowBookModel", "aliveOf", "(I)I"⟩, 40) := ⟨⟨by decide +kernel, by decide +kernel⟩, List.mem_of_getElem? (i := 736) (by decide +kernel), List.mem_of_getElem? (i := 1022) (by decide +kernel), List.mem_of_getElem? (i := 1023) (by decide +kernel)⟩
theorem lw_p52 : lw_okq (⟨"EndowBookModel", "isSo", "(I)Z"⟩, 40) := ⟨⟨by decide +kernel, by decide +kernel⟩, List.mem_of_getElem? (i := 736) (by decide +kernel), List.mem_of_getElem? (i := 1026) (by decide +kernel), List.mem_of_getElem? (i := 1027) (by decide +kernel)⟩
theorem lw_p53 : lw_okq (⟨"EndowBookModel", "managerOf", "(I)I"⟩, 40) := ⟨⟨by decide +kernel, by decide +kernel⟩, List.mem_of_getElem? (i := 736) (by decide +kernel), List.mem_of_getElem? (i := 1030) (by decide +kernel), List.mem_of_getElem? (i := 1031) (by decide +kernel)⟩
theorem lw_p54 : lw_okq (⟨"EndowBookModel", "findShares", "(II)V"⟩, 40) := ⟨⟨by decide +kernel, by decide +kernel⟩, List.mem_of_getElem? (i := 736) (by decide +kernel), List.mem_of_getElem? (i := 1034) (by decide +kernel), List.mem_of_getElem? (i := 1035) (by decide +kernel)⟩
theorem lw_p55 : lw_okq (⟨"EndowBookModel", "isLeased", "(III)Z"⟩, 40) := ⟨⟨by decide +kernel, by decide +kernel⟩, List.mem_of_getElem? (i := 736) (by decide +kernel), List.mem_of_getElem? (i := 1079) (by decide +kernel), List.mem_of_getElem? (i := 1080) (by decide +kernel)⟩
theorem lw_p56 : lw_okq (⟨"EndowBookModel", "isAbove", "(II)Z"⟩, 40) := ⟨⟨by decide +kernel, by decide +kernel⟩, List.mem_of_getElem? (i := 736) (by decide +kernel), List.mem_of_getElem? (i := 1095) (by decide +kernel), List.mem_of_getElem? (i := 1096) (by decide +kernel)⟩
def lw_privs_4 : List (MethodName × Nat) := [(⟨"EndowBookModel", "isGood", "(I)Z"⟩, 40), (⟨"EndowBookModel", "works", "(I)V"⟩, 40), (⟨"EndowBookModel", "yieldOf", "(I)I"⟩, 40), (⟨"EndowBookModel", "aliveOf", "(I)I"⟩, 40), (⟨"EndowBookModel", "isSo", "(I)Z"⟩, 40), (⟨"EndowBookModel", "managerOf", "(I)I"⟩, 40), (⟨"EndowBookModel", "findShares", "(II)V"⟩, 40), (⟨"EndowBookModel", "isLeased", "(III)Z"⟩, 40), (⟨"EndowBookModel", "isAbove", "(II)Z"⟩, 40)]
theorem lw_r4 : ∀ q ∈ lw_privs_4, lw_okq q := List.forall_mem_cons.mpr ⟨lw_p48, List.forall_mem_cons.mpr ⟨lw_p49, List.forall_mem_cons.mpr ⟨lw_p50, List.forall_mem_cons.mpr ⟨lw_p51, List.forall_mem_cons.mpr ⟨lw_p52, List.forall_mem_cons.mpr ⟨lw_p53, List.forall_mem_cons.mpr ⟨lw_p54, List.forall_mem_cons.mpr ⟨lw_p55, List.forall_mem_cons.mpr ⟨lw_p56, fun _ h => absurd h List.not_mem_nil⟩⟩⟩⟩⟩⟩⟩⟩⟩
def lw_privs : List (MethodName × Nat) := lw_privs_1 ++ (lw_privs_2 ++ (lw_privs_3 ++ (lw_privs_4)))
def lw_tbl : List Cond := k2_sels lw_privs ++ tables_1
theorem lw_privs_ok : ∀ q ∈ lw_privs, lw_okq q := by
  show ∀ q ∈ lw_privs_1 ++ (lw_privs_2 ++ (lw_privs_3 ++ (lw_privs_4))), lw_okq q
  exact List.forall_mem_append.mpr ⟨lw_r1, List.forall_mem_append.mpr ⟨lw_r2, List.forall_mem_append.mpr ⟨lw_r3, lw_r4⟩⟩⟩

def RX0 : String := "EndowBook$Deed"
def TX0 : u_T := fun k => match k with
  | 0 => ("EndowBook$Deed", "kind", "[I", true)
  | 1 => ("EndowBook$Deed", "number", "[I", true)
  | 2 => ("EndowBook$Deed", "root", "[I", true)
  | 3 => ("EndowBook$Deed", "house", "[I", true)
  | 4 => ("EndowBook$Deed", "byHeads", "[Z", true)
  | 5 => ("EndowBook$Deed", "field", "[I", true)
  | 6 => ("EndowBook$Deed", "sign", "[I", true)
  | 7 => ("EndowBook$Deed", "than", "[I", true)
  | _ => ("EndowBook$Deed", "ends", "I", false)
def tyX0 : Nat → FieldType := fun k => match k with
  | 0 => .array .int
  | 1 => .array .int
  | 2 => .array .int
  | 3 => .array .int
  | 4 => .array .boolean
  | 5 => .array .int
  | 6 => .array .int
  | 7 => .array .int
  | _ => .int
abbrev wsX00 : List Cond := u_ws RX0 TX0 9
theorem nmX0 : ∀ a, a < 9 → ∀ b, b < 9 → a ≠ b → (TX0 a).2.1 ≠ (TX0 b).2.1 := by decide +kernel
theorem tyX0_ok : ∀ k, k < 9 → parseFieldDescriptor (TX0 k).2.2.1 = some (tyX0 k) := by decide +kernel
abbrev cX0_init : ByteArray := prog_2_method_1_code
def yX0_init : MethodName := ⟨RX0, "<init>", "()V"⟩
abbrev cX0_hasEnd : ByteArray := prog_2_method_2_code
def yX0_hasEnd : MethodName := ⟨RX0, "hasEnd", "(I)Z"⟩
abbrev cX0_isSound : ByteArray := prog_2_method_3_code
def yX0_isSound : MethodName := ⟨RX0, "isSound", "(I)Z"⟩
abbrev cX0_testIsSo : ByteArray := prog_2_method_4_code
def yX0_testIsSo : MethodName := ⟨RX0, "testIsSo", "(IIII)Z"⟩
def RX1 : String := "EndowBook$Kin"
def TX1 : u_T := fun k => match k with
  | 0 => ("EndowBook$Kin", "parentOf", "[I", true)
  | 1 => ("EndowBook$Kin", "born", "[I", true)
  | 2 => ("EndowBook$Kin", "died", "[I", true)
  | 3 => ("EndowBook$Kin", "unsure", "[Z", true)
  | 4 => ("EndowBook$Kin", "takenToLive", "[Z", true)
  | 5 => ("EndowBook$Kin", "size", "I", false)
  | 6 => ("EndowBook$Kin", "alive", "[Z", true)
  | 7 => ("EndowBook$Kin", "aliveInLine", "[I", true)
  | 8 => ("EndowBook$Kin", "heirs", "[I", true)
  | _ => ("EndowBook$Kin", "inLine", "[Z", true)
def tyX1 : Nat → FieldType := fun k => match k with
  | 0 => .array .int
  | 1 => .array .int
  | 2 => .array .int
  | 3 => .array .boolean
  | 4 => .array .boolean
  | 5 => .int
  | 6 => .array .boolean
  | 7 => .array .int
  | 8 => .array .int
  | _ => .array .boolean
abbrev wsX10 : List Cond := u_ws RX1 TX1 10
theorem nmX1 : ∀ a, a < 10 → ∀ b, b < 10 → a ≠ b → (TX1 a).2.1 ≠ (TX1 b).2.1 := by decide +kernel
theorem tyX1_ok : ∀ k, k < 10 → parseFieldDescriptor (TX1 k).2.2.1 = some (tyX1 k) := by decide +kernel
abbrev cX1_init : ByteArray := prog_3_method_1_code
def yX1_init : MethodName := ⟨RX1, "<init>", "()V"⟩
abbrev cX1_has : ByteArray := prog_3_method_2_code
def yX1_has : MethodName := ⟨RX1, "has", "(I)Z"⟩
abbrev cX1_earliestBirth : ByteArray := prog_3_method_3_code
def yX1_earliestBirth : MethodName := ⟨RX1, "earliestBirth", "(I)I"⟩
abbrev cX1_add : ByteArray := prog_3_method_4_code
def yX1_add : MethodName := ⟨RX1, "add", "(II)I"⟩
abbrev cX1_settle : ByteArray := prog_3_method_5_code
def yX1_settle : MethodName := ⟨RX1, "settle", "(II)V"⟩
abbrev cX1_doubt : ByteArray := prog_3_method_6_code
def yX1_doubt : MethodName := ⟨RX1, "doubt", "(I)V"⟩
abbrev cX1_unsureCount : ByteArray := prog_3_method_7_code
def yX1_unsureCount : MethodName := ⟨RX1, "unsureCount", "()I"⟩
abbrev cX1_doubtful : ByteArray := prog_3_method_8_code
def yX1_doubtful : MethodName := ⟨RX1, "doubtful", "(I)I"⟩
abbrev cX1_children : ByteArray := prog_3_method_9_code
def yX1_children : MethodName := ⟨RX1, "children", "(I)I"⟩
abbrev cX1_aliveCount : ByteArray := prog_3_method_10_code
def yX1_aliveCount : MethodName := ⟨RX1, "aliveCount", "()I"⟩
abbrev cX1_wake : ByteArray := prog_3_method_11_code
def yX1_wake : MethodName := ⟨RX1, "wake", "(II)V"⟩
abbrev cX1_countLines : ByteArray := prog_3_method_12_code
def yX1_countLines : MethodName := ⟨RX1, "countLines", "()V"⟩
abbrev cX1_clearLine : ByteArray := prog_3_method_13_code
def yX1_clearLine : MethodName := ⟨RX1, "clearLine", "()V"⟩
abbrev cX1_addLine : ByteArray := prog_3_method_14_code
def yX1_addLine : MethodName := ⟨RX1, "addLine", "(I)V"⟩
abbrev cX1_aliveMarked : ByteArray := prog_3_method_15_code
def yX1_aliveMarked : MethodName := ⟨RX1, "aliveMarked", "()I"⟩
abbrev cX1_firstBornMarked : ByteArray := prog_3_method_16_code
def yX1_firstBornMarked : MethodName := ⟨RX1, "firstBornMarked", "()I"⟩
def RX2 : String := "EndowBook$Leases"
def TX2 : u_T := fun k => match k with
  | 0 => ("EndowBook$Leases", "thingOf", "[I", true)
  | 1 => ("EndowBook$Leases", "from", "[I", true)
  | 2 => ("EndowBook$Leases", "years", "[I", true)
  | 3 => ("EndowBook$Leases", "holds", "[Z", true)
  | 4 => ("EndowBook$Leases", "size", "I", false)
  | _ => ("EndowBook$Leases", "longest", "I", false)
def tyX2 : Nat → FieldType := fun k => match k with
  | 0 => .array .int
  | 1 => .array .int
  | 2 => .array .int
  | 3 => .array .boolean
  | 4 => .int
  | _ => .int
abbrev wsX20 : List Cond := u_ws RX2 TX2 6
theorem nmX2 : ∀ a, a < 6 → ∀ b, b < 6 → a ≠ b → (TX2 a).2.1 ≠ (TX2 b).2.1 := by decide +kernel
theorem tyX2_ok : ∀ k, k < 6 → parseFieldDescriptor (TX2 k).2.2.1 = some (tyX2 k) := by decide +kernel
abbrev cX2_init : ByteArray := prog_4_method_1_code
def yX2_init : MethodName := ⟨RX2, "<init>", "()V"⟩
abbrev cX2_has : ByteArray := prog_4_method_2_code
def yX2_has : MethodName := ⟨RX2, "has", "(I)Z"⟩
abbrev cX2_add : ByteArray := prog_4_method_3_code
def yX2_add : MethodName := ⟨RX2, "add", "(IIIZ)I"⟩
abbrev cX2_isFree : ByteArray := prog_4_method_4_code
def yX2_isFree : MethodName := ⟨RX2, "isFree", "(III)Z"⟩
abbrev cX2_isFreeFrom : ByteArray := prog_4_method_5_code
def yX2_isFreeFrom : MethodName := ⟨RX2, "isFreeFrom", "(II)Z"⟩
abbrev cX2_holding : ByteArray := prog_4_method_6_code
def yX2_holding : MethodName := ⟨RX2, "holding", "()I"⟩
def RX3 : String := "EndowBook$Split"
def TX3 : u_T := fun k => match k with
  | 0 => ("EndowBook$Split", "so", "[Z", true)
  | 1 => ("EndowBook$Split", "toEnd", "[I", true)
  | 2 => ("EndowBook$Split", "toPerson", "[I", true)
  | 3 => ("EndowBook$Split", "shareOf", "[I", true)
  | 4 => ("EndowBook$Split", "steward", "I", false)
  | _ => ("EndowBook$Split", "leftOver", "I", false)
def tyX3 : Nat → FieldType := fun k => match k with
  | 0 => .array .boolean
  | 1 => .array .int
  | 2 => .array .int
  | 3 => .array .int
  | 4 => .int
  | _ => .int
abbrev wsX30 : List Cond := u_ws RX3 TX3 6
theorem nmX3 : ∀ a, a < 6 → ∀ b, b < 6 → a ≠ b → (TX3 a).2.1 ≠ (TX3 b).2.1 := by decide +kernel
theorem tyX3_ok : ∀ k, k < 6 → parseFieldDescriptor (TX3 k).2.2.1 = some (tyX3 k) := by decide +kernel
abbrev cX3_init : ByteArray := prog_5_method_1_code
def yX3_init : MethodName := ⟨RX3, "<init>", "()V"⟩
abbrev cX3_reckon : ByteArray := prog_5_method_2_code
def yX3_reckon : MethodName := ⟨RX3, "reckon", "(LEndowBook$Kin;LEndowBook$Deed;II)V"⟩
abbrev cX3_clear : ByteArray := prog_5_method_3_code
def yX3_clear : MethodName := ⟨RX3, "clear", "()V"⟩
abbrev cX3_judgeTests : ByteArray := prog_5_method_4_code
def yX3_judgeTests : MethodName := ⟨RX3, "judgeTests", "(LEndowBook$Kin;LEndowBook$Deed;II)V"⟩
abbrev cX3_payManager : ByteArray := prog_5_method_5_code
def yX3_payManager : MethodName := ⟨RX3, "payManager", "(LEndowBook$Kin;LEndowBook$Deed;I)I"⟩
abbrev cX3_payFixed : ByteArray := prog_5_method_6_code
def yX3_payFixed : MethodName := ⟨RX3, "payFixed", "(LEndowBook$Deed;I)I"⟩
abbrev cX3_payLine : ByteArray := prog_5_method_7_code
def yX3_payLine : MethodName := ⟨RX3, "payLine", "(LEndowBook$Kin;LEndowBook$Deed;I)I"⟩
abbrev cX3_setShares : ByteArray := prog_5_method_8_code
def yX3_setShares : MethodName := ⟨RX3, "setShares", "(LEndowBook$Kin;IZ)V"⟩
abbrev cX3_shareByHeads : ByteArray := prog_5_method_9_code
def yX3_shareByHeads : MethodName := ⟨RX3, "shareByHeads", "(LEndowBook$Kin;I)V"⟩
abbrev cX3_shareByStem : ByteArray := prog_5_method_10_code
def yX3_shareByStem : MethodName := ⟨RX3, "shareByStem", "(LEndowBook$Kin;I)V"⟩
def RX4 : String := "EndowBook$Tape"
def TX4 : u_T := fun k => match k with
  | 0 => ("EndowBook$Tape", "bytes", "[I", true)
  | 1 => ("EndowBook$Tape", "length", "I", false)
  | 2 => ("EndowBook$Tape", "place", "I", false)
  | _ => ("EndowBook$Tape", "value", "I", false)
def tyX4 : Nat → FieldType := fun k => match k with
  | 0 => .array .int
  | 1 => .int
  | 2 => .int
  | _ => .int
abbrev wsX40 : List Cond := u_ws RX4 TX4 4
theorem nmX4 : ∀ a, a < 4 → ∀ b, b < 4 → a ≠ b → (TX4 a).2.1 ≠ (TX4 b).2.1 := by decide +kernel
theorem tyX4_ok : ∀ k, k < 4 → parseFieldDescriptor (TX4 k).2.2.1 = some (tyX4 k) := by decide +kernel
abbrev cX4_init : ByteArray := prog_6_method_1_code
def yX4_init : MethodName := ⟨RX4, "<init>", "()V"⟩
abbrev cX4_append : ByteArray := prog_6_method_2_code
def yX4_append : MethodName := ⟨RX4, "append", "(II)V"⟩
abbrev cX4_readDeed : ByteArray := prog_6_method_3_code
def yX4_readDeed : MethodName := ⟨RX4, "readDeed", "(LEndowBook$Deed;)Z"⟩
abbrev cX4_readEnd : ByteArray := prog_6_method_4_code
def yX4_readEnd : MethodName := ⟨RX4, "readEnd", "(LEndowBook$Deed;I)Z"⟩
abbrev cX4_readFixed : ByteArray := prog_6_method_5_code
def yX4_readFixed : MethodName := ⟨RX4, "readFixed", "(LEndowBook$Deed;I)Z"⟩
abbrev cX4_readLine : ByteArray := prog_6_method_6_code
def yX4_readLine : MethodName := ⟨RX4, "readLine", "(LEndowBook$Deed;I)Z"⟩
abbrev cX4_readManager : ByteArray := prog_6_method_7_code
def yX4_readManager : MethodName := ⟨RX4, "readManager", "(LEndowBook$Deed;I)Z"⟩
abbrev cX4_readRest : ByteArray := prog_6_method_8_code
def yX4_readRest : MethodName := ⟨RX4, "readRest", "(LEndowBook$Deed;I)Z"⟩
abbrev cX4_readTest : ByteArray := prog_6_method_9_code
def yX4_readTest : MethodName := ⟨RX4, "readTest", "(LEndowBook$Deed;I)Z"⟩
abbrev cX4_readField : ByteArray := prog_6_method_10_code
def yX4_readField : MethodName := ⟨RX4, "readField", "(LEndowBook$Deed;I)Z"⟩
abbrev cX4_readHouse : ByteArray := prog_6_method_11_code
def yX4_readHouse : MethodName := ⟨RX4, "readHouse", "(LEndowBook$Deed;I)Z"⟩
abbrev cX4_readPerson : ByteArray := prog_6_method_12_code
def yX4_readPerson : MethodName := ⟨RX4, "readPerson", "(LEndowBook$Deed;I)Z"⟩
abbrev cX4_readNumber : ByteArray := prog_6_method_13_code
def yX4_readNumber : MethodName := ⟨RX4, "readNumber", "(I)Z"⟩
abbrev cX4_readWord : ByteArray := prog_6_method_14_code
def yX4_readWord : MethodName := ⟨RX4, "readWord", "(Ljava/lang/String;)Z"⟩
abbrev cX4_next : ByteArray := prog_6_method_15_code
def yX4_next : MethodName := ⟨RX4, "next", "()I"⟩
def RX5 : String := "EndowBook$Things"
def TX5 : u_T := fun k => match k with
  | 0 => ("EndowBook$Things", "worth", "[I", true)
  | 1 => ("EndowBook$Things", "yearly", "[I", true)
  | 2 => ("EndowBook$Things", "ruined", "[Z", true)
  | 3 => ("EndowBook$Things", "given", "[I", true)
  | _ => ("EndowBook$Things", "size", "I", false)
def tyX5 : Nat → FieldType := fun k => match k with
  | 0 => .array .int
  | 1 => .array .int
  | 2 => .array .boolean
  | 3 => .array .int
  | _ => .int
abbrev wsX50 : List Cond := u_ws RX5 TX5 5
theorem nmX5 : ∀ a, a < 5 → ∀ b, b < 5 → a ≠ b → (TX5 a).2.1 ≠ (TX5 b).2.1 := by decide +kernel
theorem tyX5_ok : ∀ k, k < 5 → parseFieldDescriptor (TX5 k).2.2.1 = some (tyX5 k) := by decide +kernel
abbrev cX5_init : ByteArray := prog_7_method_1_code
def yX5_init : MethodName := ⟨RX5, "<init>", "()V"⟩
abbrev cX5_has : ByteArray := prog_7_method_2_code
def yX5_has : MethodName := ⟨RX5, "has", "(I)Z"⟩
abbrev cX5_add : ByteArray := prog_7_method_3_code
def yX5_add : MethodName := ⟨RX5, "add", "(II)I"⟩
abbrev cX5_ungiven : ByteArray := prog_7_method_4_code
def yX5_ungiven : MethodName := ⟨RX5, "ungiven", "(I)I"⟩
abbrev cX5_give : ByteArray := prog_7_method_5_code
def yX5_give : MethodName := ⟨RX5, "give", "(III)I"⟩
abbrev cX5_yieldOf : ByteArray := prog_7_method_6_code
def yX5_yieldOf : MethodName := ⟨RX5, "yieldOf", "(I)I"⟩
abbrev cX5_areLike : ByteArray := prog_7_method_7_code
def yX5_areLike : MethodName := ⟨RX5, "areLike", "(II)Z"⟩
abbrev cX5_exchange : ByteArray := prog_7_method_8_code
def yX5_exchange : MethodName := ⟨RX5, "exchange", "(II)V"⟩
def RX6 : String := "EndowBook"
def TX6 : u_T := fun k => match k with
  | 0 => ("EndowBook", "kin", "LEndowBook$Kin;", true)
  | 1 => ("EndowBook", "things", "LEndowBook$Things;", true)
  | 2 => ("EndowBook", "tape", "LEndowBook$Tape;", true)
  | 3 => ("EndowBook", "deeds", "[LEndowBook$Deed;", true)
  | 4 => ("EndowBook", "split", "LEndowBook$Split;", true)
  | 5 => ("EndowBook", "leases", "LEndowBook$Leases;", true)
  | 6 => ("EndowBook", "personAccounts", "[J", true)
  | 7 => ("EndowBook", "houseAccounts", "[J", true)
  | 8 => ("EndowBook", "theRow", "[I", true)
  | 9 => ("EndowBook", "refusals", "[I", true)
  | 10 => ("EndowBook", "deedCount", "I", false)
  | 11 => ("EndowBook", "rowLength", "I", false)
  | _ => ("EndowBook", "now", "I", false)
def tyX6 : Nat → FieldType := fun k => match k with
  | 0 => .object "EndowBook$Kin"
  | 1 => .object "EndowBook$Things"
  | 2 => .object "EndowBook$Tape"
  | 3 => .array (.object "EndowBook$Deed")
  | 4 => .object "EndowBook$Split"
  | 5 => .object "EndowBook$Leases"
  | 6 => .array .long
  | 7 => .array .long
  | 8 => .array .int
  | 9 => .array .int
  | 10 => .int
  | 11 => .int
  | _ => .int
abbrev wsX60 : List Cond := u_ws RX6 TX6 13
theorem nmX6 : ∀ a, a < 13 → ∀ b, b < 13 → a ≠ b → (TX6 a).2.1 ≠ (TX6 b).2.1 := by decide +kernel
theorem tyX6_ok : ∀ k, k < 13 → parseFieldDescriptor (TX6 k).2.2.1 = some (tyX6 k) := by decide +kernel
abbrev cX6_init : ByteArray := prog_1_method_1_code
def yX6_init : MethodName := ⟨RX6, "<init>", "()V"⟩
abbrev cX6_person : ByteArray := prog_1_method_2_code
def yX6_person : MethodName := ⟨RX6, "person", "(II)I"⟩
abbrev cX6_death : ByteArray := prog_1_method_3_code
def yX6_death : MethodName := ⟨RX6, "death", "(II)I"⟩
abbrev cX6_unknown : ByteArray := prog_1_method_4_code
def yX6_unknown : MethodName := ⟨RX6, "unknown", "(II)I"⟩
abbrev cX6_taken : ByteArray := prog_1_method_5_code
def yX6_taken : MethodName := ⟨RX6, "taken", "(II)I"⟩
abbrev cX6_look : ByteArray := prog_1_method_6_code
def yX6_look : MethodName := ⟨RX6, "look", "(II)I"⟩
abbrev cX6_thing : ByteArray := prog_1_method_7_code
def yX6_thing : MethodName := ⟨RX6, "thing", "(II)I"⟩
abbrev cX6_tell : ByteArray := prog_1_method_8_code
def yX6_tell : MethodName := ⟨RX6, "tell", "(III)I"⟩
abbrev cX6_ruin : ByteArray := prog_1_method_9_code
def yX6_ruin : MethodName := ⟨RX6, "ruin", "(II)I"⟩
abbrev cX6_part : ByteArray := prog_1_method_10_code
def yX6_part : MethodName := ⟨RX6, "part", "(III)I"⟩
abbrev cX6_parts : ByteArray := prog_1_method_11_code
def yX6_parts : MethodName := ⟨RX6, "parts", "(II)I"⟩
abbrev cX6_feed : ByteArray := prog_1_method_12_code
def yX6_feed : MethodName := ⟨RX6, "feed", "(II)I"⟩
abbrev cX6_wipe : ByteArray := prog_1_method_13_code
def yX6_wipe : MethodName := ⟨RX6, "wipe", "()I"⟩
abbrev cX6_deed : ByteArray := prog_1_method_14_code
def yX6_deed : MethodName := ⟨RX6, "deed", "()I"⟩
abbrev cX6_end : ByteArray := prog_1_method_15_code
def yX6_end : MethodName := ⟨RX6, "end", "(III)I"⟩
abbrev cX6_yields : ByteArray := prog_1_method_16_code
def yX6_yields : MethodName := ⟨RX6, "yields", "(I)I"⟩
abbrev cX6_manager : ByteArray := prog_1_method_17_code
def yX6_manager : MethodName := ⟨RX6, "manager", "(I)I"⟩
abbrev cX6_left : ByteArray := prog_1_method_18_code
def yX6_left : MethodName := ⟨RX6, "left", "(I)I"⟩
abbrev cX6_gets : ByteArray := prog_1_method_19_code
def yX6_gets : MethodName := ⟨RX6, "gets", "(II)I"⟩
abbrev cX6_due : ByteArray := prog_1_method_20_code
def yX6_due : MethodName := ⟨RX6, "due", "(II)I"⟩
abbrev cX6_share : ByteArray := prog_1_method_21_code
def yX6_share : MethodName := ⟨RX6, "share", "(IIIZ)J"⟩
abbrev cX6_bound : ByteArray := prog_1_method_22_code
def yX6_bound : MethodName := ⟨RX6, "bound", "(IIZ)I"⟩
abbrev cX6_run : ByteArray := prog_1_method_23_code
def yX6_run : MethodName := ⟨RX6, "run", "(I)I"⟩
abbrev cX6_account : ByteArray := prog_1_method_24_code
def yX6_account : MethodName := ⟨RX6, "account", "(IZ)J"⟩
abbrev cX6_lease : ByteArray := prog_1_method_25_code
def yX6_lease : MethodName := ⟨RX6, "lease", "(IIIZ)I"⟩
abbrev cX6_leased : ByteArray := prog_1_method_26_code
def yX6_leased : MethodName := ⟨RX6, "leased", "(II)I"⟩
abbrev cX6_law : ByteArray := prog_1_method_27_code
def yX6_law : MethodName := ⟨RX6, "law", "(I)I"⟩
abbrev cX6_swap : ByteArray := prog_1_method_28_code
def yX6_swap : MethodName := ⟨RX6, "swap", "(IIZ)I"⟩
abbrev cX6_count : ByteArray := prog_1_method_29_code
def yX6_count : MethodName := ⟨RX6, "count", "(I)I"⟩
abbrev cX6_lay : ByteArray := prog_1_method_30_code
def yX6_lay : MethodName := ⟨RX6, "lay", "(I)I"⟩
abbrev cX6_tear : ByteArray := prog_1_method_31_code
def yX6_tear : MethodName := ⟨RX6, "tear", "()I"⟩
abbrev cX6_row : ByteArray := prog_1_method_32_code
def yX6_row : MethodName := ⟨RX6, "row", "(I)I"⟩
abbrev cX6_copy : ByteArray := prog_1_method_33_code
def yX6_copy : MethodName := ⟨RX6, "copy", "(III)I"⟩
abbrev cX6_status : ByteArray := prog_1_method_34_code
def yX6_status : MethodName := ⟨RX6, "status", "(I)I"⟩
abbrev cX6_refuse : ByteArray := prog_1_method_35_code
def yX6_refuse : MethodName := ⟨RX6, "refuse", "(I)I"⟩
abbrev cX6_isFlag : ByteArray := prog_1_method_36_code
def yX6_isFlag : MethodName := ⟨RX6, "isFlag", "(I)Z"⟩
abbrev cX6_flag : ByteArray := prog_1_method_37_code
def yX6_flag : MethodName := ⟨RX6, "flag", "(Z)I"⟩
abbrev cX6_isWorth : ByteArray := prog_1_method_38_code
def yX6_isWorth : MethodName := ⟨RX6, "isWorth", "(I)Z"⟩
abbrev cX6_isYield : ByteArray := prog_1_method_39_code
def yX6_isYield : MethodName := ⟨RX6, "isYield", "(I)Z"⟩
abbrev cX6_hasDeed : ByteArray := prog_1_method_40_code
def yX6_hasDeed : MethodName := ⟨RX6, "hasDeed", "(I)Z"⟩
abbrev cX6_deedAt : ByteArray := prog_1_method_41_code
def yX6_deedAt : MethodName := ⟨RX6, "deedAt", "(I)LEndowBook$Deed;"⟩
abbrev cX6_splitNow : ByteArray := prog_1_method_42_code
def yX6_splitNow : MethodName := ⟨RX6, "splitNow", "(LEndowBook$Deed;I)V"⟩
abbrev cX6_goBy : ByteArray := prog_1_method_43_code
def yX6_goBy : MethodName := ⟨RX6, "goBy", "()V"⟩
abbrev cX6_payOut : ByteArray := prog_1_method_44_code
def yX6_payOut : MethodName := ⟨RX6, "payOut", "(LEndowBook$Deed;)V"⟩
def RX7 : String := "EndowBookModel"
def TX7 : u_T := fun k => match k with
  | 0 => ("EndowBookModel", "refusals", "[I", true)
  | 1 => ("EndowBookModel", "now", "I", false)
  | 2 => ("EndowBookModel", "persons", "I", false)
  | 3 => ("EndowBookModel", "parent", "[I", true)
  | 4 => ("EndowBookModel", "born", "[I", true)
  | 5 => ("EndowBookModel", "death", "[I", true)
  | 6 => ("EndowBookModel", "isUnknown", "[Z", true)
  | 7 => ("EndowBookModel", "isTaken", "[Z", true)
  | 8 => ("EndowBookModel", "things", "I", false)
  | 9 => ("EndowBookModel", "worth", "[I", true)
  | 10 => ("EndowBookModel", "yield0", "[I", true)
  | 11 => ("EndowBookModel", "isRuin", "[Z", true)
  | 12 => ("EndowBookModel", "given", "[I", true)
  | 13 => ("EndowBookModel", "deeds", "I", false)
  | 14 => ("EndowBookModel", "ends", "[I", true)
  | 15 => ("EndowBookModel", "end", "[I", true)
  | 16 => ("EndowBookModel", "accounts", "[J", true)
  | 17 => ("EndowBookModel", "leases", "I", false)
  | 18 => ("EndowBookModel", "lease", "[I", true)
  | 19 => ("EndowBookModel", "isHeld", "[Z", true)
  | 20 => ("EndowBookModel", "longest", "I", false)
  | 21 => ("EndowBookModel", "isOf", "[Z", true)
  | 22 => ("EndowBookModel", "hasOne", "[Z", true)
  | 23 => ("EndowBookModel", "tape", "[I", true)
  | 24 => ("EndowBookModel", "taped", "I", false)
  | 25 => ("EndowBookModel", "at", "I", false)
  | 26 => ("EndowBookModel", "isFaulty", "Z", false)
  | 27 => ("EndowBookModel", "number", "I", false)
  | 28 => ("EndowBookModel", "yield1", "I", false)
  | 29 => ("EndowBookModel", "alive", "I", false)
  | 30 => ("EndowBookModel", "manages", "I", false)
  | 31 => ("EndowBookModel", "left", "I", false)
  | 32 => ("EndowBookModel", "gets", "[I", true)
  | 33 => ("EndowBookModel", "dues", "[I", true)
  | 34 => ("EndowBookModel", "isAlive", "[Z", true)
  | 35 => ("EndowBookModel", "up", "[J", true)
  | 36 => ("EndowBookModel", "down", "[J", true)
  | 37 => ("EndowBookModel", "rowMany", "I", false)
  | 38 => ("EndowBookModel", "row", "[I", true)
  | _ => ("EndowBookModel", "moved", "[I", true)
def tyX7 : Nat → FieldType := fun k => match k with
  | 0 => .array .int
  | 1 => .int
  | 2 => .int
  | 3 => .array .int
  | 4 => .array .int
  | 5 => .array .int
  | 6 => .array .boolean
  | 7 => .array .boolean
  | 8 => .int
  | 9 => .array .int
  | 10 => .array .int
  | 11 => .array .boolean
  | 12 => .array .int
  | 13 => .int
  | 14 => .array .int
  | 15 => .array .int
  | 16 => .array .long
  | 17 => .int
  | 18 => .array .int
  | 19 => .array .boolean
  | 20 => .int
  | 21 => .array .boolean
  | 22 => .array .boolean
  | 23 => .array .int
  | 24 => .int
  | 25 => .int
  | 26 => .boolean
  | 27 => .int
  | 28 => .int
  | 29 => .int
  | 30 => .int
  | 31 => .int
  | 32 => .array .int
  | 33 => .array .int
  | 34 => .array .boolean
  | 35 => .array .long
  | 36 => .array .long
  | 37 => .int
  | 38 => .array .int
  | _ => .array .int
abbrev wsX70 : List Cond := u_ws RX7 TX7 40
theorem nmX7 : ∀ a, a < 40 → ∀ b, b < 40 → a ≠ b → (TX7 a).2.1 ≠ (TX7 b).2.1 := by decide +kernel
theorem tyX7_ok : ∀ k, k < 40 → parseFieldDescriptor (TX7 k).2.2.1 = some (tyX7 k) := by decide +kernel
abbrev cX7_init : ByteArray := prog_9_method_1_code
def yX7_init : MethodName := ⟨RX7, "<init>", "()V"⟩
abbrev cX7_in : ByteArray := prog_9_method_3_code
def yX7_in : MethodName := ⟨RX7, "in", "(III)Z"⟩
abbrev cX7_refuse : ByteArray := prog_9_method_4_code
def yX7_refuse : MethodName := ⟨RX7, "refuse", "(I)I"⟩
abbrev cX7_isPerson : ByteArray := prog_9_method_5_code
def yX7_isPerson : MethodName := ⟨RX7, "isPerson", "(I)Z"⟩
abbrev cX7_isThing : ByteArray := prog_9_method_6_code
def yX7_isThing : MethodName := ⟨RX7, "isThing", "(I)Z"⟩
abbrev cX7_isDeed : ByteArray := prog_9_method_7_code
def yX7_isDeed : MethodName := ⟨RX7, "isDeed", "(I)Z"⟩
abbrev cX7_person : ByteArray := prog_9_method_8_code
def yX7_person : MethodName := ⟨RX7, "person", "(II)I"⟩
abbrev cX7_death : ByteArray := prog_9_method_9_code
def yX7_death : MethodName := ⟨RX7, "death", "(II)I"⟩
abbrev cX7_unknowns : ByteArray := prog_9_method_10_code
def yX7_unknowns : MethodName := ⟨RX7, "unknowns", "()I"⟩
abbrev cX7_unknown : ByteArray := prog_9_method_11_code
def yX7_unknown : MethodName := ⟨RX7, "unknown", "(II)I"⟩
abbrev cX7_taken : ByteArray := prog_9_method_12_code
def yX7_taken : MethodName := ⟨RX7, "taken", "(II)I"⟩
abbrev cX7_lives : ByteArray := prog_9_method_13_code
def yX7_lives : MethodName := ⟨RX7, "lives", "(I)Z"⟩
abbrev cX7_findLine : ByteArray := prog_9_method_14_code
def yX7_findLine : MethodName := ⟨RX7, "findLine", "(I)V"⟩
abbrev cX7_ofLine : ByteArray := prog_9_method_15_code
def yX7_ofLine : MethodName := ⟨RX7, "ofLine", "(I)I"⟩
abbrev cX7_children : ByteArray := prog_9_method_16_code
def yX7_children : MethodName := ⟨RX7, "children", "(I)I"⟩
abbrev cX7_look : ByteArray := prog_9_method_17_code
def yX7_look : MethodName := ⟨RX7, "look", "(II)I"⟩
abbrev cX7_thing : ByteArray := prog_9_method_18_code
def yX7_thing : MethodName := ⟨RX7, "thing", "(II)I"⟩
abbrev cX7_tell : ByteArray := prog_9_method_19_code
def yX7_tell : MethodName := ⟨RX7, "tell", "(III)I"⟩
abbrev cX7_ruin : ByteArray := prog_9_method_20_code
def yX7_ruin : MethodName := ⟨RX7, "ruin", "(II)I"⟩
abbrev cX7_leftOf : ByteArray := prog_9_method_21_code
def yX7_leftOf : MethodName := ⟨RX7, "leftOf", "(I)I"⟩
abbrev cX7_part : ByteArray := prog_9_method_22_code
def yX7_part : MethodName := ⟨RX7, "part", "(III)I"⟩
abbrev cX7_parts : ByteArray := prog_9_method_23_code
def yX7_parts : MethodName := ⟨RX7, "parts", "(II)I"⟩
abbrev cX7_feed : ByteArray := prog_9_method_24_code
def yX7_feed : MethodName := ⟨RX7, "feed", "(II)I"⟩
abbrev cX7_wipe : ByteArray := prog_9_method_25_code
def yX7_wipe : MethodName := ⟨RX7, "wipe", "()I"⟩
abbrev cX7_here : ByteArray := prog_9_method_26_code
def yX7_here : MethodName := ⟨RX7, "here", "()I"⟩
abbrev cX7_eats : ByteArray := prog_9_method_27_code
def yX7_eats : MethodName := ⟨RX7, "eats", "(I)V"⟩
abbrev cX7_eats3 : ByteArray := prog_9_method_28_code
def yX7_eats3 : MethodName := ⟨RX7, "eats3", "(III)V"⟩
abbrev cX7_digits : ByteArray := prog_9_method_29_code
def yX7_digits : MethodName := ⟨RX7, "digits", "(I)V"⟩
abbrev cX7_house : ByteArray := prog_9_method_30_code
def yX7_house : MethodName := ⟨RX7, "house", "()I"⟩
abbrev cX7_field : ByteArray := prog_9_method_31_code
def yX7_field : MethodName := ⟨RX7, "field", "()I"⟩
abbrev cX7_test : ByteArray := prog_9_method_32_code
def yX7_test : MethodName := ⟨RX7, "test", "(I)V"⟩
abbrev cX7_fixed : ByteArray := prog_9_method_33_code
def yX7_fixed : MethodName := ⟨RX7, "fixed", "(I)V"⟩
abbrev cX7_line : ByteArray := prog_9_method_34_code
def yX7_line : MethodName := ⟨RX7, "line", "(I)V"⟩
abbrev cX7_manager0 : ByteArray := prog_9_method_35_code
def yX7_manager0 : MethodName := ⟨RX7, "manager0", "(I)V"⟩
abbrev cX7_rest : ByteArray := prog_9_method_36_code
def yX7_rest : MethodName := ⟨RX7, "rest", "(I)V"⟩
abbrev cX7_reads : ByteArray := prog_9_method_37_code
def yX7_reads : MethodName := ⟨RX7, "reads", "()I"⟩
abbrev cX7_isGood : ByteArray := prog_9_method_38_code
def yX7_isGood : MethodName := ⟨RX7, "isGood", "(I)Z"⟩
abbrev cX7_deed : ByteArray := prog_9_method_39_code
def yX7_deed : MethodName := ⟨RX7, "deed", "()I"⟩
abbrev cX7_yieldOf : ByteArray := prog_9_method_40_code
def yX7_yieldOf : MethodName := ⟨RX7, "yieldOf", "(I)I"⟩
abbrev cX7_aliveOf : ByteArray := prog_9_method_41_code
def yX7_aliveOf : MethodName := ⟨RX7, "aliveOf", "(I)I"⟩
abbrev cX7_isSo : ByteArray := prog_9_method_42_code
def yX7_isSo : MethodName := ⟨RX7, "isSo", "(I)Z"⟩
abbrev cX7_managerOf : ByteArray := prog_9_method_43_code
def yX7_managerOf : MethodName := ⟨RX7, "managerOf", "(I)I"⟩
abbrev cX7_findShares : ByteArray := prog_9_method_44_code
def yX7_findShares : MethodName := ⟨RX7, "findShares", "(II)V"⟩
abbrev cX7_works : ByteArray := prog_9_method_45_code
def yX7_works : MethodName := ⟨RX7, "works", "(I)V"⟩
abbrev cX7_end : ByteArray := prog_9_method_46_code
def yX7_end : MethodName := ⟨RX7, "end", "(III)I"⟩
abbrev cX7_yields : ByteArray := prog_9_method_47_code
def yX7_yields : MethodName := ⟨RX7, "yields", "(I)I"⟩
abbrev cX7_manager : ByteArray := prog_9_method_48_code
def yX7_manager : MethodName := ⟨RX7, "manager", "(I)I"⟩
abbrev cX7_left : ByteArray := prog_9_method_49_code
def yX7_left : MethodName := ⟨RX7, "left", "(I)I"⟩
abbrev cX7_gets : ByteArray := prog_9_method_50_code
def yX7_gets : MethodName := ⟨RX7, "gets", "(II)I"⟩
abbrev cX7_due : ByteArray := prog_9_method_51_code
def yX7_due : MethodName := ⟨RX7, "due", "(II)I"⟩
abbrev cX7_share : ByteArray := prog_9_method_52_code
def yX7_share : MethodName := ⟨RX7, "share", "(IIIZ)J"⟩
abbrev cX7_bound : ByteArray := prog_9_method_53_code
def yX7_bound : MethodName := ⟨RX7, "bound", "(IIZ)I"⟩
abbrev cX7_run : ByteArray := prog_9_method_54_code
def yX7_run : MethodName := ⟨RX7, "run", "(I)I"⟩
abbrev cX7_account : ByteArray := prog_9_method_55_code
def yX7_account : MethodName := ⟨RX7, "account", "(IZ)J"⟩
abbrev cX7_isLeased : ByteArray := prog_9_method_56_code
def yX7_isLeased : MethodName := ⟨RX7, "isLeased", "(III)Z"⟩
abbrev cX7_lease : ByteArray := prog_9_method_57_code
def yX7_lease : MethodName := ⟨RX7, "lease", "(IIIZ)I"⟩
abbrev cX7_leased : ByteArray := prog_9_method_58_code
def yX7_leased : MethodName := ⟨RX7, "leased", "(II)I"⟩
abbrev cX7_law : ByteArray := prog_9_method_59_code
def yX7_law : MethodName := ⟨RX7, "law", "(I)I"⟩
abbrev cX7_isAbove : ByteArray := prog_9_method_60_code
def yX7_isAbove : MethodName := ⟨RX7, "isAbove", "(II)Z"⟩
abbrev cX7_swap : ByteArray := prog_9_method_61_code
def yX7_swap : MethodName := ⟨RX7, "swap", "(IIZ)I"⟩
abbrev cX7_count : ByteArray := prog_9_method_62_code
def yX7_count : MethodName := ⟨RX7, "count", "(I)I"⟩
abbrev cX7_lay : ByteArray := prog_9_method_63_code
def yX7_lay : MethodName := ⟨RX7, "lay", "(I)I"⟩
abbrev cX7_tear : ByteArray := prog_9_method_64_code
def yX7_tear : MethodName := ⟨RX7, "tear", "()I"⟩
abbrev cX7_row : ByteArray := prog_9_method_65_code
def yX7_row : MethodName := ⟨RX7, "row", "(I)I"⟩
abbrev cX7_copy : ByteArray := prog_9_method_66_code
def yX7_copy : MethodName := ⟨RX7, "copy", "(III)I"⟩
abbrev cX7_status : ByteArray := prog_9_method_67_code
def yX7_status : MethodName := ⟨RX7, "status", "(I)I"⟩
def RJ9 : String := "java/lang/Math"
def TJ9 : u_T := fun k => match k with
  | _ => ("", "", "", false)
def tyJ9 : Nat → FieldType := fun k => match k with
  | _ => .int
abbrev cJ9_min_7cf53 : ByteArray := prog_10_method_69_code
def yJ9_min_7cf53 : MethodName := ⟨RJ9, "min", "(II)I"⟩
def RJ0 : String := "java/lang/String"
def TJ0 : u_T := fun k => match k with
  | _ => ("", "", "", false)
def tyJ0 : Nat → FieldType := fun k => match k with
  | _ => .int
abbrev cJ0_length_8abf5 : ByteArray := prog_11_method_54_code
def yJ0_length_8abf5 : MethodName := ⟨RJ0, "length", "()I"⟩
abbrev cJ0_charAt_5068e : ByteArray := prog_11_method_56_code
def yJ0_charAt_5068e : MethodName := ⟨RJ0, "charAt", "(I)C"⟩
abbrev cJ0_coder_7d493 : ByteArray := prog_11_method_152_code
def yJ0_coder_7d493 : MethodName := ⟨RJ0, "coder", "()B"⟩
abbrev cJ0_isLatin1_aae02 : ByteArray := prog_11_method_154_code
def yJ0_isLatin1_aae02 : MethodName := ⟨RJ0, "isLatin1", "()Z"⟩
abbrev cJ0_checkIndex_df160 : ByteArray := prog_11_method_155_code
def yJ0_checkIndex_df160 : MethodName := ⟨RJ0, "checkIndex", "(II)V"⟩
def RJ1 : String := "java/lang/StringLatin1"
def TJ1 : u_T := fun k => match k with
  | _ => ("", "", "", false)
def tyJ1 : Nat → FieldType := fun k => match k with
  | _ => .int
abbrev cJ1_charAt_3b067 : ByteArray := prog_12_method_2_code
def yJ1_charAt_3b067 : MethodName := ⟨RJ1, "charAt", "([BI)C"⟩
def RJ2 : String := "java/lang/StringUTF16"
def TJ2 : u_T := fun k => match k with
  | _ => ("", "", "", false)
def tyJ2 : Nat → FieldType := fun k => match k with
  | _ => .int
abbrev cJ2_getChar_3b067 : ByteArray := prog_13_method_5_code
def yJ2_getChar_3b067 : MethodName := ⟨RJ2, "getChar", "([BI)C"⟩
abbrev cJ2_length_9d52b : ByteArray := prog_13_method_6_code
def yJ2_length_9d52b : MethodName := ⟨RJ2, "length", "([B)I"⟩
abbrev cJ2_charAt_3b067 : ByteArray := prog_13_method_83_code
def yJ2_charAt_3b067 : MethodName := ⟨RJ2, "charAt", "([BI)C"⟩
abbrev cJ2_checkIndex_2214a : ByteArray := prog_13_method_91_code
def yJ2_checkIndex_2214a : MethodName := ⟨RJ2, "checkIndex", "(I[B)V"⟩
def RJ10 : String := "java/lang/System"
def TJ10 : u_T := fun k => match k with
  | _ => ("", "", "", false)
def tyJ10 : Nat → FieldType := fun k => match k with
  | _ => .int
def RJ3 : String := "jdk/internal/util/Preconditions"
def TJ3 : u_T := fun k => match k with
  | _ => ("", "", "", false)
def tyJ3 : Nat → FieldType := fun k => match k with
  | _ => .int
abbrev cJ3_checkIndex_8e157 : ByteArray := prog_15_method_11_code
def yJ3_checkIndex_8e157 : MethodName := ⟨RJ3, "checkIndex", "(IILjava/util/function/BiFunction;)I"⟩
def RL : String := "EndowBookLaw"
abbrev cL_law : ByteArray := code
def yL_law : MethodName := ⟨RL, "law", "([I)Z"⟩
abbrev vwCl : List vw_C := [(RX0, TX0, 9), (RX1, TX1, 10), (RX2, TX2, 6), (RX3, TX3, 6), (RX4, TX4, 4), (RX5, TX5, 5), (RX6, TX6, 13), (RX7, TX7, 40)]
