section
-- ===== PART A: goes FIRST, ahead of the names: the tables' words, and 'selects' of the private methods out of them =====
/-- a private method of a class that the tables say can be made, by its rows of tables_1 -/
def lw_okq (q : MethodName × Nat) : Prop := (q.1.cls ≠ "java/lang/invoke/MethodHandle" ∧ q.1.cls ≠ "java/lang/invoke/VarHandle") ∧ Cond.instantiable q.1.cls q.2 ∈ tables_1 ∧ Cond.privateMethod q.1 ∈ tables_1 ∧ Cond.instanceMethod q.1 ∈ tables_1
theorem lw_p0 : lw_okq (⟨"GlassTax", "error", "(I)I"⟩, 11) := ⟨⟨by decide +kernel, by decide +kernel⟩, List.mem_of_getElem? (i := 19) (by decide +kernel), List.mem_of_getElem? (i := 309) (by decide +kernel), List.mem_of_getElem? (i := 310) (by decide +kernel)⟩
theorem lw_p1 : lw_okq (⟨"GlassTax$Glass", "byTurn", "(I)I"⟩, 5) := ⟨⟨by decide +kernel, by decide +kernel⟩, List.mem_of_getElem? (i := 41) (by decide +kernel), List.mem_of_getElem? (i := 351) (by decide +kernel), List.mem_of_getElem? (i := 352) (by decide +kernel)⟩
theorem lw_p2 : lw_okq (⟨"GlassTax$Look", "enter", "(I)V"⟩, 5) := ⟨⟨by decide +kernel, by decide +kernel⟩, List.mem_of_getElem? (i := 163) (by decide +kernel), List.mem_of_getElem? (i := 407) (by decide +kernel), List.mem_of_getElem? (i := 408) (by decide +kernel)⟩
theorem lw_p3 : lw_okq (⟨"GlassTax$Look", "meet", "(I)V"⟩, 5) := ⟨⟨by decide +kernel, by decide +kernel⟩, List.mem_of_getElem? (i := 163) (by decide +kernel), List.mem_of_getElem? (i := 417) (by decide +kernel), List.mem_of_getElem? (i := 418) (by decide +kernel)⟩
theorem lw_p4 : lw_okq (⟨"GlassTax$Reader", "readPart", "(II)Z"⟩, 5) := ⟨⟨by decide +kernel, by decide +kernel⟩, List.mem_of_getElem? (i := 190) (by decide +kernel), List.mem_of_getElem? (i := 481) (by decide +kernel), List.mem_of_getElem? (i := 482) (by decide +kernel)⟩
theorem lw_p5 : lw_okq (⟨"GlassTax$Reader", "readUnit", "(I)Z"⟩, 5) := ⟨⟨by decide +kernel, by decide +kernel⟩, List.mem_of_getElem? (i := 190) (by decide +kernel), List.mem_of_getElem? (i := 485) (by decide +kernel), List.mem_of_getElem? (i := 486) (by decide +kernel)⟩
theorem lw_p6 : lw_okq (⟨"GlassTax$Reader", "signHere", "()I"⟩, 5) := ⟨⟨by decide +kernel, by decide +kernel⟩, List.mem_of_getElem? (i := 190) (by decide +kernel), List.mem_of_getElem? (i := 489) (by decide +kernel), List.mem_of_getElem? (i := 490) (by decide +kernel)⟩
theorem lw_p7 : lw_okq (⟨"GlassTax$Reader", "readNumber", "()V"⟩, 5) := ⟨⟨by decide +kernel, by decide +kernel⟩, List.mem_of_getElem? (i := 190) (by decide +kernel), List.mem_of_getElem? (i := 496) (by decide +kernel), List.mem_of_getElem? (i := 497) (by decide +kernel)⟩
theorem lw_p8 : lw_okq (⟨"GlassTax$Reader", "readOpen", "(II)Z"⟩, 5) := ⟨⟨by decide +kernel, by decide +kernel⟩, List.mem_of_getElem? (i := 190) (by decide +kernel), List.mem_of_getElem? (i := 504) (by decide +kernel), List.mem_of_getElem? (i := 505) (by decide +kernel)⟩
theorem lw_p9 : lw_okq (⟨"GlassTax$Reader", "readLevel", "(II)Z"⟩, 5) := ⟨⟨by decide +kernel, by decide +kernel⟩, List.mem_of_getElem? (i := 190) (by decide +kernel), List.mem_of_getElem? (i := 557) (by decide +kernel), List.mem_of_getElem? (i := 558) (by decide +kernel)⟩
theorem lw_p10 : lw_okq (⟨"GlassTax$Street", "countMeetings", "(LGlassTax$Look;)V"⟩, 12) := ⟨⟨by decide +kernel, by decide +kernel⟩, List.mem_of_getElem? (i := 27) (by decide +kernel), List.mem_of_getElem? (i := 591) (by decide +kernel), List.mem_of_getElem? (i := 592) (by decide +kernel)⟩
theorem lw_p11 : lw_okq (⟨"GlassTax$Street", "draw", "()I"⟩, 12) := ⟨⟨by decide +kernel, by decide +kernel⟩, List.mem_of_getElem? (i := 27) (by decide +kernel), List.mem_of_getElem? (i := 603) (by decide +kernel), List.mem_of_getElem? (i := 604) (by decide +kernel)⟩
theorem lw_p12 : lw_okq (⟨"GlassTax", "manyOrLeast", "(III)I"⟩, 11) := ⟨⟨by decide +kernel, by decide +kernel⟩, List.mem_of_getElem? (i := 19) (by decide +kernel), List.mem_of_getElem? (i := 656) (by decide +kernel), List.mem_of_getElem? (i := 657) (by decide +kernel)⟩
theorem lw_p13 : lw_okq (⟨"GlassTax", "fewestSpins", "(LGlassTax$Person;I)I"⟩, 11) := ⟨⟨by decide +kernel, by decide +kernel⟩, List.mem_of_getElem? (i := 19) (by decide +kernel), List.mem_of_getElem? (i := 664) (by decide +kernel), List.mem_of_getElem? (i := 665) (by decide +kernel)⟩
theorem lw_p14 : lw_okq (⟨"GlassTax", "isSeenByOneSpin", "(LGlassTax$Person;III)Z"⟩, 11) := ⟨⟨by decide +kernel, by decide +kernel⟩, List.mem_of_getElem? (i := 19) (by decide +kernel), List.mem_of_getElem? (i := 668) (by decide +kernel), List.mem_of_getElem? (i := 669) (by decide +kernel)⟩
theorem lw_p15 : lw_okq (⟨"GlassTax", "writeSpin", "(III)V"⟩, 11) := ⟨⟨by decide +kernel, by decide +kernel⟩, List.mem_of_getElem? (i := 19) (by decide +kernel), List.mem_of_getElem? (i := 672) (by decide +kernel), List.mem_of_getElem? (i := 673) (by decide +kernel)⟩
def lw_privs_1 : List (MethodName × Nat) := [(⟨"GlassTax", "error", "(I)I"⟩, 11), (⟨"GlassTax$Glass", "byTurn", "(I)I"⟩, 5), (⟨"GlassTax$Look", "enter", "(I)V"⟩, 5), (⟨"GlassTax$Look", "meet", "(I)V"⟩, 5), (⟨"GlassTax$Reader", "readPart", "(II)Z"⟩, 5), (⟨"GlassTax$Reader", "readUnit", "(I)Z"⟩, 5), (⟨"GlassTax$Reader", "signHere", "()I"⟩, 5), (⟨"GlassTax$Reader", "readNumber", "()V"⟩, 5), (⟨"GlassTax$Reader", "readOpen", "(II)Z"⟩, 5), (⟨"GlassTax$Reader", "readLevel", "(II)Z"⟩, 5), (⟨"GlassTax$Street", "countMeetings", "(LGlassTax$Look;)V"⟩, 12), (⟨"GlassTax$Street", "draw", "()I"⟩, 12), (⟨"GlassTax", "manyOrLeast", "(III)I"⟩, 11), (⟨"GlassTax", "fewestSpins", "(LGlassTax$Person;I)I"⟩, 11), (⟨"GlassTax", "isSeenByOneSpin", "(LGlassTax$Person;III)Z"⟩, 11), (⟨"GlassTax", "writeSpin", "(III)V"⟩, 11)]
theorem lw_r1 : ∀ q ∈ lw_privs_1, lw_okq q := List.forall_mem_cons.mpr ⟨lw_p0, List.forall_mem_cons.mpr ⟨lw_p1, List.forall_mem_cons.mpr ⟨lw_p2, List.forall_mem_cons.mpr ⟨lw_p3, List.forall_mem_cons.mpr ⟨lw_p4, List.forall_mem_cons.mpr ⟨lw_p5, List.forall_mem_cons.mpr ⟨lw_p6, List.forall_mem_cons.mpr ⟨lw_p7, List.forall_mem_cons.mpr ⟨lw_p8, List.forall_mem_cons.mpr ⟨lw_p9, List.forall_mem_cons.mpr ⟨lw_p10, List.forall_mem_cons.mpr ⟨lw_p11, List.forall_mem_cons.mpr ⟨lw_p12, List.forall_mem_cons.mpr ⟨lw_p13, List.forall_mem_cons.mpr ⟨lw_p14, List.forall_mem_cons.mpr ⟨lw_p15, fun _ h => absurd h List.not_mem_nil⟩⟩⟩⟩⟩⟩⟩⟩⟩⟩⟩⟩⟩⟩⟩⟩
theorem lw_p16 : lw_okq (⟨"GlassTax", "isSeenByTwoSpins", "(LGlassTax$Person;I)Z"⟩, 11) := ⟨⟨by decide +kernel, by decide +kernel⟩, List.mem_of_getElem? (i := 19) (by decide +kernel), List.mem_of_getElem? (i := 676) (by decide +kernel), List.mem_of_getElem? (i := 677) (by decide +kernel)⟩
theorem lw_p17 : lw_okq (⟨"GlassTax", "sheetOf", "(I)LGlassTax$Sheet;"⟩, 11) := ⟨⟨by decide +kernel, by decide +kernel⟩, List.mem_of_getElem? (i := 19) (by decide +kernel), List.mem_of_getElem? (i := 688) (by decide +kernel), List.mem_of_getElem? (i := 689) (by decide +kernel)⟩
theorem lw_p18 : lw_okq (⟨"GlassTax", "isLook", "(LGlassTax$Sheet;)Z"⟩, 11) := ⟨⟨by decide +kernel, by decide +kernel⟩, List.mem_of_getElem? (i := 19) (by decide +kernel), List.mem_of_getElem? (i := 692) (by decide +kernel), List.mem_of_getElem? (i := 693) (by decide +kernel)⟩
theorem lw_p19 : lw_okq (⟨"GlassTax$Voices", "say", "(IIII)I"⟩, 6) := ⟨⟨by decide +kernel, by decide +kernel⟩, List.mem_of_getElem? (i := 215) (by decide +kernel), List.mem_of_getElem? (i := 708) (by decide +kernel), List.mem_of_getElem? (i := 709) (by decide +kernel)⟩
theorem lw_p20 : lw_okq (⟨"GlassTax$Voices", "sayGlass", "(III)I"⟩, 6) := ⟨⟨by decide +kernel, by decide +kernel⟩, List.mem_of_getElem? (i := 215) (by decide +kernel), List.mem_of_getElem? (i := 718) (by decide +kernel), List.mem_of_getElem? (i := 719) (by decide +kernel)⟩
theorem lw_p21 : lw_okq (⟨"GlassTax$Voices", "saySpoon", "(III)I"⟩, 6) := ⟨⟨by decide +kernel, by decide +kernel⟩, List.mem_of_getElem? (i := 215) (by decide +kernel), List.mem_of_getElem? (i := 722) (by decide +kernel), List.mem_of_getElem? (i := 723) (by decide +kernel)⟩
theorem lw_p22 : lw_okq (⟨"GlassTax$Voices", "sayBowl", "(III)I"⟩, 6) := ⟨⟨by decide +kernel, by decide +kernel⟩, List.mem_of_getElem? (i := 215) (by decide +kernel), List.mem_of_getElem? (i := 726) (by decide +kernel), List.mem_of_getElem? (i := 727) (by decide +kernel)⟩
theorem lw_p23 : lw_okq (⟨"GlassTax$Voices", "saySilvered", "(III)I"⟩, 6) := ⟨⟨by decide +kernel, by decide +kernel⟩, List.mem_of_getElem? (i := 215) (by decide +kernel), List.mem_of_getElem? (i := 730) (by decide +kernel), List.mem_of_getElem? (i := 731) (by decide +kernel)⟩
theorem lw_p24 : lw_okq (⟨"GlassTax$Voices", "sayOnly", "(III)I"⟩, 6) := ⟨⟨by decide +kernel, by decide +kernel⟩, List.mem_of_getElem? (i := 215) (by decide +kernel), List.mem_of_getElem? (i := 734) (by decide +kernel), List.mem_of_getElem? (i := 735) (by decide +kernel)⟩
theorem lw_p25 : lw_okq (⟨"GlassTaxModel", "error", "(I)I"⟩, 27) := ⟨⟨by decide +kernel, by decide +kernel⟩, List.mem_of_getElem? (i := 812) (by decide +kernel), List.mem_of_getElem? (i := 917) (by decide +kernel), List.mem_of_getElem? (i := 918) (by decide +kernel)⟩
theorem lw_p26 : lw_okq (⟨"GlassTaxModel", "glassAt", "(I)I"⟩, 27) := ⟨⟨by decide +kernel, by decide +kernel⟩, List.mem_of_getElem? (i := 812) (by decide +kernel), List.mem_of_getElem? (i := 923) (by decide +kernel), List.mem_of_getElem? (i := 924) (by decide +kernel)⟩
theorem lw_p27 : lw_okq (⟨"GlassTaxModel", "of", "(II)I"⟩, 27) := ⟨⟨by decide +kernel, by decide +kernel⟩, List.mem_of_getElem? (i := 812) (by decide +kernel), List.mem_of_getElem? (i := 927) (by decide +kernel), List.mem_of_getElem? (i := 928) (by decide +kernel)⟩
theorem lw_p28 : lw_okq (⟨"GlassTaxModel", "isGlass", "(I)Z"⟩, 27) := ⟨⟨by decide +kernel, by decide +kernel⟩, List.mem_of_getElem? (i := 812) (by decide +kernel), List.mem_of_getElem? (i := 936) (by decide +kernel), List.mem_of_getElem? (i := 937) (by decide +kernel)⟩
theorem lw_p29 : lw_okq (⟨"GlassTaxModel", "onward", "(II)I"⟩, 27) := ⟨⟨by decide +kernel, by decide +kernel⟩, List.mem_of_getElem? (i := 812) (by decide +kernel), List.mem_of_getElem? (i := 944) (by decide +kernel), List.mem_of_getElem? (i := 945) (by decide +kernel)⟩
theorem lw_p30 : lw_okq (⟨"GlassTaxModel", "isNight", "()Z"⟩, 27) := ⟨⟨by decide +kernel, by decide +kernel⟩, List.mem_of_getElem? (i := 812) (by decide +kernel), List.mem_of_getElem? (i := 954) (by decide +kernel), List.mem_of_getElem? (i := 955) (by decide +kernel)⟩
theorem lw_p31 : lw_okq (⟨"GlassTaxModel", "becomes", "(II)I"⟩, 27) := ⟨⟨by decide +kernel, by decide +kernel⟩, List.mem_of_getElem? (i := 812) (by decide +kernel), List.mem_of_getElem? (i := 962) (by decide +kernel), List.mem_of_getElem? (i := 963) (by decide +kernel)⟩
def lw_privs_2 : List (MethodName × Nat) := [(⟨"GlassTax", "isSeenByTwoSpins", "(LGlassTax$Person;I)Z"⟩, 11), (⟨"GlassTax", "sheetOf", "(I)LGlassTax$Sheet;"⟩, 11), (⟨"GlassTax", "isLook", "(LGlassTax$Sheet;)Z"⟩, 11), (⟨"GlassTax$Voices", "say", "(IIII)I"⟩, 6), (⟨"GlassTax$Voices", "sayGlass", "(III)I"⟩, 6), (⟨"GlassTax$Voices", "saySpoon", "(III)I"⟩, 6), (⟨"GlassTax$Voices", "sayBowl", "(III)I"⟩, 6), (⟨"GlassTax$Voices", "saySilvered", "(III)I"⟩, 6), (⟨"GlassTax$Voices", "sayOnly", "(III)I"⟩, 6), (⟨"GlassTaxModel", "error", "(I)I"⟩, 27), (⟨"GlassTaxModel", "glassAt", "(I)I"⟩, 27), (⟨"GlassTaxModel", "of", "(II)I"⟩, 27), (⟨"GlassTaxModel", "isGlass", "(I)Z"⟩, 27), (⟨"GlassTaxModel", "onward", "(II)I"⟩, 27), (⟨"GlassTaxModel", "isNight", "()Z"⟩, 27), (⟨"GlassTaxModel", "becomes", "(II)I"⟩, 27)]
theorem lw_r2 : ∀ q ∈ lw_privs_2, lw_okq q := List.forall_mem_cons.mpr ⟨lw_p16, List.forall_mem_cons.mpr ⟨lw_p17, List.forall_mem_cons.mpr ⟨lw_p18, List.forall_mem_cons.mpr ⟨lw_p19, List.forall_mem_cons.mpr ⟨lw_p20, List.forall_mem_cons.mpr ⟨lw_p21, List.forall_mem_cons.mpr ⟨lw_p22, List.forall_mem_cons.mpr ⟨lw_p23, List.forall_mem_cons.mpr ⟨lw_p24, List.forall_mem_cons.mpr ⟨lw_p25, List.forall_mem_cons.mpr ⟨lw_p26, List.forall_mem_cons.mpr ⟨lw_p27, List.forall_mem_cons.mpr ⟨lw_p28, List.forall_mem_cons.mpr ⟨lw_p29, List.forall_mem_cons.mpr ⟨lw_p30, List.forall_mem_cons.mpr ⟨lw_p31, fun _ h => absurd h List.not_mem_nil⟩⟩⟩⟩⟩⟩⟩⟩⟩⟩⟩⟩⟩⟩⟩⟩
theorem lw_p32 : lw_okq (⟨"GlassTaxModel", "isPerson", "(I)Z"⟩, 27) := ⟨⟨by decide +kernel, by decide +kernel⟩, List.mem_of_getElem? (i := 812) (by decide +kernel), List.mem_of_getElem? (i := 987) (by decide +kernel), List.mem_of_getElem? (i := 988) (by decide +kernel)⟩
theorem lw_p33 : lw_okq (⟨"GlassTaxModel", "about", "(II)I"⟩, 27) := ⟨⟨by decide +kernel, by decide +kernel⟩, List.mem_of_getElem? (i := 812) (by decide +kernel), List.mem_of_getElem? (i := 991) (by decide +kernel), List.mem_of_getElem? (i := 992) (by decide +kernel)⟩
theorem lw_p34 : lw_okq (⟨"GlassTaxModel", "dueOf", "(I)I"⟩, 27) := ⟨⟨by decide +kernel, by decide +kernel⟩, List.mem_of_getElem? (i := 812) (by decide +kernel), List.mem_of_getElem? (i := 995) (by decide +kernel), List.mem_of_getElem? (i := 996) (by decide +kernel)⟩
theorem lw_p35 : lw_okq (⟨"GlassTaxModel", "looksOf", "(I)V"⟩, 27) := ⟨⟨by decide +kernel, by decide +kernel⟩, List.mem_of_getElem? (i := 812) (by decide +kernel), List.mem_of_getElem? (i := 999) (by decide +kernel), List.mem_of_getElem? (i := 1000) (by decide +kernel)⟩
theorem lw_p36 : lw_okq (⟨"GlassTaxModel", "looks", "(II)V"⟩, 27) := ⟨⟨by decide +kernel, by decide +kernel⟩, List.mem_of_getElem? (i := 812) (by decide +kernel), List.mem_of_getElem? (i := 1003) (by decide +kernel), List.mem_of_getElem? (i := 1004) (by decide +kernel)⟩
theorem lw_p37 : lw_okq (⟨"GlassTaxModel", "meet", "(II)I"⟩, 27) := ⟨⟨by decide +kernel, by decide +kernel⟩, List.mem_of_getElem? (i := 812) (by decide +kernel), List.mem_of_getElem? (i := 1010) (by decide +kernel), List.mem_of_getElem? (i := 1011) (by decide +kernel)⟩
theorem lw_p38 : lw_okq (⟨"GlassTaxModel", "gives", "(IIII)I"⟩, 27) := ⟨⟨by decide +kernel, by decide +kernel⟩, List.mem_of_getElem? (i := 812) (by decide +kernel), List.mem_of_getElem? (i := 1014) (by decide +kernel), List.mem_of_getElem? (i := 1015) (by decide +kernel)⟩
theorem lw_p39 : lw_okq (⟨"GlassTaxModel", "works", "(I)I"⟩, 27) := ⟨⟨by decide +kernel, by decide +kernel⟩, List.mem_of_getElem? (i := 812) (by decide +kernel), List.mem_of_getElem? (i := 1018) (by decide +kernel), List.mem_of_getElem? (i := 1019) (by decide +kernel)⟩
theorem lw_p40 : lw_okq (⟨"GlassTaxModel", "stands", "(III)I"⟩, 27) := ⟨⟨by decide +kernel, by decide +kernel⟩, List.mem_of_getElem? (i := 812) (by decide +kernel), List.mem_of_getElem? (i := 1032) (by decide +kernel), List.mem_of_getElem? (i := 1033) (by decide +kernel)⟩
theorem lw_p41 : lw_okq (⟨"GlassTaxModel", "any", "()V"⟩, 27) := ⟨⟨by decide +kernel, by decide +kernel⟩, List.mem_of_getElem? (i := 812) (by decide +kernel), List.mem_of_getElem? (i := 1054) (by decide +kernel), List.mem_of_getElem? (i := 1055) (by decide +kernel)⟩
theorem lw_p42 : lw_okq (⟨"GlassTaxModel", "all", "()V"⟩, 27) := ⟨⟨by decide +kernel, by decide +kernel⟩, List.mem_of_getElem? (i := 812) (by decide +kernel), List.mem_of_getElem? (i := 1058) (by decide +kernel), List.mem_of_getElem? (i := 1059) (by decide +kernel)⟩
theorem lw_p43 : lw_okq (⟨"GlassTaxModel", "compares", "()V"⟩, 27) := ⟨⟨by decide +kernel, by decide +kernel⟩, List.mem_of_getElem? (i := 812) (by decide +kernel), List.mem_of_getElem? (i := 1062) (by decide +kernel), List.mem_of_getElem? (i := 1063) (by decide +kernel)⟩
theorem lw_p44 : lw_okq (⟨"GlassTaxModel", "sum", "()V"⟩, 27) := ⟨⟨by decide +kernel, by decide +kernel⟩, List.mem_of_getElem? (i := 812) (by decide +kernel), List.mem_of_getElem? (i := 1066) (by decide +kernel), List.mem_of_getElem? (i := 1067) (by decide +kernel)⟩
theorem lw_p45 : lw_okq (⟨"GlassTaxModel", "times", "()V"⟩, 27) := ⟨⟨by decide +kernel, by decide +kernel⟩, List.mem_of_getElem? (i := 812) (by decide +kernel), List.mem_of_getElem? (i := 1070) (by decide +kernel), List.mem_of_getElem? (i := 1071) (by decide +kernel)⟩
theorem lw_p46 : lw_okq (⟨"GlassTaxModel", "one", "()V"⟩, 27) := ⟨⟨by decide +kernel, by decide +kernel⟩, List.mem_of_getElem? (i := 812) (by decide +kernel), List.mem_of_getElem? (i := 1074) (by decide +kernel), List.mem_of_getElem? (i := 1075) (by decide +kernel)⟩
theorem lw_p47 : lw_okq (⟨"GlassTaxModel", "byteHere", "()I"⟩, 27) := ⟨⟨by decide +kernel, by decide +kernel⟩, List.mem_of_getElem? (i := 812) (by decide +kernel), List.mem_of_getElem? (i := 1078) (by decide +kernel), List.mem_of_getElem? (i := 1079) (by decide +kernel)⟩
def lw_privs_3 : List (MethodName × Nat) := [(⟨"GlassTaxModel", "isPerson", "(I)Z"⟩, 27), (⟨"GlassTaxModel", "about", "(II)I"⟩, 27), (⟨"GlassTaxModel", "dueOf", "(I)I"⟩, 27), (⟨"GlassTaxModel", "looksOf", "(I)V"⟩, 27), (⟨"GlassTaxModel", "looks", "(II)V"⟩, 27), (⟨"GlassTaxModel", "meet", "(II)I"⟩, 27), (⟨"GlassTaxModel", "gives", "(IIII)I"⟩, 27), (⟨"GlassTaxModel", "works", "(I)I"⟩, 27), (⟨"GlassTaxModel", "stands", "(III)I"⟩, 27), (⟨"GlassTaxModel", "any", "()V"⟩, 27), (⟨"GlassTaxModel", "all", "()V"⟩, 27), (⟨"GlassTaxModel", "compares", "()V"⟩, 27), (⟨"GlassTaxModel", "sum", "()V"⟩, 27), (⟨"GlassTaxModel", "times", "()V"⟩, 27), (⟨"GlassTaxModel", "one", "()V"⟩, 27), (⟨"GlassTaxModel", "byteHere", "()I"⟩, 27)]
theorem lw_r3 : ∀ q ∈ lw_privs_3, lw_okq q := List.forall_mem_cons.mpr ⟨lw_p32, List.forall_mem_cons.mpr ⟨lw_p33, List.forall_mem_cons.mpr ⟨lw_p34, List.forall_mem_cons.mpr ⟨lw_p35, List.forall_mem_cons.mpr ⟨lw_p36, List.forall_mem_cons.mpr ⟨lw_p37, List.forall_mem_cons.mpr ⟨lw_p38, List.forall_mem_cons.mpr ⟨lw_p39, List.forall_mem_cons.mpr ⟨lw_p40, List.forall_mem_cons.mpr ⟨lw_p41, List.forall_mem_cons.mpr ⟨lw_p42, List.forall_mem_cons.mpr ⟨lw_p43, List.forall_mem_cons.mpr ⟨lw_p44, List.forall_mem_cons.mpr ⟨lw_p45, List.forall_mem_cons.mpr ⟨lw_p46, List.forall_mem_cons.mpr ⟨lw_p47, fun _ h => absurd h List.not_mem_nil⟩⟩⟩⟩⟩⟩⟩⟩⟩⟩⟩⟩⟩⟩⟩⟩
theorem lw_p48 : lw_okq (⟨"GlassTaxModel", "nameOf", "(I)I"⟩, 27) := ⟨⟨by decide +kernel, by decide +kernel⟩, List.mem_of_getElem? (i := 812) (by decide +kernel), List.mem_of_getElem? (i := 1082) (by decide +kernel), List.mem_of_getElem? (i := 1083) (by decide +kernel)⟩
theorem lw_p49 : lw_okq (⟨"GlassTaxModel", "step", "(II)V"⟩, 27) := ⟨⟨by decide +kernel, by decide +kernel⟩, List.mem_of_getElem? (i := 812) (by decide +kernel), List.mem_of_getElem? (i := 1086) (by decide +kernel), List.mem_of_getElem? (i := 1087) (by decide +kernel)⟩
theorem lw_p50 : lw_okq (⟨"GlassTaxModel", "opens", "(I)V"⟩, 27) := ⟨⟨by decide +kernel, by decide +kernel⟩, List.mem_of_getElem? (i := 812) (by decide +kernel), List.mem_of_getElem? (i := 1090) (by decide +kernel), List.mem_of_getElem? (i := 1091) (by decide +kernel)⟩
theorem lw_p51 : lw_okq (⟨"GlassTaxModel", "number", "()V"⟩, 27) := ⟨⟨by decide +kernel, by decide +kernel⟩, List.mem_of_getElem? (i := 812) (by decide +kernel), List.mem_of_getElem? (i := 1094) (by decide +kernel), List.mem_of_getElem? (i := 1095) (by decide +kernel)⟩
theorem lw_p52 : lw_okq (⟨"GlassTaxModel", "goes", "()V"⟩, 27) := ⟨⟨by decide +kernel, by decide +kernel⟩, List.mem_of_getElem? (i := 812) (by decide +kernel), List.mem_of_getElem? (i := 1110) (by decide +kernel), List.mem_of_getElem? (i := 1111) (by decide +kernel)⟩
theorem lw_p53 : lw_okq (⟨"GlassTaxModel", "drawn", "()V"⟩, 27) := ⟨⟨by decide +kernel, by decide +kernel⟩, List.mem_of_getElem? (i := 812) (by decide +kernel), List.mem_of_getElem? (i := 1118) (by decide +kernel), List.mem_of_getElem? (i := 1119) (by decide +kernel)⟩
theorem lw_p54 : lw_okq (⟨"GlassTaxModel", "draw", "()I"⟩, 27) := ⟨⟨by decide +kernel, by decide +kernel⟩, List.mem_of_getElem? (i := 812) (by decide +kernel), List.mem_of_getElem? (i := 1122) (by decide +kernel), List.mem_of_getElem? (i := 1123) (by decide +kernel)⟩
theorem lw_p55 : lw_okq (⟨"GlassTaxModel", "isSeen", "(I)Z"⟩, 27) := ⟨⟨by decide +kernel, by decide +kernel⟩, List.mem_of_getElem? (i := 812) (by decide +kernel), List.mem_of_getElem? (i := 1144) (by decide +kernel), List.mem_of_getElem? (i := 1145) (by decide +kernel)⟩
theorem lw_p56 : lw_okq (⟨"GlassTaxModel", "thinks", "()V"⟩, 27) := ⟨⟨by decide +kernel, by decide +kernel⟩, List.mem_of_getElem? (i := 812) (by decide +kernel), List.mem_of_getElem? (i := 1152) (by decide +kernel), List.mem_of_getElem? (i := 1153) (by decide +kernel)⟩
theorem lw_p57 : lw_okq (⟨"GlassTaxModel", "putsBack", "()V"⟩, 27) := ⟨⟨by decide +kernel, by decide +kernel⟩, List.mem_of_getElem? (i := 812) (by decide +kernel), List.mem_of_getElem? (i := 1159) (by decide +kernel), List.mem_of_getElem? (i := 1160) (by decide +kernel)⟩
theorem lw_p58 : lw_okq (⟨"GlassTaxModel", "canSee", "(IIII)Z"⟩, 27) := ⟨⟨by decide +kernel, by decide +kernel⟩, List.mem_of_getElem? (i := 812) (by decide +kernel), List.mem_of_getElem? (i := 1171) (by decide +kernel), List.mem_of_getElem? (i := 1172) (by decide +kernel)⟩
theorem lw_p59 : lw_okq (⟨"GlassTaxModel", "doesSee", "(II)Z"⟩, 27) := ⟨⟨by decide +kernel, by decide +kernel⟩, List.mem_of_getElem? (i := 812) (by decide +kernel), List.mem_of_getElem? (i := 1175) (by decide +kernel), List.mem_of_getElem? (i := 1176) (by decide +kernel)⟩
theorem lw_p60 : lw_okq (⟨"GlassTaxModel", "isSo", "(I)Z"⟩, 27) := ⟨⟨by decide +kernel, by decide +kernel⟩, List.mem_of_getElem? (i := 812) (by decide +kernel), List.mem_of_getElem? (i := 1190) (by decide +kernel), List.mem_of_getElem? (i := 1191) (by decide +kernel)⟩
theorem lw_p61 : lw_okq (⟨"GlassTaxModel", "gleams", "(II)I"⟩, 27) := ⟨⟨by decide +kernel, by decide +kernel⟩, List.mem_of_getElem? (i := 812) (by decide +kernel), List.mem_of_getElem? (i := 1198) (by decide +kernel), List.mem_of_getElem? (i := 1199) (by decide +kernel)⟩
theorem lw_p62 : lw_okq (⟨"GlassTaxModel", "spoonGleams", "(II)I"⟩, 27) := ⟨⟨by decide +kernel, by decide +kernel⟩, List.mem_of_getElem? (i := 812) (by decide +kernel), List.mem_of_getElem? (i := 1202) (by decide +kernel), List.mem_of_getElem? (i := 1203) (by decide +kernel)⟩
theorem lw_p63 : lw_okq (⟨"GlassTaxModel", "begins", "(I)V"⟩, 27) := ⟨⟨by decide +kernel, by decide +kernel⟩, List.mem_of_getElem? (i := 812) (by decide +kernel), List.mem_of_getElem? (i := 1206) (by decide +kernel), List.mem_of_getElem? (i := 1207) (by decide +kernel)⟩
def lw_privs_4 : List (MethodName × Nat) := [(⟨"GlassTaxModel", "nameOf", "(I)I"⟩, 27), (⟨"GlassTaxModel", "step", "(II)V"⟩, 27), (⟨"GlassTaxModel", "opens", "(I)V"⟩, 27), (⟨"GlassTaxModel", "number", "()V"⟩, 27), (⟨"GlassTaxModel", "goes", "()V"⟩, 27), (⟨"GlassTaxModel", "drawn", "()V"⟩, 27), (⟨"GlassTaxModel", "draw", "()I"⟩, 27), (⟨"GlassTaxModel", "isSeen", "(I)Z"⟩, 27), (⟨"GlassTaxModel", "thinks", "()V"⟩, 27), (⟨"GlassTaxModel", "putsBack", "()V"⟩, 27), (⟨"GlassTaxModel", "canSee", "(IIII)Z"⟩, 27), (⟨"GlassTaxModel", "doesSee", "(II)Z"⟩, 27), (⟨"GlassTaxModel", "isSo", "(I)Z"⟩, 27), (⟨"GlassTaxModel", "gleams", "(II)I"⟩, 27), (⟨"GlassTaxModel", "spoonGleams", "(II)I"⟩, 27), (⟨"GlassTaxModel", "begins", "(I)V"⟩, 27)]
theorem lw_r4 : ∀ q ∈ lw_privs_4, lw_okq q := List.forall_mem_cons.mpr ⟨lw_p48, List.forall_mem_cons.mpr ⟨lw_p49, List.forall_mem_cons.mpr ⟨lw_p50, List.forall_mem_cons.mpr ⟨lw_p51, List.forall_mem_cons.mpr ⟨lw_p52, List.forall_mem_cons.mpr ⟨lw_p53, List.forall_mem_cons.mpr ⟨lw_p54, List.forall_mem_cons.mpr ⟨lw_p55, List.forall_mem_cons.mpr ⟨lw_p56, List.forall_mem_cons.mpr ⟨lw_p57, List.forall_mem_cons.mpr ⟨lw_p58, List.forall_mem_cons.mpr ⟨lw_p59, List.forall_mem_cons.mpr ⟨lw_p60, List.forall_mem_cons.mpr ⟨lw_p61, List.forall_mem_cons.mpr ⟨lw_p62, List.forall_mem_cons.mpr ⟨lw_p63, fun _ h => absurd h List.not_mem_nil⟩⟩⟩⟩⟩⟩⟩⟩⟩⟩⟩⟩⟩⟩⟩⟩
theorem lw_p64 : lw_okq (⟨"GlassTaxModel", "plainGleams", "(II)I"⟩, 27) := ⟨⟨by decide +kernel, by decide +kernel⟩, List.mem_of_getElem? (i := 812) (by decide +kernel), List.mem_of_getElem? (i := 1210) (by decide +kernel), List.mem_of_getElem? (i := 1211) (by decide +kernel)⟩
theorem lw_p65 : lw_okq (⟨"GlassTaxModel", "glints", "(II)I"⟩, 27) := ⟨⟨by decide +kernel, by decide +kernel⟩, List.mem_of_getElem? (i := 812) (by decide +kernel), List.mem_of_getElem? (i := 1214) (by decide +kernel), List.mem_of_getElem? (i := 1215) (by decide +kernel)⟩
theorem lw_p66 : lw_okq (⟨"GlassTaxModel", "paneGlints", "(II)I"⟩, 27) := ⟨⟨by decide +kernel, by decide +kernel⟩, List.mem_of_getElem? (i := 812) (by decide +kernel), List.mem_of_getElem? (i := 1218) (by decide +kernel), List.mem_of_getElem? (i := 1219) (by decide +kernel)⟩
theorem lw_p67 : lw_okq (⟨"GlassTaxModel", "plainGlints", "(II)I"⟩, 27) := ⟨⟨by decide +kernel, by decide +kernel⟩, List.mem_of_getElem? (i := 812) (by decide +kernel), List.mem_of_getElem? (i := 1222) (by decide +kernel), List.mem_of_getElem? (i := 1223) (by decide +kernel)⟩
theorem lw_p68 : lw_okq (⟨"GlassTaxModel", "fades", "(II)I"⟩, 27) := ⟨⟨by decide +kernel, by decide +kernel⟩, List.mem_of_getElem? (i := 812) (by decide +kernel), List.mem_of_getElem? (i := 1226) (by decide +kernel), List.mem_of_getElem? (i := 1227) (by decide +kernel)⟩
theorem lw_p69 : lw_okq (⟨"GlassTaxModel", "plainFades", "(II)I"⟩, 27) := ⟨⟨by decide +kernel, by decide +kernel⟩, List.mem_of_getElem? (i := 812) (by decide +kernel), List.mem_of_getElem? (i := 1230) (by decide +kernel), List.mem_of_getElem? (i := 1231) (by decide +kernel)⟩
theorem lw_p70 : lw_okq (⟨"GlassTaxModel", "parts", "(II)I"⟩, 27) := ⟨⟨by decide +kernel, by decide +kernel⟩, List.mem_of_getElem? (i := 812) (by decide +kernel), List.mem_of_getElem? (i := 1234) (by decide +kernel), List.mem_of_getElem? (i := 1235) (by decide +kernel)⟩
theorem lw_p71 : lw_okq (⟨"GlassTaxModel", "plainParts", "(II)I"⟩, 27) := ⟨⟨by decide +kernel, by decide +kernel⟩, List.mem_of_getElem? (i := 812) (by decide +kernel), List.mem_of_getElem? (i := 1238) (by decide +kernel), List.mem_of_getElem? (i := 1239) (by decide +kernel)⟩
theorem lw_p72 : lw_okq (⟨"GlassTaxModel", "notThere", "(I)I"⟩, 27) := ⟨⟨by decide +kernel, by decide +kernel⟩, List.mem_of_getElem? (i := 812) (by decide +kernel), List.mem_of_getElem? (i := 1255) (by decide +kernel), List.mem_of_getElem? (i := 1256) (by decide +kernel)⟩
theorem lw_p73 : lw_okq (⟨"GlassTaxModel", "notMoved", "(IIIII)I"⟩, 27) := ⟨⟨by decide +kernel, by decide +kernel⟩, List.mem_of_getElem? (i := 812) (by decide +kernel), List.mem_of_getElem? (i := 1263) (by decide +kernel), List.mem_of_getElem? (i := 1264) (by decide +kernel)⟩
def lw_privs_5 : List (MethodName × Nat) := [(⟨"GlassTaxModel", "plainGleams", "(II)I"⟩, 27), (⟨"GlassTaxModel", "glints", "(II)I"⟩, 27), (⟨"GlassTaxModel", "paneGlints", "(II)I"⟩, 27), (⟨"GlassTaxModel", "plainGlints", "(II)I"⟩, 27), (⟨"GlassTaxModel", "fades", "(II)I"⟩, 27), (⟨"GlassTaxModel", "plainFades", "(II)I"⟩, 27), (⟨"GlassTaxModel", "parts", "(II)I"⟩, 27), (⟨"GlassTaxModel", "plainParts", "(II)I"⟩, 27), (⟨"GlassTaxModel", "notThere", "(I)I"⟩, 27), (⟨"GlassTaxModel", "notMoved", "(IIIII)I"⟩, 27)]
theorem lw_r5 : ∀ q ∈ lw_privs_5, lw_okq q := List.forall_mem_cons.mpr ⟨lw_p64, List.forall_mem_cons.mpr ⟨lw_p65, List.forall_mem_cons.mpr ⟨lw_p66, List.forall_mem_cons.mpr ⟨lw_p67, List.forall_mem_cons.mpr ⟨lw_p68, List.forall_mem_cons.mpr ⟨lw_p69, List.forall_mem_cons.mpr ⟨lw_p70, List.forall_mem_cons.mpr ⟨lw_p71, List.forall_mem_cons.mpr ⟨lw_p72, List.forall_mem_cons.mpr ⟨lw_p73, fun _ h => absurd h List.not_mem_nil⟩⟩⟩⟩⟩⟩⟩⟩⟩⟩
def lw_privs : List (MethodName × Nat) := lw_privs_1 ++ (lw_privs_2 ++ (lw_privs_3 ++ (lw_privs_4 ++ (lw_privs_5))))
def lw_tbl : List Cond := k2_sels lw_privs ++ tables_1
theorem lw_privs_ok : ∀ q ∈ lw_privs, lw_okq q := by
  show ∀ q ∈ lw_privs_1 ++ (lw_privs_2 ++ (lw_privs_3 ++ (lw_privs_4 ++ (lw_privs_5)))), lw_okq q
  exact List.forall_mem_append.mpr ⟨lw_r1, List.forall_mem_append.mpr ⟨lw_r2, List.forall_mem_append.mpr ⟨lw_r3, List.forall_mem_append.mpr ⟨lw_r4, lw_r5⟩⟩⟩⟩
-- ===== end of PART A; then your names; then what follows =====
end
section
def lw_gd : List Cond := lw_tbl.filter goodWord
theorem zwd {w : Cond} (i : Nat) (h : tables_1[i]? = some w) (hg : goodWord w = true) : w ∈ lw_gd := List.mem_filter.mpr ⟨List.mem_append_right _ (List.mem_of_getElem? h), hg⟩
theorem zws {w : Cond} (i : Nat) (h : (k2_sels lw_privs)[i]? = some w) (hg : goodWord w = true) : w ∈ lw_gd := List.mem_filter.mpr ⟨List.mem_append_left _ (List.mem_of_getElem? h), hg⟩
theorem lw_gdIn : GoodIn lw_gd lw_gd := fun w hw => ⟨hw, good_of_word (List.mem_filter.mp hw).2⟩
/-! names: classes, fields, methods (printed by wip/whole/gen/emit_names.py out of the Statement) -/
def R0 : String := "GlassTax$Glass"
def T0 : u_T := fun k => match k with
  | 0 => ("GlassTax$Glass", "kind", "I", false)
  | 1 => ("GlassTax$Glass", "m", "I", false)
  | 2 => ("GlassTax$Glass", "cell", "I", false)
  | 3 => ("GlassTax$Glass", "turn", "I", false)
  | _ => ("GlassTax$Glass", "seen", "I", false)
def ty0 : Nat → FieldType := fun k => match k with
  | 0 => .int
  | 1 => .int
  | 2 => .int
  | 3 => .int
  | _ => .int
theorem nm0 : ∀ a, a < 5 → ∀ b, b < 5 → a ≠ b → (T0 a).2.1 ≠ (T0 b).2.1 := by decide +kernel
theorem ty0_ok : ∀ k, k < 5 → parseFieldDescriptor (T0 k).2.2.1 = some (ty0 k) := by decide +kernel
theorem hu0_0 : u_lay R0 T0 0 ∈ lw_gd := zwd 63 (by decide +kernel) (by decide +kernel)
theorem hu0_1 : u_lay R0 T0 1 ∈ lw_gd := zwd 65 (by decide +kernel) (by decide +kernel)
theorem hu0_2 : u_lay R0 T0 2 ∈ lw_gd := zwd 67 (by decide +kernel) (by decide +kernel)
theorem hu0_3 : u_lay R0 T0 3 ∈ lw_gd := zwd 69 (by decide +kernel) (by decide +kernel)
theorem hu0_4 : u_lay R0 T0 4 ∈ lw_gd := zwd 71 (by decide +kernel) (by decide +kernel)
theorem hu0 : ∀ w ∈ u_ws R0 T0 5, w ∈ lw_gd := by
  intro w hw
  obtain ⟨k, hk, rfl⟩ := List.mem_map.mp hw
  have hk := List.mem_range.mp hk
  match k, hk with
  | 0, _ => exact hu0_0
  | 1, _ => exact hu0_1
  | 2, _ => exact hu0_2
  | 3, _ => exact hu0_3
  | 4, _ => exact hu0_4
  | k + 5, h => exact absurd h (by omega)
def R1 : String := "GlassTax$Look"
def T1 : u_T := fun k => match k with
  | 0 => ("GlassTax$Look", "cells", "[I", true)
  | 1 => ("GlassTax$Look", "met", "[I", true)
  | 2 => ("GlassTax$Look", "length", "I", false)
  | 3 => ("GlassTax$Look", "meetings", "I", false)
  | _ => ("GlassTax$Look", "isEver", "Z", false)
def ty1 : Nat → FieldType := fun k => match k with
  | 0 => .array .int
  | 1 => .array .int
  | 2 => .int
  | 3 => .int
  | _ => .boolean
theorem nm1 : ∀ a, a < 5 → ∀ b, b < 5 → a ≠ b → (T1 a).2.1 ≠ (T1 b).2.1 := by decide +kernel
theorem ty1_ok : ∀ k, k < 5 → parseFieldDescriptor (T1 k).2.2.1 = some (ty1 k) := by decide +kernel
theorem hu1_0 : u_lay R1 T1 0 ∈ lw_gd := zwd 178 (by decide +kernel) (by decide +kernel)
theorem hu1_1 : u_lay R1 T1 1 ∈ lw_gd := zwd 180 (by decide +kernel) (by decide +kernel)
theorem hu1_2 : u_lay R1 T1 2 ∈ lw_gd := zwd 182 (by decide +kernel) (by decide +kernel)
theorem hu1_3 : u_lay R1 T1 3 ∈ lw_gd := zwd 184 (by decide +kernel) (by decide +kernel)
theorem hu1_4 : u_lay R1 T1 4 ∈ lw_gd := zwd 186 (by decide +kernel) (by decide +kernel)
theorem hu1 : ∀ w ∈ u_ws R1 T1 5, w ∈ lw_gd := by
  intro w hw
  obtain ⟨k, hk, rfl⟩ := List.mem_map.mp hw
  have hk := List.mem_range.mp hk
  match k, hk with
  | 0, _ => exact hu1_0
  | 1, _ => exact hu1_1
  | 2, _ => exact hu1_2
  | 3, _ => exact hu1_3
  | 4, _ => exact hu1_4
  | k + 5, h => exact absurd h (by omega)
def R2 : String := "GlassTax$Person"
def T2 : u_T := fun k => match k with
  | 0 => ("GlassTax$Person", "cell", "I", false)
  | 1 => ("GlassTax$Person", "way", "I", false)
  | _ => ("GlassTax$Person", "owes", "I", false)
def ty2 : Nat → FieldType := fun k => match k with
  | 0 => .int
  | 1 => .int
  | _ => .int
theorem nm2 : ∀ a, a < 3 → ∀ b, b < 3 → a ≠ b → (T2 a).2.1 ≠ (T2 b).2.1 := by decide +kernel
theorem ty2_ok : ∀ k, k < 3 → parseFieldDescriptor (T2 k).2.2.1 = some (ty2 k) := by decide +kernel
theorem hu2_0 : u_lay R2 T2 0 ∈ lw_gd := zwd 89 (by decide +kernel) (by decide +kernel)
theorem hu2_1 : u_lay R2 T2 1 ∈ lw_gd := zwd 91 (by decide +kernel) (by decide +kernel)
theorem hu2_2 : u_lay R2 T2 2 ∈ lw_gd := zwd 93 (by decide +kernel) (by decide +kernel)
theorem hu2 : ∀ w ∈ u_ws R2 T2 3, w ∈ lw_gd := by
  intro w hw
  obtain ⟨k, hk, rfl⟩ := List.mem_map.mp hw
  have hk := List.mem_range.mp hk
  match k, hk with
  | 0, _ => exact hu2_0
  | 1, _ => exact hu2_1
  | 2, _ => exact hu2_2
  | k + 3, h => exact absurd h (by omega)
def R3 : String := "GlassTax$Reader"
def T3 : u_T := fun k => match k with
  | 0 => ("GlassTax$Reader", "draft", "LGlassTax$Text;", true)
  | 1 => ("GlassTax$Reader", "tape", "[I", false)
  | 2 => ("GlassTax$Reader", "length", "I", false)
  | 3 => ("GlassTax$Reader", "place", "I", false)
  | _ => ("GlassTax$Reader", "use", "I", false)
def ty3 : Nat → FieldType := fun k => match k with
  | 0 => .object "GlassTax$Text"
  | 1 => .array .int
  | 2 => .int
  | 3 => .int
  | _ => .int
theorem nm3 : ∀ a, a < 5 → ∀ b, b < 5 → a ≠ b → (T3 a).2.1 ≠ (T3 b).2.1 := by decide +kernel
theorem ty3_ok : ∀ k, k < 5 → parseFieldDescriptor (T3 k).2.2.1 = some (ty3 k) := by decide +kernel
theorem hu3_0 : u_lay R3 T3 0 ∈ lw_gd := zwd 203 (by decide +kernel) (by decide +kernel)
theorem hu3_1 : u_lay R3 T3 1 ∈ lw_gd := zwd 205 (by decide +kernel) (by decide +kernel)
theorem hu3_2 : u_lay R3 T3 2 ∈ lw_gd := zwd 207 (by decide +kernel) (by decide +kernel)
theorem hu3_3 : u_lay R3 T3 3 ∈ lw_gd := zwd 209 (by decide +kernel) (by decide +kernel)
theorem hu3_4 : u_lay R3 T3 4 ∈ lw_gd := zwd 211 (by decide +kernel) (by decide +kernel)
theorem hu3 : ∀ w ∈ u_ws R3 T3 5, w ∈ lw_gd := by
  intro w hw
  obtain ⟨k, hk, rfl⟩ := List.mem_map.mp hw
  have hk := List.mem_range.mp hk
  match k, hk with
  | 0, _ => exact hu3_0
  | 1, _ => exact hu3_1
  | 2, _ => exact hu3_2
  | 3, _ => exact hu3_3
  | 4, _ => exact hu3_4
  | k + 5, h => exact absurd h (by omega)
def R4 : String := "GlassTax$Sheet"
def T4 : u_T := fun k => match k with
  | 0 => ("GlassTax$Sheet", "numbers", "[I", true)
  | 1 => ("GlassTax$Sheet", "bits", "I", false)
  | _ => ("GlassTax$Sheet", "length", "I", false)
def ty4 : Nat → FieldType := fun k => match k with
  | 0 => .array .int
  | 1 => .int
  | _ => .int
theorem nm4 : ∀ a, a < 3 → ∀ b, b < 3 → a ≠ b → (T4 a).2.1 ≠ (T4 b).2.1 := by decide +kernel
theorem ty4_ok : ∀ k, k < 3 → parseFieldDescriptor (T4 k).2.2.1 = some (ty4 k) := by decide +kernel
theorem hu4_0 : u_lay R4 T4 0 ∈ lw_gd := zwd 254 (by decide +kernel) (by decide +kernel)
theorem hu4_1 : u_lay R4 T4 1 ∈ lw_gd := zwd 256 (by decide +kernel) (by decide +kernel)
theorem hu4_2 : u_lay R4 T4 2 ∈ lw_gd := zwd 258 (by decide +kernel) (by decide +kernel)
theorem hu4 : ∀ w ∈ u_ws R4 T4 3, w ∈ lw_gd := by
  intro w hw
  obtain ⟨k, hk, rfl⟩ := List.mem_map.mp hw
  have hk := List.mem_range.mp hk
  match k, hk with
  | 0, _ => exact hu4_0
  | 1, _ => exact hu4_1
  | 2, _ => exact hu4_2
  | k + 3, h => exact absurd h (by omega)
def R5 : String := "GlassTax$Street"
def T5 : u_T := fun k => match k with
  | 0 => ("GlassTax$Street", "glasses", "[LGlassTax$Glass;", true)
  | 1 => ("GlassTax$Street", "people", "[LGlassTax$Person;", true)
  | 2 => ("GlassTax$Street", "texts", "[LGlassTax$Text;", true)
  | 3 => ("GlassTax$Street", "glassIn", "[I", true)
  | 4 => ("GlassTax$Street", "tape", "[I", true)
  | 5 => ("GlassTax$Street", "waiting", "[I", true)
  | 6 => ("GlassTax$Street", "glassCount", "I", false)
  | 7 => ("GlassTax$Street", "peopleCount", "I", false)
  | 8 => ("GlassTax$Street", "taped", "I", false)
  | 9 => ("GlassTax$Street", "waits", "I", false)
  | 10 => ("GlassTax$Street", "hour", "I", false)
  | _ => ("GlassTax$Street", "z", "I", false)
def ty5 : Nat → FieldType := fun k => match k with
  | 0 => .array (.object "GlassTax$Glass")
  | 1 => .array (.object "GlassTax$Person")
  | 2 => .array (.object "GlassTax$Text")
  | 3 => .array .int
  | 4 => .array .int
  | 5 => .array .int
  | 6 => .int
  | 7 => .int
  | 8 => .int
  | 9 => .int
  | 10 => .int
  | _ => .int
theorem nm5 : ∀ a, a < 12 → ∀ b, b < 12 → a ≠ b → (T5 a).2.1 ≠ (T5 b).2.1 := by decide +kernel
theorem ty5_ok : ∀ k, k < 12 → parseFieldDescriptor (T5 k).2.2.1 = some (ty5 k) := by decide +kernel
theorem hu5_0 : u_lay R5 T5 0 ∈ lw_gd := zwd 137 (by decide +kernel) (by decide +kernel)
theorem hu5_1 : u_lay R5 T5 1 ∈ lw_gd := zwd 139 (by decide +kernel) (by decide +kernel)
theorem hu5_2 : u_lay R5 T5 2 ∈ lw_gd := zwd 141 (by decide +kernel) (by decide +kernel)
theorem hu5_3 : u_lay R5 T5 3 ∈ lw_gd := zwd 143 (by decide +kernel) (by decide +kernel)
theorem hu5_4 : u_lay R5 T5 4 ∈ lw_gd := zwd 145 (by decide +kernel) (by decide +kernel)
theorem hu5_5 : u_lay R5 T5 5 ∈ lw_gd := zwd 147 (by decide +kernel) (by decide +kernel)
theorem hu5_6 : u_lay R5 T5 6 ∈ lw_gd := zwd 149 (by decide +kernel) (by decide +kernel)
theorem hu5_7 : u_lay R5 T5 7 ∈ lw_gd := zwd 151 (by decide +kernel) (by decide +kernel)
theorem hu5_8 : u_lay R5 T5 8 ∈ lw_gd := zwd 153 (by decide +kernel) (by decide +kernel)
theorem hu5_9 : u_lay R5 T5 9 ∈ lw_gd := zwd 155 (by decide +kernel) (by decide +kernel)
theorem hu5_10 : u_lay R5 T5 10 ∈ lw_gd := zwd 157 (by decide +kernel) (by decide +kernel)
theorem hu5_11 : u_lay R5 T5 11 ∈ lw_gd := zwd 159 (by decide +kernel) (by decide +kernel)
theorem hu5 : ∀ w ∈ u_ws R5 T5 12, w ∈ lw_gd := by
  intro w hw
  obtain ⟨k, hk, rfl⟩ := List.mem_map.mp hw
  have hk := List.mem_range.mp hk
  match k, hk with
  | 0, _ => exact hu5_0
  | 1, _ => exact hu5_1
  | 2, _ => exact hu5_2
  | 3, _ => exact hu5_3
  | 4, _ => exact hu5_4
  | 5, _ => exact hu5_5
  | 6, _ => exact hu5_6
  | 7, _ => exact hu5_7
  | 8, _ => exact hu5_8
  | 9, _ => exact hu5_9
  | 10, _ => exact hu5_10
  | 11, _ => exact hu5_11
  | k + 12, h => exact absurd h (by omega)
def R6 : String := "GlassTax$Text"
def T6 : u_T := fun k => match k with
  | 0 => ("GlassTax$Text", "steps", "[I", true)
  | 1 => ("GlassTax$Text", "stack", "[I", true)
  | 2 => ("GlassTax$Text", "length", "I", false)
  | _ => ("GlassTax$Text", "isThere", "Z", false)
def ty6 : Nat → FieldType := fun k => match k with
  | 0 => .array .int
  | 1 => .array .int
  | 2 => .int
  | _ => .boolean
theorem nm6 : ∀ a, a < 4 → ∀ b, b < 4 → a ≠ b → (T6 a).2.1 ≠ (T6 b).2.1 := by decide +kernel
theorem ty6_ok : ∀ k, k < 4 → parseFieldDescriptor (T6 k).2.2.1 = some (ty6 k) := by decide +kernel
theorem hu6_0 : u_lay R6 T6 0 ∈ lw_gd := zwd 109 (by decide +kernel) (by decide +kernel)
theorem hu6_1 : u_lay R6 T6 1 ∈ lw_gd := zwd 111 (by decide +kernel) (by decide +kernel)
theorem hu6_2 : u_lay R6 T6 2 ∈ lw_gd := zwd 113 (by decide +kernel) (by decide +kernel)
theorem hu6_3 : u_lay R6 T6 3 ∈ lw_gd := zwd 115 (by decide +kernel) (by decide +kernel)
theorem hu6 : ∀ w ∈ u_ws R6 T6 4, w ∈ lw_gd := by
  intro w hw
  obtain ⟨k, hk, rfl⟩ := List.mem_map.mp hw
  have hk := List.mem_range.mp hk
  match k, hk with
  | 0, _ => exact hu6_0
  | 1, _ => exact hu6_1
  | 2, _ => exact hu6_2
  | 3, _ => exact hu6_3
  | k + 4, h => exact absurd h (by omega)
def R7 : String := "GlassTax$Voices"
def T7 : u_T := fun k => match k with
  | 0 => ("GlassTax$Voices", "trace", "[I", true)
  | 1 => ("GlassTax$Voices", "traced", "I", false)
  | 2 => ("GlassTax$Voices", "isParted", "Z", false)
  | 3 => ("GlassTax$Voices", "kind", "I", false)
  | 4 => ("GlassTax$Voices", "number", "I", false)
  | _ => ("GlassTax$Voices", "m", "I", false)
def ty7 : Nat → FieldType := fun k => match k with
  | 0 => .array .int
  | 1 => .int
  | 2 => .boolean
  | 3 => .int
  | 4 => .int
  | _ => .int
theorem nm7 : ∀ a, a < 6 → ∀ b, b < 6 → a ≠ b → (T7 a).2.1 ≠ (T7 b).2.1 := by decide +kernel
theorem ty7_ok : ∀ k, k < 6 → parseFieldDescriptor (T7 k).2.2.1 = some (ty7 k) := by decide +kernel
theorem hu7_0 : u_lay R7 T7 0 ∈ lw_gd := zwd 228 (by decide +kernel) (by decide +kernel)
theorem hu7_1 : u_lay R7 T7 1 ∈ lw_gd := zwd 230 (by decide +kernel) (by decide +kernel)
theorem hu7_2 : u_lay R7 T7 2 ∈ lw_gd := zwd 232 (by decide +kernel) (by decide +kernel)
theorem hu7_3 : u_lay R7 T7 3 ∈ lw_gd := zwd 234 (by decide +kernel) (by decide +kernel)
theorem hu7_4 : u_lay R7 T7 4 ∈ lw_gd := zwd 236 (by decide +kernel) (by decide +kernel)
theorem hu7_5 : u_lay R7 T7 5 ∈ lw_gd := zwd 238 (by decide +kernel) (by decide +kernel)
theorem hu7 : ∀ w ∈ u_ws R7 T7 6, w ∈ lw_gd := by
  intro w hw
  obtain ⟨k, hk, rfl⟩ := List.mem_map.mp hw
  have hk := List.mem_range.mp hk
  match k, hk with
  | 0, _ => exact hu7_0
  | 1, _ => exact hu7_1
  | 2, _ => exact hu7_2
  | 3, _ => exact hu7_3
  | 4, _ => exact hu7_4
  | 5, _ => exact hu7_5
  | k + 6, h => exact absurd h (by omega)
def R8 : String := "GlassTax"
def T8 : u_T := fun k => match k with
  | 0 => ("GlassTax", "now", "LGlassTax$Street;", true)
  | 1 => ("GlassTax", "kept", "LGlassTax$Street;", true)
  | 2 => ("GlassTax", "thought", "LGlassTax$Street;", true)
  | 3 => ("GlassTax", "gaze", "LGlassTax$Look;", true)
  | 4 => ("GlassTax", "reader", "LGlassTax$Reader;", true)
  | 5 => ("GlassTax", "voices", "LGlassTax$Voices;", true)
  | 6 => ("GlassTax", "sheets", "[LGlassTax$Sheet;", true)
  | 7 => ("GlassTax", "spinRow", "[I", true)
  | 8 => ("GlassTax", "errors", "[I", true)
  | 9 => ("GlassTax", "hasImage", "Z", false)
  | _ => ("GlassTax", "images", "I", false)
def ty8 : Nat → FieldType := fun k => match k with
  | 0 => .object "GlassTax$Street"
  | 1 => .object "GlassTax$Street"
  | 2 => .object "GlassTax$Street"
  | 3 => .object "GlassTax$Look"
  | 4 => .object "GlassTax$Reader"
  | 5 => .object "GlassTax$Voices"
  | 6 => .array (.object "GlassTax$Sheet")
  | 7 => .array .int
  | 8 => .array .int
  | 9 => .boolean
  | _ => .int
theorem nm8 : ∀ a, a < 11 → ∀ b, b < 11 → a ≠ b → (T8 a).2.1 ≠ (T8 b).2.1 := by decide +kernel
theorem ty8_ok : ∀ k, k < 11 → parseFieldDescriptor (T8 k).2.2.1 = some (ty8 k) := by decide +kernel
theorem hu8_0 : u_lay R8 T8 0 ∈ lw_gd := zwd 272 (by decide +kernel) (by decide +kernel)
theorem hu8_1 : u_lay R8 T8 1 ∈ lw_gd := zwd 274 (by decide +kernel) (by decide +kernel)
theorem hu8_2 : u_lay R8 T8 2 ∈ lw_gd := zwd 276 (by decide +kernel) (by decide +kernel)
theorem hu8_3 : u_lay R8 T8 3 ∈ lw_gd := zwd 278 (by decide +kernel) (by decide +kernel)
theorem hu8_4 : u_lay R8 T8 4 ∈ lw_gd := zwd 280 (by decide +kernel) (by decide +kernel)
theorem hu8_5 : u_lay R8 T8 5 ∈ lw_gd := zwd 282 (by decide +kernel) (by decide +kernel)
theorem hu8_6 : u_lay R8 T8 6 ∈ lw_gd := zwd 284 (by decide +kernel) (by decide +kernel)
theorem hu8_7 : u_lay R8 T8 7 ∈ lw_gd := zwd 286 (by decide +kernel) (by decide +kernel)
theorem hu8_8 : u_lay R8 T8 8 ∈ lw_gd := zwd 288 (by decide +kernel) (by decide +kernel)
theorem hu8_9 : u_lay R8 T8 9 ∈ lw_gd := zwd 290 (by decide +kernel) (by decide +kernel)
theorem hu8_10 : u_lay R8 T8 10 ∈ lw_gd := zwd 292 (by decide +kernel) (by decide +kernel)
theorem hu8 : ∀ w ∈ u_ws R8 T8 11, w ∈ lw_gd := by
  intro w hw
  obtain ⟨k, hk, rfl⟩ := List.mem_map.mp hw
  have hk := List.mem_range.mp hk
  match k, hk with
  | 0, _ => exact hu8_0
  | 1, _ => exact hu8_1
  | 2, _ => exact hu8_2
  | 3, _ => exact hu8_3
  | 4, _ => exact hu8_4
  | 5, _ => exact hu8_5
  | 6, _ => exact hu8_6
  | 7, _ => exact hu8_7
  | 8, _ => exact hu8_8
  | 9, _ => exact hu8_9
  | 10, _ => exact hu8_10
  | k + 11, h => exact absurd h (by omega)
def R9 : String := "GlassTaxModel"
def T9 : u_T := fun k => match k with
  | 0 => ("GlassTaxModel", "row", "[I", true)
  | 1 => ("GlassTaxModel", "kept", "[I", true)
  | 2 => ("GlassTaxModel", "before", "[I", true)
  | 3 => ("GlassTaxModel", "images", "I", false)
  | 4 => ("GlassTaxModel", "errors", "[I", true)
  | 5 => ("GlassTaxModel", "bitsOf", "[I", true)
  | 6 => ("GlassTaxModel", "sizeOf", "[I", true)
  | 7 => ("GlassTaxModel", "cells", "[I", true)
  | 8 => ("GlassTaxModel", "path", "[I", true)
  | 9 => ("GlassTaxModel", "many", "I", false)
  | 10 => ("GlassTaxModel", "meets", "I", false)
  | 11 => ("GlassTaxModel", "met", "[I", true)
  | 12 => ("GlassTaxModel", "tax", "I", false)
  | 13 => ("GlassTaxModel", "isEver", "Z", false)
  | 14 => ("GlassTaxModel", "act", "[I", true)
  | 15 => ("GlassTaxModel", "with", "[I", true)
  | 16 => ("GlassTaxModel", "facts", "[I", true)
  | 17 => ("GlassTaxModel", "pile", "[I", true)
  | 18 => ("GlassTaxModel", "laid", "I", false)
  | 19 => ("GlassTaxModel", "here", "I", false)
  | 20 => ("GlassTaxModel", "opened", "I", false)
  | 21 => ("GlassTaxModel", "bad", "Z", false)
  | 22 => ("GlassTaxModel", "using", "I", false)
  | 23 => ("GlassTaxModel", "spun", "[I", true)
  | 24 => ("GlassTaxModel", "trace", "[I", true)
  | 25 => ("GlassTaxModel", "traced", "I", false)
  | _ => ("GlassTaxModel", "isParted", "Z", false)
def ty9 : Nat → FieldType := fun k => match k with
  | 0 => .array .int
  | 1 => .array .int
  | 2 => .array .int
  | 3 => .int
  | 4 => .array .int
  | 5 => .array .int
  | 6 => .array .int
  | 7 => .array .int
  | 8 => .array .int
  | 9 => .int
  | 10 => .int
  | 11 => .array .int
  | 12 => .int
  | 13 => .boolean
  | 14 => .array .int
  | 15 => .array .int
  | 16 => .array .int
  | 17 => .array .int
  | 18 => .int
  | 19 => .int
  | 20 => .int
  | 21 => .boolean
  | 22 => .int
  | 23 => .array .int
  | 24 => .array .int
  | 25 => .int
  | _ => .boolean
theorem nm9 : ∀ a, a < 27 → ∀ b, b < 27 → a ≠ b → (T9 a).2.1 ≠ (T9 b).2.1 := by decide +kernel
theorem ty9_ok : ∀ k, k < 27 → parseFieldDescriptor (T9 k).2.2.1 = some (ty9 k) := by decide +kernel
theorem hu9_0 : u_lay R9 T9 0 ∈ lw_gd := zwd 844 (by decide +kernel) (by decide +kernel)
theorem hu9_1 : u_lay R9 T9 1 ∈ lw_gd := zwd 846 (by decide +kernel) (by decide +kernel)
theorem hu9_2 : u_lay R9 T9 2 ∈ lw_gd := zwd 848 (by decide +kernel) (by decide +kernel)
theorem hu9_3 : u_lay R9 T9 3 ∈ lw_gd := zwd 850 (by decide +kernel) (by decide +kernel)
theorem hu9_4 : u_lay R9 T9 4 ∈ lw_gd := zwd 852 (by decide +kernel) (by decide +kernel)
theorem hu9_5 : u_lay R9 T9 5 ∈ lw_gd := zwd 854 (by decide +kernel) (by decide +kernel)
theorem hu9_6 : u_lay R9 T9 6 ∈ lw_gd := zwd 856 (by decide +kernel) (by decide +kernel)
theorem hu9_7 : u_lay R9 T9 7 ∈ lw_gd := zwd 858 (by decide +kernel) (by decide +kernel)
theorem hu9_8 : u_lay R9 T9 8 ∈ lw_gd := zwd 860 (by decide +kernel) (by decide +kernel)
theorem hu9_9 : u_lay R9 T9 9 ∈ lw_gd := zwd 862 (by decide +kernel) (by decide +kernel)
theorem hu9_10 : u_lay R9 T9 10 ∈ lw_gd := zwd 864 (by decide +kernel) (by decide +kernel)
theorem hu9_11 : u_lay R9 T9 11 ∈ lw_gd := zwd 866 (by decide +kernel) (by decide +kernel)
theorem hu9_12 : u_lay R9 T9 12 ∈ lw_gd := zwd 868 (by decide +kernel) (by decide +kernel)
theorem hu9_13 : u_lay R9 T9 13 ∈ lw_gd := zwd 870 (by decide +kernel) (by decide +kernel)
theorem hu9_14 : u_lay R9 T9 14 ∈ lw_gd := zwd 872 (by decide +kernel) (by decide +kernel)
theorem hu9_15 : u_lay R9 T9 15 ∈ lw_gd := zwd 874 (by decide +kernel) (by decide +kernel)
theorem hu9_16 : u_lay R9 T9 16 ∈ lw_gd := zwd 876 (by decide +kernel) (by decide +kernel)
theorem hu9_17 : u_lay R9 T9 17 ∈ lw_gd := zwd 878 (by decide +kernel) (by decide +kernel)
theorem hu9_18 : u_lay R9 T9 18 ∈ lw_gd := zwd 880 (by decide +kernel) (by decide +kernel)
theorem hu9_19 : u_lay R9 T9 19 ∈ lw_gd := zwd 882 (by decide +kernel) (by decide +kernel)
theorem hu9_20 : u_lay R9 T9 20 ∈ lw_gd := zwd 884 (by decide +kernel) (by decide +kernel)
theorem hu9_21 : u_lay R9 T9 21 ∈ lw_gd := zwd 886 (by decide +kernel) (by decide +kernel)
theorem hu9_22 : u_lay R9 T9 22 ∈ lw_gd := zwd 888 (by decide +kernel) (by decide +kernel)
theorem hu9_23 : u_lay R9 T9 23 ∈ lw_gd := zwd 890 (by decide +kernel) (by decide +kernel)
theorem hu9_24 : u_lay R9 T9 24 ∈ lw_gd := zwd 892 (by decide +kernel) (by decide +kernel)
theorem hu9_25 : u_lay R9 T9 25 ∈ lw_gd := zwd 894 (by decide +kernel) (by decide +kernel)
theorem hu9_26 : u_lay R9 T9 26 ∈ lw_gd := zwd 896 (by decide +kernel) (by decide +kernel)
theorem hu9 : ∀ w ∈ u_ws R9 T9 27, w ∈ lw_gd := by
  intro w hw
  obtain ⟨k, hk, rfl⟩ := List.mem_map.mp hw
  have hk := List.mem_range.mp hk
  match k, hk with
  | 0, _ => exact hu9_0
  | 1, _ => exact hu9_1
  | 2, _ => exact hu9_2
  | 3, _ => exact hu9_3
  | 4, _ => exact hu9_4
  | 5, _ => exact hu9_5
  | 6, _ => exact hu9_6
  | 7, _ => exact hu9_7
  | 8, _ => exact hu9_8
  | 9, _ => exact hu9_9
  | 10, _ => exact hu9_10
  | 11, _ => exact hu9_11
  | 12, _ => exact hu9_12
  | 13, _ => exact hu9_13
  | 14, _ => exact hu9_14
  | 15, _ => exact hu9_15
  | 16, _ => exact hu9_16
  | 17, _ => exact hu9_17
  | 18, _ => exact hu9_18
  | 19, _ => exact hu9_19
  | 20, _ => exact hu9_20
  | 21, _ => exact hu9_21
  | 22, _ => exact hu9_22
  | 23, _ => exact hu9_23
  | 24, _ => exact hu9_24
  | 25, _ => exact hu9_25
  | 26, _ => exact hu9_26
  | k + 27, h => exact absurd h (by omega)
abbrev zcl : List vw_C := [(R0, T0, 5), (R1, T1, 5), (R2, T2, 3), (R3, T3, 5), (R4, T4, 3), (R5, T5, 12), (R6, T6, 4), (R7, T7, 6), (R8, T8, 11), (R9, T9, 27)]
def zshL : List Nat := [0, 9, 6, 11, 12, 13, 15, 15, 15, 1, 1, 1, 1, 1, 1, 1, 1, 3, 3, 3, 3, 3, 3, 7, 15, 15, 7, 15, 15, 6, 11, 12, 13, 15, 15, 15, 1, 1, 1, 1, 1, 1, 1, 1, 3, 3, 3, 3, 3, 3, 7, 15, 15, 7, 15, 15, 6, 11, 12, 13, 15, 15, 15, 1, 1, 1, 1, 1, 1, 1, 1, 3, 3, 3, 3, 3, 3, 7, 15, 15, 7, 15, 15, 2, 15, 15, 4, 7, 15, 15, 8, 15, 14, 15, 15, 5, 15, 5, 15, 5, 15, 5, 15, 10, 15, 15, 15, 15, 15, 15, 15, 15, 15, 15, 15, 15, 15, 15, 15]
def zlnL : List Nat := [0, 0, 0, 8, 6, 2, 64, 60, 24, 0, 0, 0, 0, 0, 0, 0, 0, 0, 0, 0, 0, 0, 0, 0, 60, 60, 0, 60, 60, 0, 8, 6, 2, 64, 60, 24, 0, 0, 0, 0, 0, 0, 0, 0, 0, 0, 0, 0, 0, 0, 0, 60, 60, 0, 60, 60, 0, 8, 6, 2, 64, 60, 24, 0, 0, 0, 0, 0, 0, 0, 0, 0, 0, 0, 0, 0, 0, 0, 60, 60, 0, 60, 60, 0, 257, 257, 0, 0, 60, 60, 0, 30, 4, 4, 7, 0, 24, 0, 24, 0, 24, 0, 24, 0, 390, 390, 390, 7, 4, 4, 96, 257, 8, 60, 60, 3, 60, 4, 30]
def zfsL : List (List (Option Nat)) := [[], 
  [none, none, none, none, none],
  [some 1, some 2, none, none, none],
  [none, none, none],
  [some 1, some 0, none, none, none],
  [some 1, none, none],
  [some 1, some 2, some 3, some 4, some 5, some 6, none, none, none, none, none, none],
  [some 1, some 2, none, none],
  [some 1, none, none, none, none, none],
  [some 1, some 28, some 55, some 82, some 85, some 89, some 91, some 92, some 93, none, none],
  [some 1, some 2, some 3, none, some 4, some 5, some 6, some 7, some 8, none, none, some 9, none, none, some 10, some 11, some 12, some 13, none, none, none, none, none, some 14, some 15, none, none]]
end
section
/-! the one store: every cell of the law's from its first on, by its place; what a place is never changes; all numbers in σ -/
abbrev ZS : Type := Nat → Nat → Int32
abbrev ZG : Type := Nat × va_G × (Nat → ClassId) × (Nat → Nat)
abbrev ZV : Type := Int32 ⊕ Nat ⊕ Int64
abbrev ZX : Type := Program × Launch × Env × Room × State × MethodId × Array Value × List Frame × Method × Code
abbrev zi (v : Int32) : ZV := .inl v
abbrev zr (o : Nat) : ZV := .inr (.inl o)
abbrev zj (v : Int64) : ZV := .inr (.inr v)
def zsh (o : Nat) : Nat := zshL.getD o 0
def zln (o : Nat) : Nat := zlnL.getD o 0
def zfs (κ : Nat) : List (Option Nat) := zfsL.getD κ []
/-- rows of references: how many, the first one's place behind the row's, from one to the next -/
def zrn (κ : Nat) : Nat := [8, 6, 2, 4].getD (κ - 11) 0
def zrd (κ : Nat) : Nat := [6, 13, 18, 3].getD (κ - 11) 0
def zrs (κ : Nat) : Nat := [1, 1, 3, 2].getD (κ - 11) 0
def zrc (κ : Nat) : String := ["GlassTax$Glass", "GlassTax$Person", "GlassTax$Text", "GlassTax$Sheet"].getD (κ - 11) ""
def zurow (σ : ZS) (o : Nat) (f : Nat → Int32) : ZS := fun a => if a = o then f else σ a
def zu (σ : ZS) (o k : Nat) (v : Int32) : ZS := zurow σ o (upd (σ o) k v)
def zrv (g : ZG) (o : Nat) : Value := if o = 0 then .null else if 1000 ≤ o then .ref (g.2.2.2 (o - 1000)) else .ref (g.1 + o)
def zval (g : ZG) : ZV → Value
  | .inl v => .int v
  | .inr (.inl o) => zrv g o
  | .inr (.inr v) => .long v
def zfv (g : ZG) (f : Nat → Int32) (o k : Nat) : Option Nat → Value
  | none => .int (f k)
  | some 0 => zrv g (f k).toNatClampNeg
  | some (d + 1) => .ref (g.1 + (o + (d + 1)))
def zob (g : ZG) (f : Nat → Int32) (o : Nat) : List (Option Nat) → Nat → List Value
  | [], _ => []
  | d :: l, k => zfv g f o k d :: zob g f o l (k + 1)
def zen1 (g : ZG) (o : Nat) (f : Nat → Int32) : va_E :=
  if zsh o = 15 then .inl (g.2.2.1 0, zln o, .inl f)
  else if 11 ≤ zsh o then .inl (g.2.2.1 (zsh o - 10), zrn (zsh o), .inr (.inr (.inr (.inr fun i => some (g.1 + (o + zrd (zsh o) + zrs (zsh o) * i))))))
  else .inr (zsh o - 1, zob g f o (zfs (zsh o)) 0)
def zen (g : ZG) (σ : ZS) (o : Nat) : va_E := zen1 g o (σ o)
def zL (g : ZG) : List Nat := (List.range 118).map fun i => g.1 + (i + 1)
def zf (g : ZG) (σ : ZS) : Nat → va_E := fun a => zen g σ (a - g.1)
def zA (g : ZG) : Nat → Prop := fun q => g.1 < q
def zP (g : ZG) (σ : ZS) (H : Heap) : Prop := va_P g.2.1 zcl (va_pl (zL g) (zf g σ)) H
def ztys (g : ZG) : List (ClassId × FieldType) := [(g.2.2.1 0, .int), (g.2.2.1 1, .object "GlassTax$Glass"), (g.2.2.1 2, .object "GlassTax$Person"), (g.2.2.1 3, .object "GlassTax$Text"), (g.2.2.1 4, .object "GlassTax$Sheet")]
def zKA : List Int32 := [0, 0, 0, 0, 1, 2, 0]
def zBO : List Int32 := [10, 11, 12, 13, 20, 0, 0, 21, 0, 30, 0, 0, 0, 0, 40, 0, 50, 0, 51, 0, 0, 60, 0, 0, 70, 71, 0, 0]
def zBy : List (List Int32) := [[110, 107, 109, 116, 104, 112]]
def zNest : Cond → Bool
  | .methodLinkNest .. => true
  | .fieldLinkNest .. => true
  | _ => false
def zZ (g : ZG) (U : State) (H : Heap) : Prop :=
  (va_Z "GlassTax" "KIND_ABOVE" "[I" (.ref (g.2.2.2 0)) (zA g) U H ∧ va_T .int (g.2.2.2 0) 7 (fun j => .int (zKA.getD j 0)) (zA g) U H) ∧
  (va_Z "GlassTax$Voices" "BODIES" "[I" (.ref (g.2.2.2 1)) (zA g) U H ∧ va_T .int (g.2.2.2 1) 28 (fun j => .int (zBO.getD j 0)) (zA g) U H) ∧
  (vk_S 1 [6] zBy (fun _ => g.2.2.2 2) (fun _ => g.2.2.2 3) (zA g) U H ∧ va_Z "java/lang/String" "COMPACT_STRINGS" "Z" (.int 1) (zA g) U H)
def zK (g : ZG) (U : State) : Prop := va_K g.2.1 zcl (ztys g) U ∧ zZ g U U.heap ∧ (∀ w ∈ lw_tbl, zNest w = true → va_Nw w U) ∧ vk_R "GlassTax$Reader" 69 "nkmthp" (g.2.2.2 2) U
theorem zZ.moved {g : ZG} {u U : State} {H : Heap} (hvm : u.vm.Alike U.vm) (h : zZ g u H) : zZ g U H := ⟨⟨h.1.1.moved hvm, h.1.2.moved hvm⟩, ⟨h.2.1.1.moved hvm, h.2.1.2.moved hvm⟩, ⟨h.2.2.1.moved hvm, h.2.2.2.moved hvm⟩⟩
theorem zZ.kept {g : ZG} {U : State} {H H1 : Heap} (h : zZ g U H) (hq : ∀ a : Nat, a < H.size → ¬ zA g a → H1[a]? = H[a]?) : zZ g U H1 := ⟨⟨h.1.1.kept hq, h.1.2.kept hq⟩, ⟨h.2.1.1.kept hq, h.2.1.2.kept hq⟩, ⟨h.2.2.1.kept hq, h.2.2.2.kept hq⟩⟩
theorem zK.blind {g : ZG} {U : State} {f : JFrame} {mk : MethodId} {a : Array Value} (h : zK g U) : zK g (U.calling f mk a) :=
  ⟨va_K.moved (Vm.Alike.refl U.vm) h.1, h.2.1.moved (u := U) (U := U.calling f mk a) (Vm.Alike.refl U.vm), fun w hw hn => va_Nw.same (by cases w <;> simp_all [zNest, Cond.onTables]) (u := U) (U := U.calling f mk a) rfl (h.2.2.1 w hw hn), vk_R.same (u := U) rfl h.2.2.2⟩
theorem zK.go {g : ZG} {s U : State} {H : Heap} {locs : List Loc} (h : zK g s) (hS : va_S (zA g) s.heap H locs) (hU : U.heap = H) (hW : s.WarmedH U.vm) : zK g U := by
  refine ⟨va_K.moved hW.alike h.1, ?_, fun w hw hn => ?_, vk_R.warm hW h.2.2.2⟩
  · rw [hU]
    exact (h.2.1.kept hS.2.1).moved hW.alike
  · have h1 := h.2.2.1 w hw hn
    cases w with
    | methodLinkNest => exact va_Nw.warmM hW h1
    | fieldLinkNest => exact va_Nw.warmF hW h1
    | _ => simp [zNest] at hn
theorem zsh_lt {o : Nat} (h : zsh o ≠ 0) : 0 < o ∧ o < 119 := by
  by_cases h1 : o < 119
  · refine ⟨?_, h1⟩
    rcases Nat.eq_zero_or_pos o with z | z
    · subst z
      exact absurd rfl h
    · exact z
  · exfalso
    apply h
    unfold zsh
    rw [List.getD_eq_getElem?_getD, List.getElem?_eq_none (show zshL.length ≤ o from by rw [show zshL.length = 119 from rfl]; omega)]
    rfl
theorem zrv_of {g : ZG} {o : Nat} (h : zsh o ≠ 0) : zrv g o = .ref (g.1 + o) := by
  obtain ⟨h1, h2⟩ := zsh_lt h
  rw [zrv, if_neg (by omega), if_neg (by omega)]
theorem zrv_0 {g : ZG} : zrv g 0 = .null := rfl
theorem zrv_ref {g : ZG} {o : Nat} (h : o ≠ 0) : ∃ a, zrv g o = .ref a := by
  unfold zrv
  rw [if_neg h]
  by_cases h1 : 1000 ≤ o
  · rw [if_pos h1]; exact ⟨_, rfl⟩
  · rw [if_neg h1]; exact ⟨_, rfl⟩
theorem zrv_cat {g : ZG} {o : Nat} : (zrv g o).category = 1 := by
  by_cases h : o = 0
  · subst h; rfl
  · obtain ⟨a, ha⟩ := zrv_ref (g := g) h
    rw [ha]; rfl
theorem zL_mem {g : ZG} {o : Nat} (h : zsh o ≠ 0) : g.1 + o ∈ zL g := by
  obtain ⟨h1, h2⟩ := zsh_lt h
  exact List.mem_map.mpr ⟨o - 1, List.mem_range.mpr (by omega), by omega⟩
theorem zP_at {g : ZG} {σ : ZS} {o : Nat} (h : zsh o ≠ 0) : ∃ k : Nat, (va_pl (zL g) (zf g σ))[k]? = some (g.1 + o, zen g σ o) := by
  obtain ⟨k, hk⟩ := va_pl_get (X := []) (f := zf g σ) (zL_mem (g := g) h)
  refine ⟨k, ?_⟩
  have e : zf g σ (g.1 + o) = zen g σ o := by
    show zen g σ (g.1 + o - g.1) = _
    rw [Nat.add_sub_cancel_left]
  rw [← e]
  exact hk
theorem zD {g : ZG} (f : Nat → va_E) : va_D (zA g) (va_pl (zL g) f) := by
  have key : ∀ (k : Nat) (q : Nat × va_E), (va_pl (zL g) f)[k]? = some q → q.1 = g.1 + (k + 1) := by
    intro k q hq
    unfold va_pl zL at hq
    rw [List.map_map, List.getElem?_map] at hq
    cases hr : (List.range 118)[k]? with
    | none => rw [hr] at hq; cases hq
    | some i =>
      rw [hr] at hq
      have hi : i = k := by
        have h2 := List.getElem?_range (n := 118) (i := k) (by have := (List.getElem?_eq_some_iff.mp hr).1; simpa using this)
        rw [hr] at h2
        exact Option.some.inj h2
      cases hq
      subst hi
      rfl
  refine ⟨fun i j p q hi hj hpq => ?_, fun k q hk => ?_⟩
  · have h1 := key i p hi
    have h2 := key j q hj
    omega
  · have h1 := key k q hk
    show g.1 < q.1
    omega
theorem zP_set {g : ZG} {σ σ' : ZS} {H : Heap} {o k : Nat} {e : va_E} (ho : zsh o ≠ 0) (hk : (va_pl (zL g) (zf g σ))[k]? = some (g.1 + o, zen g σ o)) (he : zen g σ' o = e) (hσ : ∀ a, a ≠ o → σ' a = σ a) (h : va_P g.2.1 zcl ((va_pl (zL g) (zf g σ)).set k (g.1 + o, e)) H) : zP g σ' H := by
  have e0 : zf g σ (g.1 + o) = zen g σ o := by
    show zen g σ (g.1 + o - g.1) = _
    rw [Nat.add_sub_cancel_left]
  have h1 := va_pl_set (X := []) (e := e) (zD (g := g) (zf g σ)) (zL_mem ho) (by rw [e0]; exact hk)
  have h2 : (va_pl (zL g) (zf g σ)).set k (g.1 + o, e) = va_pl (zL g) (va_up (zf g σ) (g.1 + o) e) := h1
  rw [h2] at h
  have h3 : va_pl (zL g) (va_up (zf g σ) (g.1 + o) e) = va_pl (zL g) (zf g σ') := by
    refine va_pl_congr fun a => ?_
    show (if a = g.1 + o then e else zf g σ a) = zf g σ' a
    obtain ⟨o1, -⟩ := zsh_lt ho
    by_cases ha : a = g.1 + o
    · rw [if_pos ha, ha]
      show e = zen g σ' (g.1 + o - g.1)
      rw [Nat.add_sub_cancel_left, he]
    · rw [if_neg ha]
      show zen1 g (a - g.1) (σ (a - g.1)) = zen1 g (a - g.1) (σ' (a - g.1))
      rw [hσ (a - g.1) (by omega)]
  rw [h3] at h
  exact h
theorem zu_row {σ : ZS} {o : Nat} {f : Nat → Int32} : zurow σ o f o = f := if_pos rfl
theorem zu_ne {σ : ZS} {o a : Nat} {f : Nat → Int32} (h : a ≠ o) : zurow σ o f a = σ a := if_neg h
theorem zen_arr {g : ZG} {σ : ZS} {o n : Nat} (h : zsh o = 15) (hn : zln o = n) : zen g σ o = .inl (g.2.2.1 0, n, .inl (σ o)) := by
  unfold zen zen1
  rw [if_pos h, hn]
theorem zen_ref {g : ZG} {σ : ZS} {o κ : Nat} (h : zsh o = κ) (h1 : 11 ≤ κ) (h2 : κ < 15) : zen g σ o = .inl (g.2.2.1 (κ - 10), zrn κ, .inr (.inr (.inr (.inr fun i => some (g.1 + (o + zrd κ + zrs κ * i)))))) := by
  unfold zen zen1
  rw [if_neg (by omega), if_pos (by omega), h]
theorem zen_obj {g : ZG} {σ : ZS} {o ci : Nat} (h : zsh o = ci + 1) (h1 : ci < 10) : zen g σ o = .inr (ci, zob g (σ o) o (zfs (ci + 1)) 0) := by
  unfold zen zen1
  rw [if_neg (by omega), if_neg (by omega), h]
  rfl
theorem zob_get {g : ZG} {f : Nat → Int32} {o : Nat} : ∀ (l : List (Option Nat)) (j k : Nat) (d : Option Nat), l[k]? = some d → (zob g f o l j)[k]? = some (zfv g f o (j + k) d)
  | [], _, _, _, h => by simp at h
  | a :: l, j, 0, d, h => by
    simp only [List.getElem?_cons_zero, Option.some.injEq] at h
    subst h
    simp [zob]
  | a :: l, j, k + 1, d, h => by
    simp only [List.getElem?_cons_succ] at h
    have := zob_get (g := g) (f := f) (o := o) l (j + 1) k d h
    simp only [zob, List.getElem?_cons_succ, this]
    rw [show j + 1 + k = j + (k + 1) by omega]
theorem zob_len {g : ZG} {f : Nat → Int32} {o : Nat} : ∀ (l : List (Option Nat)) (j : Nat), (zob g f o l j).length = l.length
  | [], _ => rfl
  | a :: l, j => by simp [zob, zob_len l (j + 1)]
theorem zfv_ne {g : ZG} {f : Nat → Int32} {o k j : Nat} {v : Int32} {d : Option Nat} (h : j ≠ k) : zfv g (upd f k v) o j d = zfv g f o j d := by
  have e : upd f k v j = f j := if_neg h
  unfold zfv
  cases d with
  | none => rw [e]
  | some d => cases d with
    | zero => rw [e]
    | succ d => rfl
theorem zob_set {g : ZG} {f : Nat → Int32} {o k : Nat} {v : Int32} {l : List (Option Nat)} {d : Option Nat} (h : l[k]? = some d) : (zob g f o l 0).set k (zfv g (upd f k v) o k d) = zob g (upd f k v) o l 0 := by
  refine List.ext_getElem? fun j => ?_
  by_cases hj : j < l.length
  · obtain ⟨d', hd'⟩ : ∃ d', l[j]? = some d' := ⟨_, List.getElem?_eq_getElem hj⟩
    have h2 := zob_get (g := g) (f := upd f k v) (o := o) l 0 j d' hd'
    rw [Nat.zero_add] at h2
    rw [h2]
    by_cases hjk : j = k
    · subst hjk
      rw [hd'] at h
      cases h
      rw [List.getElem?_set_self (by rw [zob_len]; exact hj)]
    · rw [List.getElem?_set_ne (Ne.symm hjk)]
      have h3 := zob_get (g := g) (f := f) (o := o) l 0 j d' hd'
      rw [Nat.zero_add] at h3
      rw [h3, zfv_ne hjk]
  · rw [List.getElem?_eq_none (by rw [List.length_set, zob_len]; omega), List.getElem?_eq_none (by rw [zob_len]; omega)]
/-! locals by their places -/
def zat : List (Option ZV) → Nat → Option ZV
  | [], _ => none
  | a :: _, 0 => a
  | _ :: l, n + 1 => zat l n
def zset : List (Option ZV) → Nat → ZV → List (Option ZV)
  | [], _, _ => []
  | _ :: l, 0, v => some v :: l
  | a :: l, n + 1, v => a :: zset l n v
def zdrop : List (Option ZV) → List Bool → List (Option ZV)
  | [], _ => []
  | l, [] => l
  | a :: l, true :: m => a :: zdrop l m
  | _ :: l, false :: m => none :: zdrop l m
def zlong : Option ZV → Bool
  | some (.inr (.inr _)) => true
  | _ => false
def zlow (L : List (Option ZV)) : Nat → Bool
  | 0 => true
  | i + 1 => !zlong (zat L i)
def zent : List ZV → List (Option ZV)
  | [] => []
  | .inr (.inr v) :: l => some (.inr (.inr v)) :: none :: zent l
  | v :: l => some v :: zent l
def zlh (g : ZG) (ls : Array Slot) (nL : Nat) (L : List (Option ZV)) : Prop := ls.size = nL ∧ lv_wf ls ∧ ∀ i v, zat L i = some v → ls[i]? = some (.val (zval g v))
theorem zat_set : ∀ (L : List (Option ZV)) (i j : Nat) (v w : ZV), zat (zset L i v) j = some w → (j = i ∧ w = v) ∨ (j ≠ i ∧ zat L j = some w)
  | [], _, _, _, _, h => by simp [zset, zat] at h
  | a :: l, 0, 0, v, w, h => by simp only [zset, zat, Option.some.injEq] at h; exact Or.inl ⟨rfl, h.symm⟩
  | a :: l, 0, j + 1, v, w, h => by simp only [zset, zat] at h; exact Or.inr ⟨by omega, h⟩
  | a :: l, i + 1, 0, v, w, h => by simp only [zset, zat] at h; exact Or.inr ⟨by omega, h⟩
  | a :: l, i + 1, j + 1, v, w, h => by
    simp only [zset, zat] at h
    rcases zat_set l i j v w h with ⟨h1, h2⟩ | ⟨h1, h2⟩
    · exact Or.inl ⟨by omega, h2⟩
    · exact Or.inr ⟨by omega, h2⟩
theorem zat_drop : ∀ (L : List (Option ZV)) (m : List Bool) (j : Nat) (w : ZV), zat (zdrop L m) j = some w → zat L j = some w
  | [], _, _, _, h => by simp [zdrop, zat] at h
  | a :: l, [], _, _, h => by simpa [zdrop] using h
  | a :: l, true :: m, 0, w, h => by simpa [zdrop, zat] using h
  | a :: l, true :: m, j + 1, w, h => by simp only [zdrop, zat] at h ⊢; exact zat_drop l m j w h
  | a :: l, false :: m, 0, w, h => by simp [zdrop, zat] at h
  | a :: l, false :: m, j + 1, w, h => by simp only [zdrop, zat] at h ⊢; exact zat_drop l m j w h
theorem zlh.drop {g : ZG} {ls : Array Slot} {nL : Nat} {L : List (Option ZV)} (h : zlh g ls nL L) (m : List Bool) : zlh g ls nL (zdrop L m) := ⟨h.1, h.2.1, fun i v hi => h.2.2 i v (zat_drop L m i v hi)⟩
theorem zval_cat {g : ZG} (v : ZV) : (zval g v).category = if zlong (some v) = true then 2 else 1 := by
  rcases v with v | v | v
  · rfl
  · exact zrv_cat
  · rfl
/-- the listed locals, as the kit wants them -/
def zas (g : ZG) (L : List (Option ZV)) : List (Nat × Value) := (List.range L.length).filterMap fun i => (zat L i).map fun v => (i, zval g v)
theorem zat_lt : ∀ (L : List (Option ZV)) (i : Nat) (v : ZV), zat L i = some v → i < L.length
  | [], _, _, h => by simp [zat] at h
  | a :: l, 0, _, _ => by simp
  | a :: l, i + 1, v, h => by
    have := zat_lt l i v h
    simp only [List.length_cons]
    omega
theorem zas_mem {g : ZG} {L : List (Option ZV)} {i : Nat} {v : ZV} (h : zat L i = some v) : (i, zval g v) ∈ zas g L :=
  List.mem_filterMap.mpr ⟨i, List.mem_range.mpr (zat_lt L i v h), by rw [h]; rfl⟩
theorem zlh.has {g : ZG} {ls : Array Slot} {nL : Nat} {L : List (Option ZV)} (h : zlh g ls nL L) : lv_has ls nL (zas g L) := by
  refine ⟨h.1, h.2.1, fun q hq => ?_⟩
  obtain ⟨i, -, hi⟩ := List.mem_filterMap.mp hq
  cases hv : zat L i with
  | none => rw [hv] at hi; cases hi
  | some v =>
    rw [hv] at hi
    cases hi
    exact h.2.2 i v hv
theorem zlh.stored {g : ZG} {ls : Array Slot} {nL i : Nat} {L : List (Option ZV)} {v : ZV} (hw : zlow L i = true) (h : lv_has ls nL ((i, zval g v) :: (zas g L).filter (fun q => !(q.1 == i) && !(q.1 + 1 == i && q.2.category == 2)))) : zlh g ls nL (zset L i v) := by
  refine ⟨h.1, h.2.1, fun j w hj => ?_⟩
  rcases zat_set L i j v w hj with ⟨h1, h2⟩ | ⟨h1, h2⟩
  · subst h1; subst h2
    exact h.2.2 (j, zval g w) List.mem_cons_self
  · refine h.2.2 (j, zval g w) (List.mem_cons_of_mem _ (List.mem_filter.mpr ⟨zas_mem h2, ?_⟩))
    simp only [Bool.and_eq_true, Bool.not_eq_true', beq_eq_false_iff_ne, ne_eq, Bool.and_eq_false_iff]
    refine ⟨h1, ?_⟩
    by_cases hji : j + 1 = i
    · right
      subst hji
      have hz : zlong (zat L j) = false := by
        simp only [zlow, Bool.not_eq_true'] at hw
        exact hw
      rw [h2] at hz
      rw [zval_cat, hz]
      decide
    · exact Or.inl hji
theorem zlh_entry {g : ZG} : ∀ (as : List ZV) (k i : Nat) (v : ZV), zat (zent as) i = some v → (k + i, zval g v) ∈ lv_args k (as.map (zval g))
  | [], _, _, _, h => by simp [zent, zat] at h
  | .inl a :: l, k, 0, v, h => by simp only [zent, zat, Option.some.injEq] at h; subst h; exact List.mem_cons_self
  | .inr (.inl a) :: l, k, 0, v, h => by simp only [zent, zat, Option.some.injEq] at h; subst h; exact List.mem_cons_self
  | .inr (.inr a) :: l, k, 0, v, h => by simp only [zent, zat, Option.some.injEq] at h; subst h; exact List.mem_cons_self
  | .inr (.inr a) :: l, k, 1, v, h => by simp [zent, zat] at h
  | .inl a :: l, k, i + 1, v, h => by
    have := zlh_entry (g := g) l (k + 1) i v h
    rw [show k + 1 + i = k + (i + 1) by omega] at this
    exact List.mem_cons_of_mem _ this
  | .inr (.inl a) :: l, k, i + 1, v, h => by
    have := zlh_entry (g := g) l (k + 1) i v h
    rw [show k + 1 + i = k + (i + 1) by omega] at this
    refine List.mem_cons_of_mem _ ?_
    rw [if_neg (by rw [show zval g (.inr (.inl a)) = zrv g a from rfl, zrv_cat]; decide)]
    exact this
  | .inr (.inr a) :: l, k, i + 2, v, h => by
    have := zlh_entry (g := g) l (k + 2) i v h
    rw [show k + 2 + i = k + (i + 2) by omega] at this
    exact List.mem_cons_of_mem _ this
end
section
/-! the walk over the one store: zw, a method's standing facts zC, a method's contract zT; an instruction, a row -/
def zw (x : ZX) (g : ZG) (nL : Nat) (kc ks : Nat) (Q : State → Prop) (σ : ZS) (pc : Nat) (L : List (Option ZV)) (st : List ZV) : Prop :=
  ∀ (H : Heap) (locs : List Loc) (ls : Array Slot), zP g σ H → va_S (zA g) x.2.2.2.2.1.heap H locs → zlh g ls nL L →
    W x.1 x.2.1 x.2.2.1 x.2.2.2.1 x.2.2.2.2.1 x.2.2.2.2.2.1 x.2.2.2.2.2.2.1 x.2.2.2.2.2.2.2.1 x.2.2.2.2.2.2.2.2.1 x.2.2.2.2.2.2.2.2.2 H locs kc ks Q (F0 x.2.2.2.2.2.1 pc ls (st.map (zval g)))
def zC (x : ZX) (g : ZG) (cc : ByteArray) (own : String) (ret : Option FieldType) (nL fr lo : Nat) : Prop :=
  x.1.tables.exec = Jvm.exec ∧ x.2.2.2.2.2.2.2.2.2.code = cc ∧ x.2.2.2.2.2.2.2.2.1.sig.returnType = ret ∧ x.2.2.2.2.2.2.2.2.2.maxLocals = nL ∧ x.2.2.2.2.1.vm.findClass own = some x.2.2.2.2.2.1.cls ∧ (∀ w ∈ lw_gd, w.before x.2.2.2.2.2.2.1 x.2.2.2.2.1 = true) ∧
  x.2.2.2.2.2.2.2.2.1.locks = false ∧ (fr ≤ x.2.2.2.1.frames ∧ lo ≤ x.2.2.2.1.locals) ∧ zK g x.2.2.2.2.1
def zQ (g : ZG) (v : Option ZV) (σ : ZS) : Array Value → State → Outcome → State → Prop := fun _ st o t => o = .returned (v.map (zval g)) ∧ zP g σ t.heap ∧ va_F (zA g) st t
def zMQ (x : ZX) (g : ZG) (v : Option ZV) (σ : ZS) : State → Prop := MQ x.2.2.2.2.2.2.2.1 (zQ g v σ) x.2.2.2.2.2.2.1 x.2.2.2.2.1 0 0 (zA g)
def zT (l : Launch) (g : ZG) (y : MethodName) (cc : ByteArray) (nL : Nat) (ret : Option FieldType) (fr lo : Nat) (as : List ZV) (σ : ZS) (v : Option ZV) (σ' : ZS) : Prop :=
  Met l y (.code y cc nL ret :: lw_gd) { frames := fr, cells := 0, slots := 0, locals := lo } (va_Pc (as.map (zval g)) (fun U => zP g σ U.heap ∧ zK g U)) (zQ g v σ') 0 0 (zA g)
def zd (cc : ByteArray) (pc : Nat) (i : Instr) (n q : Nat) : Prop := decode cc pc = .ok (i, n) ∧ pc + n = q
def zdb (cc : ByteArray) (pc : Nat) (i : Instr) (off : Int) (q t : Nat) : Prop := decode cc pc = .ok (i, 3) ∧ pc + 3 = q ∧ (pc : Int) + off = (t : Int)
theorem zT_start {l : Launch} {g : ZG} {y : MethodName} {cc : ByteArray} {nL : Nat} {ret : Option FieldType} {fr lo : Nat} {as : List ZV} {σ : ZS} {v : Option ZV} {σ' : ZS} (hy : plainName y.cls = true) (m : Nat) {L : List (Option ZV)} (hL : zent as ++ List.replicate m none = L) (hn : (zent as).length + m = nL)
    (K : ∀ x : ZX, x.2.1 = l → zC x g cc y.cls ret nL fr lo → zw x g nL 0 0 (zMQ x g v σ') σ 0 L []) : zT l g y cc nL ret fr lo as σ v σ' := by
  refine Met.ofW (cc := cc) (maxL := nL) (ret := ret) hy rfl ?_
  intro p e s m0 args below meth c s₁ B hml hv
  obtain ⟨rfl, hP, hK⟩ := hv
  have hts := atoms_spec (ws := .code y cc nL ret :: lw_gd) B.pre
  have C : zC (p, l, e, { frames := fr, cells := 0, slots := 0, locals := lo }, s, m0, (as.map (zval g)).toArray, below, meth, c) g cc y.cls ret nL fr lo :=
    ⟨B.exec, B.bytes, B.returns, hml, findClass_of_methodNamed B.named, fun w hw => hts w (List.mem_cons_of_mem _ hw), B.notSynchronized, ⟨Nat.le_refl _, Nat.le_refl _⟩, hK⟩
  have hlen : ∀ as : List ZV, (lg_sl (as.map (zval g))).length = (zent as).length := by
    intro as
    induction as with
    | nil => rfl
    | cons a as ih =>
      have h2 : lg_sl ((a :: as).map (zval g)) = (if (zval g a).category = 2 then [Slot.val (zval g a), Slot.second] else [Slot.val (zval g a)]) ++ lg_sl (as.map (zval g)) := by
        simp only [lg_sl, List.map_cons, List.flatMap_cons]
      rw [h2, List.length_append, ih, zval_cat]
      rcases a with a | a | a
      · simp [zlong, zent]; omega
      · simp [zlong, zent]; omega
      · simp [zlong, zent]; omega
  have hl := lv_entry (as.map (zval g)) (n := nL) (by rw [hlen as]; omega)
  have hl2 : zlh g ((lg_sl (as.map (zval g)) ++ List.replicate (nL - (lg_sl (as.map (zval g))).length) Slot.unset).toArray) nL L := by
    refine ⟨hl.1, hl.2.1, fun i v hi => ?_⟩
    have h1 : zat (zent as) i = some v := by
      rw [← hL] at hi
      clear hn hL hl C
      generalize zent as = z at hi
      induction z generalizing i with
      | nil =>
        exfalso
        rw [List.nil_append] at hi
        induction m generalizing i with
        | zero => simp [zat] at hi
        | succ m ihm => cases i with
          | zero => simp [List.replicate, zat] at hi
          | succ i => exact ihm i (by simpa [List.replicate, zat] using hi)
      | cons a z ih => cases i with
        | zero => simpa [zat] using hi
        | succ i => exact ih i (by simpa [zat] using hi)
    have h2 := zlh_entry (g := g) as 0 i v h1
    rw [Nat.zero_add] at h2
    exact hl.2.2 (i, zval g v) h2
  rw [lg_entry_eq]
  exact K (p, l, e, _, s, m0, _, below, meth, c) rfl C s.heap [] _ hP va_S.rf hl2
section
variable {x : ZX} {g : ZG} {cc : ByteArray} {own : String} {ret : Option FieldType} {nL fr lo kc ks : Nat} {Q : State → Prop} {σ : ZS} {pc q t : Nat} {L : List (Option ZV)} {st : List ZV}
theorem z_drop (m : List Bool) {L' : List (Option ZV)} (h : zdrop L m = L') (K : zw x g nL kc ks Q σ pc L' st) : zw x g nL kc ks Q σ pc L st := by
  subst h
  exact fun H locs ls hP hS hl => K H locs ls hP hS (hl.drop m)
theorem z_iconst (C : zC x g cc own ret nL fr lo) {n : Int} (v : Int32) (hd : zd cc pc (.iconst n) 1 q) (hv : Int32.ofInt n = v) (K : zw x g nL kc ks Q σ q L (zi v :: st)) : zw x g nL kc ks Q σ pc L st := by
  obtain ⟨d, rfl⟩ := hd
  exact fun H locs ls hP hS hl => lv_iconst C.1 C.2.1 d hv (K H locs ls hP hS hl)
theorem z_bipush (C : zC x g cc own ret nL fr lo) {n : Int} (v : Int32) (hd : zd cc pc (.bipush n) 2 q) (hv : (Int8.ofInt n).toInt32 = v) (K : zw x g nL kc ks Q σ q L (zi v :: st)) : zw x g nL kc ks Q σ pc L st := by
  obtain ⟨d, rfl⟩ := hd
  exact fun H locs ls hP hS hl => lv_bipush C.1 C.2.1 d hv (K H locs ls hP hS hl)
theorem z_sipush (C : zC x g cc own ret nL fr lo) {n : Int} (v : Int32) (hd : zd cc pc (.sipush n) 3 q) (hv : (Int16.ofInt n).toInt32 = v) (K : zw x g nL kc ks Q σ q L (zi v :: st)) : zw x g nL kc ks Q σ pc L st := by
  obtain ⟨d, rfl⟩ := hd
  exact fun H locs ls hP hS hl => lv_sipush C.1 C.2.1 d hv (K H locs ls hP hS hl)
theorem z_ldc (C : zC x g cc own ret nL fr lo) {i : Nat} (v : Int32) (hd : zd cc pc (.ldc i) 2 q) (hw : Cond.constant own i v ∈ lw_gd) (K : zw x g nL kc ks Q σ q L (zi v :: st)) : zw x g nL kc ks Q σ pc L st := by
  obtain ⟨d, rfl⟩ := hd
  exact fun H locs ls hP hS hl => lv_ldc C.1 C.2.1 C.2.2.2.2.1 (C.2.2.2.2.2.1 _ hw) d (K H locs ls hP hS hl)
theorem z_ldcw (C : zC x g cc own ret nL fr lo) {i : Nat} (v : Int32) (hd : zd cc pc (.ldc_w i) 3 q) (hw : Cond.constant own i v ∈ lw_gd) (K : zw x g nL kc ks Q σ q L (zi v :: st)) : zw x g nL kc ks Q σ pc L st := by
  obtain ⟨d, rfl⟩ := hd
  exact fun H locs ls hP hS hl => lv_ldcw C.1 C.2.1 C.2.2.2.2.1 (C.2.2.2.2.2.1 _ hw) d (K H locs ls hP hS hl)
theorem z_ldc2 (C : zC x g cc own ret nL fr lo) {i : Nat} (v : Int64) (hd : zd cc pc (.ldc2_w i) 3 q) (hw : Cond.constantLong own i v ∈ lw_gd) (K : zw x g nL kc ks Q σ q L (zj v :: st)) : zw x g nL kc ks Q σ pc L st := by
  obtain ⟨d, rfl⟩ := hd
  exact fun H locs ls hP hS hl => lv_ldc2 C.1 C.2.1 C.2.2.2.2.1 (C.2.2.2.2.2.1 _ hw) d (K H locs ls hP hS hl)
theorem z_iload_n (C : zC x g cc own ret nL fr lo) {k : Fin 4} {v : Int32} (hd : zd cc pc (.iload_n k) 1 q) (hl : zat L k = some (zi v)) (K : zw x g nL kc ks Q σ q L (zi v :: st)) : zw x g nL kc ks Q σ pc L st := by
  obtain ⟨d, rfl⟩ := hd
  exact fun H locs ls hP hS h => lv_iload_n C.1 C.2.1 d rfl (h.2.2 _ _ hl) (K H locs ls hP hS h)
theorem z_iload (C : zC x g cc own ret nL fr lo) {k : Nat} {v : Int32} (hd : zd cc pc (.iload k) 2 q) (hl : zat L k = some (zi v)) (K : zw x g nL kc ks Q σ q L (zi v :: st)) : zw x g nL kc ks Q σ pc L st := by
  obtain ⟨d, rfl⟩ := hd
  exact fun H locs ls hP hS h => lv_iload C.1 C.2.1 d (h.2.2 _ _ hl) (K H locs ls hP hS h)
theorem z_lload_n (C : zC x g cc own ret nL fr lo) {k : Fin 4} {v : Int64} (hd : zd cc pc (.lload_n k) 1 q) (hl : zat L k = some (zj v)) (K : zw x g nL kc ks Q σ q L (zj v :: st)) : zw x g nL kc ks Q σ pc L st := by
  obtain ⟨d, rfl⟩ := hd
  exact fun H locs ls hP hS h => lv_lload_n C.1 C.2.1 d rfl (h.2.2 _ _ hl) (K H locs ls hP hS h)
theorem z_aload_n (C : zC x g cc own ret nL fr lo) {k : Fin 4} {o : Nat} (hd : zd cc pc (.aload_n k) 1 q) (hl : zat L k = some (zr o)) (K : zw x g nL kc ks Q σ q L (zr o :: st)) : zw x g nL kc ks Q σ pc L st := by
  obtain ⟨d, rfl⟩ := hd
  intro H locs ls hP hS h
  have h1 := h.2.2 _ _ hl
  have h2 := K H locs ls hP hS h
  change W _ _ _ _ _ _ _ _ _ _ _ _ _ _ _ (F0 _ _ _ (zrv g o :: st.map (zval g))) at h2
  change ls[_]? = some (Slot.val (zrv g o)) at h1
  by_cases ho : o = 0
  · subst ho
    exact lv_aload_nN C.1 C.2.1 d rfl h1 h2
  · obtain ⟨a, ha⟩ := zrv_ref (g := g) ho
    rw [ha] at h1 h2
    exact lv_aload_n C.1 C.2.1 d rfl h1 h2
theorem z_aload (C : zC x g cc own ret nL fr lo) {k : Nat} {o : Nat} (hd : zd cc pc (.aload k) 2 q) (hl : zat L k = some (zr o)) (K : zw x g nL kc ks Q σ q L (zr o :: st)) : zw x g nL kc ks Q σ pc L st := by
  obtain ⟨d, rfl⟩ := hd
  intro H locs ls hP hS h
  have h1 := h.2.2 _ _ hl
  have h2 := K H locs ls hP hS h
  change W _ _ _ _ _ _ _ _ _ _ _ _ _ _ _ (F0 _ _ _ (zrv g o :: st.map (zval g))) at h2
  change ls[_]? = some (Slot.val (zrv g o)) at h1
  by_cases ho : o = 0
  · subst ho
    exact lv_aloadN C.1 C.2.1 d h1 h2
  · obtain ⟨a, ha⟩ := zrv_ref (g := g) ho
    rw [ha] at h1 h2
    exact lv_aload C.1 C.2.1 d h1 h2
theorem z_istore_n (C : zC x g cc own ret nL fr lo) {k : Fin 4} {v : Int32} {L' : List (Option ZV)} (hd : zd cc pc (.istore_n k) 1 q) (hn : (k : Nat) < nL) (hw : zlow L k = true) (hL : zset L k (zi v) = L') (K : zw x g nL kc ks Q σ q L' st) : zw x g nL kc ks Q σ pc L (zi v :: st) := by
  obtain ⟨d, rfl⟩ := hd
  subst hL
  exact fun H locs ls hP hS h => lv_istore_n C.1 C.2.1 d rfl h.has hn rfl fun ls' h' => K H locs ls' hP hS (zlh.stored hw h')
theorem z_istore (C : zC x g cc own ret nL fr lo) {k : Nat} {v : Int32} {L' : List (Option ZV)} (hd : zd cc pc (.istore k) 2 q) (hn : k < nL) (hw : zlow L k = true) (hL : zset L k (zi v) = L') (K : zw x g nL kc ks Q σ q L' st) : zw x g nL kc ks Q σ pc L (zi v :: st) := by
  obtain ⟨d, rfl⟩ := hd
  subst hL
  exact fun H locs ls hP hS h => lv_istore C.1 C.2.1 d h.has hn rfl fun ls' h' => K H locs ls' hP hS (zlh.stored hw h')
theorem z_astore_n (C : zC x g cc own ret nL fr lo) {k : Fin 4} {o : Nat} {L' : List (Option ZV)} (hd : zd cc pc (.astore_n k) 1 q) (hn : (k : Nat) < nL) (hw : zlow L k = true) (hL : zset L k (zr o) = L') (K : zw x g nL kc ks Q σ q L' st) : zw x g nL kc ks Q σ pc L (zr o :: st) := by
  obtain ⟨d, rfl⟩ := hd
  subst hL
  intro H locs ls hP hS h
  show W _ _ _ _ _ _ _ _ _ _ _ _ _ _ _ (F0 _ _ _ (zrv g o :: st.map (zval g)))
  have h1 : ∀ ls' : Array Slot, lv_has ls' nL (((k : Nat), zrv g o) :: (zas g L).filter (fun q => !(q.1 == (k : Nat)) && !(q.1 + 1 == (k : Nat) && q.2.category == 2))) → _ := fun ls' h' => K H locs ls' hP hS (zlh.stored hw h')
  by_cases ho : o = 0
  · subst ho
    exact lv_astore_nN C.1 C.2.1 d rfl h.has hn rfl h1
  · obtain ⟨a, ha⟩ := zrv_ref (g := g) ho
    rw [ha] at h1 ⊢
    exact lv_astore_n C.1 C.2.1 d rfl h.has hn rfl h1
theorem z_astore (C : zC x g cc own ret nL fr lo) {k : Nat} {o : Nat} {L' : List (Option ZV)} (hd : zd cc pc (.astore k) 2 q) (hn : k < nL) (hw : zlow L k = true) (hL : zset L k (zr o) = L') (K : zw x g nL kc ks Q σ q L' st) : zw x g nL kc ks Q σ pc L (zr o :: st) := by
  obtain ⟨d, rfl⟩ := hd
  subst hL
  intro H locs ls hP hS h
  show W _ _ _ _ _ _ _ _ _ _ _ _ _ _ _ (F0 _ _ _ (zrv g o :: st.map (zval g)))
  have h1 : ∀ ls' : Array Slot, lv_has ls' nL ((k, zrv g o) :: (zas g L).filter (fun q => !(q.1 == k) && !(q.1 + 1 == k && q.2.category == 2))) → _ := fun ls' h' => K H locs ls' hP hS (zlh.stored hw h')
  by_cases ho : o = 0
  · subst ho
    exact lv_astoreN C.1 C.2.1 d h.has hn rfl h1
  · obtain ⟨a, ha⟩ := zrv_ref (g := g) ho
    rw [ha] at h1 ⊢
    exact lv_astore C.1 C.2.1 d h.has hn rfl h1
theorem z_iinc (C : zC x g cc own ret nL fr lo) {k : Nat} {n : Int} {v w : Int32} {L' : List (Option ZV)} (hd : zd cc pc (.iinc k n) 3 q) (hl : zat L k = some (zi v)) (hv : Int32.ofInt n = w) (hn : k < nL) (hw : zlow L k = true) (hL : zset L k (zi (v + w)) = L') (K : zw x g nL kc ks Q σ q L' st) : zw x g nL kc ks Q σ pc L st := by
  obtain ⟨d, rfl⟩ := hd
  subst hL; subst hv
  intro H locs ls hP hS h
  obtain ⟨j, hj⟩ := List.getElem?_of_mem (zas_mem (g := g) hl)
  exact lv_iinc C.1 C.2.1 d h.has hj rfl hn rfl fun ls' h' => K H locs ls' hP hS (zlh.stored hw h')
theorem z_iadd (C : zC x g cc own ret nL fr lo) {a b : Int32} (hd : zd cc pc .iadd 1 q) (K : zw x g nL kc ks Q σ q L (zi (a + b) :: st)) : zw x g nL kc ks Q σ pc L (zi b :: zi a :: st) := by
  obtain ⟨d, rfl⟩ := hd
  exact fun H locs ls hP hS h => lv_iadd C.1 C.2.1 d (K H locs ls hP hS h)
theorem z_isub (C : zC x g cc own ret nL fr lo) {a b : Int32} (hd : zd cc pc .isub 1 q) (K : zw x g nL kc ks Q σ q L (zi (a - b) :: st)) : zw x g nL kc ks Q σ pc L (zi b :: zi a :: st) := by
  obtain ⟨d, rfl⟩ := hd
  exact fun H locs ls hP hS h => lv_isub C.1 C.2.1 d (K H locs ls hP hS h)
theorem z_imul (C : zC x g cc own ret nL fr lo) {a b : Int32} (hd : zd cc pc .imul 1 q) (K : zw x g nL kc ks Q σ q L (zi (a * b) :: st)) : zw x g nL kc ks Q σ pc L (zi b :: zi a :: st) := by
  obtain ⟨d, rfl⟩ := hd
  exact fun H locs ls hP hS h => lv_imul C.1 C.2.1 d (K H locs ls hP hS h)
theorem z_iand (C : zC x g cc own ret nL fr lo) {a b : Int32} (hd : zd cc pc .iand 1 q) (K : zw x g nL kc ks Q σ q L (zi (a &&& b) :: st)) : zw x g nL kc ks Q σ pc L (zi b :: zi a :: st) := by
  obtain ⟨d, rfl⟩ := hd
  exact fun H locs ls hP hS h => lv_iand C.1 C.2.1 d (K H locs ls hP hS h)
theorem z_ior (C : zC x g cc own ret nL fr lo) {a b : Int32} (hd : zd cc pc .ior 1 q) (K : zw x g nL kc ks Q σ q L (zi (a ||| b) :: st)) : zw x g nL kc ks Q σ pc L (zi b :: zi a :: st) := by
  obtain ⟨d, rfl⟩ := hd
  exact fun H locs ls hP hS h => lv_ior C.1 C.2.1 d (K H locs ls hP hS h)
theorem z_ixor (C : zC x g cc own ret nL fr lo) {a b : Int32} (hd : zd cc pc .ixor 1 q) (K : zw x g nL kc ks Q σ q L (zi (a ^^^ b) :: st)) : zw x g nL kc ks Q σ pc L (zi b :: zi a :: st) := by
  obtain ⟨d, rfl⟩ := hd
  exact fun H locs ls hP hS h => lv_ixor C.1 C.2.1 d (K H locs ls hP hS h)
theorem z_ineg (C : zC x g cc own ret nL fr lo) {a : Int32} (hd : zd cc pc .ineg 1 q) (K : zw x g nL kc ks Q σ q L (zi (-a) :: st)) : zw x g nL kc ks Q σ pc L (zi a :: st) := by
  obtain ⟨d, rfl⟩ := hd
  exact fun H locs ls hP hS h => lv_ineg C.1 C.2.1 d (K H locs ls hP hS h)
theorem z_idiv (C : zC x g cc own ret nL fr lo) {a b : Int32} (hd : zd cc pc .idiv 1 q) (hb : ¬ b = 0) (K : zw x g nL kc ks Q σ q L (zi (a / b) :: st)) : zw x g nL kc ks Q σ pc L (zi b :: zi a :: st) := by
  obtain ⟨d, rfl⟩ := hd
  exact fun H locs ls hP hS h => lv_idiv C.1 C.2.1 d hb (K H locs ls hP hS h)
theorem z_irem (C : zC x g cc own ret nL fr lo) {a b : Int32} (hd : zd cc pc .irem 1 q) (hb : ¬ b = 0) (K : zw x g nL kc ks Q σ q L (zi (a % b) :: st)) : zw x g nL kc ks Q σ pc L (zi b :: zi a :: st) := by
  obtain ⟨d, rfl⟩ := hd
  rw [← irem_eq_mod a b] at K
  exact fun H locs ls hP hS h => lv_irem C.1 C.2.1 d hb (K H locs ls hP hS h)
theorem z_ishl (C : zC x g cc own ret nL fr lo) {a b : Int32} (hd : zd cc pc .ishl 1 q) (K : zw x g nL kc ks Q σ q L (zi (a <<< (b &&& 31)) :: st)) : zw x g nL kc ks Q σ pc L (zi b :: zi a :: st) := by
  obtain ⟨d, rfl⟩ := hd
  exact fun H locs ls hP hS h => lv_ishl C.1 C.2.1 d (K H locs ls hP hS h)
theorem z_ishr (C : zC x g cc own ret nL fr lo) {a b : Int32} (hd : zd cc pc .ishr 1 q) (K : zw x g nL kc ks Q σ q L (zi (a >>> (b &&& 31)) :: st)) : zw x g nL kc ks Q σ pc L (zi b :: zi a :: st) := by
  obtain ⟨d, rfl⟩ := hd
  exact fun H locs ls hP hS h => lv_ishr C.1 C.2.1 d (K H locs ls hP hS h)
theorem z_iushr (C : zC x g cc own ret nL fr lo) {a b : Int32} (hd : zd cc pc .iushr 1 q) (K : zw x g nL kc ks Q σ q L (zi ((a.toUInt32 >>> (b.toUInt32 &&& Int32.toUInt32 31)).toInt32) :: st)) : zw x g nL kc ks Q σ pc L (zi b :: zi a :: st) := by
  obtain ⟨d, rfl⟩ := hd
  exact fun H locs ls hP hS h => lv_iushr C.1 C.2.1 d rfl (K H locs ls hP hS h)
theorem z_i2b (C : zC x g cc own ret nL fr lo) {a : Int32} (hd : zd cc pc .i2b 1 q) (K : zw x g nL kc ks Q σ q L (zi a.toInt8.toInt32 :: st)) : zw x g nL kc ks Q σ pc L (zi a :: st) := by
  obtain ⟨d, rfl⟩ := hd
  exact fun H locs ls hP hS h => lv_i2b C.1 C.2.1 d rfl (K H locs ls hP hS h)
theorem z_i2s (C : zC x g cc own ret nL fr lo) {a : Int32} (hd : zd cc pc .i2s 1 q) (K : zw x g nL kc ks Q σ q L (zi a.toInt16.toInt32 :: st)) : zw x g nL kc ks Q σ pc L (zi a :: st) := by
  obtain ⟨d, rfl⟩ := hd
  exact fun H locs ls hP hS h => lv_i2s C.1 C.2.1 d rfl (K H locs ls hP hS h)
theorem z_i2c (C : zC x g cc own ret nL fr lo) {a : Int32} (hd : zd cc pc .i2c 1 q) (K : zw x g nL kc ks Q σ q L (zi (a.toUInt32 % 65536).toInt32 :: st)) : zw x g nL kc ks Q σ pc L (zi a :: st) := by
  obtain ⟨d, rfl⟩ := hd
  exact fun H locs ls hP hS h => lv_i2c C.1 C.2.1 d rfl (K H locs ls hP hS h)
theorem z_i2l (C : zC x g cc own ret nL fr lo) {a : Int32} (hd : zd cc pc .i2l 1 q) (K : zw x g nL kc ks Q σ q L (zj a.toInt64 :: st)) : zw x g nL kc ks Q σ pc L (zi a :: st) := by
  obtain ⟨d, rfl⟩ := hd
  exact fun H locs ls hP hS h => lv_i2l C.1 C.2.1 d rfl (K H locs ls hP hS h)
theorem z_l2i (C : zC x g cc own ret nL fr lo) {a : Int64} (hd : zd cc pc .l2i 1 q) (K : zw x g nL kc ks Q σ q L (zi a.toInt32 :: st)) : zw x g nL kc ks Q σ pc L (zj a :: st) := by
  obtain ⟨d, rfl⟩ := hd
  exact fun H locs ls hP hS h => lv_l2i C.1 C.2.1 d rfl (K H locs ls hP hS h)
theorem z_land (C : zC x g cc own ret nL fr lo) {a b : Int64} (hd : zd cc pc .land 1 q) (K : zw x g nL kc ks Q σ q L (zj (a &&& b) :: st)) : zw x g nL kc ks Q σ pc L (zj b :: zj a :: st) := by
  obtain ⟨d, rfl⟩ := hd
  exact fun H locs ls hP hS h => lv_land C.1 C.2.1 d (K H locs ls hP hS h)
theorem z_lor (C : zC x g cc own ret nL fr lo) {a b : Int64} (hd : zd cc pc .lor 1 q) (K : zw x g nL kc ks Q σ q L (zj (a ||| b) :: st)) : zw x g nL kc ks Q σ pc L (zj b :: zj a :: st) := by
  obtain ⟨d, rfl⟩ := hd
  exact fun H locs ls hP hS h => lv_lor C.1 C.2.1 d (K H locs ls hP hS h)
theorem z_lushr (C : zC x g cc own ret nL fr lo) {a : Int64} {b : Int32} (hd : zd cc pc .lushr 1 q) (K : zw x g nL kc ks Q σ q L (zj (a.toUInt64 >>> (b.toInt64.toUInt64 &&& Int64.toUInt64 63)).toInt64 :: st)) : zw x g nL kc ks Q σ pc L (zi b :: zj a :: st) := by
  obtain ⟨d, rfl⟩ := hd
  exact fun H locs ls hP hS h => lv_lushr C.1 C.2.1 d rfl (K H locs ls hP hS h)
theorem z_lshl (C : zC x g cc own ret nL fr lo) {a : Int64} {b : Int32} (hd : zd cc pc .lshl 1 q) (K : zw x g nL kc ks Q σ q L (zj (a <<< (b.toInt64 &&& 63)) :: st)) : zw x g nL kc ks Q σ pc L (zi b :: zj a :: st) := by
  obtain ⟨d, rfl⟩ := hd
  exact fun H locs ls hP hS h => lv_lshl C.1 C.2.1 d rfl (K H locs ls hP hS h)
theorem z_lshr (C : zC x g cc own ret nL fr lo) {a : Int64} {b : Int32} (hd : zd cc pc .lshr 1 q) (K : zw x g nL kc ks Q σ q L (zj (a >>> (b.toInt64 &&& 63)) :: st)) : zw x g nL kc ks Q σ pc L (zi b :: zj a :: st) := by
  obtain ⟨d, rfl⟩ := hd
  exact fun H locs ls hP hS h => lv_lshr C.1 C.2.1 d rfl (K H locs ls hP hS h)
theorem z_dup (C : zC x g cc own ret nL fr lo) {v : ZV} (hd : zd cc pc .dup 1 q) (hv : zlong (some v) = false) (K : zw x g nL kc ks Q σ q L (v :: v :: st)) : zw x g nL kc ks Q σ pc L (v :: st) := by
  obtain ⟨d, rfl⟩ := hd
  exact fun H locs ls hP hS h => lv_dup C.1 C.2.1 d (by rw [zval_cat, hv]; decide) (K H locs ls hP hS h)
theorem z_dup2 (C : zC x g cc own ret nL fr lo) {v w : ZV} (hd : zd cc pc .dup2 1 q) (hv : zlong (some v) = false) (hw : zlong (some w) = false) (K : zw x g nL kc ks Q σ q L (v :: w :: v :: w :: st)) : zw x g nL kc ks Q σ pc L (v :: w :: st) := by
  obtain ⟨d, rfl⟩ := hd
  exact fun H locs ls hP hS h => lv_dup2_11 C.1 C.2.1 d (by rw [zval_cat, hv]; decide) (by rw [zval_cat, hw]; decide) (K H locs ls hP hS h)
theorem z_pop (C : zC x g cc own ret nL fr lo) {v : ZV} (hd : zd cc pc .pop 1 q) (hv : zlong (some v) = false) (K : zw x g nL kc ks Q σ q L st) : zw x g nL kc ks Q σ pc L (v :: st) := by
  obtain ⟨d, rfl⟩ := hd
  exact fun H locs ls hP hS h => lv_pop C.1 C.2.1 d (by rw [zval_cat, hv]; decide) (K H locs ls hP hS h)
theorem z_goto (C : zC x g cc own ret nL fr lo) {off : Int} (hd : zdb cc pc (.goto off) off q t) (K : zw x g nL kc ks Q σ t L st) : zw x g nL kc ks Q σ pc L st :=
  fun H locs ls hP hS h => lv_goto C.1 C.2.1 hd.1 hd.2.2 (K H locs ls hP hS h)
theorem z_null (C : zC x g cc own ret nL fr lo) (hd : zd cc pc .aconst_null 1 q) (K : zw x g nL kc ks Q σ q L (zr 0 :: st)) : zw x g nL kc ks Q σ pc L st := by
  obtain ⟨d, rfl⟩ := hd
  exact fun H locs ls hP hS h => lv_null C.1 C.2.1 d (K H locs ls hP hS h)
theorem z_ifnull (C : zC x g cc own ret nL fr lo) {o : Nat} {off : Int} (hd : zdb cc pc (.ifnull off) off q t) (kt : o = 0 → zw x g nL kc ks Q σ t L st) (kf : ¬ o = 0 → zw x g nL kc ks Q σ q L st) : zw x g nL kc ks Q σ pc L (zr o :: st) := by
  obtain ⟨d, rfl, ht⟩ := hd
  intro H locs ls hP hS h
  show W _ _ _ _ _ _ _ _ _ _ _ _ _ _ _ (F0 _ _ _ (zrv g o :: st.map (zval g)))
  by_cases ho : o = 0
  · subst ho
    exact lv_ifnullN C.1 C.2.1 d ht (kt rfl H locs ls hP hS h)
  · obtain ⟨a, ha⟩ := zrv_ref (g := g) ho
    rw [ha]
    exact lv_ifnull C.1 C.2.1 d (kf ho H locs ls hP hS h)
theorem z_ifnonnull (C : zC x g cc own ret nL fr lo) {o : Nat} {off : Int} (hd : zdb cc pc (.ifnonnull off) off q t) (kf : o = 0 → zw x g nL kc ks Q σ q L st) (kt : ¬ o = 0 → zw x g nL kc ks Q σ t L st) : zw x g nL kc ks Q σ pc L (zr o :: st) := by
  obtain ⟨d, rfl, ht⟩ := hd
  intro H locs ls hP hS h
  show W _ _ _ _ _ _ _ _ _ _ _ _ _ _ _ (F0 _ _ _ (zrv g o :: st.map (zval g)))
  by_cases ho : o = 0
  · subst ho
    exact lv_ifnonnullN C.1 C.2.1 d (kf rfl H locs ls hP hS h)
  · obtain ⟨a, ha⟩ := zrv_ref (g := g) ho
    rw [ha]
    exact lv_ifnonnull C.1 C.2.1 d ht (kt ho H locs ls hP hS h)
theorem z_if_eq (C : zC x g cc own ret nL fr lo) {a : Int32} {off : Int} (hd : zdb cc pc (.ifCond .eq off) off q t) (kt : a = 0 → zw x g nL kc ks Q σ t L st) (kf : ¬ a = 0 → zw x g nL kc ks Q σ q L st) : zw x g nL kc ks Q σ pc L (zi a :: st) := by
  obtain ⟨d, rfl, ht⟩ := hd
  exact fun H locs ls hP hS h => lv_if_eq C.1 C.2.1 d ht (fun z => kt z H locs ls hP hS h) (fun z => kf z H locs ls hP hS h)
theorem z_icmp_eq (C : zC x g cc own ret nL fr lo) {a b : Int32} {off : Int} (hd : zdb cc pc (.if_icmp .eq off) off q t) (kt : a = b → zw x g nL kc ks Q σ t L st) (kf : ¬ a = b → zw x g nL kc ks Q σ q L st) : zw x g nL kc ks Q σ pc L (zi b :: zi a :: st) := by
  obtain ⟨d, rfl, ht⟩ := hd
  exact fun H locs ls hP hS h => lv_icmp_eq C.1 C.2.1 d ht (fun z => kt z H locs ls hP hS h) (fun z => kf z H locs ls hP hS h)
theorem z_if_ne (C : zC x g cc own ret nL fr lo) {a : Int32} {off : Int} (hd : zdb cc pc (.ifCond .ne off) off q t) (kf : a = 0 → zw x g nL kc ks Q σ q L st) (kt : ¬ a = 0 → zw x g nL kc ks Q σ t L st) : zw x g nL kc ks Q σ pc L (zi a :: st) := by
  obtain ⟨d, rfl, ht⟩ := hd
  exact fun H locs ls hP hS h => lv_if_ne C.1 C.2.1 d ht (fun z => kt z H locs ls hP hS h) (fun z => kf z H locs ls hP hS h)
theorem z_icmp_ne (C : zC x g cc own ret nL fr lo) {a b : Int32} {off : Int} (hd : zdb cc pc (.if_icmp .ne off) off q t) (kf : a = b → zw x g nL kc ks Q σ q L st) (kt : ¬ a = b → zw x g nL kc ks Q σ t L st) : zw x g nL kc ks Q σ pc L (zi b :: zi a :: st) := by
  obtain ⟨d, rfl, ht⟩ := hd
  exact fun H locs ls hP hS h => lv_icmp_ne C.1 C.2.1 d ht (fun z => kt z H locs ls hP hS h) (fun z => kf z H locs ls hP hS h)
theorem z_if_lt (C : zC x g cc own ret nL fr lo) {a : Int32} {off : Int} (hd : zdb cc pc (.ifCond .lt off) off q t) (kt : a < 0 → zw x g nL kc ks Q σ t L st) (kf : ¬ a < 0 → zw x g nL kc ks Q σ q L st) : zw x g nL kc ks Q σ pc L (zi a :: st) := by
  obtain ⟨d, rfl, ht⟩ := hd
  exact fun H locs ls hP hS h => lv_if_lt C.1 C.2.1 d ht (fun z => kt z H locs ls hP hS h) (fun z => kf z H locs ls hP hS h)
theorem z_icmp_lt (C : zC x g cc own ret nL fr lo) {a b : Int32} {off : Int} (hd : zdb cc pc (.if_icmp .lt off) off q t) (kt : a < b → zw x g nL kc ks Q σ t L st) (kf : ¬ a < b → zw x g nL kc ks Q σ q L st) : zw x g nL kc ks Q σ pc L (zi b :: zi a :: st) := by
  obtain ⟨d, rfl, ht⟩ := hd
  exact fun H locs ls hP hS h => lv_icmp_lt C.1 C.2.1 d ht (fun z => kt z H locs ls hP hS h) (fun z => kf z H locs ls hP hS h)
theorem z_if_ge (C : zC x g cc own ret nL fr lo) {a : Int32} {off : Int} (hd : zdb cc pc (.ifCond .ge off) off q t) (kt : 0 ≤ a → zw x g nL kc ks Q σ t L st) (kf : ¬ 0 ≤ a → zw x g nL kc ks Q σ q L st) : zw x g nL kc ks Q σ pc L (zi a :: st) := by
  obtain ⟨d, rfl, ht⟩ := hd
  exact fun H locs ls hP hS h => lv_if_ge C.1 C.2.1 d ht (fun z => kt z H locs ls hP hS h) (fun z => kf z H locs ls hP hS h)
theorem z_icmp_ge (C : zC x g cc own ret nL fr lo) {a b : Int32} {off : Int} (hd : zdb cc pc (.if_icmp .ge off) off q t) (kt : b ≤ a → zw x g nL kc ks Q σ t L st) (kf : ¬ b ≤ a → zw x g nL kc ks Q σ q L st) : zw x g nL kc ks Q σ pc L (zi b :: zi a :: st) := by
  obtain ⟨d, rfl, ht⟩ := hd
  exact fun H locs ls hP hS h => lv_icmp_ge C.1 C.2.1 d ht (fun z => kt z H locs ls hP hS h) (fun z => kf z H locs ls hP hS h)
theorem z_if_gt (C : zC x g cc own ret nL fr lo) {a : Int32} {off : Int} (hd : zdb cc pc (.ifCond .gt off) off q t) (kt : 0 < a → zw x g nL kc ks Q σ t L st) (kf : ¬ 0 < a → zw x g nL kc ks Q σ q L st) : zw x g nL kc ks Q σ pc L (zi a :: st) := by
  obtain ⟨d, rfl, ht⟩ := hd
  exact fun H locs ls hP hS h => lv_if_gt C.1 C.2.1 d ht (fun z => kt z H locs ls hP hS h) (fun z => kf z H locs ls hP hS h)
theorem z_icmp_gt (C : zC x g cc own ret nL fr lo) {a b : Int32} {off : Int} (hd : zdb cc pc (.if_icmp .gt off) off q t) (kt : b < a → zw x g nL kc ks Q σ t L st) (kf : ¬ b < a → zw x g nL kc ks Q σ q L st) : zw x g nL kc ks Q σ pc L (zi b :: zi a :: st) := by
  obtain ⟨d, rfl, ht⟩ := hd
  exact fun H locs ls hP hS h => lv_icmp_gt C.1 C.2.1 d ht (fun z => kt z H locs ls hP hS h) (fun z => kf z H locs ls hP hS h)
theorem z_if_le (C : zC x g cc own ret nL fr lo) {a : Int32} {off : Int} (hd : zdb cc pc (.ifCond .le off) off q t) (kt : a ≤ 0 → zw x g nL kc ks Q σ t L st) (kf : ¬ a ≤ 0 → zw x g nL kc ks Q σ q L st) : zw x g nL kc ks Q σ pc L (zi a :: st) := by
  obtain ⟨d, rfl, ht⟩ := hd
  exact fun H locs ls hP hS h => lv_if_le C.1 C.2.1 d ht (fun z => kt z H locs ls hP hS h) (fun z => kf z H locs ls hP hS h)
theorem z_icmp_le (C : zC x g cc own ret nL fr lo) {a b : Int32} {off : Int} (hd : zdb cc pc (.if_icmp .le off) off q t) (kt : a ≤ b → zw x g nL kc ks Q σ t L st) (kf : ¬ a ≤ b → zw x g nL kc ks Q σ q L st) : zw x g nL kc ks Q σ pc L (zi b :: zi a :: st) := by
  obtain ⟨d, rfl, ht⟩ := hd
  exact fun H locs ls hP hS h => lv_icmp_le C.1 C.2.1 d ht (fun z => kt z H locs ls hP hS h) (fun z => kf z H locs ls hP hS h)
end
end
section
/-! rows of the heap, of calls, switches and ends -/
/-- a field of numbers: class ci's k-th, linked from a place of own -/
def zFI (own : String) (idx ci k : Nat) : Prop := ∃ (Cn : String) (T : u_T) (N : Nat), zcl[ci]? = some (Cn, T, N) ∧ ci < 10 ∧ k < N ∧ (T k).1 = Cn ∧ Cond.fieldLink own idx Cn (T k).2.1 (T k).2.2.1 ∈ lw_gd ∧ (zfs (ci + 1))[k]? = some none
/-- a field of a reference that stays: its object lies d behind -/
def zFR (own : String) (idx ci k d : Nat) : Prop := ∃ (Cn : String) (T : u_T) (N : Nat), zcl[ci]? = some (Cn, T, N) ∧ ci < 10 ∧ k < N ∧ (T k).1 = Cn ∧ Cond.fieldLink own idx Cn (T k).2.1 (T k).2.2.1 ∈ lw_gd ∧ (zfs (ci + 1))[k]? = some (some (d + 1))
/-- the one field of a reference that changes -/
def zFD (own : String) (idx ci k : Nat) : Prop := ∃ (Cn : String) (T : u_T) (N : Nat), zcl[ci]? = some (Cn, T, N) ∧ ci < 10 ∧ k < N ∧ (T k).1 = Cn ∧ Cond.fieldLink own idx Cn (T k).2.1 (T k).2.2.1 ∈ lw_gd ∧ (zfs (ci + 1))[k]? = some (some 0)
/-- what a store wants of the field's kind -/
def zFty (ci k : Nat) (ty : FieldType) : Prop := ∀ q, zcl[ci]? = some q → (q.2.1 k).2.2.2 = false ∧ parseFieldDescriptor (q.2.1 k).2.2.1 = some ty
theorem zhu : ∀ (ci : Nat) (q : vw_C), zcl[ci]? = some q → (∀ w ∈ u_ws q.1 q.2.1 q.2.2, w ∈ lw_gd) ∧ (∃ ty0 : Nat → FieldType, ∀ k, k < q.2.2 → parseFieldDescriptor (q.2.1 k).2.2.1 = some (ty0 k)) ∧ (∀ a, a < q.2.2 → ∀ b, b < q.2.2 → a ≠ b → (q.2.1 a).2.1 ≠ (q.2.1 b).2.1)
  | 0, _, h => by cases h; exact ⟨hu0, ⟨_, ty0_ok⟩, nm0⟩
  | 1, _, h => by cases h; exact ⟨hu1, ⟨_, ty1_ok⟩, nm1⟩
  | 2, _, h => by cases h; exact ⟨hu2, ⟨_, ty2_ok⟩, nm2⟩
  | 3, _, h => by cases h; exact ⟨hu3, ⟨_, ty3_ok⟩, nm3⟩
  | 4, _, h => by cases h; exact ⟨hu4, ⟨_, ty4_ok⟩, nm4⟩
  | 5, _, h => by cases h; exact ⟨hu5, ⟨_, ty5_ok⟩, nm5⟩
  | 6, _, h => by cases h; exact ⟨hu6, ⟨_, ty6_ok⟩, nm6⟩
  | 7, _, h => by cases h; exact ⟨hu7, ⟨_, ty7_ok⟩, nm7⟩
  | 8, _, h => by cases h; exact ⟨hu8, ⟨_, ty8_ok⟩, nm8⟩
  | 9, _, h => by cases h; exact ⟨hu9, ⟨_, ty9_ok⟩, nm9⟩
  | n + 10, _, h => by simp [zcl] at h
/-- a boolean -/
def zbo (v : Int32) : Prop := v = 0 ∨ v = 1
theorem zbo_n {v : Int32} (h : zbo v) : narrow .boolean (.int v) = .int v := by rcases h with rfl | rfl <;> rfl
theorem zbo_f {v : Int32} (h : zbo v) : fits .boolean (.int v) = true := by rcases h with rfl | rfl <;> rfl
/-- an index of a row of n -/
def zin (i : Int32) (n : Nat) : Prop := 0 ≤ i.toInt ∧ i.toInt < n
theorem zin_vp {i : Int32} {n : Nat} (h : zin i n) : vp_in i n := vp_in_iff.mpr h
/-- a call's words -/
def zY (y : MethodName) (cc : ByteArray) (nL : Nat) (ret : Option FieldType) (n : Nat) : Prop :=
  Cond.code y cc nL ret ∈ lw_gd ∧ Cond.initialized y.cls ∈ lw_gd ∧ (y.cls ≠ "java/lang/invoke/MethodHandle" ∧ y.cls ≠ "java/lang/invoke/VarHandle") ∧ (parseMethodDescriptor y.desc).map (fun d => d.parameters.length) = some n
def zYV (y : MethodName) (cc : ByteArray) (nL : Nat) (ret : Option FieldType) (n : Nat) : Prop := zY y cc nL ret n ∧ Cond.instanceMethod y ∈ lw_gd ∧ Cond.selects y.cls y y ∈ lw_gd
def zYS (y : MethodName) (cc : ByteArray) (nL : Nat) (ret : Option FieldType) (n : Nat) : Prop := zY y cc nL ret n ∧ Cond.static y ∈ lw_gd
theorem zY.params {y : MethodName} {cc : ByteArray} {nL : Nat} {ret : Option FieldType} {n : Nat} (h : zY y cc nL ret n) : ∀ sig, parseMethodDescriptor y.desc = some sig → n = sig.parameters.length := fun sig hs => by
  have h2 := h.2.2.2
  rw [hs] at h2
  exact (Option.some.inj h2).symm
def zas_l (as : List ZV) (st : List ZV) : List ZV := as.reverse ++ st
/-- a switch: the keys with their targets, the target of what is none of them -/
def zswt : List (Int32 × Nat) → Nat → Int32 → Nat
  | [], d, _ => d
  | (k, t) :: l, d, v => if v = k then t else zswt l d v
def ztb (pc : Nat) (lo : Int) : List Int → List (Int32 × Nat) → Prop
  | [], [] => True
  | o :: os, (k, t) :: l => k.toInt = lo ∧ (pc : Int) + o = (t : Int) ∧ ztb pc (lo + 1) os l
  | _, _ => False
def zlk (pc : Nat) : List (Int × Int) → List (Int32 × Nat) → Prop
  | [], [] => True
  | (a, o) :: os, (k, t) :: l => k.toInt = a ∧ (pc : Int) + o = (t : Int) ∧ zlk pc os l
  | _, _ => False
theorem ztb_in (pc : Nat) (d : Nat) (x : Int32) : ∀ (lo : Int) (os : List Int) (l : List (Int32 × Nat)), ztb pc lo os l → (∀ o, os[(x.toInt - lo).toNat]? = some o → ¬ x.toInt < lo → (pc : Int) + o = (zswt l d x : Int)) ∧ ((x.toInt < lo ∨ lo + os.length ≤ x.toInt) → zswt l d x = d)
  | lo, [], [], _ => ⟨fun o h => by simp at h, fun _ => rfl⟩
  | lo, [], _ :: _, h => h.elim
  | lo, _ :: _, [], h => h.elim
  | lo, o :: os, (k, t) :: l, h => by
    obtain ⟨h1, h2, h3⟩ := h
    obtain ⟨i1, i2⟩ := ztb_in pc d x (lo + 1) os l h3
    by_cases hx : x = k
    · subst hx
      refine ⟨fun o' ho hlo => ?_, fun hh => ?_⟩
      · have z : (x.toInt - lo).toNat = 0 := by omega
        rw [z] at ho
        cases ho
        rw [zswt, if_pos rfl]
        exact h2
      · exfalso
        simp only [List.length_cons] at hh
        omega
    · have hx' : x.toInt ≠ lo := fun e => hx (Int32.toInt_inj.mp (by rw [e, h1]))
      refine ⟨fun o' ho hlo => ?_, fun hh => ?_⟩
      · rw [zswt, if_neg hx]
        refine i1 o' ?_ (by omega)
        have z : (x.toInt - lo).toNat = (x.toInt - (lo + 1)).toNat + 1 := by omega
        rw [z, List.getElem?_cons_succ] at ho
        exact ho
      · rw [zswt, if_neg hx]
        refine i2 ?_
        simp only [List.length_cons] at hh
        omega
theorem zlk_in (pc : Nat) (d : Nat) (dflt : Int) (hd : (pc : Int) + dflt = (d : Int)) (x : Int32) : ∀ (os : List (Int × Int)) (l : List (Int32 × Nat)), zlk pc os l → (pc : Int) + Op.lookupswitch.offset os dflt x.toInt = (zswt l d x : Int)
  | [], [], _ => by simpa [Op.lookupswitch.offset, zswt] using hd
  | [], _ :: _, h => h.elim
  | _ :: _, [], h => h.elim
  | (a, o) :: os, (k, t) :: l, h => by
    obtain ⟨h1, h2, h3⟩ := h
    have ih := zlk_in pc d dflt hd x os l h3
    by_cases hx : x = k
    · subst hx
      rw [zswt, if_pos rfl]
      simpa [Op.lookupswitch.offset, h1] using h2
    · rw [zswt, if_neg hx, lv_osw hx h1]
      exact ih
section
variable {x : ZX} {g : ZG} {cc : ByteArray} {own : String} {ret : Option FieldType} {nL fr lo kc ks : Nat} {Q : State → Prop} {σ : ZS} {pc q t : Nat} {L : List (Option ZV)} {st : List ZV}
theorem zw.ref {o : Nat} (h : zsh o ≠ 0) (K : ∀ (H : Heap) (locs : List Loc) (ls : Array Slot), zP g σ H → va_S (zA g) x.2.2.2.2.1.heap H locs → zlh g ls nL L →
    W x.1 x.2.1 x.2.2.1 x.2.2.2.1 x.2.2.2.2.1 x.2.2.2.2.2.1 x.2.2.2.2.2.2.1 x.2.2.2.2.2.2.2.1 x.2.2.2.2.2.2.2.2.1 x.2.2.2.2.2.2.2.2.2 H locs kc ks Q (F0 x.2.2.2.2.2.1 pc ls (.ref (g.1 + o) :: st.map (zval g)))) : zw x g nL kc ks Q σ pc L (zr o :: st) := by
  intro H locs ls hP hS hl
  have h1 := K H locs ls hP hS hl
  rw [← zrv_of (g := g) h] at h1
  exact h1
theorem z_getI (C : zC x g cc own ret nL fr lo) {idx ci k o : Nat} (hd : zd cc pc (.getfield idx) 3 q) (hw : zFI own idx ci k) (ho : zsh o = ci + 1) (K : zw x g nL kc ks Q σ q L (zi (σ o k) :: st)) : zw x g nL kc ks Q σ pc L (zr o :: st) := by
  obtain ⟨d, rfl⟩ := hd
  obtain ⟨Cn, T, N, h1, h2, h3, h4, h5, h6⟩ := hw
  obtain ⟨u1, -, -⟩ := zhu ci _ h1
  refine zw.ref (by omega) fun H locs ls hP hS hl => ?_
  obtain ⟨p0, hp⟩ := zP_at (g := g) (σ := σ) (o := o) (by omega)
  rw [zen_obj ho h2] at hp
  have h7 := zob_get (g := g) (f := σ o) (o := o) (zfs (ci + 1)) 0 k none h6
  rw [Nat.zero_add] at h7
  exact va_get C.1 C.2.1 C.2.2.2.2.2.1 u1 C.2.2.2.2.1 C.2.2.2.2.2.2.2.2.1 hP p0 hp h1 k h3 (C.2.2.2.2.2.1 _ h5) (fun y hy => by rw [h4] at hy; exact hy) h7 d (K H locs ls hP hS hl)
theorem z_getR (C : zC x g cc own ret nL fr lo) {idx ci k o d0 : Nat} (hd : zd cc pc (.getfield idx) 3 q) (hw : zFR own idx ci k d0) (ho : zsh o = ci + 1) (o' : Nat) (he : o + (d0 + 1) = o') (ho' : zsh o' ≠ 0) (K : zw x g nL kc ks Q σ q L (zr o' :: st)) : zw x g nL kc ks Q σ pc L (zr o :: st) := by
  obtain ⟨d, rfl⟩ := hd
  obtain ⟨Cn, T, N, h1, h2, h3, h4, h5, h6⟩ := hw
  obtain ⟨u1, -, -⟩ := zhu ci _ h1
  subst he
  refine zw.ref (by omega) fun H locs ls hP hS hl => ?_
  obtain ⟨p0, hp⟩ := zP_at (g := g) (σ := σ) (o := o) (by omega)
  rw [zen_obj ho h2] at hp
  have h7 := zob_get (g := g) (f := σ o) (o := o) (zfs (ci + 1)) 0 k _ h6
  rw [Nat.zero_add] at h7
  have h8 := K H locs ls hP hS hl
  change W _ _ _ _ _ _ _ _ _ _ _ _ _ _ _ (F0 _ _ _ (zrv g (o + (d0 + 1)) :: st.map (zval g))) at h8
  rw [zrv_of ho'] at h8
  exact va_get C.1 C.2.1 C.2.2.2.2.2.1 u1 C.2.2.2.2.1 C.2.2.2.2.2.2.2.2.1 hP p0 hp h1 k h3 (C.2.2.2.2.2.1 _ h5) (fun y hy => by rw [h4] at hy; exact hy) h7 d h8
theorem z_getD (C : zC x g cc own ret nL fr lo) {idx ci k o : Nat} (hd : zd cc pc (.getfield idx) 3 q) (hw : zFD own idx ci k) (ho : zsh o = ci + 1) (K : zw x g nL kc ks Q σ q L (zr (σ o k).toNatClampNeg :: st)) : zw x g nL kc ks Q σ pc L (zr o :: st) := by
  obtain ⟨d, rfl⟩ := hd
  obtain ⟨Cn, T, N, h1, h2, h3, h4, h5, h6⟩ := hw
  obtain ⟨u1, -, -⟩ := zhu ci _ h1
  refine zw.ref (by omega) fun H locs ls hP hS hl => ?_
  obtain ⟨p0, hp⟩ := zP_at (g := g) (σ := σ) (o := o) (by omega)
  rw [zen_obj ho h2] at hp
  have h7 := zob_get (g := g) (f := σ o) (o := o) (zfs (ci + 1)) 0 k _ h6
  rw [Nat.zero_add] at h7
  exact va_get C.1 C.2.1 C.2.2.2.2.2.1 u1 C.2.2.2.2.1 C.2.2.2.2.2.2.2.2.1 hP p0 hp h1 k h3 (C.2.2.2.2.2.1 _ h5) (fun y hy => by rw [h4] at hy; exact hy) h7 d (K H locs ls hP hS hl)
theorem z_put (C : zC x g cc own ret nL fr lo) {idx ci k o : Nat} {v : Int32} {w : Value} {dd : Option Nat} {ty : FieldType} (hd : zd cc pc (.putfield idx) 3 q)
    {Cn : String} {T : u_T} {N : Nat} (h1 : zcl[ci]? = some (Cn, T, N)) (h2 : ci < 10) (h3 : k < N) (h4 : (T k).1 = Cn) (h5 : Cond.fieldLink own idx Cn (T k).2.1 (T k).2.2.1 ∈ lw_gd) (h6 : (zfs (ci + 1))[k]? = some dd)
    (hf : (T k).2.2.2 = false) (hty : parseFieldDescriptor (T k).2.2.1 = some ty) (hn : narrow ty w = w) (hfit : fits ty w = true) (hw : zfv g (upd (σ o) k v) o k dd = w) (ho : zsh o = ci + 1)
    (K : zw x g nL kc ks Q (zu σ o k v) q L st) {H : Heap} {locs : List Loc} {ls : Array Slot} (hP : zP g σ H) (hS : va_S (zA g) x.2.2.2.2.1.heap H locs) (hl : zlh g ls nL L) :
    W x.1 x.2.1 x.2.2.1 x.2.2.2.1 x.2.2.2.2.1 x.2.2.2.2.2.1 x.2.2.2.2.2.2.1 x.2.2.2.2.2.2.2.1 x.2.2.2.2.2.2.2.2.1 x.2.2.2.2.2.2.2.2.2 H locs kc ks Q (F0 x.2.2.2.2.2.1 pc ls (w :: .ref (g.1 + o) :: st.map (zval g))) := by
  obtain ⟨d, rfl⟩ := hd
  obtain ⟨u1, ⟨ty0, u2⟩, u3⟩ := zhu ci _ h1
  obtain ⟨p0, hp⟩ := zP_at (g := g) (σ := σ) (o := o) (by omega)
  have hp2 := hp
  rw [zen_obj ho h2] at hp
  refine va_put C.1 C.2.1 C.2.2.2.2.2.1 u1 ty0 u2 u3 C.2.2.2.2.1 C.2.2.2.2.2.2.2.2.1 hP (zD _) hS p0 hp h1 k h3 (C.2.2.2.2.2.1 _ h5) (fun y hy => by rw [h4] at hy; exact hy) hf hty hn hfit (by rw [zob_len]; exact (List.getElem?_eq_some_iff.mp h6).1) d fun H1 locs1 hP1 _ hS1 => ?_
  refine K H1 locs1 ls (zP_set (σ' := zu σ o k v) (by omega) hp2 ?_ (fun a ha => zu_ne ha) hP1) hS1 hl
  rw [zen_obj ho h2, show zu σ o k v o = upd (σ o) k v from zu_row, ← hw, zob_set h6]
theorem z_putI (C : zC x g cc own ret nL fr lo) {idx ci k o : Nat} {v : Int32} (hd : zd cc pc (.putfield idx) 3 q) (hw : zFI own idx ci k) (hty : zFty ci k .int) (ho : zsh o = ci + 1) (K : zw x g nL kc ks Q (zu σ o k v) q L st) : zw x g nL kc ks Q σ pc L (zi v :: zr o :: st) := by
  obtain ⟨Cn, T, N, h1, h2, h3, h4, h5, h6⟩ := hw
  obtain ⟨hf, hty⟩ := hty _ h1
  intro H locs ls hP hS hl
  show W _ _ _ _ _ _ _ _ _ _ _ _ _ _ _ (F0 _ _ _ (.int v :: zrv g o :: st.map (zval g)))
  rw [zrv_of (by omega)]
  exact z_put C (v := v) hd h1 h2 h3 h4 h5 h6 hf hty rfl rfl (by show Value.int (upd (σ o) k v k) = .int v; rw [pk_us]) ho K hP hS hl
theorem z_putZ (C : zC x g cc own ret nL fr lo) {idx ci k o : Nat} {v : Int32} (hd : zd cc pc (.putfield idx) 3 q) (hw : zFI own idx ci k) (hty : zFty ci k .boolean) (ho : zsh o = ci + 1) (hv : zbo v) (K : zw x g nL kc ks Q (zu σ o k v) q L st) : zw x g nL kc ks Q σ pc L (zi v :: zr o :: st) := by
  obtain ⟨Cn, T, N, h1, h2, h3, h4, h5, h6⟩ := hw
  obtain ⟨hf, hty⟩ := hty _ h1
  intro H locs ls hP hS hl
  show W _ _ _ _ _ _ _ _ _ _ _ _ _ _ _ (F0 _ _ _ (.int v :: zrv g o :: st.map (zval g)))
  rw [zrv_of (by omega)]
  exact z_put C (v := v) hd h1 h2 h3 h4 h5 h6 hf hty (zbo_n hv) (zbo_f hv) (by show Value.int (upd (σ o) k v k) = .int v; rw [pk_us]) ho K hP hS hl
theorem z_putD (C : zC x g cc own ret nL fr lo) {idx ci k o o1 : Nat} (hd : zd cc pc (.putfield idx) 3 q) (hw : zFD own idx ci k) (hty : zFty ci k (.array .int)) (ho : zsh o = ci + 1) (h1 : zsh o1 ≠ 0) (K : zw x g nL kc ks Q (zu σ o k (nI o1)) q L st) : zw x g nL kc ks Q σ pc L (zr o1 :: zr o :: st) := by
  have hlt := (zsh_lt h1).2
  obtain ⟨Cn, T, N, g1, g2, g3, g4, g5, g6⟩ := hw
  obtain ⟨hf, hty⟩ := hty _ g1
  intro H locs ls hP hS hl
  show W _ _ _ _ _ _ _ _ _ _ _ _ _ _ _ (F0 _ _ _ (zrv g o1 :: zrv g o :: st.map (zval g)))
  rw [zrv_of (o := o) (by omega)]
  refine z_put C (v := nI o1) hd g1 g2 g3 g4 g5 g6 hf hty ?_ ?_ ?_ ho K hP hS hl
  · rw [zrv_of h1]; rfl
  · rw [zrv_of h1]; rfl
  · show zrv g (upd (σ o) k (nI o1) k).toNatClampNeg = _
    rw [pk_us, nI_clamp (by omega)]
theorem z_iald (C : zC x g cc own ret nL fr lo) {o n : Nat} {i : Int32} (hd : zd cc pc .iaload 1 q) (ho : zsh o = 15) (hn : zln o = n) (hi : zin i n) (K : zw x g nL kc ks Q σ q L (zi (σ o i.toNatClampNeg) :: st)) : zw x g nL kc ks Q σ pc L (zi i :: zr o :: st) := by
  obtain ⟨d, rfl⟩ := hd
  intro H locs ls hP hS hl
  show W _ _ _ _ _ _ _ _ _ _ _ _ _ _ _ (F0 _ _ _ (.int i :: zrv g o :: st.map (zval g)))
  rw [zrv_of (by omega)]
  obtain ⟨p0, hp⟩ := zP_at (g := g) (σ := σ) (o := o) (by omega)
  rw [zen_arr ho hn] at hp
  exact va_iald C.1 C.2.1 C.2.2.2.2.2.2.2.2.1 hP p0 0 hp rfl (zin_vp hi) d (K H locs ls hP hS hl)
theorem z_iast (C : zC x g cc own ret nL fr lo) {o n : Nat} {i v : Int32} (hd : zd cc pc .iastore 1 q) (ho : zsh o = 15) (hn : zln o = n) (hi : zin i n) (K : zw x g nL kc ks Q (zu σ o i.toNatClampNeg v) q L st) : zw x g nL kc ks Q σ pc L (zi v :: zi i :: zr o :: st) := by
  obtain ⟨d, rfl⟩ := hd
  intro H locs ls hP hS hl
  show W _ _ _ _ _ _ _ _ _ _ _ _ _ _ _ (F0 _ _ _ (.int v :: .int i :: zrv g o :: st.map (zval g)))
  rw [zrv_of (by omega)]
  obtain ⟨p0, hp⟩ := zP_at (g := g) (σ := σ) (o := o) (by omega)
  have hp2 := hp
  rw [zen_arr ho hn] at hp
  refine va_iast C.1 C.2.1 C.2.2.2.2.2.2.2.2.1 hP (zD _) hS p0 0 hp rfl (zin_vp hi) d fun H1 locs1 hP1 _ hS1 => ?_
  refine K H1 locs1 ls (zP_set (σ' := zu σ o i.toNatClampNeg v) (by omega) hp2 ?_ (fun a ha => zu_ne ha) hP1) hS1 hl
  rw [zen_arr ho hn]
  exact congrArg (fun f => (Sum.inl (g.2.2.1 0, n, .inl f) : va_E)) zu_row
theorem z_alen (C : zC x g cc own ret nL fr lo) {o n : Nat} (v : Int32) (hd : zd cc pc .arraylength 1 q) (ho : zsh o = 15) (hn : zln o = n) (hv : Int32.ofNat n = v) (K : zw x g nL kc ks Q σ q L (zi v :: st)) : zw x g nL kc ks Q σ pc L (zr o :: st) := by
  obtain ⟨d, rfl⟩ := hd
  refine zw.ref (by omega) fun H locs ls hP hS hl => ?_
  obtain ⟨p0, hp⟩ := zP_at (g := g) (σ := σ) (o := o) (by omega)
  rw [zen_arr ho hn] at hp
  exact va_alen C.1 C.2.1 C.2.2.2.2.2.2.2.2.1 hP p0 0 hp rfl hv d (K H locs ls hP hS hl)
theorem ztys_at (g : ZG) {κ : Nat} (h1 : 11 ≤ κ) (h2 : κ < 15) : (ztys g)[κ - 10]? = some (g.2.2.1 (κ - 10), .object (zrc κ)) := by
  match κ, h1, h2 with
  | 11, _, _ => rfl
  | 12, _, _ => rfl
  | 13, _, _ => rfl
  | 14, _, _ => rfl
theorem z_alenR (C : zC x g cc own ret nL fr lo) {o κ : Nat} (v : Int32) (hd : zd cc pc .arraylength 1 q) (ho : zsh o = κ) (h1 : 11 ≤ κ) (h2 : κ < 15) (hv : Int32.ofNat (zrn κ) = v) (K : zw x g nL kc ks Q σ q L (zi v :: st)) : zw x g nL kc ks Q σ pc L (zr o :: st) := by
  obtain ⟨d, rfl⟩ := hd
  refine zw.ref (by omega) fun H locs ls hP hS hl => ?_
  obtain ⟨p0, hp⟩ := zP_at (g := g) (σ := σ) (o := o) (by omega)
  rw [zen_ref ho h1 h2] at hp
  exact va_alen C.1 C.2.1 C.2.2.2.2.2.2.2.2.1 hP p0 (κ - 10) hp (ztys_at g h1 h2) hv d (K H locs ls hP hS hl)
theorem z_aald (C : zC x g cc own ret nL fr lo) {o κ : Nat} {i : Int32} (hd : zd cc pc .aaload 1 q) (ho : zsh o = κ) (h1 : 11 ≤ κ) (h2 : κ < 15) (hi : zin i (zrn κ)) (o' : Nat) (he : o + zrd κ + zrs κ * i.toNatClampNeg = o') (ho' : zsh o' ≠ 0) (K : zw x g nL kc ks Q σ q L (zr o' :: st)) : zw x g nL kc ks Q σ pc L (zi i :: zr o :: st) := by
  obtain ⟨d, rfl⟩ := hd
  subst he
  intro H locs ls hP hS hl
  show W _ _ _ _ _ _ _ _ _ _ _ _ _ _ _ (F0 _ _ _ (.int i :: zrv g o :: st.map (zval g)))
  rw [zrv_of (by omega)]
  obtain ⟨p0, hp⟩ := zP_at (g := g) (σ := σ) (o := o) (by omega)
  rw [zen_ref ho h1 h2] at hp
  have h8 := K H locs ls hP hS hl
  change W _ _ _ _ _ _ _ _ _ _ _ _ _ _ _ (F0 _ _ _ (zrv g (o + zrd κ + zrs κ * i.toNatClampNeg) :: st.map (zval g))) at h8
  rw [zrv_of ho'] at h8
  exact va_aldq C.1 C.2.1 C.2.2.2.2.2.2.2.2.1 hP p0 (κ - 10) hp (ztys_at g h1 h2) (zin_vp hi) d h8
/-- the static rows: place 1000 KIND_ABOVE, 1001 BODIES -/
theorem z_gets0 (C : zC x g cc own ret nL fr lo) {idx : Nat} {host : String} (hd : zd cc pc (.getstatic idx) 3 q) (hw : Cond.fieldLinkNest own idx "GlassTax" "KIND_ABOVE" "[I" host ∈ lw_tbl) (K : zw x g nL kc ks Q σ q L (zr 1000 :: st)) : zw x g nL kc ks Q σ pc L st := by
  obtain ⟨d, rfl⟩ := hd
  exact fun H locs ls hP hS hl => va_getsN C.1 C.2.1 C.2.2.2.2.2.2.2.2.2.1.1.1 hS C.2.2.2.2.1 (va_Nw.use rfl (C.2.2.2.2.2.2.2.2.2.2.1 _ hw rfl)) (fun _ h => h) d (K H locs ls hP hS hl)
theorem z_gets1 (C : zC x g cc own ret nL fr lo) {idx : Nat} (hd : zd cc pc (.getstatic idx) 3 q) (hw : Cond.fieldLink own idx "GlassTax$Voices" "BODIES" "[I" ∈ lw_gd) (K : zw x g nL kc ks Q σ q L (zr 1001 :: st)) : zw x g nL kc ks Q σ pc L st := by
  obtain ⟨d, rfl⟩ := hd
  exact fun H locs ls hP hS hl => va_gets C.1 C.2.1 C.2.2.2.2.2.2.2.2.2.1.2.1.1 hS C.2.2.2.2.1 (C.2.2.2.2.2.1 _ hw) (fun _ h => h) d (K H locs ls hP hS hl)
theorem z_iald0 (C : zC x g cc own ret nL fr lo) {i : Int32} (hd : zd cc pc .iaload 1 q) (hi : zin i 7) (K : zw x g nL kc ks Q σ q L (zi (zKA.getD i.toNatClampNeg 0) :: st)) : zw x g nL kc ks Q σ pc L (zi i :: zr 1000 :: st) := by
  obtain ⟨d, rfl⟩ := hd
  exact fun H locs ls hP hS hl => va_ti C.1 C.2.1 C.2.2.2.2.2.2.2.2.2.1.1.2 hS (zin_vp hi) rfl d (K H locs ls hP hS hl)
theorem z_iald1 (C : zC x g cc own ret nL fr lo) {i : Int32} (hd : zd cc pc .iaload 1 q) (hi : zin i 28) (K : zw x g nL kc ks Q σ q L (zi (zBO.getD i.toNatClampNeg 0) :: st)) : zw x g nL kc ks Q σ pc L (zi i :: zr 1001 :: st) := by
  obtain ⟨d, rfl⟩ := hd
  exact fun H locs ls hP hS hl => va_ti C.1 C.2.1 C.2.2.2.2.2.2.2.2.2.1.2.1.2 hS (zin_vp hi) rfl d (K H locs ls hP hS hl)
theorem z_tsw (C : zC x g cc own ret nL fr lo) {dflt lw hw : Int} {offs : Array Int} {len d : Nat} {v : Int32} (l : List (Int32 × Nat)) (hd : decode cc pc = .ok (.tableswitch dflt lw hw offs, len)) (hdf : (pc : Int) + dflt = (d : Int)) (h1 : lw + offs.size = hw + 1) (h2 : ztb pc lw offs.toList l) (K : zw x g nL kc ks Q σ (zswt l d v) L st) : zw x g nL kc ks Q σ pc L (zi v :: st) := by
  intro H locs ls hP hS hl
  obtain ⟨i1, i2⟩ := ztb_in pc d v lw offs.toList l h2
  have hsz : offs.toList.length = offs.size := Array.length_toList
  by_cases hv : v.toInt < lw ∨ hw < v.toInt
  · have e := i2 (by omega)
    have K2 := K H locs ls hP hS hl
    rw [e] at K2
    exact lv_tableOut C.1 C.2.1 hd hv hdf K2
  · obtain ⟨o, ho⟩ : ∃ o, offs[(v.toInt - lw).toNat]? = some o := ⟨_, Array.getElem?_eq_getElem (by omega)⟩
    exact lv_tableIn C.1 C.2.1 hd (by omega) (by omega) ho (i1 o (by rw [Array.getElem?_toList]; exact ho) (by omega)) (K H locs ls hP hS hl)
theorem z_lsw (C : zC x g cc own ret nL fr lo) {dflt : Int} {ps : Array (Int × Int)} {len d : Nat} {v : Int32} (l : List (Int32 × Nat)) (hd : decode cc pc = .ok (.lookupswitch dflt ps, len)) (hp : (ps.toList.zip (ps.toList.drop 1)).all (fun (a, next) => a.1 < next.1) = true) (hdf : (pc : Int) + dflt = (d : Int)) (h2 : zlk pc ps.toList l) (K : zw x g nL kc ks Q σ (zswt l d v) L st) : zw x g nL kc ks Q σ pc L (zi v :: st) := by
  intro H locs ls hP hS hl
  exact lv_lookup C.1 C.2.1 hd hp rfl (zlk_in pc d dflt hdf v ps.toList l h2) (K H locs ls hP hS hl)
theorem z_swc {l : List (Int32 × Nat)} {k v : Int32} {t d : Nat} (kt : v = k → zw x g nL kc ks Q σ t L st) (kf : ¬ v = k → zw x g nL kc ks Q σ (zswt l d v) L st) : zw x g nL kc ks Q σ (zswt ((k, t) :: l) d v) L st := by
  by_cases h : v = k
  · rw [zswt, if_pos h]; exact kt h
  · rw [zswt, if_neg h]; exact kf h
/-! ends -/
theorem z_iret (C : zC x g cc own (some .int) nL fr lo) {r v : Int32} {σ' : ZS} (hd : zd cc pc .ireturn 1 q) (hf : some (v, σ) = some (r, σ')) : zw x g nL 0 0 (zMQ x g (some (zi r)) σ') σ pc L [zi v] := by
  cases hf
  obtain ⟨d, rfl⟩ := hd
  exact fun H locs ls hP hS hl => W.iret C.1 C.2.1 C.2.2.1 (fun t ht _ => ⟨rfl, by rw [ht]; exact hP, hS.F ht⟩) hS.2.2 d C.2.2.2.2.2.2.1
theorem z_zret (C : zC x g cc own (some .boolean) nL fr lo) {r v : Int32} {σ' : ZS} (hd : zd cc pc .ireturn 1 q) (hv : zbo v) (hf : some (v, σ) = some (r, σ')) : zw x g nL 0 0 (zMQ x g (some (zi r)) σ') σ pc L [zi v] := by
  cases hf
  obtain ⟨d, rfl⟩ := hd
  exact fun H locs ls hP hS hl => W.zret C.1 C.2.1 C.2.2.1 (zbo_n hv) (fun t ht _ => ⟨rfl, by rw [ht]; exact hP, hS.F ht⟩) hS.2.2 d C.2.2.2.2.2.2.1
theorem z_sret (C : zC x g cc own (some .byte) nL fr lo) {r v : Int32} {σ' : ZS} (hd : zd cc pc .ireturn 1 q) (hv : narrow .byte (.int v) = .int v) (hf : some (v, σ) = some (r, σ')) : zw x g nL 0 0 (zMQ x g (some (zi r)) σ') σ pc L [zi v] := by
  cases hf
  obtain ⟨d, rfl⟩ := hd
  exact fun H locs ls hP hS hl => W.zret C.1 C.2.1 C.2.2.1 hv (fun t ht _ => ⟨rfl, by rw [ht]; exact hP, hS.F ht⟩) hS.2.2 d C.2.2.2.2.2.2.1
theorem z_cret (C : zC x g cc own (some .char) nL fr lo) {r v : Int32} {σ' : ZS} (hd : zd cc pc .ireturn 1 q) (hv : narrow .char (.int v) = .int v) (hf : some (v, σ) = some (r, σ')) : zw x g nL 0 0 (zMQ x g (some (zi r)) σ') σ pc L [zi v] := by
  cases hf
  obtain ⟨d, rfl⟩ := hd
  exact fun H locs ls hP hS hl => W.zret C.1 C.2.1 C.2.2.1 hv (fun t ht _ => ⟨rfl, by rw [ht]; exact hP, hS.F ht⟩) hS.2.2 d C.2.2.2.2.2.2.1
theorem z_vret (C : zC x g cc own none nL fr lo) {u : Unit} {σ' : ZS} (hd : zd cc pc .return_ 1 q) (hf : some ((), σ) = some (u, σ')) : zw x g nL 0 0 (zMQ x g none σ') σ pc L [] := by
  cases hf
  obtain ⟨d, rfl⟩ := hd
  exact fun H locs ls hP hS hl => W.vret C.1 C.2.1 C.2.2.1 (fun t ht _ => ⟨rfl, by rw [ht]; exact hP, hS.F ht⟩) hS.2.2 d C.2.2.2.2.2.2.1
theorem z_aret {n : String} (C : zC x g cc own (some (.object n)) nL fr lo) {r v : Nat} {σ' : ZS} (hd : zd cc pc .areturn 1 q) (hf : some (v, σ) = some (r, σ')) : zw x g nL 0 0 (zMQ x g (some (zr r)) σ') σ pc L [zr v] := by
  cases hf
  obtain ⟨d, rfl⟩ := hd
  exact fun H locs ls hP hS hl => W.aret C.1 C.2.1 C.2.2.1 (Or.inl ⟨n, rfl⟩) (by
    show zrv g r = .null ∨ ∃ a, zrv g r = .ref a
    by_cases h : r = 0
    · subst h; exact Or.inl rfl
    · exact Or.inr (zrv_ref h)) (fun t ht _ => ⟨rfl, by rw [ht]; exact hP, hS.F ht⟩) hS.2.2 d C.2.2.2.2.2.2.1
/-! calls -/
theorem z_blind {as : List ZV} {σ0 : ZS} : FrameBlind (va_Pc (as.map (zval g)) (fun U => zP g σ0 U.heap ∧ zK g U)) := fun _ _ _ _ h => ⟨h.1, h.2.1, h.2.2.blind⟩
theorem z_ran {v : Option ZV} {σ1 : ZS} {st0 : List Value} {rest : List ZV} {H : Heap} {locs : List Loc} {ls : Array Slot} {a : Array Value} (hS : va_S (zA g) x.2.2.2.2.1.heap H locs) (hl : zlh g ls nL L)
    (hr : va_Run x.1 x.2.1 x.2.2.1 x.2.2.2.1 x.2.2.2.2.1 x.2.2.2.2.2.1 x.2.2.2.2.2.2.1 x.2.2.2.2.2.2.2.1 x.2.2.2.2.2.2.2.2.1 x.2.2.2.2.2.2.2.2.2 H locs kc ks 0 0 (F0 x.2.2.2.2.2.1 pc ls st0) (rest.map (zval g)) (zQ g v σ1 a) (zA g))
    (K : zw x g nL kc ks Q σ1 (pc + 3) L (v.toList ++ rest)) : W x.1 x.2.1 x.2.2.1 x.2.2.2.1 x.2.2.2.2.1 x.2.2.2.2.2.1 x.2.2.2.2.2.2.1 x.2.2.2.2.2.2.2.1 x.2.2.2.2.2.2.2.2.1 x.2.2.2.2.2.2.2.2.2 H locs kc ks Q (F0 x.2.2.2.2.2.1 pc ls st0) := by
  intro T hT X
  obtain ⟨v', st₀, t, T', L', h0, X', hL, e1, e2, ⟨hv, hP1, hz, hk⟩, stp⟩ := hr T hT X
  cases hv
  rw [h0] at hz hk
  have hS1 : va_S (zA g) x.2.2.2.2.1.heap T'.heap (locs ++ L') := ⟨Nat.le_trans hS.1 (by rw [e1]; exact hz), fun q h1 h2 => by rw [e1, hk q (Nat.lt_of_lt_of_le h1 hS.1) h2]; exact hS.2.1 q h1 h2, fun q hq => by
      rcases List.mem_append.mp hq with h | h
      · exact hS.2.2 q h
      · exact hL q h⟩
  obtain ⟨t2, a1, b1⟩ := K T'.heap (locs ++ L') ls (by rw [e1]; exact hP1) hS1 hl T' rfl X'
  refine ⟨t2, stp t2 ?_, b1⟩
  have e : (v.map (zval g)).toList ++ rest.map (zval g) = (v.toList ++ rest).map (zval g) := by
    rw [List.map_append]
    cases v <;> rfl
  rw [e]
  exact a1
theorem z_room {rest : List ZV} (h : (rest.map fun v => if zlong (some v) = true then 2 else 1).sum ≤ 8) : ((rest.map (zval g)).map fun v => v.category).sum ≤ 8 := by
  have e : (rest.map (zval g)).map (fun v => v.category) = rest.map fun v => if zlong (some v) = true then 2 else 1 := by
    rw [List.map_map]
    exact List.map_congr_left fun v _ => zval_cat v
  rw [e]; exact h
theorem z_callV (C : zC x g cc own ret nL fr lo) {y : MethodName} {cc' : ByteArray} {nL' : Nat} {ret' : Option FieldType} {fr' lo' idx n ci o : Nat} {as : List ZV} {v : Option ZV} {σ1 : ZS} {st' : List ZV} (hd : zd cc pc (.invokevirtual idx) 3 q) (hw : Cond.methodLink own idx y ∈ lw_gd) (hy : zYV y cc' nL' ret' n) (hT : zT x.2.1 g y cc' nL' ret' fr' lo' (zr o :: as) σ v σ1)
    {Cn : String} {T : u_T} {N : Nat} (hc : zcl[ci]? = some (Cn, T, N)) (h2 : ci < 10) (hcn : Cn = y.cls) (ho : zsh o = ci + 1) (hn : as.length = n) (hst : as.reverse ++ zr o :: st = st') (hrm : (st.map fun v => if zlong (some v) = true then 2 else 1).sum ≤ 8) (hR : fr' + 1 ≤ fr ∧ 8 + (nL' + 11) + lo' ≤ lo) (hk : kc ≤ x.2.2.2.1.cells ∧ ks ≤ x.2.2.2.1.slots)
    (K : zw x g nL kc ks Q σ1 q L (v.toList ++ st)) : zw x g nL kc ks Q σ pc L st' := by
  obtain ⟨d, rfl⟩ := hd
  subst hst
  subst hcn
  obtain ⟨⟨y1, y2, y3, y4⟩, y5, y6⟩ := hy
  intro H locs ls hP hS hl
  have hts := C.2.2.2.2.2.1
  refine z_ran hS hl (va_runV (b := g.1 + o) (As := as.map (zval g)) (n := n) ⟨C.1, C.2.1, C.2.2.2.1, C.2.2.2.2.1, hts⟩ hT ⟨⟨rfl, rfl, Nat.le_trans hR.1 C.2.2.2.2.2.2.2.1.1, Nat.le_trans hR.2 C.2.2.2.2.2.2.2.1.2, pay_in hts (fun w hw => by
      rcases List.mem_cons.mp hw with rfl | h
      · exact lw_gdIn _ y1
      · exact lw_gdIn _ h), List.mem_cons_self, hts _ y1, hts _ y2, y3, zY.params ⟨y1, y2, y3, y4⟩, hts _ hw⟩, hts _ y5, hts _ y6⟩ ⟨z_blind, ?_, fun U hU hW => ⟨by
        show (Value.ref (g.1 + o) :: as.map (zval g)).toArray = (zrv g o :: as.map (zval g)).toArray
        rw [zrv_of (by omega)], by rw [hU]; exact hP, C.2.2.2.2.2.2.2.2.go hS hU hW⟩⟩ rfl (by rw [List.length_map]; exact hn) hl.1 ?_ (lv_room (z_room hrm)) d hk) K
  · obtain ⟨p0, hp⟩ := zP_at (g := g) (σ := σ) (o := o) (by omega)
    rw [zen_obj ho h2] at hp
    exact va_recv C.2.2.2.2.2.2.2.2.1 hP hc hp
  · show (as.reverse ++ zr o :: st).map (zval g) = _
    rw [List.map_append, List.map_reverse, List.map_cons]
    show _ ++ zrv g o :: _ = _
    rw [zrv_of (by omega)]
theorem z_callS (C : zC x g cc own ret nL fr lo) {y : MethodName} {cc' : ByteArray} {nL' : Nat} {ret' : Option FieldType} {fr' lo' idx n : Nat} {as : List ZV} {v : Option ZV} {σ1 : ZS} {st' : List ZV} (hd : zd cc pc (.invokestatic idx) 3 q) (hw : Cond.methodLink own idx y ∈ lw_gd) (hy : zYS y cc' nL' ret' n) (hT : zT x.2.1 g y cc' nL' ret' fr' lo' as σ v σ1)
    (hn : as.length = n) (hst : as.reverse ++ st = st') (hrm : (st.map fun v => if zlong (some v) = true then 2 else 1).sum ≤ 8) (hR : fr' + 1 ≤ fr ∧ 8 + (nL' + 11) + lo' ≤ lo) (hk : kc ≤ x.2.2.2.1.cells ∧ ks ≤ x.2.2.2.1.slots)
    (K : zw x g nL kc ks Q σ1 q L (v.toList ++ st)) : zw x g nL kc ks Q σ pc L st' := by
  obtain ⟨d, rfl⟩ := hd
  subst hst
  obtain ⟨⟨y1, y2, y3, y4⟩, y5⟩ := hy
  intro H locs ls hP hS hl
  have hts := C.2.2.2.2.2.1
  refine z_ran hS hl (va_runS (As := as.map (zval g)) (n := n) ⟨C.1, C.2.1, C.2.2.2.1, C.2.2.2.2.1, hts⟩ hT ⟨⟨rfl, rfl, Nat.le_trans hR.1 C.2.2.2.2.2.2.2.1.1, Nat.le_trans hR.2 C.2.2.2.2.2.2.2.1.2, pay_in hts (fun w hw => by
      rcases List.mem_cons.mp hw with rfl | h
      · exact lw_gdIn _ y1
      · exact lw_gdIn _ h), List.mem_cons_self, hts _ y1, hts _ y2, y3, zY.params ⟨y1, y2, y3, y4⟩, hts _ hw⟩, hts _ y5⟩ ⟨z_blind, fun U hU hW => ⟨rfl, by rw [hU]; exact hP, C.2.2.2.2.2.2.2.2.go hS hU hW⟩⟩ rfl (by rw [List.length_map]; exact hn) hl.1 ?_ (lv_room (z_room hrm)) d hk) K
  show (as.reverse ++ st).map (zval g) = _
  rw [List.map_append, List.map_reverse]
theorem z_callSN (C : zC x g cc own ret nL fr lo) {y : MethodName} {host : String} {cc' : ByteArray} {nL' : Nat} {ret' : Option FieldType} {fr' lo' idx n : Nat} {as : List ZV} {v : Option ZV} {σ1 : ZS} {st' : List ZV} (hd : zd cc pc (.invokestatic idx) 3 q) (hw : Cond.methodLinkNest own idx y host ∈ lw_tbl) (hy : zYS y cc' nL' ret' n) (hT : zT x.2.1 g y cc' nL' ret' fr' lo' as σ v σ1)
    (hn : as.length = n) (hst : as.reverse ++ st = st') (hrm : (st.map fun v => if zlong (some v) = true then 2 else 1).sum ≤ 8) (hR : fr' + 1 ≤ fr ∧ 8 + (nL' + 11) + lo' ≤ lo) (hk : kc ≤ x.2.2.2.1.cells ∧ ks ≤ x.2.2.2.1.slots)
    (K : zw x g nL kc ks Q σ1 q L (v.toList ++ st)) : zw x g nL kc ks Q σ pc L st' := by
  obtain ⟨d, rfl⟩ := hd
  subst hst
  obtain ⟨⟨y1, y2, y3, y4⟩, y5⟩ := hy
  intro H locs ls hP hS hl
  have hts := C.2.2.2.2.2.1
  refine z_ran hS hl (va_runSN (As := as.map (zval g)) (n := n) ⟨C.1, C.2.1, C.2.2.2.1, C.2.2.2.2.1, hts⟩ hT ⟨⟨⟨rfl, rfl, Nat.le_trans hR.1 C.2.2.2.2.2.2.2.1.1, Nat.le_trans hR.2 C.2.2.2.2.2.2.2.1.2, pay_in hts (fun w hw => by
      rcases List.mem_cons.mp hw with rfl | h
      · exact lw_gdIn _ y1
      · exact lw_gdIn _ h), List.mem_cons_self⟩, hts _ y1, hts _ y2, y3, zY.params ⟨y1, y2, y3, y4⟩, va_Nw.use rfl (C.2.2.2.2.2.2.2.2.2.2.1 _ hw rfl)⟩, hts _ y5, trivial⟩ ⟨z_blind, fun U hU hW => ⟨rfl, by rw [hU]; exact hP, C.2.2.2.2.2.2.2.2.go hS hU hW⟩⟩ rfl (by rw [List.length_map]; exact hn) hl.1 ?_ (lv_room (z_room hrm)) d hk) K
  show (as.reverse ++ st).map (zval g) = _
  rw [List.map_append, List.map_reverse]
/-! the JDK's -/
theorem z_max (C : zC x g cc own ret nL fr lo) {idx : Nat} {a b : Int32} (hd : zd cc pc (.invokestatic idx) 3 q) (hw : Cond.methodLink own idx Lib.Math.max.name ∈ lw_gd) (hrm : (st.map fun v => if zlong (some v) = true then 2 else 1).sum ≤ 8) (hR : 1 ≤ fr ∧ 21 ≤ lo) (hk : kc ≤ x.2.2.2.1.cells ∧ ks ≤ x.2.2.2.1.slots) (hmx : Cond.static Lib.Math.max.name ∈ lw_gd ∧ Cond.initialized "java/lang/Math" ∈ lw_gd ∧ Cond.code Lib.Math.max.name Lib.Math.max.code 2 (some .int) ∈ lw_gd)
    (K : zw x g nL kc ks Q σ q L (zi (if a < b then b else a) :: st)) : zw x g nL kc ks Q σ pc L (zi b :: zi a :: st) := by
  obtain ⟨d, rfl⟩ := hd
  have hts := C.2.2.2.2.2.1
  have hrm2 := z_room (g := g) hrm
  exact fun H locs ls hP hS hl => va_mmax C.1 C.2.1 (C.2.2.2.1.trans hl.1.symm) C.2.2.2.2.1 (hts _ hw) (hts _ hmx.1) (hts _ hmx.2.1) (hts _ hmx.2.2) (Nat.le_trans hR.1 C.2.2.2.2.2.2.2.1.1) (Nat.le_trans (by omega) C.2.2.2.2.2.2.2.1.2) hk.1 hk.2 d (K H locs ls hP hS hl)
theorem z_min (C : zC x g cc own ret nL fr lo) {idx : Nat} {a b : Int32} (hd : zd cc pc (.invokestatic idx) 3 q) (hw : Cond.methodLink own idx Lib.Math.min.name ∈ lw_gd) (hrm : (st.map fun v => if zlong (some v) = true then 2 else 1).sum ≤ 8) (hR : 1 ≤ fr ∧ 21 ≤ lo) (hk : kc ≤ x.2.2.2.1.cells ∧ ks ≤ x.2.2.2.1.slots) (hmx : Cond.static Lib.Math.min.name ∈ lw_gd ∧ Cond.initialized "java/lang/Math" ∈ lw_gd ∧ Cond.code Lib.Math.min.name Lib.Math.min.code 2 (some .int) ∈ lw_gd)
    (K : zw x g nL kc ks Q σ q L (zi (if b < a then b else a) :: st)) : zw x g nL kc ks Q σ pc L (zi b :: zi a :: st) := by
  obtain ⟨d, rfl⟩ := hd
  have hts := C.2.2.2.2.2.1
  have hrm2 := z_room (g := g) hrm
  exact fun H locs ls hP hS hl => va_mmin C.1 C.2.1 (C.2.2.2.1.trans hl.1.symm) C.2.2.2.2.1 (hts _ hw) (hts _ hmx.1) (hts _ hmx.2.1) (hts _ hmx.2.2) (Nat.le_trans hR.1 C.2.2.2.2.2.2.2.1.1) (Nat.le_trans (by omega) C.2.2.2.2.2.2.2.1.2) hk.1 hk.2 d (K H locs ls hP hS hl)
theorem z_copy (C : zC x g cc own ret nL fr lo) {idx o0 o1 n0 n1 : Nat} {sp dp n : Int32} (hd : zd cc pc (.invokestatic idx) 3 q) (hw : Cond.methodLink own idx arraycopyName ∈ lw_gd) (hmx : Cond.native arraycopyName ∈ lw_gd ∧ Cond.static arraycopyName ∈ lw_gd ∧ Cond.initialized "java/lang/System" ∈ lw_gd) (ho0 : zsh o0 = 15) (hn0 : zln o0 = n0) (ho1 : zsh o1 = 15) (hn1 : zln o1 = n1)
    (h1 : 0 ≤ sp.toInt ∧ 0 ≤ dp.toInt ∧ 0 ≤ n.toInt ∧ sp.toInt + n.toInt ≤ n0 ∧ dp.toInt + n.toInt ≤ n1) (hR : 1 ≤ fr ∧ 40 ≤ lo) (hrm : (st.map fun v => if zlong (some v) = true then 2 else 1).sum ≤ 8)
    (K : zw x g nL kc ks Q (zurow σ o1 (va_cpy (σ o0) (σ o1) sp.toNatClampNeg dp.toNatClampNeg n.toNatClampNeg)) q L st) : zw x g nL kc ks Q σ pc L (zi n :: zi dp :: zr o1 :: zi sp :: zr o0 :: st) := by
  obtain ⟨d, rfl⟩ := hd
  have hts := C.2.2.2.2.2.1
  have hrm2 := z_room (g := g) hrm
  intro H locs ls hP hS hl
  show W _ _ _ _ _ _ _ _ _ _ _ _ _ _ _ (F0 _ _ _ (.int n :: .int dp :: zrv g o1 :: .int sp :: zrv g o0 :: st.map (zval g)))
  rw [zrv_of (o := o0) (by omega), zrv_of (o := o1) (by omega)]
  obtain ⟨p0, hp0⟩ := zP_at (g := g) (σ := σ) (o := o0) (by omega)
  obtain ⟨p1, hp1⟩ := zP_at (g := g) (σ := σ) (o := o1) (by omega)
  have hp2 := hp1
  rw [zen_arr ho0 hn0] at hp0
  rw [zen_arr ho1 hn1] at hp1
  have neg : ∀ z : Int32, 0 ≤ z.toInt → ¬ z < 0 := fun z hz h => by
    have := Int32.lt_iff_toInt_lt.mp h
    simp at this
    omega
  have cl : ∀ z : Int32, z.toNatClampNeg = z.toInt.toNat := fun z => rfl
  refine va_copyi C.1 C.2.1 (C.2.2.2.1.trans hl.1.symm) C.2.2.2.2.1 (hts _ hw) (hts _ hmx.1) (hts _ hmx.2.1) (hts _ hmx.2.2) C.2.2.2.2.2.2.2.2.1 hP (zD _) hS p0 p1 0 0 hp0 hp1 rfl rfl rfl (neg _ h1.1) (neg _ h1.2.1) (neg _ h1.2.2.1) (by rw [cl, cl]; omega) (by rw [cl, cl]; omega) (fun _ _ => rfl) (Nat.le_trans hR.1 C.2.2.2.2.2.2.2.1.1) (Nat.le_trans (Nat.le_trans (Nat.add_le_add_right hrm2 _) (Nat.le_trans (by decide) hR.2)) C.2.2.2.2.2.2.2.1.2) d fun H1 locs1 hP1 _ hS1 => ?_
  refine K H1 locs1 ls (zP_set (σ' := zurow σ o1 (va_cpy (σ o0) (σ o1) sp.toNatClampNeg dp.toNatClampNeg n.toNatClampNeg)) (by omega) hp2 ?_ (fun a ha => zu_ne ha) hP1) hS1 hl
  rw [zen_arr ho1 hn1]
  exact congrArg (fun f => (Sum.inl (g.2.2.1 0, n1, .inl f) : va_E)) zu_row
end
end
section
theorem i_vc : Claimed_1_1 ∧ Claimed_1_2 := sorry
end
