section
-- ===== PART A: goes FIRST, ahead of the names: the tables' words, and 'selects' of the private methods out of them =====
/-- a private method of a class that the tables say can be made, by its rows of tables_1 -/
def lw_okq (q : MethodName × Nat) : Prop := (q.1.cls ≠ "java/lang/invoke/MethodHandle" ∧ q.1.cls ≠ "java/lang/invoke/VarHandle") ∧ Cond.instantiable q.1.cls q.2 ∈ tables_1 ∧ Cond.privateMethod q.1 ∈ tables_1 ∧ Cond.instanceMethod q.1 ∈ tables_1
theorem lw_p0 : lw_okq (⟨"GlassTax", "error", "(I)I"⟩, 11) := ⟨⟨by decide +kernel, by decide +kernel⟩, List.mem_of_getElem? (i := 19) (by decide +kernel), List.mem_of_getElem? (i := 309) (by decide +kernel), List.mem_of_getElem? (i := 310) (by decide +kernel)⟩
theorem lw_p1 : lw_okq (⟨"GlassTax$Glass", "byTurn", "(I)I"⟩, 5) := ⟨⟨by decide +kernel, by decide +kernel⟩, List.mem_of_getElem? (i := 41) (by decide +kernel), List.mem_of_getElem? (i := 351) (by decide +kernel), List.mem_of_getElem? (i := 352) (by decide +kernel)⟩
theorem lw_p2 : lw_okq (⟨"GlassTax$Look", "enter", "(I)V"⟩, 5) := ⟨⟨by decide +kernel, by decide +kernel⟩, List.mem_of_getElem? (i := 163) (by decide +kernel), List.mem_of_getElem? (i := 407) (by decide +kernel), List.mem_of_getElem? (i := 408) (by decide +kernel)⟩
theorem lw_p3 : lw_okq (⟨"GlassTax$Look", "meet", "(I)V"⟩, 5) := ⟨⟨by decide +kernel, by decide +kernel⟩, List.mem_of_getElem? (i := 163) (by decide +kernel), List.mem_of_getElem? (i := 417) (by decide +kernel), List.mem_of_getElem? (i := 418) (by decide +kernel)⟩
theorem lw_p4 : lw_okq (⟨"GlassTax$Reader", "readPart", "(II)Z"⟩, 5) := ⟨⟨by decide +kernel, by decide +kernel⟩, List.mem_of_getElem? (i := 190) (by decide +kernel), List.mem_of_getElem? (i := 481) (by decide +kernel), List.mem_of_getElem? (i := 482) (by decide +kernel)⟩
theorem lw_p5 : lw_okq (⟨"GlassTax$Reader", "readUnit", "(I)Z"⟩, 5) := ⟨⟨by decide +kernel, by decide +kernel⟩, List.mem_of_getElem? (i := 190) (by decide +kernel), List.mem_of_getElem? (i := 485) (by decide +kernel), List.mem_of_getElem? (i := 486) (by decide +kernel)⟩
theorem lw_p6 : lw_okq (⟨"GlassTax$Reader", "signHere", "()I"⟩, 5) := ⟨⟨by decide +kernel, by decide +kernel⟩, List.mem_of_getElem? (i := 190) (by decide +kernel), List.mem_of_getElem? (i := 489) (by decide +kernel), List.mem_of_getElem? (i := 490) (by decide +kernel)⟩
theorem lw_p7 : lw_okq (⟨"GlassTax$Reader", "readNumber", "()V"⟩, 5) := ⟨⟨by decide +kernel, by decide +kernel⟩, List.mem_of_getElem? (i := 190) (by decide +kernel), List.mem_of_getElem? (i := 496) (by decide +kernel), List.mem_of_getElem? (i := 497) (by decide +kernel)⟩
theorem lw_p8 : lw_okq (⟨"GlassTax$Reader", "readOpen", "(II)Z"⟩, 5) := ⟨⟨by decide +kernel, by decide +kernel⟩, List.mem_of_getElem? (i := 190) (by decide +kernel), List.mem_of_getElem? (i := 504) (by decide +kernel), List.mem_of_getElem? (i := 505) (by decide +kernel)⟩
theorem lw_p9 : lw_okq (⟨"GlassTax$Reader", "readLevel", "(II)Z"⟩, 5) := ⟨⟨by decide +kernel, by decide +kernel⟩, List.mem_of_getElem? (i := 190) (by decide +kernel), List.mem_of_getElem? (i := 557) (by decide +kernel), List.mem_of_getElem? (i := 558) (by decide +kernel)⟩
theorem lw_p10 : lw_okq (⟨"GlassTax$Street", "countMeetings", "(LGlassTax$Look;)V"⟩, 12) := ⟨⟨by decide +kernel, by decide +kernel⟩, List.mem_of_getElem? (i := 27) (by decide +kernel), List.mem_of_getElem? (i := 591) (by decide +kernel), List.mem_of_getElem? (i := 592) (by decide +kernel)⟩
theorem lw_p11 : lw_okq (⟨"GlassTax$Street", "draw", "()I"⟩, 12) := ⟨⟨by decide +kernel, by decide +kernel⟩, List.mem_of_getElem? (i := 27) (by decide +kernel), List.mem_of_getElem? (i := 603) (by decide +kernel), List.mem_of_getElem? (i := 604) (by decide +kernel)⟩
theorem lw_p12 : lw_okq (⟨"GlassTax", "manyOrLeast", "(III)I"⟩, 11) := ⟨⟨by decide +kernel, by decide +kernel⟩, List.mem_of_getElem? (i := 19) (by decide +kernel), List.mem_of_getElem? (i := 656) (by decide +kernel), List.mem_of_getElem? (i := 657) (by decide +kernel)⟩
theorem lw_p13 : lw_okq (⟨"GlassTax", "fewestSpins", "(LGlassTax$Person;I)I"⟩, 11) := ⟨⟨by decide +kernel, by decide +kernel⟩, List.mem_of_getElem? (i := 19) (by decide +kernel), List.mem_of_getElem? (i := 664) (by decide +kernel), List.mem_of_getElem? (i := 665) (by decide +kernel)⟩
theorem lw_p14 : lw_okq (⟨"GlassTax", "isSeenByOneSpin", "(LGlassTax$Person;III)Z"⟩, 11) := ⟨⟨by decide +kernel, by decide +kernel⟩, List.mem_of_getElem? (i := 19) (by decide +kernel), List.mem_of_getElem? (i := 668) (by decide +kernel), List.mem_of_getElem? (i := 669) (by decide +kernel)⟩
theorem lw_p15 : lw_okq (⟨"GlassTax", "writeSpin", "(III)V"⟩, 11) := ⟨⟨by decide +kernel, by decide +kernel⟩, List.mem_of_getElem? (i := 19) (by decide +kernel), List.mem_of_getElem? (i := 672) (by decide +kernel), List.mem_of_getElem? (i := 673) (by decide +kernel)⟩
def lw_privs_1 : List (MethodName × Nat) := [(⟨"GlassTax", "error", "(I)I"⟩, 11), (⟨"GlassTax$Glass", "byTurn", "(I)I"⟩, 5), (⟨"GlassTax$Look", "enter", "(I)V"⟩, 5), (⟨"GlassTax$Look", "meet", "(I)V"⟩, 5), (⟨"GlassTax$Reader", "readPart", "(II)Z"⟩, 5), (⟨"GlassTax$Reader", "readUnit", "(I)Z"⟩, 5), (⟨"GlassTax$Reader", "signHere", "()I"⟩, 5), (⟨"GlassTax$Reader", "readNumber", "()V"⟩, 5), (⟨"GlassTax$Reader", "readOpen", "(II)Z"⟩, 5), (⟨"GlassTax$Reader", "readLevel", "(II)Z"⟩, 5), (⟨"GlassTax$Street", "countMeetings", "(LGlassTax$Look;)V"⟩, 12), (⟨"GlassTax$Street", "draw", "()I"⟩, 12), (⟨"GlassTax", "manyOrLeast", "(III)I"⟩, 11), (⟨"GlassTax", "fewestSpins", "(LGlassTax$Person;I)I"⟩, 11), (⟨"GlassTax", "isSeenByOneSpin", "(LGlassTax$Person;III)Z"⟩, 11), (⟨"GlassTax", "writeSpin", "(III)V"⟩, 11)]
theorem lw_r1 : ∀ q ∈ lw_privs_1, lw_okq q := List.forall_mem_cons.mpr ⟨lw_p0, List.forall_mem_cons.mpr ⟨lw_p1, List.forall_mem_cons.mpr ⟨lw_p2, List.forall_mem_cons.mpr ⟨lw_p3, List.forall_mem_cons.mpr ⟨lw_p4, List.forall_mem_cons.mpr ⟨lw_p5, List.forall_mem_cons.mpr ⟨lw_p6, List.forall_mem_cons.mpr ⟨lw_p7, List.forall_mem_cons.mpr ⟨lw_p8, List.forall_mem_cons.mpr ⟨lw_p9, List.forall_mem_cons.mpr ⟨lw_p10, List.forall_mem_cons.mpr ⟨lw_p11, List.forall_mem_cons.mpr ⟨lw_p12, List.forall_mem_cons.mpr ⟨lw_p13, List.forall_mem_cons.mpr ⟨lw_p14, List.forall_mem_cons.mpr ⟨lw_p15, fun _ h => absurd h List.not_mem_nil⟩⟩⟩⟩⟩⟩⟩⟩⟩⟩⟩⟩⟩⟩⟩⟩
theorem lw_p16 : lw_okq (⟨"GlassTax", "isSeenByTwoSpins", "(LGlassTax$Person;I)Z"⟩, 11) := ⟨⟨by decide +kernel, by decide +kernel⟩, List.mem_of_getElem? (i := 19) (by decide +kernel), List.mem_of_getElem? (i := 676) (by decide +kernel), List.mem_of_getElem? (i := 677) (by decide +kernel)⟩
theorem lw_p17 : lw_okq (⟨"GlassTax", "sheetOf", "(I)LGlassTax$Sheet;"⟩, 11) := ⟨⟨by decide +kernel, by decide +kernel⟩, List.mem_of_getElem? (i := 19) (by decide +kernel), List.mem_of_getElem? (i := 688) (by decide +kernel), List.mem_of_getElem? (i := 689) (by decide +kernel)⟩
theorem lw_p18 : lw_okq (⟨"GlassTax", "isLook", "(LGlassTax$Sheet;)Z"⟩, 11) := ⟨⟨by decide +kernel, by decide +kernel⟩, List.mem_of_getElem? (i := 19) (by decide +kernel), List.mem_of_getElem? (i := 692) (by decide +kernel), List.mem_of_getElem? (i := 693) (by decide +kernel)⟩
theorem lw_p19 : lw_okq (⟨"GlassTax$Voices", "say", "(IIII)I"⟩, 6) := ⟨⟨by decide +kernel, by decide +kernel⟩, List.mem_of_getElem? (i := 215) (by decide +kernel), List.mem_of_getElem? (i := 708) (by decide +kernel), List.mem_of_getElem? (i := 709) (by decide +kernel)⟩
theorem lw_p20 : lw_okq (⟨"GlassTax$Voices", "sayGlass", "(III)I"⟩, 6) := ⟨⟨by decide +kernel, by decide +kernel⟩, List.mem_of_getElem? (i := 215) (by decide +kernel), List.mem_of_getElem? (i := 718) (by decide +kernel), List.mem_of_getElem? (i := 719) (by decide +kernel)⟩
theorem lw_p21 : lw_okq (⟨"GlassTax$Voices", "saySpoon", "(III)I"⟩, 6) := ⟨⟨by decide +kernel, by decide +kernel⟩, List.mem_of_getElem? (i := 215) (by decide +kernel), List.mem_of_getElem? (i := 722) (by decide +kernel), List.mem_of_getElem? (i := 723) (by decide +kernel)⟩
theorem lw_p22 : lw_okq (⟨"GlassTax$Voices", "sayBowl", "(III)I"⟩, 6) := ⟨⟨by decide +kernel, by decide +kernel⟩, List.mem_of_getElem? (i := 215) (by decide +kernel), List.mem_of_getElem? (i := 726) (by decide +kernel), List.mem_of_getElem? (i := 727) (by decide +kernel)⟩
theorem lw_p23 : lw_okq (⟨"GlassTax$Voices", "saySilvered", "(III)I"⟩, 6) := ⟨⟨by decide +kernel, by decide +kernel⟩, List.mem_of_getElem? (i := 215) (by decide +kernel), List.mem_of_getElem? (i := 730) (by decide +kernel), List.mem_of_getElem? (i := 731) (by decide +kernel)⟩
theorem lw_p24 : lw_okq (⟨"GlassTax$Voices", "sayOnly", "(III)I"⟩, 6) := ⟨⟨by decide +kernel, by decide +kernel⟩, List.mem_of_getElem? (i := 215) (by decide +kernel), List.mem_of_getElem? (i := 734) (by decide +kernel), List.mem_of_getElem? (i := 735) (by decide +kernel)⟩
theorem lw_p25 : lw_okq (⟨"GlassTaxModel", "error", "(I)I"⟩, 27) := ⟨⟨by decide +kernel, by decide +kernel⟩, List.mem_of_getElem? (i := 812) (by decide +kernel), List.mem_of_getElem? (i := 917) (by decide +kernel), List.mem_of_getElem? (i := 918) (by decide +kernel)⟩
theorem lw_p26 : lw_okq (⟨"GlassTaxModel", "glassAt", "(I)I"⟩, 27) := ⟨⟨by decide +kernel, by decide +kernel⟩, List.mem_of_getElem? (i := 812) (by decide +kernel), List.mem_of_getElem? (i := 923) (by decide +kernel), List.mem_of_getElem? (i := 924) (by decide +kernel)⟩
theorem lw_p27 : lw_okq (⟨"GlassTaxModel", "of", "(II)I"⟩, 27) := ⟨⟨by decide +kernel, by decide +kernel⟩, List.mem_of_getElem? (i := 812) (by decide +kernel), List.mem_of_getElem? (i := 927) (by decide +kernel), List.mem_of_getElem? (i := 928) (by decide +kernel)⟩
theorem lw_p28 : lw_okq (⟨"GlassTaxModel", "isGlass", "(I)Z"⟩, 27) := ⟨⟨by decide +kernel, by decide +kernel⟩, List.mem_of_getElem? (i := 812) (by decide +kernel), List.mem_of_getElem? (i := 936) (by decide +kernel), List.mem_of_getElem? (i := 937) (by decide +kernel)⟩
theorem lw_p29 : lw_okq (⟨"GlassTaxModel", "onward", "(II)I"⟩, 27) := ⟨⟨by decide +kernel, by decide +kernel⟩, List.mem_of_getElem? (i := 812) (by decide +kernel), List.mem_of_getElem? (i := 944) (by decide +kernel), List.mem_of_getElem? (i := 945) (by decide +kernel)⟩
theorem lw_p30 : lw_okq (⟨"GlassTaxModel", "isNight", "()Z"⟩, 27) := ⟨⟨by decide +kernel, by decide +kernel⟩, List.mem_of_getElem? (i := 812) (by decide +kernel), List.mem_of_getElem? (i := 954) (by decide +kernel), List.mem_of_getElem? (i := 955) (by decide +kernel)⟩
theorem lw_p31 : lw_okq (⟨"GlassTaxModel", "becomes", "(II)I"⟩, 27) := ⟨⟨by decide +kernel, by decide +kernel⟩, List.mem_of_getElem? (i := 812) (by decide +kernel), List.mem_of_getElem? (i := 962) (by decide +kernel), List.mem_of_getElem? (i := 963) (by decide +kernel)⟩
def lw_privs_2 : List (MethodName × Nat) := [(⟨"GlassTax", "isSeenByTwoSpins", "(LGlassTax$Person;I)Z"⟩, 11), (⟨"GlassTax", "sheetOf", "(I)LGlassTax$Sheet;"⟩, 11), (⟨"GlassTax", "isLook", "(LGlassTax$Sheet;)Z"⟩, 11), (⟨"GlassTax$Voices", "say", "(IIII)I"⟩, 6), (⟨"GlassTax$Voices", "sayGlass", "(III)I"⟩, 6), (⟨"GlassTax$Voices", "saySpoon", "(III)I"⟩, 6), (⟨"GlassTax$Voices", "sayBowl", "(III)I"⟩, 6), (⟨"GlassTax$Voices", "saySilvered", "(III)I"⟩, 6), (⟨"GlassTax$Voices", "sayOnly", "(III)I"⟩, 6), (⟨"GlassTaxModel", "error", "(I)I"⟩, 27), (⟨"GlassTaxModel", "glassAt", "(I)I"⟩, 27), (⟨"GlassTaxModel", "of", "(II)I"⟩, 27), (⟨"GlassTaxModel", "isGlass", "(I)Z"⟩, 27), (⟨"GlassTaxModel", "onward", "(II)I"⟩, 27), (⟨"GlassTaxModel", "isNight", "()Z"⟩, 27), (⟨"GlassTaxModel", "becomes", "(II)I"⟩, 27)]
theorem lw_r2 : ∀ q ∈ lw_privs_2, lw_okq q := List.forall_mem_cons.mpr ⟨lw_p16, List.forall_mem_cons.mpr ⟨lw_p17, List.forall_mem_cons.mpr ⟨lw_p18, List.forall_mem_cons.mpr ⟨lw_p19, List.forall_mem_cons.mpr ⟨lw_p20, List.forall_mem_cons.mpr ⟨lw_p21, List.forall_mem_cons.mpr ⟨lw_p22, List.forall_mem_cons.mpr ⟨lw_p23, List.forall_mem_cons.mpr ⟨lw_p24, List.forall_mem_cons.mpr ⟨lw_p25, List.forall_mem_cons.mpr ⟨lw_p26, List.forall_mem_cons.mpr ⟨lw_p27, List.forall_mem_cons.mpr ⟨lw_p28, List.forall_mem_cons.mpr ⟨lw_p29, List.forall_mem_cons.mpr ⟨lw_p30, List.forall_mem_cons.mpr ⟨lw_p31, fun _ h => absurd h List.not_mem_nil⟩⟩⟩⟩⟩⟩⟩⟩⟩⟩⟩⟩⟩⟩⟩⟩
theorem lw_p32 : lw_okq (⟨"GlassTaxModel", "isPerson", "(I)Z"⟩, 27) := ⟨⟨by decide +kernel, by decide +kernel⟩, List.mem_of_getElem? (i := 812) (by decide +kernel), List.mem_of_getElem? (i := 987) (by decide +kernel), List.mem_of_getElem? (i := 988) (by decide +kernel)⟩
theorem lw_p33 : lw_okq (⟨"GlassTaxModel", "about", "(II)I"⟩, 27) := ⟨⟨by decide +kernel, by decide +kernel⟩, List.mem_of_getElem? (i := 812) (by decide +kernel), List.mem_of_getElem? (i := 991) (by decide +kernel), List.mem_of_getElem? (i := 992) (by decide +kernel)⟩
theorem lw_p34 : lw_okq (⟨"GlassTaxModel", "dueOf", "(I)I"⟩, 27) := ⟨⟨by decide +kernel, by decide +kernel⟩, List.mem_of_getElem? (i := 812) (by decide +kernel), List.mem_of_getElem? (i := 995) (by decide +kernel), List.mem_of_getElem? (i := 996) (by decide +kernel)⟩
theorem lw_p35 : lw_okq (⟨"GlassTaxModel", "looksOf", "(I)V"⟩, 27) := ⟨⟨by decide +kernel, by decide +kernel⟩, List.mem_of_getElem? (i := 812) (by decide +kernel), List.mem_of_getElem? (i := 999) (by decide +kernel), List.mem_of_getElem? (i := 1000) (by decide +kernel)⟩
theorem lw_p36 : lw_okq (⟨"GlassTaxModel", "looks", "(II)V"⟩, 27) := ⟨⟨by decide +kernel, by decide +kernel⟩, List.mem_of_getElem? (i := 812) (by decide +kernel), List.mem_of_getElem? (i := 1003) (by decide +kernel), List.mem_of_getElem? (i := 1004) (by decide +kernel)⟩
theorem lw_p37 : lw_okq (⟨"GlassTaxModel", "meet", "(II)I"⟩, 27) := ⟨⟨by decide +kernel, by decide +kernel⟩, List.mem_of_getElem? (i := 812) (by decide +kernel), List.mem_of_getElem? (i := 1010) (by decide +kernel), List.mem_of_getElem? (i := 1011) (by decide +kernel)⟩
theorem lw_p38 : lw_okq (⟨"GlassTaxModel", "gives", "(IIII)I"⟩, 27) := ⟨⟨by decide +kernel, by decide +kernel⟩, List.mem_of_getElem? (i := 812) (by decide +kernel), List.mem_of_getElem? (i := 1014) (by decide +kernel), List.mem_of_getElem? (i := 1015) (by decide +kernel)⟩
theorem lw_p39 : lw_okq (⟨"GlassTaxModel", "works", "(I)I"⟩, 27) := ⟨⟨by decide +kernel, by decide +kernel⟩, List.mem_of_getElem? (i := 812) (by decide +kernel), List.mem_of_getElem? (i := 1018) (by decide +kernel), List.mem_of_getElem? (i := 1019) (by decide +kernel)⟩
theorem lw_p40 : lw_okq (⟨"GlassTaxModel", "stands", "(III)I"⟩, 27) := ⟨⟨by decide +kernel, by decide +kernel⟩, List.mem_of_getElem? (i := 812) (by decide +kernel), List.mem_of_getElem? (i := 1032) (by decide +kernel), List.mem_of_getElem? (i := 1033) (by decide +kernel)⟩
theorem lw_p41 : lw_okq (⟨"GlassTaxModel", "any", "()V"⟩, 27) := ⟨⟨by decide +kernel, by decide +kernel⟩, List.mem_of_getElem? (i := 812) (by decide +kernel), List.mem_of_getElem? (i := 1054) (by decide +kernel), List.mem_of_getElem? (i := 1055) (by decide +kernel)⟩
theorem lw_p42 : lw_okq (⟨"GlassTaxModel", "all", "()V"⟩, 27) := ⟨⟨by decide +kernel, by decide +kernel⟩, List.mem_of_getElem? (i := 812) (by decide +kernel), List.mem_of_getElem? (i := 1058) (by decide +kernel), List.mem_of_getElem? (i := 1059) (by decide +kernel)⟩
theorem lw_p43 : lw_okq (⟨"GlassTaxModel", "compares", "()V"⟩, 27) := ⟨⟨by decide +kernel, by decide +kernel⟩, List.mem_of_getElem? (i := 812) (by decide +kernel), List.mem_of_getElem? (i := 1062) (by decide +kernel), List.mem_of_getElem? (i := 1063) (by decide +kernel)⟩
theorem lw_p44 : lw_okq (⟨"GlassTaxModel", "sum", "()V"⟩, 27) := ⟨⟨by decide +kernel, by decide +kernel⟩, List.mem_of_getElem? (i := 812) (by decide +kernel), List.mem_of_getElem? (i := 1066) (by decide +kernel), List.mem_of_getElem? (i := 1067) (by decide +kernel)⟩
theorem lw_p45 : lw_okq (⟨"GlassTaxModel", "times", "()V"⟩, 27) := ⟨⟨by decide +kernel, by decide +kernel⟩, List.mem_of_getElem? (i := 812) (by decide +kernel), List.mem_of_getElem? (i := 1070) (by decide +kernel), List.mem_of_getElem? (i := 1071) (by decide +kernel)⟩
theorem lw_p46 : lw_okq (⟨"GlassTaxModel", "one", "()V"⟩, 27) := ⟨⟨by decide +kernel, by decide +kernel⟩, List.mem_of_getElem? (i := 812) (by decide +kernel), List.mem_of_getElem? (i := 1074) (by decide +kernel), List.mem_of_getElem? (i := 1075) (by decide +kernel)⟩
theorem lw_p47 : lw_okq (⟨"GlassTaxModel", "byteHere", "()I"⟩, 27) := ⟨⟨by decide +kernel, by decide +kernel⟩, List.mem_of_getElem? (i := 812) (by decide +kernel), List.mem_of_getElem? (i := 1078) (by decide +kernel), List.mem_of_getElem? (i := 1079) (by decide +kernel)⟩
def lw_privs_3 : List (MethodName × Nat) := [(⟨"GlassTaxModel", "isPerson", "(I)Z"⟩, 27), (⟨"GlassTaxModel", "about", "(II)I"⟩, 27), (⟨"GlassTaxModel", "dueOf", "(I)I"⟩, 27), (⟨"GlassTaxModel", "looksOf", "(I)V"⟩, 27), (⟨"GlassTaxModel", "looks", "(II)V"⟩, 27), (⟨"GlassTaxModel", "meet", "(II)I"⟩, 27), (⟨"GlassTaxModel", "gives", "(IIII)I"⟩, 27), (⟨"GlassTaxModel", "works", "(I)I"⟩, 27), (⟨"GlassTaxModel", "stands", "(III)I"⟩, 27), (⟨"GlassTaxModel", "any", "()V"⟩, 27), (⟨"GlassTaxModel", "all", "()V"⟩, 27), (⟨"GlassTaxModel", "compares", "()V"⟩, 27), (⟨"GlassTaxModel", "sum", "()V"⟩, 27), (⟨"GlassTaxModel", "times", "()V"⟩, 27), (⟨"GlassTaxModel", "one", "()V"⟩, 27), (⟨"GlassTaxModel", "byteHere", "()I"⟩, 27)]
theorem lw_r3 : ∀ q ∈ lw_privs_3, lw_okq q := List.forall_mem_cons.mpr ⟨lw_p32, List.forall_mem_cons.mpr ⟨lw_p33, List.forall_mem_cons.mpr ⟨lw_p34, List.forall_mem_cons.mpr ⟨lw_p35, List.forall_mem_cons.mpr ⟨lw_p36, List.forall_mem_cons.mpr ⟨lw_p37, List.forall_mem_cons.mpr ⟨lw_p38, List.forall_mem_cons.mpr ⟨lw_p39, List.forall_mem_cons.mpr ⟨lw_p40, List.forall_mem_cons.mpr ⟨lw_p41, List.forall_mem_cons.mpr ⟨lw_p42, List.forall_mem_cons.mpr ⟨lw_p43, List.forall_mem_cons.mpr ⟨lw_p44, List.forall_mem_cons.mpr ⟨lw_p45, List.forall_mem_cons.mpr ⟨lw_p46, List.forall_mem_cons.mpr ⟨lw_p47, fun _ h => absurd h List.not_mem_nil⟩⟩⟩⟩⟩⟩⟩⟩⟩⟩⟩⟩⟩⟩⟩⟩
theorem lw_p48 : lw_okq (⟨"GlassTaxModel", "nameOf", "(I)I"⟩, 27) := ⟨⟨by decide +kernel, by decide +kernel⟩, List.mem_of_getElem? (i := 812) (by decide +kernel), List.mem_of_getElem? (i := 1082) (by decide +kernel), List.mem_of_getElem? (i := 1083) (by decide +kernel)⟩
theorem lw_p49 : lw_okq (⟨"GlassTaxModel", "step", "(II)V"⟩, 27) := ⟨⟨by decide +kernel, by decide +kernel⟩, List.mem_of_getElem? (i := 812) (by decide +kernel), List.mem_of_getElem? (i := 1086) (by decide +kernel), List.mem_of_getElem? (i := 1087) (by decide +kernel)⟩
theorem lw_p50 : lw_okq (⟨"GlassTaxModel", "opens", "(I)V"⟩, 27) := ⟨⟨by decide +kernel, by decide +kernel⟩, List.mem_of_getElem? (i := 812) (by decide +kernel), List.mem_of_getElem? (i := 1090) (by decide +kernel), List.mem_of_getElem? (i := 1091) (by decide +kernel)⟩
theorem lw_p51 : lw_okq (⟨"GlassTaxModel", "number", "()V"⟩, 27) := ⟨⟨by decide +kernel, by decide +kernel⟩, List.mem_of_getElem? (i := 812) (by decide +kernel), List.mem_of_getElem? (i := 1094) (by decide +kernel), List.mem_of_getElem? (i := 1095) (by decide +kernel)⟩
theorem lw_p52 : lw_okq (⟨"GlassTaxModel", "goes", "()V"⟩, 27) := ⟨⟨by decide +kernel, by decide +kernel⟩, List.mem_of_getElem? (i := 812) (by decide +kernel), List.mem_of_getElem? (i := 1110) (by decide +kernel), List.mem_of_getElem? (i := 1111) (by decide +kernel)⟩
theorem lw_p53 : lw_okq (⟨"GlassTaxModel", "drawn", "()V"⟩, 27) := ⟨⟨by decide +kernel, by decide +kernel⟩, List.mem_of_getElem? (i := 812) (by decide +kernel), List.mem_of_getElem? (i := 1118) (by decide +kernel), List.mem_of_getElem? (i := 1119) (by decide +kernel)⟩
theorem lw_p54 : lw_okq (⟨"GlassTaxModel", "draw", "()I"⟩, 27) := ⟨⟨by decide +kernel, by decide +kernel⟩, List.mem_of_getElem? (i := 812) (by decide +kernel), List.mem_of_getElem? (i := 1122) (by decide +kernel), List.mem_of_getElem? (i := 1123) (by decide +kernel)⟩
theorem lw_p55 : lw_okq (⟨"GlassTaxModel", "isSeen", "(I)Z"⟩, 27) := ⟨⟨by decide +kernel, by decide +kernel⟩, List.mem_of_getElem? (i := 812) (by decide +kernel), List.mem_of_getElem? (i := 1144) (by decide +kernel), List.mem_of_getElem? (i := 1145) (by decide +kernel)⟩
theorem lw_p56 : lw_okq (⟨"GlassTaxModel", "thinks", "()V"⟩, 27) := ⟨⟨by decide +kernel, by decide +kernel⟩, List.mem_of_getElem? (i := 812) (by decide +kernel), List.mem_of_getElem? (i := 1152) (by decide +kernel), List.mem_of_getElem? (i := 1153) (by decide +kernel)⟩
theorem lw_p57 : lw_okq (⟨"GlassTaxModel", "putsBack", "()V"⟩, 27) := ⟨⟨by decide +kernel, by decide +kernel⟩, List.mem_of_getElem? (i := 812) (by decide +kernel), List.mem_of_getElem? (i := 1159) (by decide +kernel), List.mem_of_getElem? (i := 1160) (by decide +kernel)⟩
theorem lw_p58 : lw_okq (⟨"GlassTaxModel", "canSee", "(IIII)Z"⟩, 27) := ⟨⟨by decide +kernel, by decide +kernel⟩, List.mem_of_getElem? (i := 812) (by decide +kernel), List.mem_of_getElem? (i := 1171) (by decide +kernel), List.mem_of_getElem? (i := 1172) (by decide +kernel)⟩
theorem lw_p59 : lw_okq (⟨"GlassTaxModel", "doesSee", "(II)Z"⟩, 27) := ⟨⟨by decide +kernel, by decide +kernel⟩, List.mem_of_getElem? (i := 812) (by decide +kernel), List.mem_of_getElem? (i := 1175) (by decide +kernel), List.mem_of_getElem? (i := 1176) (by decide +kernel)⟩
theorem lw_p60 : lw_okq (⟨"GlassTaxModel", "isSo", "(I)Z"⟩, 27) := ⟨⟨by decide +kernel, by decide +kernel⟩, List.mem_of_getElem? (i := 812) (by decide +kernel), List.mem_of_getElem? (i := 1190) (by decide +kernel), List.mem_of_getElem? (i := 1191) (by decide +kernel)⟩
theorem lw_p61 : lw_okq (⟨"GlassTaxModel", "gleams", "(II)I"⟩, 27) := ⟨⟨by decide +kernel, by decide +kernel⟩, List.mem_of_getElem? (i := 812) (by decide +kernel), List.mem_of_getElem? (i := 1198) (by decide +kernel), List.mem_of_getElem? (i := 1199) (by decide +kernel)⟩
theorem lw_p62 : lw_okq (⟨"GlassTaxModel", "spoonGleams", "(II)I"⟩, 27) := ⟨⟨by decide +kernel, by decide +kernel⟩, List.mem_of_getElem? (i := 812) (by decide +kernel), List.mem_of_getElem? (i := 1202) (by decide +kernel), List.mem_of_getElem? (i := 1203) (by decide +kernel)⟩
theorem lw_p63 : lw_okq (⟨"GlassTaxModel", "begins", "(I)V"⟩, 27) := ⟨⟨by decide +kernel, by decide +kernel⟩, List.mem_of_getElem? (i := 812) (by decide +kernel), List.mem_of_getElem? (i := 1206) (by decide +kernel), List.mem_of_getElem? (i := 1207) (by decide +kernel)⟩
def lw_privs_4 : List (MethodName × Nat) := [(⟨"GlassTaxModel", "nameOf", "(I)I"⟩, 27), (⟨"GlassTaxModel", "step", "(II)V"⟩, 27), (⟨"GlassTaxModel", "opens", "(I)V"⟩, 27), (⟨"GlassTaxModel", "number", "()V"⟩, 27), (⟨"GlassTaxModel", "goes", "()V"⟩, 27), (⟨"GlassTaxModel", "drawn", "()V"⟩, 27), (⟨"GlassTaxModel", "draw", "()I"⟩, 27), (⟨"GlassTaxModel", "isSeen", "(I)Z"⟩, 27), (⟨"GlassTaxModel", "thinks", "()V"⟩, 27), (⟨"GlassTaxModel", "putsBack", "()V"⟩, 27), (⟨"GlassTaxModel", "canSee", "(IIII)Z"⟩, 27), (⟨"GlassTaxModel", "doesSee", "(II)Z"⟩, 27), (⟨"GlassTaxModel", "isSo", "(I)Z"⟩, 27), (⟨"GlassTaxModel", "gleams", "(II)I"⟩, 27), (⟨"GlassTaxModel", "spoonGleams", "(II)I"⟩, 27), (⟨"GlassTaxModel", "begins", "(I)V"⟩, 27)]
theorem lw_r4 : ∀ q ∈ lw_privs_4, lw_okq q := List.forall_mem_cons.mpr ⟨lw_p48, List.forall_mem_cons.mpr ⟨lw_p49, List.forall_mem_cons.mpr ⟨lw_p50, List.forall_mem_cons.mpr ⟨lw_p51, List.forall_mem_cons.mpr ⟨lw_p52, List.forall_mem_cons.mpr ⟨lw_p53, List.forall_mem_cons.mpr ⟨lw_p54, List.forall_mem_cons.mpr ⟨lw_p55, List.forall_mem_cons.mpr ⟨lw_p56, List.forall_mem_cons.mpr ⟨lw_p57, List.forall_mem_cons.mpr ⟨lw_p58, List.forall_mem_cons.mpr ⟨lw_p59, List.forall_mem_cons.mpr ⟨lw_p60, List.forall_mem_cons.mpr ⟨lw_p61, List.forall_mem_cons.mpr ⟨lw_p62, List.forall_mem_cons.mpr ⟨lw_p63, fun _ h => absurd h List.not_mem_nil⟩⟩⟩⟩⟩⟩⟩⟩⟩⟩⟩⟩⟩⟩⟩⟩
theorem lw_p64 : lw_okq (⟨"GlassTaxModel", "plainGleams", "(II)I"⟩, 27) := ⟨⟨by decide +kernel, by decide +kernel⟩, List.mem_of_getElem? (i := 812) (by decide +kernel), List.mem_of_getElem? (i := 1210) (by decide +kernel), List.mem_of_getElem? (i := 1211) (by decide +kernel)⟩
theorem lw_p65 : lw_okq (⟨"GlassTaxModel", "glints", "(II)I"⟩, 27) := ⟨⟨by decide +kernel, by decide +kernel⟩, List.mem_of_getElem? (i := 812) (by decide +kernel), List.mem_of_getElem? (i := 1214) (by decide +kernel), List.mem_of_getElem? (i := 1215) (by decide +kernel)⟩
theorem lw_p66 : lw_okq (⟨"GlassTaxModel", "paneGlints", "(II)I"⟩, 27) := ⟨⟨by decide +kernel, by decide +kernel⟩, List.mem_of_getElem? (i := 812) (by decide +kernel), List.mem_of_getElem? (i := 1218) (by decide +kernel), List.mem_of_getElem? (i := 1219) (by decide +kernel)⟩
theorem lw_p67 : lw_okq (⟨"GlassTaxModel", "plainGlints", "(II)I"⟩, 27) := ⟨⟨by decide +kernel, by decide +kernel⟩, List.mem_of_getElem? (i := 812) (by decide +kernel), List.mem_of_getElem? (i := 1222) (by decide +kernel), List.mem_of_getElem? (i := 1223) (by decide +kernel)⟩
theorem lw_p68 : lw_okq (⟨"GlassTaxModel", "fades", "(II)I"⟩, 27) := ⟨⟨by decide +kernel, by decide +kernel⟩, List.mem_of_getElem? (i := 812) (by decide +kernel), List.mem_of_getElem? (i := 1226) (by decide +kernel), List.mem_of_getElem? (i := 1227) (by decide +kernel)⟩
theorem lw_p69 : lw_okq (⟨"GlassTaxModel", "plainFades", "(II)I"⟩, 27) := ⟨⟨by decide +kernel, by decide +kernel⟩, List.mem_of_getElem? (i := 812) (by decide +kernel), List.mem_of_getElem? (i := 1230) (by decide +kernel), List.mem_of_getElem? (i := 1231) (by decide +kernel)⟩
theorem lw_p70 : lw_okq (⟨"GlassTaxModel", "parts", "(II)I"⟩, 27) := ⟨⟨by decide +kernel, by decide +kernel⟩, List.mem_of_getElem? (i := 812) (by decide +kernel), List.mem_of_getElem? (i := 1234) (by decide +kernel), List.mem_of_getElem? (i := 1235) (by decide +kernel)⟩
theorem lw_p71 : lw_okq (⟨"GlassTaxModel", "plainParts", "(II)I"⟩, 27) := ⟨⟨by decide +kernel, by decide +kernel⟩, List.mem_of_getElem? (i := 812) (by decide +kernel), List.mem_of_getElem? (i := 1238) (by decide +kernel), List.mem_of_getElem? (i := 1239) (by decide +kernel)⟩
theorem lw_p72 : lw_okq (⟨"GlassTaxModel", "notThere", "(I)I"⟩, 27) := ⟨⟨by decide +kernel, by decide +kernel⟩, List.mem_of_getElem? (i := 812) (by decide +kernel), List.mem_of_getElem? (i := 1255) (by decide +kernel), List.mem_of_getElem? (i := 1256) (by decide +kernel)⟩
theorem lw_p73 : lw_okq (⟨"GlassTaxModel", "notMoved", "(IIIII)I"⟩, 27) := ⟨⟨by decide +kernel, by decide +kernel⟩, List.mem_of_getElem? (i := 812) (by decide +kernel), List.mem_of_getElem? (i := 1263) (by decide +kernel), List.mem_of_getElem? (i := 1264) (by decide +kernel)⟩
def lw_privs_5 : List (MethodName × Nat) := [(⟨"GlassTaxModel", "plainGleams", "(II)I"⟩, 27), (⟨"GlassTaxModel", "glints", "(II)I"⟩, 27), (⟨"GlassTaxModel", "paneGlints", "(II)I"⟩, 27), (⟨"GlassTaxModel", "plainGlints", "(II)I"⟩, 27), (⟨"GlassTaxModel", "fades", "(II)I"⟩, 27), (⟨"GlassTaxModel", "plainFades", "(II)I"⟩, 27), (⟨"GlassTaxModel", "parts", "(II)I"⟩, 27), (⟨"GlassTaxModel", "plainParts", "(II)I"⟩, 27), (⟨"GlassTaxModel", "notThere", "(I)I"⟩, 27), (⟨"GlassTaxModel", "notMoved", "(IIIII)I"⟩, 27)]
theorem lw_r5 : ∀ q ∈ lw_privs_5, lw_okq q := List.forall_mem_cons.mpr ⟨lw_p64, List.forall_mem_cons.mpr ⟨lw_p65, List.forall_mem_cons.mpr ⟨lw_p66, List.forall_mem_cons.mpr ⟨lw_p67, List.forall_mem_cons.mpr ⟨lw_p68, List.forall_mem_cons.mpr ⟨lw_p69, List.forall_mem_cons.mpr ⟨lw_p70, List.forall_mem_cons.mpr ⟨lw_p71, List.forall_mem_cons.mpr ⟨lw_p72, List.forall_mem_cons.mpr ⟨lw_p73, fun _ h => absurd h List.not_mem_nil⟩⟩⟩⟩⟩⟩⟩⟩⟩⟩
def lw_privs : List (MethodName × Nat) := lw_privs_1 ++ (lw_privs_2 ++ (lw_privs_3 ++ (lw_privs_4 ++ (lw_privs_5))))
def lw_tbl : List Cond := k2_sels lw_privs ++ tables_1
theorem lw_privs_ok : ∀ q ∈ lw_privs, lw_okq q := by
  show ∀ q ∈ lw_privs_1 ++ (lw_privs_2 ++ (lw_privs_3 ++ (lw_privs_4 ++ (lw_privs_5)))), lw_okq q
  exact List.forall_mem_append.mpr ⟨lw_r1, List.forall_mem_append.mpr ⟨lw_r2, List.forall_mem_append.mpr ⟨lw_r3, List.forall_mem_append.mpr ⟨lw_r4, lw_r5⟩⟩⟩⟩
-- ===== end of PART A; then your names; then what follows =====
end
section
def lw_gd : List Cond := lw_tbl.filter goodWord
theorem zwd {w : Cond} (i : Nat) (h : tables_1[i]? = some w) (hg : goodWord w = true) : w ∈ lw_gd := List.mem_filter.mpr ⟨List.mem_append_right _ (List.mem_of_getElem? h), hg⟩
theorem zws {w : Cond} (i : Nat) (h : (k2_sels lw_privs)[i]? = some w) (hg : goodWord w = true) : w ∈ lw_gd := List.mem_filter.mpr ⟨List.mem_append_left _ (List.mem_of_getElem? h), hg⟩
theorem lw_gdIn : GoodIn lw_gd lw_gd := fun w hw => ⟨hw, good_of_word (List.mem_filter.mp hw).2⟩
/-! names: classes, fields, methods (printed by wip/whole/gen/emit_names.py out of the Statement) -/
def R0 : String := "GlassTax$Glass"
def T0 : u_T := fun k => match k with
  | 0 => ("GlassTax$Glass", "kind", "I", false)
  | 1 => ("GlassTax$Glass", "m", "I", false)
  | 2 => ("GlassTax$Glass", "cell", "I", false)
  | 3 => ("GlassTax$Glass", "turn", "I", false)
  | _ => ("GlassTax$Glass", "seen", "I", false)
def ty0 : Nat → FieldType := fun k => match k with
  | 0 => .int
  | 1 => .int
  | 2 => .int
  | 3 => .int
  | _ => .int
theorem nm0 : ∀ a, a < 5 → ∀ b, b < 5 → a ≠ b → (T0 a).2.1 ≠ (T0 b).2.1 := by decide +kernel
theorem ty0_ok : ∀ k, k < 5 → parseFieldDescriptor (T0 k).2.2.1 = some (ty0 k) := by decide +kernel
theorem hu0_0 : u_lay R0 T0 0 ∈ lw_gd := zwd 63 (by decide +kernel) (by decide +kernel)
theorem hu0_1 : u_lay R0 T0 1 ∈ lw_gd := zwd 65 (by decide +kernel) (by decide +kernel)
theorem hu0_2 : u_lay R0 T0 2 ∈ lw_gd := zwd 67 (by decide +kernel) (by decide +kernel)
theorem hu0_3 : u_lay R0 T0 3 ∈ lw_gd := zwd 69 (by decide +kernel) (by decide +kernel)
theorem hu0_4 : u_lay R0 T0 4 ∈ lw_gd := zwd 71 (by decide +kernel) (by decide +kernel)
theorem hu0 : ∀ w ∈ u_ws R0 T0 5, w ∈ lw_gd := by
  intro w hw
  obtain ⟨k, hk, rfl⟩ := List.mem_map.mp hw
  have hk := List.mem_range.mp hk
  match k, hk with
  | 0, _ => exact hu0_0
  | 1, _ => exact hu0_1
  | 2, _ => exact hu0_2
  | 3, _ => exact hu0_3
  | 4, _ => exact hu0_4
  | k + 5, h => exact absurd h (by omega)
def R1 : String := "GlassTax$Look"
def T1 : u_T := fun k => match k with
  | 0 => ("GlassTax$Look", "cells", "[I", true)
  | 1 => ("GlassTax$Look", "met", "[I", true)
  | 2 => ("GlassTax$Look", "length", "I", false)
  | 3 => ("GlassTax$Look", "meetings", "I", false)
  | _ => ("GlassTax$Look", "isEver", "Z", false)
def ty1 : Nat → FieldType := fun k => match k with
  | 0 => .array .int
  | 1 => .array .int
  | 2 => .int
  | 3 => .int
  | _ => .boolean
theorem nm1 : ∀ a, a < 5 → ∀ b, b < 5 → a ≠ b → (T1 a).2.1 ≠ (T1 b).2.1 := by decide +kernel
theorem ty1_ok : ∀ k, k < 5 → parseFieldDescriptor (T1 k).2.2.1 = some (ty1 k) := by decide +kernel
theorem hu1_0 : u_lay R1 T1 0 ∈ lw_gd := zwd 178 (by decide +kernel) (by decide +kernel)
theorem hu1_1 : u_lay R1 T1 1 ∈ lw_gd := zwd 180 (by decide +kernel) (by decide +kernel)
theorem hu1_2 : u_lay R1 T1 2 ∈ lw_gd := zwd 182 (by decide +kernel) (by decide +kernel)
theorem hu1_3 : u_lay R1 T1 3 ∈ lw_gd := zwd 184 (by decide +kernel) (by decide +kernel)
theorem hu1_4 : u_lay R1 T1 4 ∈ lw_gd := zwd 186 (by decide +kernel) (by decide +kernel)
theorem hu1 : ∀ w ∈ u_ws R1 T1 5, w ∈ lw_gd := by
  intro w hw
  obtain ⟨k, hk, rfl⟩ := List.mem_map.mp hw
  have hk := List.mem_range.mp hk
  match k, hk with
  | 0, _ => exact hu1_0
  | 1, _ => exact hu1_1
  | 2, _ => exact hu1_2
  | 3, _ => exact hu1_3
  | 4, _ => exact hu1_4
  | k + 5, h => exact absurd h (by omega)
def R2 : String := "GlassTax$Person"
def T2 : u_T := fun k => match k with
  | 0 => ("GlassTax$Person", "cell", "I", false)
  | 1 => ("GlassTax$Person", "way", "I", false)
  | _ => ("GlassTax$Person", "owes", "I", false)
def ty2 : Nat → FieldType := fun k => match k with
  | 0 => .int
  | 1 => .int
  | _ => .int
theorem nm2 : ∀ a, a < 3 → ∀ b, b < 3 → a ≠ b → (T2 a).2.1 ≠ (T2 b).2.1 := by decide +kernel
theorem ty2_ok : ∀ k, k < 3 → parseFieldDescriptor (T2 k).2.2.1 = some (ty2 k) := by decide +kernel
theorem hu2_0 : u_lay R2 T2 0 ∈ lw_gd := zwd 89 (by decide +kernel) (by decide +kernel)
theorem hu2_1 : u_lay R2 T2 1 ∈ lw_gd := zwd 91 (by decide +kernel) (by decide +kernel)
theorem hu2_2 : u_lay R2 T2 2 ∈ lw_gd := zwd 93 (by decide +kernel) (by decide +kernel)
theorem hu2 : ∀ w ∈ u_ws R2 T2 3, w ∈ lw_gd := by
  intro w hw
  obtain ⟨k, hk, rfl⟩ := List.mem_map.mp hw
  have hk := List.mem_range.mp hk
  match k, hk with
  | 0, _ => exact hu2_0
  | 1, _ => exact hu2_1
  | 2, _ => exact hu2_2
  | k + 3, h => exact absurd h (by omega)
def R3 : String := "GlassTax$Reader"
def T3 : u_T := fun k => match k with
  | 0 => ("GlassTax$Reader", "draft", "LGlassTax$Text;", true)
  | 1 => ("GlassTax$Reader", "tape", "[I", false)
  | 2 => ("GlassTax$Reader", "length", "I", false)
  | 3 => ("GlassTax$Reader", "place", "I", false)
  | _ => ("GlassTax$Reader", "use", "I", false)
def ty3 : Nat → FieldType := fun k => match k with
  | 0 => .object "GlassTax$Text"
  | 1 => .array .int
  | 2 => .int
  | 3 => .int
  | _ => .int
theorem nm3 : ∀ a, a < 5 → ∀ b, b < 5 → a ≠ b → (T3 a).2.1 ≠ (T3 b).2.1 := by decide +kernel
theorem ty3_ok : ∀ k, k < 5 → parseFieldDescriptor (T3 k).2.2.1 = some (ty3 k) := by decide +kernel
theorem hu3_0 : u_lay R3 T3 0 ∈ lw_gd := zwd 203 (by decide +kernel) (by decide +kernel)
theorem hu3_1 : u_lay R3 T3 1 ∈ lw_gd := zwd 205 (by decide +kernel) (by decide +kernel)
theorem hu3_2 : u_lay R3 T3 2 ∈ lw_gd := zwd 207 (by decide +kernel) (by decide +kernel)
theorem hu3_3 : u_lay R3 T3 3 ∈ lw_gd := zwd 209 (by decide +kernel) (by decide +kernel)
theorem hu3_4 : u_lay R3 T3 4 ∈ lw_gd := zwd 211 (by decide +kernel) (by decide +kernel)
theorem hu3 : ∀ w ∈ u_ws R3 T3 5, w ∈ lw_gd := by
  intro w hw
  obtain ⟨k, hk, rfl⟩ := List.mem_map.mp hw
  have hk := List.mem_range.mp hk
  match k, hk with
  | 0, _ => exact hu3_0
  | 1, _ => exact hu3_1
  | 2, _ => exact hu3_2
  | 3, _ => exact hu3_3
  | 4, _ => exact hu3_4
  | k + 5, h => exact absurd h (by omega)
def R4 : String := "GlassTax$Sheet"
def T4 : u_T := fun k => match k with
  | 0 => ("GlassTax$Sheet", "numbers", "[I", true)
  | 1 => ("GlassTax$Sheet", "bits", "I", false)
  | _ => ("GlassTax$Sheet", "length", "I", false)
def ty4 : Nat → FieldType := fun k => match k with
  | 0 => .array .int
  | 1 => .int
  | _ => .int
theorem nm4 : ∀ a, a < 3 → ∀ b, b < 3 → a ≠ b → (T4 a).2.1 ≠ (T4 b).2.1 := by decide +kernel
theorem ty4_ok : ∀ k, k < 3 → parseFieldDescriptor (T4 k).2.2.1 = some (ty4 k) := by decide +kernel
theorem hu4_0 : u_lay R4 T4 0 ∈ lw_gd := zwd 254 (by decide +kernel) (by decide +kernel)
theorem hu4_1 : u_lay R4 T4 1 ∈ lw_gd := zwd 256 (by decide +kernel) (by decide +kernel)
theorem hu4_2 : u_lay R4 T4 2 ∈ lw_gd := zwd 258 (by decide +kernel) (by decide +kernel)
theorem hu4 : ∀ w ∈ u_ws R4 T4 3, w ∈ lw_gd := by
  intro w hw
  obtain ⟨k, hk, rfl⟩ := List.mem_map.mp hw
  have hk := List.mem_range.mp hk
  match k, hk with
  | 0, _ => exact hu4_0
  | 1, _ => exact hu4_1
  | 2, _ => exact hu4_2
  | k + 3, h => exact absurd h (by omega)
def R5 : String := "GlassTax$Street"
def T5 : u_T := fun k => match k with
  | 0 => ("GlassTax$Street", "glasses", "[LGlassTax$Glass;", true)
  | 1 => ("GlassTax$Street", "people", "[LGlassTax$Person;", true)
  | 2 => ("GlassTax$Street", "texts", "[LGlassTax$Text;", true)
  | 3 => ("GlassTax$Street", "glassIn", "[I", true)
  | 4 => ("GlassTax$Street", "tape", "[I", true)
  | 5 => ("GlassTax$Street", "waiting", "[I", true)
  | 6 => ("GlassTax$Street", "glassCount", "I", false)
  | 7 => ("GlassTax$Street", "peopleCount", "I", false)
  | 8 => ("GlassTax$Street", "taped", "I", false)
  | 9 => ("GlassTax$Street", "waits", "I", false)
  | 10 => ("GlassTax$Street", "hour", "I", false)
  | _ => ("GlassTax$Street", "z", "I", false)
def ty5 : Nat → FieldType := fun k => match k with
  | 0 => .array (.object "GlassTax$Glass")
  | 1 => .array (.object "GlassTax$Person")
  | 2 => .array (.object "GlassTax$Text")
  | 3 => .array .int
  | 4 => .array .int
  | 5 => .array .int
  | 6 => .int
  | 7 => .int
  | 8 => .int
  | 9 => .int
  | 10 => .int
  | _ => .int
theorem nm5 : ∀ a, a < 12 → ∀ b, b < 12 → a ≠ b → (T5 a).2.1 ≠ (T5 b).2.1 := by decide +kernel
theorem ty5_ok : ∀ k, k < 12 → parseFieldDescriptor (T5 k).2.2.1 = some (ty5 k) := by decide +kernel
theorem hu5_0 : u_lay R5 T5 0 ∈ lw_gd := zwd 137 (by decide +kernel) (by decide +kernel)
theorem hu5_1 : u_lay R5 T5 1 ∈ lw_gd := zwd 139 (by decide +kernel) (by decide +kernel)
theorem hu5_2 : u_lay R5 T5 2 ∈ lw_gd := zwd 141 (by decide +kernel) (by decide +kernel)
theorem hu5_3 : u_lay R5 T5 3 ∈ lw_gd := zwd 143 (by decide +kernel) (by decide +kernel)
theorem hu5_4 : u_lay R5 T5 4 ∈ lw_gd := zwd 145 (by decide +kernel) (by decide +kernel)
theorem hu5_5 : u_lay R5 T5 5 ∈ lw_gd := zwd 147 (by decide +kernel) (by decide +kernel)
theorem hu5_6 : u_lay R5 T5 6 ∈ lw_gd := zwd 149 (by decide +kernel) (by decide +kernel)
theorem hu5_7 : u_lay R5 T5 7 ∈ lw_gd := zwd 151 (by decide +kernel) (by decide +kernel)
theorem hu5_8 : u_lay R5 T5 8 ∈ lw_gd := zwd 153 (by decide +kernel) (by decide +kernel)
theorem hu5_9 : u_lay R5 T5 9 ∈ lw_gd := zwd 155 (by decide +kernel) (by decide +kernel)
theorem hu5_10 : u_lay R5 T5 10 ∈ lw_gd := zwd 157 (by decide +kernel) (by decide +kernel)
theorem hu5_11 : u_lay R5 T5 11 ∈ lw_gd := zwd 159 (by decide +kernel) (by decide +kernel)
theorem hu5 : ∀ w ∈ u_ws R5 T5 12, w ∈ lw_gd := by
  intro w hw
  obtain ⟨k, hk, rfl⟩ := List.mem_map.mp hw
  have hk := List.mem_range.mp hk
  match k, hk with
  | 0, _ => exact hu5_0
  | 1, _ => exact hu5_1
  | 2, _ => exact hu5_2
  | 3, _ => exact hu5_3
  | 4, _ => exact hu5_4
  | 5, _ => exact hu5_5
  | 6, _ => exact hu5_6
  | 7, _ => exact hu5_7
  | 8, _ => exact hu5_8
  | 9, _ => exact hu5_9
  | 10, _ => exact hu5_10
  | 11, _ => exact hu5_11
  | k + 12, h => exact absurd h (by omega)
def R6 : String := "GlassTax$Text"
def T6 : u_T := fun k => match k with
  | 0 => ("GlassTax$Text", "steps", "[I", true)
  | 1 => ("GlassTax$Text", "stack", "[I", true)
  | 2 => ("GlassTax$Text", "length", "I", false)
  | _ => ("GlassTax$Text", "isThere", "Z", false)
def ty6 : Nat → FieldType := fun k => match k with
  | 0 => .array .int
  | 1 => .array .int
  | 2 => .int
  | _ => .boolean
theorem nm6 : ∀ a, a < 4 → ∀ b, b < 4 → a ≠ b → (T6 a).2.1 ≠ (T6 b).2.1 := by decide +kernel
theorem ty6_ok : ∀ k, k < 4 → parseFieldDescriptor (T6 k).2.2.1 = some (ty6 k) := by decide +kernel
theorem hu6_0 : u_lay R6 T6 0 ∈ lw_gd := zwd 109 (by decide +kernel) (by decide +kernel)
theorem hu6_1 : u_lay R6 T6 1 ∈ lw_gd := zwd 111 (by decide +kernel) (by decide +kernel)
theorem hu6_2 : u_lay R6 T6 2 ∈ lw_gd := zwd 113 (by decide +kernel) (by decide +kernel)
theorem hu6_3 : u_lay R6 T6 3 ∈ lw_gd := zwd 115 (by decide +kernel) (by decide +kernel)
theorem hu6 : ∀ w ∈ u_ws R6 T6 4, w ∈ lw_gd := by
  intro w hw
  obtain ⟨k, hk, rfl⟩ := List.mem_map.mp hw
  have hk := List.mem_range.mp hk
  match k, hk with
  | 0, _ => exact hu6_0
  | 1, _ => exact hu6_1
  | 2, _ => exact hu6_2
  | 3, _ => exact hu6_3
  | k + 4, h => exact absurd h (by omega)
def R7 : String := "GlassTax$Voices"
def T7 : u_T := fun k => match k with
  | 0 => ("GlassTax$Voices", "trace", "[I", true)
  | 1 => ("GlassTax$Voices", "traced", "I", false)
  | 2 => ("GlassTax$Voices", "isParted", "Z", false)
  | 3 => ("GlassTax$Voices", "kind", "I", false)
  | 4 => ("GlassTax$Voices", "number", "I", false)
  | _ => ("GlassTax$Voices", "m", "I", false)
def ty7 : Nat → FieldType := fun k => match k with
  | 0 => .array .int
  | 1 => .int
  | 2 => .boolean
  | 3 => .int
  | 4 => .int
  | _ => .int
theorem nm7 : ∀ a, a < 6 → ∀ b, b < 6 → a ≠ b → (T7 a).2.1 ≠ (T7 b).2.1 := by decide +kernel
theorem ty7_ok : ∀ k, k < 6 → parseFieldDescriptor (T7 k).2.2.1 = some (ty7 k) := by decide +kernel
theorem hu7_0 : u_lay R7 T7 0 ∈ lw_gd := zwd 228 (by decide +kernel) (by decide +kernel)
theorem hu7_1 : u_lay R7 T7 1 ∈ lw_gd := zwd 230 (by decide +kernel) (by decide +kernel)
theorem hu7_2 : u_lay R7 T7 2 ∈ lw_gd := zwd 232 (by decide +kernel) (by decide +kernel)
theorem hu7_3 : u_lay R7 T7 3 ∈ lw_gd := zwd 234 (by decide +kernel) (by decide +kernel)
theorem hu7_4 : u_lay R7 T7 4 ∈ lw_gd := zwd 236 (by decide +kernel) (by decide +kernel)
theorem hu7_5 : u_lay R7 T7 5 ∈ lw_gd := zwd 238 (by decide +kernel) (by decide +kernel)
theorem hu7 : ∀ w ∈ u_ws R7 T7 6, w ∈ lw_gd := by
  intro w hw
  obtain ⟨k, hk, rfl⟩ := List.mem_map.mp hw
  have hk := List.mem_range.mp hk
  match k, hk with
  | 0, _ => exact hu7_0
  | 1, _ => exact hu7_1
  | 2, _ => exact hu7_2
  | 3, _ => exact hu7_3
  | 4, _ => exact hu7_4
  | 5, _ => exact hu7_5
  | k + 6, h => exact absurd h (by omega)
def R8 : String := "GlassTax"
def T8 : u_T := fun k => match k with
  | 0 => ("GlassTax", "now", "LGlassTax$Street;", true)
  | 1 => ("GlassTax", "kept", "LGlassTax$Street;", true)
  | 2 => ("GlassTax", "thought", "LGlassTax$Street;", true)
  | 3 => ("GlassTax", "gaze", "LGlassTax$Look;", true)
  | 4 => ("GlassTax", "reader", "LGlassTax$Reader;", true)
  | 5 => ("GlassTax", "voices", "LGlassTax$Voices;", true)
  | 6 => ("GlassTax", "sheets", "[LGlassTax$Sheet;", true)
  | 7 => ("GlassTax", "spinRow", "[I", true)
  | 8 => ("GlassTax", "errors", "[I", true)
  | 9 => ("GlassTax", "hasImage", "Z", false)
  | _ => ("GlassTax", "images", "I", false)
def ty8 : Nat → FieldType := fun k => match k with
  | 0 => .object "GlassTax$Street"
  | 1 => .object "GlassTax$Street"
  | 2 => .object "GlassTax$Street"
  | 3 => .object "GlassTax$Look"
  | 4 => .object "GlassTax$Reader"
  | 5 => .object "GlassTax$Voices"
  | 6 => .array (.object "GlassTax$Sheet")
  | 7 => .array .int
  | 8 => .array .int
  | 9 => .boolean
  | _ => .int
theorem nm8 : ∀ a, a < 11 → ∀ b, b < 11 → a ≠ b → (T8 a).2.1 ≠ (T8 b).2.1 := by decide +kernel
theorem ty8_ok : ∀ k, k < 11 → parseFieldDescriptor (T8 k).2.2.1 = some (ty8 k) := by decide +kernel
theorem hu8_0 : u_lay R8 T8 0 ∈ lw_gd := zwd 272 (by decide +kernel) (by decide +kernel)
theorem hu8_1 : u_lay R8 T8 1 ∈ lw_gd := zwd 274 (by decide +kernel) (by decide +kernel)
theorem hu8_2 : u_lay R8 T8 2 ∈ lw_gd := zwd 276 (by decide +kernel) (by decide +kernel)
theorem hu8_3 : u_lay R8 T8 3 ∈ lw_gd := zwd 278 (by decide +kernel) (by decide +kernel)
theorem hu8_4 : u_lay R8 T8 4 ∈ lw_gd := zwd 280 (by decide +kernel) (by decide +kernel)
theorem hu8_5 : u_lay R8 T8 5 ∈ lw_gd := zwd 282 (by decide +kernel) (by decide +kernel)
theorem hu8_6 : u_lay R8 T8 6 ∈ lw_gd := zwd 284 (by decide +kernel) (by decide +kernel)
theorem hu8_7 : u_lay R8 T8 7 ∈ lw_gd := zwd 286 (by decide +kernel) (by decide +kernel)
theorem hu8_8 : u_lay R8 T8 8 ∈ lw_gd := zwd 288 (by decide +kernel) (by decide +kernel)
theorem hu8_9 : u_lay R8 T8 9 ∈ lw_gd := zwd 290 (by decide +kernel) (by decide +kernel)
theorem hu8_10 : u_lay R8 T8 10 ∈ lw_gd := zwd 292 (by decide +kernel) (by decide +kernel)
theorem hu8 : ∀ w ∈ u_ws R8 T8 11, w ∈ lw_gd := by
  intro w hw
  obtain ⟨k, hk, rfl⟩ := List.mem_map.mp hw
  have hk := List.mem_range.mp hk
  match k, hk with
  | 0, _ => exact hu8_0
  | 1, _ => exact hu8_1
  | 2, _ => exact hu8_2
  | 3, _ => exact hu8_3
  | 4, _ => exact hu8_4
  | 5, _ => exact hu8_5
  | 6, _ => exact hu8_6
  | 7, _ => exact hu8_7
  | 8, _ => exact hu8_8
  | 9, _ => exact hu8_9
  | 10, _ => exact hu8_10
  | k + 11, h => exact absurd h (by omega)
def R9 : String := "GlassTaxModel"
def T9 : u_T := fun k => match k with
  | 0 => ("GlassTaxModel", "row", "[I", true)
  | 1 => ("GlassTaxModel", "kept", "[I", true)
  | 2 => ("GlassTaxModel", "before", "[I", true)
  | 3 => ("GlassTaxModel", "images", "I", false)
  | 4 => ("GlassTaxModel", "errors", "[I", true)
  | 5 => ("GlassTaxModel", "bitsOf", "[I", true)
  | 6 => ("GlassTaxModel", "sizeOf", "[I", true)
  | 7 => ("GlassTaxModel", "cells", "[I", true)
  | 8 => ("GlassTaxModel", "path", "[I", true)
  | 9 => ("GlassTaxModel", "many", "I", false)
  | 10 => ("GlassTaxModel", "meets", "I", false)
  | 11 => ("GlassTaxModel", "met", "[I", true)
  | 12 => ("GlassTaxModel", "tax", "I", false)
  | 13 => ("GlassTaxModel", "isEver", "Z", false)
  | 14 => ("GlassTaxModel", "act", "[I", true)
  | 15 => ("GlassTaxModel", "with", "[I", true)
  | 16 => ("GlassTaxModel", "facts", "[I", true)
  | 17 => ("GlassTaxModel", "pile", "[I", true)
  | 18 => ("GlassTaxModel", "laid", "I", false)
  | 19 => ("GlassTaxModel", "here", "I", false)
  | 20 => ("GlassTaxModel", "opened", "I", false)
  | 21 => ("GlassTaxModel", "bad", "Z", false)
  | 22 => ("GlassTaxModel", "using", "I", false)
  | 23 => ("GlassTaxModel", "spun", "[I", true)
  | 24 => ("GlassTaxModel", "trace", "[I", true)
  | 25 => ("GlassTaxModel", "traced", "I", false)
  | _ => ("GlassTaxModel", "isParted", "Z", false)
def ty9 : Nat → FieldType := fun k => match k with
  | 0 => .array .int
  | 1 => .array .int
  | 2 => .array .int
  | 3 => .int
  | 4 => .array .int
  | 5 => .array .int
  | 6 => .array .int
  | 7 => .array .int
  | 8 => .array .int
  | 9 => .int
  | 10 => .int
  | 11 => .array .int
  | 12 => .int
  | 13 => .boolean
  | 14 => .array .int
  | 15 => .array .int
  | 16 => .array .int
  | 17 => .array .int
  | 18 => .int
  | 19 => .int
  | 20 => .int
  | 21 => .boolean
  | 22 => .int
  | 23 => .array .int
  | 24 => .array .int
  | 25 => .int
  | _ => .boolean
theorem nm9 : ∀ a, a < 27 → ∀ b, b < 27 → a ≠ b → (T9 a).2.1 ≠ (T9 b).2.1 := by decide +kernel
theorem ty9_ok : ∀ k, k < 27 → parseFieldDescriptor (T9 k).2.2.1 = some (ty9 k) := by decide +kernel
theorem hu9_0 : u_lay R9 T9 0 ∈ lw_gd := zwd 844 (by decide +kernel) (by decide +kernel)
theorem hu9_1 : u_lay R9 T9 1 ∈ lw_gd := zwd 846 (by decide +kernel) (by decide +kernel)
theorem hu9_2 : u_lay R9 T9 2 ∈ lw_gd := zwd 848 (by decide +kernel) (by decide +kernel)
theorem hu9_3 : u_lay R9 T9 3 ∈ lw_gd := zwd 850 (by decide +kernel) (by decide +kernel)
theorem hu9_4 : u_lay R9 T9 4 ∈ lw_gd := zwd 852 (by decide +kernel) (by decide +kernel)
theorem hu9_5 : u_lay R9 T9 5 ∈ lw_gd := zwd 854 (by decide +kernel) (by decide +kernel)
theorem hu9_6 : u_lay R9 T9 6 ∈ lw_gd := zwd 856 (by decide +kernel) (by decide +kernel)
theorem hu9_7 : u_lay R9 T9 7 ∈ lw_gd := zwd 858 (by decide +kernel) (by decide +kernel)
theorem hu9_8 : u_lay R9 T9 8 ∈ lw_gd := zwd 860 (by decide +kernel) (by decide +kernel)
theorem hu9_9 : u_lay R9 T9 9 ∈ lw_gd := zwd 862 (by decide +kernel) (by decide +kernel)
theorem hu9_10 : u_lay R9 T9 10 ∈ lw_gd := zwd 864 (by decide +kernel) (by decide +kernel)
theorem hu9_11 : u_lay R9 T9 11 ∈ lw_gd := zwd 866 (by decide +kernel) (by decide +kernel)
theorem hu9_12 : u_lay R9 T9 12 ∈ lw_gd := zwd 868 (by decide +kernel) (by decide +kernel)
theorem hu9_13 : u_lay R9 T9 13 ∈ lw_gd := zwd 870 (by decide +kernel) (by decide +kernel)
theorem hu9_14 : u_lay R9 T9 14 ∈ lw_gd := zwd 872 (by decide +kernel) (by decide +kernel)
theorem hu9_15 : u_lay R9 T9 15 ∈ lw_gd := zwd 874 (by decide +kernel) (by decide +kernel)
theorem hu9_16 : u_lay R9 T9 16 ∈ lw_gd := zwd 876 (by decide +kernel) (by decide +kernel)
theorem hu9_17 : u_lay R9 T9 17 ∈ lw_gd := zwd 878 (by decide +kernel) (by decide +kernel)
theorem hu9_18 : u_lay R9 T9 18 ∈ lw_gd := zwd 880 (by decide +kernel) (by decide +kernel)
theorem hu9_19 : u_lay R9 T9 19 ∈ lw_gd := zwd 882 (by decide +kernel) (by decide +kernel)
theorem hu9_20 : u_lay R9 T9 20 ∈ lw_gd := zwd 884 (by decide +kernel) (by decide +kernel)
theorem hu9_21 : u_lay R9 T9 21 ∈ lw_gd := zwd 886 (by decide +kernel) (by decide +kernel)
theorem hu9_22 : u_lay R9 T9 22 ∈ lw_gd := zwd 888 (by decide +kernel) (by decide +kernel)
theorem hu9_23 : u_lay R9 T9 23 ∈ lw_gd := zwd 890 (by decide +kernel) (by decide +kernel)
theorem hu9_24 : u_lay R9 T9 24 ∈ lw_gd := zwd 892 (by decide +kernel) (by decide +kernel)
theorem hu9_25 : u_lay R9 T9 25 ∈ lw_gd := zwd 894 (by decide +kernel) (by decide +kernel)
theorem hu9_26 : u_lay R9 T9 26 ∈ lw_gd := zwd 896 (by decide +kernel) (by decide +kernel)
theorem hu9 : ∀ w ∈ u_ws R9 T9 27, w ∈ lw_gd := by
  intro w hw
  obtain ⟨k, hk, rfl⟩ := List.mem_map.mp hw
  have hk := List.mem_range.mp hk
  match k, hk with
  | 0, _ => exact hu9_0
  | 1, _ => exact hu9_1
  | 2, _ => exact hu9_2
  | 3, _ => exact hu9_3
  | 4, _ => exact hu9_4
  | 5, _ => exact hu9_5
  | 6, _ => exact hu9_6
  | 7, _ => exact hu9_7
  | 8, _ => exact hu9_8
  | 9, _ => exact hu9_9
  | 10, _ => exact hu9_10
  | 11, _ => exact hu9_11
  | 12, _ => exact hu9_12
  | 13, _ => exact hu9_13
  | 14, _ => exact hu9_14
  | 15, _ => exact hu9_15
  | 16, _ => exact hu9_16
  | 17, _ => exact hu9_17
  | 18, _ => exact hu9_18
  | 19, _ => exact hu9_19
  | 20, _ => exact hu9_20
  | 21, _ => exact hu9_21
  | 22, _ => exact hu9_22
  | 23, _ => exact hu9_23
  | 24, _ => exact hu9_24
  | 25, _ => exact hu9_25
  | 26, _ => exact hu9_26
  | k + 27, h => exact absurd h (by omega)
abbrev zcl : List vw_C := [(R0, T0, 5), (R1, T1, 5), (R2, T2, 3), (R3, T3, 5), (R4, T4, 3), (R5, T5, 12), (R6, T6, 4), (R7, T7, 6), (R8, T8, 11), (R9, T9, 27)]
def zshL : List Nat := [0, 9, 6, 11, 12, 13, 15, 15, 15, 1, 1, 1, 1, 1, 1, 1, 1, 3, 3, 3, 3, 3, 3, 7, 15, 15, 7, 15, 15, 6, 11, 12, 13, 15, 15, 15, 1, 1, 1, 1, 1, 1, 1, 1, 3, 3, 3, 3, 3, 3, 7, 15, 15, 7, 15, 15, 6, 11, 12, 13, 15, 15, 15, 1, 1, 1, 1, 1, 1, 1, 1, 3, 3, 3, 3, 3, 3, 7, 15, 15, 7, 15, 15, 2, 15, 15, 4, 7, 15, 15, 8, 15, 14, 15, 15, 5, 15, 5, 15, 5, 15, 5, 15, 10, 15, 15, 15, 15, 15, 15, 15, 15, 15, 15, 15, 15, 15, 15, 15]
def zlnL : List Nat := [0, 0, 0, 8, 6, 2, 64, 60, 24, 0, 0, 0, 0, 0, 0, 0, 0, 0, 0, 0, 0, 0, 0, 0, 60, 60, 0, 60, 60, 0, 8, 6, 2, 64, 60, 24, 0, 0, 0, 0, 0, 0, 0, 0, 0, 0, 0, 0, 0, 0, 0, 60, 60, 0, 60, 60, 0, 8, 6, 2, 64, 60, 24, 0, 0, 0, 0, 0, 0, 0, 0, 0, 0, 0, 0, 0, 0, 0, 60, 60, 0, 60, 60, 0, 257, 257, 0, 0, 60, 60, 0, 30, 4, 4, 7, 0, 24, 0, 24, 0, 24, 0, 24, 0, 390, 390, 390, 7, 4, 4, 96, 257, 8, 60, 60, 3, 60, 4, 30]
def zfsL : List (List (Option Nat)) := [[], 
  [none, none, none, none, none],
  [some 1, some 2, none, none, none],
  [none, none, none],
  [some 1, some 0, none, none, none],
  [some 1, none, none],
  [some 1, some 2, some 3, some 4, some 5, some 6, none, none, none, none, none, none],
  [some 1, some 2, none, none],
  [some 1, none, none, none, none, none],
  [some 1, some 28, some 55, some 82, some 85, some 89, some 91, some 92, some 93, none, none],
  [some 1, some 2, some 3, none, some 4, some 5, some 6, some 7, some 8, none, none, some 9, none, none, some 10, some 11, some 12, some 13, none, none, none, none, none, some 14, some 15, none, none]]
end
section
/-! the one store: every cell of the law's from its first on, by its place; what a place is never changes; all numbers in σ -/
abbrev ZS : Type := Nat → Nat → Int32
abbrev ZG : Type := Nat × va_G × (Nat → ClassId) × (Nat → Nat)
abbrev ZV : Type := Int32 ⊕ Nat ⊕ Int64
abbrev ZX : Type := Program × Launch × Env × Room × State × MethodId × Array Value × List Frame × Method × Code
abbrev zi (v : Int32) : ZV := .inl v
abbrev zr (o : Nat) : ZV := .inr (.inl o)
abbrev zj (v : Int64) : ZV := .inr (.inr v)
def zsh (o : Nat) : Nat := zshL.getD o 0
def zln (o : Nat) : Nat := zlnL.getD o 0
def zfs (κ : Nat) : List (Option Nat) := zfsL.getD κ []
/-- rows of references: how many, the first one's place behind the row's, from one to the next -/
def zrn (κ : Nat) : Nat := [8, 6, 2, 4].getD (κ - 11) 0
def zrd (κ : Nat) : Nat := [6, 13, 18, 3].getD (κ - 11) 0
def zrs (κ : Nat) : Nat := [1, 1, 3, 2].getD (κ - 11) 0
def zrc (κ : Nat) : String := ["GlassTax$Glass", "GlassTax$Person", "GlassTax$Text", "GlassTax$Sheet"].getD (κ - 11) ""
def zurow (σ : ZS) (o : Nat) (f : Nat → Int32) : ZS := fun a => if a = o then f else σ a
def zu (σ : ZS) (o k : Nat) (v : Int32) : ZS := zurow σ o (upd (σ o) k v)
def zrv (g : ZG) (o : Nat) : Value := if o = 0 then .null else if 1000 ≤ o then .ref (g.2.2.2 (o - 1000)) else .ref (g.1 + o)
def zval (g : ZG) : ZV → Value
  | .inl v => .int v
  | .inr (.inl o) => zrv g o
  | .inr (.inr v) => .long v
def zfv (g : ZG) (f : Nat → Int32) (o k : Nat) : Option Nat → Value
  | none => .int (f k)
  | some 0 => zrv g (f k).toNatClampNeg
  | some (d + 1) => .ref (g.1 + (o + (d + 1)))
def zob (g : ZG) (f : Nat → Int32) (o : Nat) : List (Option Nat) → Nat → List Value
  | [], _ => []
  | d :: l, k => zfv g f o k d :: zob g f o l (k + 1)
def zen1 (g : ZG) (o : Nat) (f : Nat → Int32) : va_E :=
  if zsh o = 15 then .inl (g.2.2.1 0, zln o, .inl f)
  else if 11 ≤ zsh o then .inl (g.2.2.1 (zsh o - 10), zrn (zsh o), .inr (.inr (.inr (.inr fun i => some (g.1 + (o + zrd (zsh o) + zrs (zsh o) * i))))))
  else .inr (zsh o - 1, zob g f o (zfs (zsh o)) 0)
def zen (g : ZG) (σ : ZS) (o : Nat) : va_E := zen1 g o (σ o)
def zL (g : ZG) : List Nat := (List.range 118).map fun i => g.1 + (i + 1)
def zf (g : ZG) (σ : ZS) : Nat → va_E := fun a => zen g σ (a - g.1)
def zA (g : ZG) : Nat → Prop := fun q => g.1 < q
def zP (g : ZG) (σ : ZS) (H : Heap) : Prop := va_P g.2.1 zcl (va_pl (zL g) (zf g σ)) H
def ztys (g : ZG) : List (ClassId × FieldType) := [(g.2.2.1 0, .int), (g.2.2.1 1, .object "GlassTax$Glass"), (g.2.2.1 2, .object "GlassTax$Person"), (g.2.2.1 3, .object "GlassTax$Text"), (g.2.2.1 4, .object "GlassTax$Sheet")]
def zKA : List Int32 := [0, 0, 0, 0, 1, 2, 0]
def zBO : List Int32 := [10, 11, 12, 13, 20, 0, 0, 21, 0, 30, 0, 0, 0, 0, 40, 0, 50, 0, 51, 0, 0, 60, 0, 0, 70, 71, 0, 0]
def zBy : List (List Int32) := [[110, 107, 109, 116, 104, 112]]
def zNest : Cond → Bool
  | .methodLinkNest .. => true
  | .fieldLinkNest .. => true
  | _ => false
def zZ (g : ZG) (U : State) (H : Heap) : Prop :=
  (va_Z "GlassTax" "KIND_ABOVE" "[I" (.ref (g.2.2.2 0)) (zA g) U H ∧ va_T .int (g.2.2.2 0) 7 (fun j => .int (zKA.getD j 0)) (zA g) U H) ∧
  (va_Z "GlassTax$Voices" "BODIES" "[I" (.ref (g.2.2.2 1)) (zA g) U H ∧ va_T .int (g.2.2.2 1) 28 (fun j => .int (zBO.getD j 0)) (zA g) U H) ∧
  (vk_S 1 [6] zBy (fun _ => g.2.2.2 2) (fun _ => g.2.2.2 3) (zA g) U H ∧ va_Z "java/lang/String" "COMPACT_STRINGS" "Z" (.int 1) (zA g) U H ∧ va_Z "jdk/internal/util/Preconditions" "SIOOBE_FORMATTER" "Ljava/util/function/BiFunction;" (zrv g (g.2.2.2 5)) (zA g) U H)
def zK (g : ZG) (U : State) : Prop := va_K g.2.1 zcl (ztys g) U ∧ zZ g U U.heap ∧ (∀ w ∈ lw_tbl, zNest w = true → va_Nw w U) ∧ vk_R "GlassTax$Reader" 69 "nkmthp" (g.2.2.2 2) U ∧ ∀ κ, 11 ≤ κ → κ < 15 → va_AO (zrc κ) U
theorem zZ.moved {g : ZG} {u U : State} {H : Heap} (hvm : u.vm.Alike U.vm) (h : zZ g u H) : zZ g U H := ⟨⟨h.1.1.moved hvm, h.1.2.moved hvm⟩, ⟨h.2.1.1.moved hvm, h.2.1.2.moved hvm⟩, ⟨h.2.2.1.moved hvm, h.2.2.2.1.moved hvm, h.2.2.2.2.moved hvm⟩⟩
theorem zZ.kept {g : ZG} {U : State} {H H1 : Heap} (h : zZ g U H) (hq : ∀ a : Nat, a < H.size → ¬ zA g a → H1[a]? = H[a]?) : zZ g U H1 := ⟨⟨h.1.1.kept hq, h.1.2.kept hq⟩, ⟨h.2.1.1.kept hq, h.2.1.2.kept hq⟩, ⟨h.2.2.1.kept hq, h.2.2.2.1.kept hq, h.2.2.2.2.kept hq⟩⟩
theorem zK.blind {g : ZG} {U : State} {f : JFrame} {mk : MethodId} {a : Array Value} (h : zK g U) : zK g (U.calling f mk a) :=
  ⟨va_K.moved (Vm.Alike.refl U.vm) h.1, h.2.1.moved (u := U) (U := U.calling f mk a) (Vm.Alike.refl U.vm), fun w hw hn => va_Nw.same (by cases w <;> simp_all [zNest, Cond.onTables]) (u := U) (U := U.calling f mk a) rfl (h.2.2.1 w hw hn), vk_R.same (u := U) rfl h.2.2.2.1, fun κ h1 h2 => va_AO.moved (u := U) (U := U.calling f mk a) (Vm.Alike.refl U.vm) (h.2.2.2.2 κ h1 h2)⟩
theorem zK.go {g : ZG} {s U : State} {H : Heap} {locs : List Loc} (h : zK g s) (hS : va_S (zA g) s.heap H locs) (hU : U.heap = H) (hW : s.WarmedH U.vm) : zK g U := by
  refine ⟨va_K.moved hW.alike h.1, ?_, fun w hw hn => ?_, vk_R.warm hW h.2.2.2.1, fun κ h1 h2 => va_AO.moved hW.alike (h.2.2.2.2 κ h1 h2)⟩
  · rw [hU]
    exact (h.2.1.kept hS.2.1).moved hW.alike
  · have h1 := h.2.2.1 w hw hn
    cases w with
    | methodLinkNest => exact va_Nw.warmM hW h1
    | fieldLinkNest => exact va_Nw.warmF hW h1
    | _ => simp [zNest] at hn
theorem zsh_lt {o : Nat} (h : zsh o ≠ 0) : 0 < o ∧ o < 119 := by
  by_cases h1 : o < 119
  · refine ⟨?_, h1⟩
    rcases Nat.eq_zero_or_pos o with z | z
    · subst z
      exact absurd rfl h
    · exact z
  · exfalso
    apply h
    unfold zsh
    rw [List.getD_eq_getElem?_getD, List.getElem?_eq_none (show zshL.length ≤ o from by rw [show zshL.length = 119 from rfl]; omega)]
    rfl
theorem zrv_of {g : ZG} {o : Nat} (h : zsh o ≠ 0) : zrv g o = .ref (g.1 + o) := by
  obtain ⟨h1, h2⟩ := zsh_lt h
  rw [zrv, if_neg (by omega), if_neg (by omega)]
theorem zrv_0 {g : ZG} : zrv g 0 = .null := rfl
theorem zrv_ref {g : ZG} {o : Nat} (h : o ≠ 0) : ∃ a, zrv g o = .ref a := by
  unfold zrv
  rw [if_neg h]
  by_cases h1 : 1000 ≤ o
  · rw [if_pos h1]; exact ⟨_, rfl⟩
  · rw [if_neg h1]; exact ⟨_, rfl⟩
theorem zrv_cat {g : ZG} {o : Nat} : (zrv g o).category = 1 := by
  by_cases h : o = 0
  · subst h; rfl
  · obtain ⟨a, ha⟩ := zrv_ref (g := g) h
    rw [ha]; rfl
theorem zL_mem {g : ZG} {o : Nat} (h : zsh o ≠ 0) : g.1 + o ∈ zL g := by
  obtain ⟨h1, h2⟩ := zsh_lt h
  exact List.mem_map.mpr ⟨o - 1, List.mem_range.mpr (by omega), by omega⟩
theorem zP_at {g : ZG} {σ : ZS} {o : Nat} (h : zsh o ≠ 0) : ∃ k : Nat, (va_pl (zL g) (zf g σ))[k]? = some (g.1 + o, zen g σ o) := by
  obtain ⟨k, hk⟩ := va_pl_get (X := []) (f := zf g σ) (zL_mem (g := g) h)
  refine ⟨k, ?_⟩
  have e : zf g σ (g.1 + o) = zen g σ o := by
    show zen g σ (g.1 + o - g.1) = _
    rw [Nat.add_sub_cancel_left]
  rw [← e]
  exact hk
theorem zD {g : ZG} (f : Nat → va_E) : va_D (zA g) (va_pl (zL g) f) := by
  have key : ∀ (k : Nat) (q : Nat × va_E), (va_pl (zL g) f)[k]? = some q → q.1 = g.1 + (k + 1) := by
    intro k q hq
    unfold va_pl zL at hq
    rw [List.map_map, List.getElem?_map] at hq
    cases hr : (List.range 118)[k]? with
    | none => rw [hr] at hq; cases hq
    | some i =>
      rw [hr] at hq
      have hi : i = k := by
        have h2 := List.getElem?_range (n := 118) (i := k) (by have := (List.getElem?_eq_some_iff.mp hr).1; simpa using this)
        rw [hr] at h2
        exact Option.some.inj h2
      cases hq
      subst hi
      rfl
  refine ⟨fun i j p q hi hj hpq => ?_, fun k q hk => ?_⟩
  · have h1 := key i p hi
    have h2 := key j q hj
    omega
  · have h1 := key k q hk
    show g.1 < q.1
    omega
theorem zP_set {g : ZG} {σ σ' : ZS} {H : Heap} {o k : Nat} {e : va_E} (ho : zsh o ≠ 0) (hk : (va_pl (zL g) (zf g σ))[k]? = some (g.1 + o, zen g σ o)) (he : zen g σ' o = e) (hσ : ∀ a, a ≠ o → σ' a = σ a) (h : va_P g.2.1 zcl ((va_pl (zL g) (zf g σ)).set k (g.1 + o, e)) H) : zP g σ' H := by
  have e0 : zf g σ (g.1 + o) = zen g σ o := by
    show zen g σ (g.1 + o - g.1) = _
    rw [Nat.add_sub_cancel_left]
  have h1 := va_pl_set (X := []) (e := e) (zD (g := g) (zf g σ)) (zL_mem ho) (by rw [e0]; exact hk)
  have h2 : (va_pl (zL g) (zf g σ)).set k (g.1 + o, e) = va_pl (zL g) (va_up (zf g σ) (g.1 + o) e) := h1
  rw [h2] at h
  have h3 : va_pl (zL g) (va_up (zf g σ) (g.1 + o) e) = va_pl (zL g) (zf g σ') := by
    refine va_pl_congr fun a => ?_
    show (if a = g.1 + o then e else zf g σ a) = zf g σ' a
    obtain ⟨o1, -⟩ := zsh_lt ho
    by_cases ha : a = g.1 + o
    · rw [if_pos ha, ha]
      show e = zen g σ' (g.1 + o - g.1)
      rw [Nat.add_sub_cancel_left, he]
    · rw [if_neg ha]
      show zen1 g (a - g.1) (σ (a - g.1)) = zen1 g (a - g.1) (σ' (a - g.1))
      rw [hσ (a - g.1) (by omega)]
  rw [h3] at h
  exact h
theorem zu_row {σ : ZS} {o : Nat} {f : Nat → Int32} : zurow σ o f o = f := if_pos rfl
theorem zu_ne {σ : ZS} {o a : Nat} {f : Nat → Int32} (h : a ≠ o) : zurow σ o f a = σ a := if_neg h
theorem zen_arr {g : ZG} {σ : ZS} {o n : Nat} (h : zsh o = 15) (hn : zln o = n) : zen g σ o = .inl (g.2.2.1 0, n, .inl (σ o)) := by
  unfold zen zen1
  rw [if_pos h, hn]
theorem zen_ref {g : ZG} {σ : ZS} {o κ : Nat} (h : zsh o = κ) (h1 : 11 ≤ κ) (h2 : κ < 15) : zen g σ o = .inl (g.2.2.1 (κ - 10), zrn κ, .inr (.inr (.inr (.inr fun i => some (g.1 + (o + zrd κ + zrs κ * i)))))) := by
  unfold zen zen1
  rw [if_neg (by omega), if_pos (by omega), h]
theorem zen_obj {g : ZG} {σ : ZS} {o ci : Nat} (h : zsh o = ci + 1) (h1 : ci < 10) : zen g σ o = .inr (ci, zob g (σ o) o (zfs (ci + 1)) 0) := by
  unfold zen zen1
  rw [if_neg (by omega), if_neg (by omega), h]
  rfl
theorem zob_get {g : ZG} {f : Nat → Int32} {o : Nat} : ∀ (l : List (Option Nat)) (j k : Nat) (d : Option Nat), l[k]? = some d → (zob g f o l j)[k]? = some (zfv g f o (j + k) d)
  | [], _, _, _, h => by simp at h
  | a :: l, j, 0, d, h => by
    simp only [List.getElem?_cons_zero, Option.some.injEq] at h
    subst h
    simp [zob]
  | a :: l, j, k + 1, d, h => by
    simp only [List.getElem?_cons_succ] at h
    have := zob_get (g := g) (f := f) (o := o) l (j + 1) k d h
    simp only [zob, List.getElem?_cons_succ, this]
    rw [show j + 1 + k = j + (k + 1) by omega]
theorem zob_len {g : ZG} {f : Nat → Int32} {o : Nat} : ∀ (l : List (Option Nat)) (j : Nat), (zob g f o l j).length = l.length
  | [], _ => rfl
  | a :: l, j => by simp [zob, zob_len l (j + 1)]
theorem zfv_ne {g : ZG} {f : Nat → Int32} {o k j : Nat} {v : Int32} {d : Option Nat} (h : j ≠ k) : zfv g (upd f k v) o j d = zfv g f o j d := by
  have e : upd f k v j = f j := if_neg h
  unfold zfv
  cases d with
  | none => rw [e]
  | some d => cases d with
    | zero => rw [e]
    | succ d => rfl
theorem zob_set {g : ZG} {f : Nat → Int32} {o k : Nat} {v : Int32} {l : List (Option Nat)} {d : Option Nat} (h : l[k]? = some d) : (zob g f o l 0).set k (zfv g (upd f k v) o k d) = zob g (upd f k v) o l 0 := by
  refine List.ext_getElem? fun j => ?_
  by_cases hj : j < l.length
  · obtain ⟨d', hd'⟩ : ∃ d', l[j]? = some d' := ⟨_, List.getElem?_eq_getElem hj⟩
    have h2 := zob_get (g := g) (f := upd f k v) (o := o) l 0 j d' hd'
    rw [Nat.zero_add] at h2
    rw [h2]
    by_cases hjk : j = k
    · subst hjk
      rw [hd'] at h
      cases h
      rw [List.getElem?_set_self (by rw [zob_len]; exact hj)]
    · rw [List.getElem?_set_ne (Ne.symm hjk)]
      have h3 := zob_get (g := g) (f := f) (o := o) l 0 j d' hd'
      rw [Nat.zero_add] at h3
      rw [h3, zfv_ne hjk]
  · rw [List.getElem?_eq_none (by rw [List.length_set, zob_len]; omega), List.getElem?_eq_none (by rw [zob_len]; omega)]
/-! locals by their places -/
def zat : List (Option ZV) → Nat → Option ZV
  | [], _ => none
  | a :: _, 0 => a
  | _ :: l, n + 1 => zat l n
def zset : List (Option ZV) → Nat → ZV → List (Option ZV)
  | [], _, _ => []
  | _ :: l, 0, v => some v :: l
  | a :: l, n + 1, v => a :: zset l n v
def zdrop : List (Option ZV) → List Bool → List (Option ZV)
  | [], _ => []
  | l, [] => l
  | a :: l, true :: m => a :: zdrop l m
  | _ :: l, false :: m => none :: zdrop l m
def zlong : Option ZV → Bool
  | some (.inr (.inr _)) => true
  | _ => false
def zlow (L : List (Option ZV)) : Nat → Bool
  | 0 => true
  | i + 1 => !zlong (zat L i)
def zent : List ZV → List (Option ZV)
  | [] => []
  | .inr (.inr v) :: l => some (.inr (.inr v)) :: none :: zent l
  | v :: l => some v :: zent l
def zlh (g : ZG) (ls : Array Slot) (nL : Nat) (L : List (Option ZV)) : Prop := ls.size = nL ∧ lv_wf ls ∧ ∀ i v, zat L i = some v → ls[i]? = some (.val (zval g v))
theorem zat_set : ∀ (L : List (Option ZV)) (i j : Nat) (v w : ZV), zat (zset L i v) j = some w → (j = i ∧ w = v) ∨ (j ≠ i ∧ zat L j = some w)
  | [], _, _, _, _, h => by simp [zset, zat] at h
  | a :: l, 0, 0, v, w, h => by simp only [zset, zat, Option.some.injEq] at h; exact Or.inl ⟨rfl, h.symm⟩
  | a :: l, 0, j + 1, v, w, h => by simp only [zset, zat] at h; exact Or.inr ⟨by omega, h⟩
  | a :: l, i + 1, 0, v, w, h => by simp only [zset, zat] at h; exact Or.inr ⟨by omega, h⟩
  | a :: l, i + 1, j + 1, v, w, h => by
    simp only [zset, zat] at h
    rcases zat_set l i j v w h with ⟨h1, h2⟩ | ⟨h1, h2⟩
    · exact Or.inl ⟨by omega, h2⟩
    · exact Or.inr ⟨by omega, h2⟩
theorem zat_drop : ∀ (L : List (Option ZV)) (m : List Bool) (j : Nat) (w : ZV), zat (zdrop L m) j = some w → zat L j = some w
  | [], _, _, _, h => by simp [zdrop, zat] at h
  | a :: l, [], _, _, h => by simpa [zdrop] using h
  | a :: l, true :: m, 0, w, h => by simpa [zdrop, zat] using h
  | a :: l, true :: m, j + 1, w, h => by simp only [zdrop, zat] at h ⊢; exact zat_drop l m j w h
  | a :: l, false :: m, 0, w, h => by simp [zdrop, zat] at h
  | a :: l, false :: m, j + 1, w, h => by simp only [zdrop, zat] at h ⊢; exact zat_drop l m j w h
theorem zlh.drop {g : ZG} {ls : Array Slot} {nL : Nat} {L : List (Option ZV)} (h : zlh g ls nL L) (m : List Bool) : zlh g ls nL (zdrop L m) := ⟨h.1, h.2.1, fun i v hi => h.2.2 i v (zat_drop L m i v hi)⟩
theorem zval_cat {g : ZG} (v : ZV) : (zval g v).category = if zlong (some v) = true then 2 else 1 := by
  rcases v with v | v | v
  · rfl
  · exact zrv_cat
  · rfl
/-- the listed locals, as the kit wants them -/
def zas (g : ZG) (L : List (Option ZV)) : List (Nat × Value) := (List.range L.length).filterMap fun i => (zat L i).map fun v => (i, zval g v)
theorem zat_lt : ∀ (L : List (Option ZV)) (i : Nat) (v : ZV), zat L i = some v → i < L.length
  | [], _, _, h => by simp [zat] at h
  | a :: l, 0, _, _ => by simp
  | a :: l, i + 1, v, h => by
    have := zat_lt l i v h
    simp only [List.length_cons]
    omega
theorem zas_mem {g : ZG} {L : List (Option ZV)} {i : Nat} {v : ZV} (h : zat L i = some v) : (i, zval g v) ∈ zas g L :=
  List.mem_filterMap.mpr ⟨i, List.mem_range.mpr (zat_lt L i v h), by rw [h]; rfl⟩
theorem zlh.has {g : ZG} {ls : Array Slot} {nL : Nat} {L : List (Option ZV)} (h : zlh g ls nL L) : lv_has ls nL (zas g L) := by
  refine ⟨h.1, h.2.1, fun q hq => ?_⟩
  obtain ⟨i, -, hi⟩ := List.mem_filterMap.mp hq
  cases hv : zat L i with
  | none => rw [hv] at hi; cases hi
  | some v =>
    rw [hv] at hi
    cases hi
    exact h.2.2 i v hv
theorem zlh.stored {g : ZG} {ls : Array Slot} {nL i : Nat} {L : List (Option ZV)} {v : ZV} (hw : zlow L i = true) (h : lv_has ls nL ((i, zval g v) :: (zas g L).filter (fun q => !(q.1 == i) && !(q.1 + 1 == i && q.2.category == 2)))) : zlh g ls nL (zset L i v) := by
  refine ⟨h.1, h.2.1, fun j w hj => ?_⟩
  rcases zat_set L i j v w hj with ⟨h1, h2⟩ | ⟨h1, h2⟩
  · subst h1; subst h2
    exact h.2.2 (j, zval g w) List.mem_cons_self
  · refine h.2.2 (j, zval g w) (List.mem_cons_of_mem _ (List.mem_filter.mpr ⟨zas_mem h2, ?_⟩))
    simp only [Bool.and_eq_true, Bool.not_eq_true', beq_eq_false_iff_ne, ne_eq, Bool.and_eq_false_iff]
    refine ⟨h1, ?_⟩
    by_cases hji : j + 1 = i
    · right
      subst hji
      have hz : zlong (zat L j) = false := by
        simp only [zlow, Bool.not_eq_true'] at hw
        exact hw
      rw [h2] at hz
      rw [zval_cat, hz]
      decide
    · exact Or.inl hji
theorem zlh_entry {g : ZG} : ∀ (as : List ZV) (k i : Nat) (v : ZV), zat (zent as) i = some v → (k + i, zval g v) ∈ lv_args k (as.map (zval g))
  | [], _, _, _, h => by simp [zent, zat] at h
  | .inl a :: l, k, 0, v, h => by simp only [zent, zat, Option.some.injEq] at h; subst h; exact List.mem_cons_self
  | .inr (.inl a) :: l, k, 0, v, h => by simp only [zent, zat, Option.some.injEq] at h; subst h; exact List.mem_cons_self
  | .inr (.inr a) :: l, k, 0, v, h => by simp only [zent, zat, Option.some.injEq] at h; subst h; exact List.mem_cons_self
  | .inr (.inr a) :: l, k, 1, v, h => by simp [zent, zat] at h
  | .inl a :: l, k, i + 1, v, h => by
    have := zlh_entry (g := g) l (k + 1) i v h
    rw [show k + 1 + i = k + (i + 1) by omega] at this
    exact List.mem_cons_of_mem _ this
  | .inr (.inl a) :: l, k, i + 1, v, h => by
    have := zlh_entry (g := g) l (k + 1) i v h
    rw [show k + 1 + i = k + (i + 1) by omega] at this
    refine List.mem_cons_of_mem _ ?_
    rw [if_neg (by rw [show zval g (.inr (.inl a)) = zrv g a from rfl, zrv_cat]; decide)]
    exact this
  | .inr (.inr a) :: l, k, i + 2, v, h => by
    have := zlh_entry (g := g) l (k + 2) i v h
    rw [show k + 2 + i = k + (i + 2) by omega] at this
    exact List.mem_cons_of_mem _ this
end
section
/-! the walk over the one store: zw, a method's standing facts zC, a method's contract zT; an instruction, a row -/
def zw (x : ZX) (g : ZG) (nL : Nat) (kc ks : Nat) (Q : State → Prop) (σ : ZS) (pc : Nat) (L : List (Option ZV)) (st : List ZV) : Prop :=
  ∀ (H : Heap) (locs : List Loc) (ls : Array Slot), zP g σ H → va_S (zA g) x.2.2.2.2.1.heap H locs → zlh g ls nL L →
    W x.1 x.2.1 x.2.2.1 x.2.2.2.1 x.2.2.2.2.1 x.2.2.2.2.2.1 x.2.2.2.2.2.2.1 x.2.2.2.2.2.2.2.1 x.2.2.2.2.2.2.2.2.1 x.2.2.2.2.2.2.2.2.2 H locs kc ks Q (F0 x.2.2.2.2.2.1 pc ls (st.map (zval g)))
def zC (x : ZX) (g : ZG) (cc : ByteArray) (own : String) (ret : Option FieldType) (nL fr lo : Nat) : Prop :=
  x.1.tables.exec = Jvm.exec ∧ x.2.2.2.2.2.2.2.2.2.code = cc ∧ x.2.2.2.2.2.2.2.2.1.sig.returnType = ret ∧ x.2.2.2.2.2.2.2.2.2.maxLocals = nL ∧ x.2.2.2.2.1.vm.findClass own = some x.2.2.2.2.2.1.cls ∧ (∀ w ∈ lw_gd, w.before x.2.2.2.2.2.2.1 x.2.2.2.2.1 = true) ∧
  x.2.2.2.2.2.2.2.2.1.locks = false ∧ (fr ≤ x.2.2.2.1.frames ∧ lo ≤ x.2.2.2.1.locals) ∧ zK g x.2.2.2.2.1
def zQ (g : ZG) (v : Option ZV) (σ : ZS) : Array Value → State → Outcome → State → Prop := fun _ st o t => o = .returned (v.map (zval g)) ∧ zP g σ t.heap ∧ va_F (zA g) st t
def zMQ (x : ZX) (g : ZG) (v : Option ZV) (σ : ZS) : State → Prop := MQ x.2.2.2.2.2.2.2.1 (zQ g v σ) x.2.2.2.2.2.2.1 x.2.2.2.2.1 0 0 (zA g)
def zT (l : Launch) (g : ZG) (y : MethodName) (cc : ByteArray) (nL : Nat) (ret : Option FieldType) (fr lo : Nat) (as : List ZV) (σ : ZS) (v : Option ZV) (σ' : ZS) : Prop :=
  Met l y (.code y cc nL ret :: lw_gd) { frames := fr, cells := 0, slots := 0, locals := lo } (va_Pc (as.map (zval g)) (fun U => zP g σ U.heap ∧ zK g U)) (zQ g v σ') 0 0 (zA g)
def zd (cc : ByteArray) (pc : Nat) (i : Instr) (n q : Nat) : Prop := decode cc pc = .ok (i, n) ∧ pc + n = q
def zdb (cc : ByteArray) (pc : Nat) (i : Instr) (off : Int) (q t : Nat) : Prop := decode cc pc = .ok (i, 3) ∧ pc + 3 = q ∧ (pc : Int) + off = (t : Int)
theorem zT_start {l : Launch} {g : ZG} {y : MethodName} {cc : ByteArray} {nL : Nat} {ret : Option FieldType} {fr lo : Nat} {as : List ZV} {σ : ZS} {v : Option ZV} {σ' : ZS} {own : String} (ho : y.cls = own) (hy : plainName own = true) (m : Nat) {L : List (Option ZV)} (hL : zent as ++ List.replicate m none = L) (hn : (zent as).length + m = nL)
    (K : ∀ x : ZX, x.2.1 = l → zC x g cc own ret nL fr lo → zw x g nL 0 0 (zMQ x g v σ') σ 0 L []) : zT l g y cc nL ret fr lo as σ v σ' := by
  subst ho
  refine Met.ofW (cc := cc) (maxL := nL) (ret := ret) hy rfl ?_
  intro p e s m0 args below meth c s₁ B hml hv
  obtain ⟨rfl, hP, hK⟩ := hv
  have hts := atoms_spec (ws := .code y cc nL ret :: lw_gd) B.pre
  have C : zC (p, l, e, { frames := fr, cells := 0, slots := 0, locals := lo }, s, m0, (as.map (zval g)).toArray, below, meth, c) g cc y.cls ret nL fr lo :=
    ⟨B.exec, B.bytes, B.returns, hml, findClass_of_methodNamed B.named, fun w hw => hts w (List.mem_cons_of_mem _ hw), B.notSynchronized, ⟨Nat.le_refl _, Nat.le_refl _⟩, hK⟩
  have hlen : ∀ as : List ZV, (lg_sl (as.map (zval g))).length = (zent as).length := by
    intro as
    induction as with
    | nil => rfl
    | cons a as ih =>
      have h2 : lg_sl ((a :: as).map (zval g)) = (if (zval g a).category = 2 then [Slot.val (zval g a), Slot.second] else [Slot.val (zval g a)]) ++ lg_sl (as.map (zval g)) := by
        simp only [lg_sl, List.map_cons, List.flatMap_cons]
      rw [h2, List.length_append, ih, zval_cat]
      rcases a with a | a | a
      · simp [zlong, zent]; omega
      · simp [zlong, zent]; omega
      · simp [zlong, zent]; omega
  have hl := lv_entry (as.map (zval g)) (n := nL) (by rw [hlen as]; omega)
  have hl2 : zlh g ((lg_sl (as.map (zval g)) ++ List.replicate (nL - (lg_sl (as.map (zval g))).length) Slot.unset).toArray) nL L := by
    refine ⟨hl.1, hl.2.1, fun i v hi => ?_⟩
    have h1 : zat (zent as) i = some v := by
      rw [← hL] at hi
      clear hn hL hl C
      generalize zent as = z at hi
      induction z generalizing i with
      | nil =>
        exfalso
        rw [List.nil_append] at hi
        induction m generalizing i with
        | zero => simp [zat] at hi
        | succ m ihm => cases i with
          | zero => simp [List.replicate, zat] at hi
          | succ i => exact ihm i (by simpa [List.replicate, zat] using hi)
      | cons a z ih => cases i with
        | zero => simpa [zat] using hi
        | succ i => exact ih i (by simpa [zat] using hi)
    have h2 := zlh_entry (g := g) as 0 i v h1
    rw [Nat.zero_add] at h2
    exact hl.2.2 (i, zval g v) h2
  rw [lg_entry_eq]
  exact K (p, l, e, _, s, m0, _, below, meth, c) rfl C s.heap [] _ hP va_S.rf hl2
section
variable {x : ZX} {g : ZG} {cc : ByteArray} {own : String} {ret : Option FieldType} {nL fr lo kc ks : Nat} {Q : State → Prop} {σ : ZS} {pc q t : Nat} {L : List (Option ZV)} {st : List ZV}
theorem z_drop (m : List Bool) {L' : List (Option ZV)} (h : zdrop L m = L') (K : zw x g nL kc ks Q σ pc L' st) : zw x g nL kc ks Q σ pc L st := by
  subst h
  exact fun H locs ls hP hS hl => K H locs ls hP hS (hl.drop m)
theorem z_iconst (C : zC x g cc own ret nL fr lo) {n : Int} (v : Int32) (hd : zd cc pc (.iconst n) 1 q) (hv : Int32.ofInt n = v) (K : zw x g nL kc ks Q σ q L (zi v :: st)) : zw x g nL kc ks Q σ pc L st := by
  obtain ⟨d, rfl⟩ := hd
  exact fun H locs ls hP hS hl => lv_iconst C.1 C.2.1 d hv (K H locs ls hP hS hl)
theorem z_bipush (C : zC x g cc own ret nL fr lo) {n : Int} (v : Int32) (hd : zd cc pc (.bipush n) 2 q) (hv : (Int8.ofInt n).toInt32 = v) (K : zw x g nL kc ks Q σ q L (zi v :: st)) : zw x g nL kc ks Q σ pc L st := by
  obtain ⟨d, rfl⟩ := hd
  exact fun H locs ls hP hS hl => lv_bipush C.1 C.2.1 d hv (K H locs ls hP hS hl)
theorem z_sipush (C : zC x g cc own ret nL fr lo) {n : Int} (v : Int32) (hd : zd cc pc (.sipush n) 3 q) (hv : (Int16.ofInt n).toInt32 = v) (K : zw x g nL kc ks Q σ q L (zi v :: st)) : zw x g nL kc ks Q σ pc L st := by
  obtain ⟨d, rfl⟩ := hd
  exact fun H locs ls hP hS hl => lv_sipush C.1 C.2.1 d hv (K H locs ls hP hS hl)
theorem z_ldc (C : zC x g cc own ret nL fr lo) {i : Nat} (v : Int32) (hd : zd cc pc (.ldc i) 2 q) (hw : Cond.constant own i v ∈ lw_gd) (K : zw x g nL kc ks Q σ q L (zi v :: st)) : zw x g nL kc ks Q σ pc L st := by
  obtain ⟨d, rfl⟩ := hd
  exact fun H locs ls hP hS hl => lv_ldc C.1 C.2.1 C.2.2.2.2.1 (C.2.2.2.2.2.1 _ hw) d (K H locs ls hP hS hl)
theorem z_ldcw (C : zC x g cc own ret nL fr lo) {i : Nat} (v : Int32) (hd : zd cc pc (.ldc_w i) 3 q) (hw : Cond.constant own i v ∈ lw_gd) (K : zw x g nL kc ks Q σ q L (zi v :: st)) : zw x g nL kc ks Q σ pc L st := by
  obtain ⟨d, rfl⟩ := hd
  exact fun H locs ls hP hS hl => lv_ldcw C.1 C.2.1 C.2.2.2.2.1 (C.2.2.2.2.2.1 _ hw) d (K H locs ls hP hS hl)
theorem z_ldc2 (C : zC x g cc own ret nL fr lo) {i : Nat} (v : Int64) (hd : zd cc pc (.ldc2_w i) 3 q) (hw : Cond.constantLong own i v ∈ lw_gd) (K : zw x g nL kc ks Q σ q L (zj v :: st)) : zw x g nL kc ks Q σ pc L st := by
  obtain ⟨d, rfl⟩ := hd
  exact fun H locs ls hP hS hl => lv_ldc2 C.1 C.2.1 C.2.2.2.2.1 (C.2.2.2.2.2.1 _ hw) d (K H locs ls hP hS hl)
theorem z_iload_n (C : zC x g cc own ret nL fr lo) {k : Fin 4} {v : Int32} (hd : zd cc pc (.iload_n k) 1 q) (hl : zat L k = some (zi v)) (K : zw x g nL kc ks Q σ q L (zi v :: st)) : zw x g nL kc ks Q σ pc L st := by
  obtain ⟨d, rfl⟩ := hd
  exact fun H locs ls hP hS h => lv_iload_n C.1 C.2.1 d rfl (h.2.2 _ _ hl) (K H locs ls hP hS h)
theorem z_iload (C : zC x g cc own ret nL fr lo) {k : Nat} {v : Int32} (hd : zd cc pc (.iload k) 2 q) (hl : zat L k = some (zi v)) (K : zw x g nL kc ks Q σ q L (zi v :: st)) : zw x g nL kc ks Q σ pc L st := by
  obtain ⟨d, rfl⟩ := hd
  exact fun H locs ls hP hS h => lv_iload C.1 C.2.1 d (h.2.2 _ _ hl) (K H locs ls hP hS h)
theorem z_lload_n (C : zC x g cc own ret nL fr lo) {k : Fin 4} {v : Int64} (hd : zd cc pc (.lload_n k) 1 q) (hl : zat L k = some (zj v)) (K : zw x g nL kc ks Q σ q L (zj v :: st)) : zw x g nL kc ks Q σ pc L st := by
  obtain ⟨d, rfl⟩ := hd
  exact fun H locs ls hP hS h => lv_lload_n C.1 C.2.1 d rfl (h.2.2 _ _ hl) (K H locs ls hP hS h)
theorem z_aload_n (C : zC x g cc own ret nL fr lo) {k : Fin 4} {o : Nat} (hd : zd cc pc (.aload_n k) 1 q) (hl : zat L k = some (zr o)) (K : zw x g nL kc ks Q σ q L (zr o :: st)) : zw x g nL kc ks Q σ pc L st := by
  obtain ⟨d, rfl⟩ := hd
  intro H locs ls hP hS h
  have h1 := h.2.2 _ _ hl
  have h2 := K H locs ls hP hS h
  change W _ _ _ _ _ _ _ _ _ _ _ _ _ _ _ (F0 _ _ _ (zrv g o :: st.map (zval g))) at h2
  change ls[_]? = some (Slot.val (zrv g o)) at h1
  by_cases ho : o = 0
  · subst ho
    exact lv_aload_nN C.1 C.2.1 d rfl h1 h2
  · obtain ⟨a, ha⟩ := zrv_ref (g := g) ho
    rw [ha] at h1 h2
    exact lv_aload_n C.1 C.2.1 d rfl h1 h2
theorem z_aload (C : zC x g cc own ret nL fr lo) {k : Nat} {o : Nat} (hd : zd cc pc (.aload k) 2 q) (hl : zat L k = some (zr o)) (K : zw x g nL kc ks Q σ q L (zr o :: st)) : zw x g nL kc ks Q σ pc L st := by
  obtain ⟨d, rfl⟩ := hd
  intro H locs ls hP hS h
  have h1 := h.2.2 _ _ hl
  have h2 := K H locs ls hP hS h
  change W _ _ _ _ _ _ _ _ _ _ _ _ _ _ _ (F0 _ _ _ (zrv g o :: st.map (zval g))) at h2
  change ls[_]? = some (Slot.val (zrv g o)) at h1
  by_cases ho : o = 0
  · subst ho
    exact lv_aloadN C.1 C.2.1 d h1 h2
  · obtain ⟨a, ha⟩ := zrv_ref (g := g) ho
    rw [ha] at h1 h2
    exact lv_aload C.1 C.2.1 d h1 h2
theorem z_istore_n (C : zC x g cc own ret nL fr lo) {k : Fin 4} {v : Int32} {L' : List (Option ZV)} (hd : zd cc pc (.istore_n k) 1 q) (hn : (k : Nat) < nL) (hw : zlow L k = true) (hL : zset L k (zi v) = L') (K : zw x g nL kc ks Q σ q L' st) : zw x g nL kc ks Q σ pc L (zi v :: st) := by
  obtain ⟨d, rfl⟩ := hd
  subst hL
  exact fun H locs ls hP hS h => lv_istore_n C.1 C.2.1 d rfl h.has hn rfl fun ls' h' => K H locs ls' hP hS (zlh.stored hw h')
theorem z_istore (C : zC x g cc own ret nL fr lo) {k : Nat} {v : Int32} {L' : List (Option ZV)} (hd : zd cc pc (.istore k) 2 q) (hn : k < nL) (hw : zlow L k = true) (hL : zset L k (zi v) = L') (K : zw x g nL kc ks Q σ q L' st) : zw x g nL kc ks Q σ pc L (zi v :: st) := by
  obtain ⟨d, rfl⟩ := hd
  subst hL
  exact fun H locs ls hP hS h => lv_istore C.1 C.2.1 d h.has hn rfl fun ls' h' => K H locs ls' hP hS (zlh.stored hw h')
theorem z_astore_n (C : zC x g cc own ret nL fr lo) {k : Fin 4} {o : Nat} {L' : List (Option ZV)} (hd : zd cc pc (.astore_n k) 1 q) (hn : (k : Nat) < nL) (hw : zlow L k = true) (hL : zset L k (zr o) = L') (K : zw x g nL kc ks Q σ q L' st) : zw x g nL kc ks Q σ pc L (zr o :: st) := by
  obtain ⟨d, rfl⟩ := hd
  subst hL
  intro H locs ls hP hS h
  show W _ _ _ _ _ _ _ _ _ _ _ _ _ _ _ (F0 _ _ _ (zrv g o :: st.map (zval g)))
  have h1 : ∀ ls' : Array Slot, lv_has ls' nL (((k : Nat), zrv g o) :: (zas g L).filter (fun q => !(q.1 == (k : Nat)) && !(q.1 + 1 == (k : Nat) && q.2.category == 2))) → _ := fun ls' h' => K H locs ls' hP hS (zlh.stored hw h')
  by_cases ho : o = 0
  · subst ho
    exact lv_astore_nN C.1 C.2.1 d rfl h.has hn rfl h1
  · obtain ⟨a, ha⟩ := zrv_ref (g := g) ho
    rw [ha] at h1 ⊢
    exact lv_astore_n C.1 C.2.1 d rfl h.has hn rfl h1
theorem z_astore (C : zC x g cc own ret nL fr lo) {k : Nat} {o : Nat} {L' : List (Option ZV)} (hd : zd cc pc (.astore k) 2 q) (hn : k < nL) (hw : zlow L k = true) (hL : zset L k (zr o) = L') (K : zw x g nL kc ks Q σ q L' st) : zw x g nL kc ks Q σ pc L (zr o :: st) := by
  obtain ⟨d, rfl⟩ := hd
  subst hL
  intro H locs ls hP hS h
  show W _ _ _ _ _ _ _ _ _ _ _ _ _ _ _ (F0 _ _ _ (zrv g o :: st.map (zval g)))
  have h1 : ∀ ls' : Array Slot, lv_has ls' nL ((k, zrv g o) :: (zas g L).filter (fun q => !(q.1 == k) && !(q.1 + 1 == k && q.2.category == 2))) → _ := fun ls' h' => K H locs ls' hP hS (zlh.stored hw h')
  by_cases ho : o = 0
  · subst ho
    exact lv_astoreN C.1 C.2.1 d h.has hn rfl h1
  · obtain ⟨a, ha⟩ := zrv_ref (g := g) ho
    rw [ha] at h1 ⊢
    exact lv_astore C.1 C.2.1 d h.has hn rfl h1
theorem z_iinc (C : zC x g cc own ret nL fr lo) {k : Nat} {n : Int} {v w : Int32} {L' : List (Option ZV)} (hd : zd cc pc (.iinc k n) 3 q) (hl : zat L k = some (zi v)) (hv : Int32.ofInt n = w) (hn : k < nL) (hw : zlow L k = true) (hL : zset L k (zi (v + w)) = L') (K : zw x g nL kc ks Q σ q L' st) : zw x g nL kc ks Q σ pc L st := by
  obtain ⟨d, rfl⟩ := hd
  subst hL; subst hv
  intro H locs ls hP hS h
  obtain ⟨j, hj⟩ := List.getElem?_of_mem (zas_mem (g := g) hl)
  exact lv_iinc C.1 C.2.1 d h.has hj rfl hn rfl fun ls' h' => K H locs ls' hP hS (zlh.stored hw h')
theorem z_iadd (C : zC x g cc own ret nL fr lo) {a b : Int32} (hd : zd cc pc .iadd 1 q) (K : zw x g nL kc ks Q σ q L (zi (a + b) :: st)) : zw x g nL kc ks Q σ pc L (zi b :: zi a :: st) := by
  obtain ⟨d, rfl⟩ := hd
  exact fun H locs ls hP hS h => lv_iadd C.1 C.2.1 d (K H locs ls hP hS h)
theorem z_isub (C : zC x g cc own ret nL fr lo) {a b : Int32} (hd : zd cc pc .isub 1 q) (K : zw x g nL kc ks Q σ q L (zi (a - b) :: st)) : zw x g nL kc ks Q σ pc L (zi b :: zi a :: st) := by
  obtain ⟨d, rfl⟩ := hd
  exact fun H locs ls hP hS h => lv_isub C.1 C.2.1 d (K H locs ls hP hS h)
theorem z_imul (C : zC x g cc own ret nL fr lo) {a b : Int32} (hd : zd cc pc .imul 1 q) (K : zw x g nL kc ks Q σ q L (zi (a * b) :: st)) : zw x g nL kc ks Q σ pc L (zi b :: zi a :: st) := by
  obtain ⟨d, rfl⟩ := hd
  exact fun H locs ls hP hS h => lv_imul C.1 C.2.1 d (K H locs ls hP hS h)
theorem z_iand (C : zC x g cc own ret nL fr lo) {a b : Int32} (hd : zd cc pc .iand 1 q) (K : zw x g nL kc ks Q σ q L (zi (a &&& b) :: st)) : zw x g nL kc ks Q σ pc L (zi b :: zi a :: st) := by
  obtain ⟨d, rfl⟩ := hd
  exact fun H locs ls hP hS h => lv_iand C.1 C.2.1 d (K H locs ls hP hS h)
theorem z_ior (C : zC x g cc own ret nL fr lo) {a b : Int32} (hd : zd cc pc .ior 1 q) (K : zw x g nL kc ks Q σ q L (zi (a ||| b) :: st)) : zw x g nL kc ks Q σ pc L (zi b :: zi a :: st) := by
  obtain ⟨d, rfl⟩ := hd
  exact fun H locs ls hP hS h => lv_ior C.1 C.2.1 d (K H locs ls hP hS h)
theorem z_ixor (C : zC x g cc own ret nL fr lo) {a b : Int32} (hd : zd cc pc .ixor 1 q) (K : zw x g nL kc ks Q σ q L (zi (a ^^^ b) :: st)) : zw x g nL kc ks Q σ pc L (zi b :: zi a :: st) := by
  obtain ⟨d, rfl⟩ := hd
  exact fun H locs ls hP hS h => lv_ixor C.1 C.2.1 d (K H locs ls hP hS h)
theorem z_ineg (C : zC x g cc own ret nL fr lo) {a : Int32} (hd : zd cc pc .ineg 1 q) (K : zw x g nL kc ks Q σ q L (zi (-a) :: st)) : zw x g nL kc ks Q σ pc L (zi a :: st) := by
  obtain ⟨d, rfl⟩ := hd
  exact fun H locs ls hP hS h => lv_ineg C.1 C.2.1 d (K H locs ls hP hS h)
theorem z_idiv (C : zC x g cc own ret nL fr lo) {a b : Int32} (hd : zd cc pc .idiv 1 q) (hb : ¬ b = 0) (K : zw x g nL kc ks Q σ q L (zi (a / b) :: st)) : zw x g nL kc ks Q σ pc L (zi b :: zi a :: st) := by
  obtain ⟨d, rfl⟩ := hd
  exact fun H locs ls hP hS h => lv_idiv C.1 C.2.1 d hb (K H locs ls hP hS h)
theorem z_irem (C : zC x g cc own ret nL fr lo) {a b : Int32} (hd : zd cc pc .irem 1 q) (hb : ¬ b = 0) (K : zw x g nL kc ks Q σ q L (zi (a % b) :: st)) : zw x g nL kc ks Q σ pc L (zi b :: zi a :: st) := by
  obtain ⟨d, rfl⟩ := hd
  rw [← irem_eq_mod a b] at K
  exact fun H locs ls hP hS h => lv_irem C.1 C.2.1 d hb (K H locs ls hP hS h)
theorem z_ishl (C : zC x g cc own ret nL fr lo) {a b : Int32} (hd : zd cc pc .ishl 1 q) (K : zw x g nL kc ks Q σ q L (zi (a <<< (b &&& 31)) :: st)) : zw x g nL kc ks Q σ pc L (zi b :: zi a :: st) := by
  obtain ⟨d, rfl⟩ := hd
  exact fun H locs ls hP hS h => lv_ishl C.1 C.2.1 d (K H locs ls hP hS h)
theorem z_ishr (C : zC x g cc own ret nL fr lo) {a b : Int32} (hd : zd cc pc .ishr 1 q) (K : zw x g nL kc ks Q σ q L (zi (a >>> (b &&& 31)) :: st)) : zw x g nL kc ks Q σ pc L (zi b :: zi a :: st) := by
  obtain ⟨d, rfl⟩ := hd
  exact fun H locs ls hP hS h => lv_ishr C.1 C.2.1 d (K H locs ls hP hS h)
theorem z_iushr (C : zC x g cc own ret nL fr lo) {a b : Int32} (hd : zd cc pc .iushr 1 q) (K : zw x g nL kc ks Q σ q L (zi ((a.toUInt32 >>> (b.toUInt32 &&& Int32.toUInt32 31)).toInt32) :: st)) : zw x g nL kc ks Q σ pc L (zi b :: zi a :: st) := by
  obtain ⟨d, rfl⟩ := hd
  exact fun H locs ls hP hS h => lv_iushr C.1 C.2.1 d rfl (K H locs ls hP hS h)
theorem z_i2b (C : zC x g cc own ret nL fr lo) {a : Int32} (hd : zd cc pc .i2b 1 q) (K : zw x g nL kc ks Q σ q L (zi a.toInt8.toInt32 :: st)) : zw x g nL kc ks Q σ pc L (zi a :: st) := by
  obtain ⟨d, rfl⟩ := hd
  exact fun H locs ls hP hS h => lv_i2b C.1 C.2.1 d rfl (K H locs ls hP hS h)
theorem z_i2s (C : zC x g cc own ret nL fr lo) {a : Int32} (hd : zd cc pc .i2s 1 q) (K : zw x g nL kc ks Q σ q L (zi a.toInt16.toInt32 :: st)) : zw x g nL kc ks Q σ pc L (zi a :: st) := by
  obtain ⟨d, rfl⟩ := hd
  exact fun H locs ls hP hS h => lv_i2s C.1 C.2.1 d rfl (K H locs ls hP hS h)
theorem z_i2c (C : zC x g cc own ret nL fr lo) {a : Int32} (hd : zd cc pc .i2c 1 q) (K : zw x g nL kc ks Q σ q L (zi (a.toUInt32 % 65536).toInt32 :: st)) : zw x g nL kc ks Q σ pc L (zi a :: st) := by
  obtain ⟨d, rfl⟩ := hd
  exact fun H locs ls hP hS h => lv_i2c C.1 C.2.1 d rfl (K H locs ls hP hS h)
theorem z_i2l (C : zC x g cc own ret nL fr lo) {a : Int32} (hd : zd cc pc .i2l 1 q) (K : zw x g nL kc ks Q σ q L (zj a.toInt64 :: st)) : zw x g nL kc ks Q σ pc L (zi a :: st) := by
  obtain ⟨d, rfl⟩ := hd
  exact fun H locs ls hP hS h => lv_i2l C.1 C.2.1 d rfl (K H locs ls hP hS h)
theorem z_l2i (C : zC x g cc own ret nL fr lo) {a : Int64} (hd : zd cc pc .l2i 1 q) (K : zw x g nL kc ks Q σ q L (zi a.toInt32 :: st)) : zw x g nL kc ks Q σ pc L (zj a :: st) := by
  obtain ⟨d, rfl⟩ := hd
  exact fun H locs ls hP hS h => lv_l2i C.1 C.2.1 d rfl (K H locs ls hP hS h)
theorem z_land (C : zC x g cc own ret nL fr lo) {a b : Int64} (hd : zd cc pc .land 1 q) (K : zw x g nL kc ks Q σ q L (zj (a &&& b) :: st)) : zw x g nL kc ks Q σ pc L (zj b :: zj a :: st) := by
  obtain ⟨d, rfl⟩ := hd
  exact fun H locs ls hP hS h => lv_land C.1 C.2.1 d (K H locs ls hP hS h)
theorem z_lor (C : zC x g cc own ret nL fr lo) {a b : Int64} (hd : zd cc pc .lor 1 q) (K : zw x g nL kc ks Q σ q L (zj (a ||| b) :: st)) : zw x g nL kc ks Q σ pc L (zj b :: zj a :: st) := by
  obtain ⟨d, rfl⟩ := hd
  exact fun H locs ls hP hS h => lv_lor C.1 C.2.1 d (K H locs ls hP hS h)
theorem z_lushr (C : zC x g cc own ret nL fr lo) {a : Int64} {b : Int32} (hd : zd cc pc .lushr 1 q) (K : zw x g nL kc ks Q σ q L (zj (a.toUInt64 >>> (b.toInt64.toUInt64 &&& Int64.toUInt64 63)).toInt64 :: st)) : zw x g nL kc ks Q σ pc L (zi b :: zj a :: st) := by
  obtain ⟨d, rfl⟩ := hd
  exact fun H locs ls hP hS h => lv_lushr C.1 C.2.1 d rfl (K H locs ls hP hS h)
theorem z_lshl (C : zC x g cc own ret nL fr lo) {a : Int64} {b : Int32} (hd : zd cc pc .lshl 1 q) (K : zw x g nL kc ks Q σ q L (zj (a <<< (b.toInt64 &&& 63)) :: st)) : zw x g nL kc ks Q σ pc L (zi b :: zj a :: st) := by
  obtain ⟨d, rfl⟩ := hd
  exact fun H locs ls hP hS h => lv_lshl C.1 C.2.1 d rfl (K H locs ls hP hS h)
theorem z_lshr (C : zC x g cc own ret nL fr lo) {a : Int64} {b : Int32} (hd : zd cc pc .lshr 1 q) (K : zw x g nL kc ks Q σ q L (zj (a >>> (b.toInt64 &&& 63)) :: st)) : zw x g nL kc ks Q σ pc L (zi b :: zj a :: st) := by
  obtain ⟨d, rfl⟩ := hd
  exact fun H locs ls hP hS h => lv_lshr C.1 C.2.1 d rfl (K H locs ls hP hS h)
theorem z_dup (C : zC x g cc own ret nL fr lo) {v : ZV} (hd : zd cc pc .dup 1 q) (hv : zlong (some v) = false) (K : zw x g nL kc ks Q σ q L (v :: v :: st)) : zw x g nL kc ks Q σ pc L (v :: st) := by
  obtain ⟨d, rfl⟩ := hd
  exact fun H locs ls hP hS h => lv_dup C.1 C.2.1 d (by rw [zval_cat, hv]; decide) (K H locs ls hP hS h)
theorem z_dup2 (C : zC x g cc own ret nL fr lo) {v w : ZV} (hd : zd cc pc .dup2 1 q) (hv : zlong (some v) = false) (hw : zlong (some w) = false) (K : zw x g nL kc ks Q σ q L (v :: w :: v :: w :: st)) : zw x g nL kc ks Q σ pc L (v :: w :: st) := by
  obtain ⟨d, rfl⟩ := hd
  exact fun H locs ls hP hS h => lv_dup2_11 C.1 C.2.1 d (by rw [zval_cat, hv]; decide) (by rw [zval_cat, hw]; decide) (K H locs ls hP hS h)
theorem z_pop (C : zC x g cc own ret nL fr lo) {v : ZV} (hd : zd cc pc .pop 1 q) (hv : zlong (some v) = false) (K : zw x g nL kc ks Q σ q L st) : zw x g nL kc ks Q σ pc L (v :: st) := by
  obtain ⟨d, rfl⟩ := hd
  exact fun H locs ls hP hS h => lv_pop C.1 C.2.1 d (by rw [zval_cat, hv]; decide) (K H locs ls hP hS h)
theorem z_goto (C : zC x g cc own ret nL fr lo) {off : Int} (hd : zdb cc pc (.goto off) off q t) (K : zw x g nL kc ks Q σ t L st) : zw x g nL kc ks Q σ pc L st :=
  fun H locs ls hP hS h => lv_goto C.1 C.2.1 hd.1 hd.2.2 (K H locs ls hP hS h)
theorem z_null (C : zC x g cc own ret nL fr lo) (hd : zd cc pc .aconst_null 1 q) (K : zw x g nL kc ks Q σ q L (zr 0 :: st)) : zw x g nL kc ks Q σ pc L st := by
  obtain ⟨d, rfl⟩ := hd
  exact fun H locs ls hP hS h => lv_null C.1 C.2.1 d (K H locs ls hP hS h)
theorem z_ifnull (C : zC x g cc own ret nL fr lo) {o : Nat} {off : Int} (hd : zdb cc pc (.ifnull off) off q t) (kt : o = 0 → zw x g nL kc ks Q σ t L st) (kf : ¬ o = 0 → zw x g nL kc ks Q σ q L st) : zw x g nL kc ks Q σ pc L (zr o :: st) := by
  obtain ⟨d, rfl, ht⟩ := hd
  intro H locs ls hP hS h
  show W _ _ _ _ _ _ _ _ _ _ _ _ _ _ _ (F0 _ _ _ (zrv g o :: st.map (zval g)))
  by_cases ho : o = 0
  · subst ho
    exact lv_ifnullN C.1 C.2.1 d ht (kt rfl H locs ls hP hS h)
  · obtain ⟨a, ha⟩ := zrv_ref (g := g) ho
    rw [ha]
    exact lv_ifnull C.1 C.2.1 d (kf ho H locs ls hP hS h)
theorem z_ifnonnull (C : zC x g cc own ret nL fr lo) {o : Nat} {off : Int} (hd : zdb cc pc (.ifnonnull off) off q t) (kf : o = 0 → zw x g nL kc ks Q σ q L st) (kt : ¬ o = 0 → zw x g nL kc ks Q σ t L st) : zw x g nL kc ks Q σ pc L (zr o :: st) := by
  obtain ⟨d, rfl, ht⟩ := hd
  intro H locs ls hP hS h
  show W _ _ _ _ _ _ _ _ _ _ _ _ _ _ _ (F0 _ _ _ (zrv g o :: st.map (zval g)))
  by_cases ho : o = 0
  · subst ho
    exact lv_ifnonnullN C.1 C.2.1 d (kf rfl H locs ls hP hS h)
  · obtain ⟨a, ha⟩ := zrv_ref (g := g) ho
    rw [ha]
    exact lv_ifnonnull C.1 C.2.1 d ht (kt ho H locs ls hP hS h)
theorem z_if_eq (C : zC x g cc own ret nL fr lo) {a : Int32} {off : Int} (hd : zdb cc pc (.ifCond .eq off) off q t) (kt : a = 0 → zw x g nL kc ks Q σ t L st) (kf : ¬ a = 0 → zw x g nL kc ks Q σ q L st) : zw x g nL kc ks Q σ pc L (zi a :: st) := by
  obtain ⟨d, rfl, ht⟩ := hd
  exact fun H locs ls hP hS h => lv_if_eq C.1 C.2.1 d ht (fun z => kt z H locs ls hP hS h) (fun z => kf z H locs ls hP hS h)
theorem z_icmp_eq (C : zC x g cc own ret nL fr lo) {a b : Int32} {off : Int} (hd : zdb cc pc (.if_icmp .eq off) off q t) (kt : a = b → zw x g nL kc ks Q σ t L st) (kf : ¬ a = b → zw x g nL kc ks Q σ q L st) : zw x g nL kc ks Q σ pc L (zi b :: zi a :: st) := by
  obtain ⟨d, rfl, ht⟩ := hd
  exact fun H locs ls hP hS h => lv_icmp_eq C.1 C.2.1 d ht (fun z => kt z H locs ls hP hS h) (fun z => kf z H locs ls hP hS h)
theorem z_if_ne (C : zC x g cc own ret nL fr lo) {a : Int32} {off : Int} (hd : zdb cc pc (.ifCond .ne off) off q t) (kf : a = 0 → zw x g nL kc ks Q σ q L st) (kt : ¬ a = 0 → zw x g nL kc ks Q σ t L st) : zw x g nL kc ks Q σ pc L (zi a :: st) := by
  obtain ⟨d, rfl, ht⟩ := hd
  exact fun H locs ls hP hS h => lv_if_ne C.1 C.2.1 d ht (fun z => kt z H locs ls hP hS h) (fun z => kf z H locs ls hP hS h)
theorem z_icmp_ne (C : zC x g cc own ret nL fr lo) {a b : Int32} {off : Int} (hd : zdb cc pc (.if_icmp .ne off) off q t) (kf : a = b → zw x g nL kc ks Q σ q L st) (kt : ¬ a = b → zw x g nL kc ks Q σ t L st) : zw x g nL kc ks Q σ pc L (zi b :: zi a :: st) := by
  obtain ⟨d, rfl, ht⟩ := hd
  exact fun H locs ls hP hS h => lv_icmp_ne C.1 C.2.1 d ht (fun z => kt z H locs ls hP hS h) (fun z => kf z H locs ls hP hS h)
theorem z_if_lt (C : zC x g cc own ret nL fr lo) {a : Int32} {off : Int} (hd : zdb cc pc (.ifCond .lt off) off q t) (kt : a < 0 → zw x g nL kc ks Q σ t L st) (kf : ¬ a < 0 → zw x g nL kc ks Q σ q L st) : zw x g nL kc ks Q σ pc L (zi a :: st) := by
  obtain ⟨d, rfl, ht⟩ := hd
  exact fun H locs ls hP hS h => lv_if_lt C.1 C.2.1 d ht (fun z => kt z H locs ls hP hS h) (fun z => kf z H locs ls hP hS h)
theorem z_icmp_lt (C : zC x g cc own ret nL fr lo) {a b : Int32} {off : Int} (hd : zdb cc pc (.if_icmp .lt off) off q t) (kt : a < b → zw x g nL kc ks Q σ t L st) (kf : ¬ a < b → zw x g nL kc ks Q σ q L st) : zw x g nL kc ks Q σ pc L (zi b :: zi a :: st) := by
  obtain ⟨d, rfl, ht⟩ := hd
  exact fun H locs ls hP hS h => lv_icmp_lt C.1 C.2.1 d ht (fun z => kt z H locs ls hP hS h) (fun z => kf z H locs ls hP hS h)
theorem z_if_ge (C : zC x g cc own ret nL fr lo) {a : Int32} {off : Int} (hd : zdb cc pc (.ifCond .ge off) off q t) (kt : 0 ≤ a → zw x g nL kc ks Q σ t L st) (kf : ¬ 0 ≤ a → zw x g nL kc ks Q σ q L st) : zw x g nL kc ks Q σ pc L (zi a :: st) := by
  obtain ⟨d, rfl, ht⟩ := hd
  exact fun H locs ls hP hS h => lv_if_ge C.1 C.2.1 d ht (fun z => kt z H locs ls hP hS h) (fun z => kf z H locs ls hP hS h)
theorem z_icmp_ge (C : zC x g cc own ret nL fr lo) {a b : Int32} {off : Int} (hd : zdb cc pc (.if_icmp .ge off) off q t) (kt : b ≤ a → zw x g nL kc ks Q σ t L st) (kf : ¬ b ≤ a → zw x g nL kc ks Q σ q L st) : zw x g nL kc ks Q σ pc L (zi b :: zi a :: st) := by
  obtain ⟨d, rfl, ht⟩ := hd
  exact fun H locs ls hP hS h => lv_icmp_ge C.1 C.2.1 d ht (fun z => kt z H locs ls hP hS h) (fun z => kf z H locs ls hP hS h)
theorem z_if_gt (C : zC x g cc own ret nL fr lo) {a : Int32} {off : Int} (hd : zdb cc pc (.ifCond .gt off) off q t) (kt : 0 < a → zw x g nL kc ks Q σ t L st) (kf : ¬ 0 < a → zw x g nL kc ks Q σ q L st) : zw x g nL kc ks Q σ pc L (zi a :: st) := by
  obtain ⟨d, rfl, ht⟩ := hd
  exact fun H locs ls hP hS h => lv_if_gt C.1 C.2.1 d ht (fun z => kt z H locs ls hP hS h) (fun z => kf z H locs ls hP hS h)
theorem z_icmp_gt (C : zC x g cc own ret nL fr lo) {a b : Int32} {off : Int} (hd : zdb cc pc (.if_icmp .gt off) off q t) (kt : b < a → zw x g nL kc ks Q σ t L st) (kf : ¬ b < a → zw x g nL kc ks Q σ q L st) : zw x g nL kc ks Q σ pc L (zi b :: zi a :: st) := by
  obtain ⟨d, rfl, ht⟩ := hd
  exact fun H locs ls hP hS h => lv_icmp_gt C.1 C.2.1 d ht (fun z => kt z H locs ls hP hS h) (fun z => kf z H locs ls hP hS h)
theorem z_if_le (C : zC x g cc own ret nL fr lo) {a : Int32} {off : Int} (hd : zdb cc pc (.ifCond .le off) off q t) (kt : a ≤ 0 → zw x g nL kc ks Q σ t L st) (kf : ¬ a ≤ 0 → zw x g nL kc ks Q σ q L st) : zw x g nL kc ks Q σ pc L (zi a :: st) := by
  obtain ⟨d, rfl, ht⟩ := hd
  exact fun H locs ls hP hS h => lv_if_le C.1 C.2.1 d ht (fun z => kt z H locs ls hP hS h) (fun z => kf z H locs ls hP hS h)
theorem z_icmp_le (C : zC x g cc own ret nL fr lo) {a b : Int32} {off : Int} (hd : zdb cc pc (.if_icmp .le off) off q t) (kt : a ≤ b → zw x g nL kc ks Q σ t L st) (kf : ¬ a ≤ b → zw x g nL kc ks Q σ q L st) : zw x g nL kc ks Q σ pc L (zi b :: zi a :: st) := by
  obtain ⟨d, rfl, ht⟩ := hd
  exact fun H locs ls hP hS h => lv_icmp_le C.1 C.2.1 d ht (fun z => kt z H locs ls hP hS h) (fun z => kf z H locs ls hP hS h)
end
end
section
/-! rows of the heap, of calls, switches and ends -/
/-- a field of numbers: class ci's k-th, linked from a place of own -/
def zFI (own : String) (idx ci k : Nat) : Prop := ∃ (Cn : String) (T : u_T) (N : Nat), zcl[ci]? = some (Cn, T, N) ∧ ci < 10 ∧ k < N ∧ (T k).1 = Cn ∧ Cond.fieldLink own idx Cn (T k).2.1 (T k).2.2.1 ∈ lw_gd ∧ (zfs (ci + 1))[k]? = some none
/-- a field of a reference that stays: its object lies d behind -/
def zFR (own : String) (idx ci k d : Nat) : Prop := ∃ (Cn : String) (T : u_T) (N : Nat), zcl[ci]? = some (Cn, T, N) ∧ ci < 10 ∧ k < N ∧ (T k).1 = Cn ∧ Cond.fieldLink own idx Cn (T k).2.1 (T k).2.2.1 ∈ lw_gd ∧ (zfs (ci + 1))[k]? = some (some (d + 1))
/-- the one field of a reference that changes -/
def zFD (own : String) (idx ci k : Nat) : Prop := ∃ (Cn : String) (T : u_T) (N : Nat), zcl[ci]? = some (Cn, T, N) ∧ ci < 10 ∧ k < N ∧ (T k).1 = Cn ∧ Cond.fieldLink own idx Cn (T k).2.1 (T k).2.2.1 ∈ lw_gd ∧ (zfs (ci + 1))[k]? = some (some 0)
/-- what a store wants of the field's kind -/
def zFty (ci k : Nat) (ty : FieldType) : Prop := ∀ q, zcl[ci]? = some q → (q.2.1 k).2.2.2 = false ∧ parseFieldDescriptor (q.2.1 k).2.2.1 = some ty
theorem zhu : ∀ (ci : Nat) (q : vw_C), zcl[ci]? = some q → (∀ w ∈ u_ws q.1 q.2.1 q.2.2, w ∈ lw_gd) ∧ (∃ ty0 : Nat → FieldType, ∀ k, k < q.2.2 → parseFieldDescriptor (q.2.1 k).2.2.1 = some (ty0 k)) ∧ (∀ a, a < q.2.2 → ∀ b, b < q.2.2 → a ≠ b → (q.2.1 a).2.1 ≠ (q.2.1 b).2.1)
  | 0, _, h => by cases h; exact ⟨hu0, ⟨_, ty0_ok⟩, nm0⟩
  | 1, _, h => by cases h; exact ⟨hu1, ⟨_, ty1_ok⟩, nm1⟩
  | 2, _, h => by cases h; exact ⟨hu2, ⟨_, ty2_ok⟩, nm2⟩
  | 3, _, h => by cases h; exact ⟨hu3, ⟨_, ty3_ok⟩, nm3⟩
  | 4, _, h => by cases h; exact ⟨hu4, ⟨_, ty4_ok⟩, nm4⟩
  | 5, _, h => by cases h; exact ⟨hu5, ⟨_, ty5_ok⟩, nm5⟩
  | 6, _, h => by cases h; exact ⟨hu6, ⟨_, ty6_ok⟩, nm6⟩
  | 7, _, h => by cases h; exact ⟨hu7, ⟨_, ty7_ok⟩, nm7⟩
  | 8, _, h => by cases h; exact ⟨hu8, ⟨_, ty8_ok⟩, nm8⟩
  | 9, _, h => by cases h; exact ⟨hu9, ⟨_, ty9_ok⟩, nm9⟩
  | n + 10, _, h => by simp [zcl] at h
/-- a boolean -/
abbrev zbo (v : Int32) : Prop := v = 0 ∨ v = 1
theorem zbo_n {v : Int32} (h : zbo v) : narrow .boolean (.int v) = .int v := by rcases h with rfl | rfl <;> rfl
theorem zbo_f {v : Int32} (h : zbo v) : fits .boolean (.int v) = true := by rcases h with rfl | rfl <;> rfl
/-- an index of a row of n -/
abbrev zin (i : Int32) (n : Nat) : Prop := 0 ≤ i.toInt ∧ i.toInt < n
theorem zin_vp {i : Int32} {n : Nat} (h : zin i n) : vp_in i n := vp_in_iff.mpr h
/-- a call's words -/
def zY (y : MethodName) (cc : ByteArray) (nL : Nat) (ret : Option FieldType) (n : Nat) : Prop :=
  Cond.code y cc nL ret ∈ lw_gd ∧ Cond.initialized y.cls ∈ lw_gd ∧ (y.cls ≠ "java/lang/invoke/MethodHandle" ∧ y.cls ≠ "java/lang/invoke/VarHandle") ∧ (parseMethodDescriptor y.desc).map (fun d => d.parameters.length) = some n
def zYV (y : MethodName) (cc : ByteArray) (nL : Nat) (ret : Option FieldType) (n : Nat) : Prop := zY y cc nL ret n ∧ Cond.instanceMethod y ∈ lw_gd ∧ Cond.selects y.cls y y ∈ lw_gd
def zYC (y : MethodName) (ci : Nat) : Prop := ci < 10 ∧ ∃ (T : u_T) (N : Nat), zcl[ci]? = some (y.cls, T, N)
def zYS (y : MethodName) (cc : ByteArray) (nL : Nat) (ret : Option FieldType) (n : Nat) : Prop := zY y cc nL ret n ∧ Cond.static y ∈ lw_gd
theorem zY.params {y : MethodName} {cc : ByteArray} {nL : Nat} {ret : Option FieldType} {n : Nat} (h : zY y cc nL ret n) : ∀ sig, parseMethodDescriptor y.desc = some sig → n = sig.parameters.length := fun sig hs => by
  have h2 := h.2.2.2
  rw [hs] at h2
  exact (Option.some.inj h2).symm
def zas_l (as : List ZV) (st : List ZV) : List ZV := as.reverse ++ st
/-- a switch: the keys with their targets, the target of what is none of them -/
def zswt : List (Int32 × Nat) → Nat → Int32 → Nat
  | [], d, _ => d
  | (k, t) :: l, d, v => if v = k then t else zswt l d v
def ztb (pc : Nat) : Int → List Int → List (Int32 × Nat) → Bool
  | _, [], [] => true
  | lo, o :: os, (k, t) :: l => decide (k.toInt = lo) && (decide ((pc : Int) + o = (t : Int)) && ztb pc (lo + 1) os l)
  | _, _, _ => false
def zlk (pc : Nat) : List (Int × Int) → List (Int32 × Nat) → Bool
  | [], [] => true
  | (a, o) :: os, (k, t) :: l => decide (k.toInt = a) && (decide ((pc : Int) + o = (t : Int)) && zlk pc os l)
  | _, _ => false
theorem ztb_in (pc : Nat) (d : Nat) (x : Int32) : ∀ (lo : Int) (os : List Int) (l : List (Int32 × Nat)), ztb pc lo os l = true → (∀ o, os[(x.toInt - lo).toNat]? = some o → ¬ x.toInt < lo → (pc : Int) + o = (zswt l d x : Int)) ∧ ((x.toInt < lo ∨ lo + os.length ≤ x.toInt) → zswt l d x = d)
  | lo, [], [], _ => ⟨fun o h => by simp at h, fun _ => rfl⟩
  | lo, [], _ :: _, h => by simp [ztb] at h
  | lo, _ :: _, [], h => by simp [ztb] at h
  | lo, o :: os, (k, t) :: l, h => by
    simp only [ztb, Bool.and_eq_true, decide_eq_true_eq] at h
    obtain ⟨h1, h2, h3⟩ := h
    obtain ⟨i1, i2⟩ := ztb_in pc d x (lo + 1) os l h3
    by_cases hx : x = k
    · subst hx
      refine ⟨fun o' ho hlo => ?_, fun hh => ?_⟩
      · have z : (x.toInt - lo).toNat = 0 := by omega
        rw [z] at ho
        cases ho
        rw [zswt, if_pos rfl]
        exact h2
      · exfalso
        simp only [List.length_cons] at hh
        omega
    · have hx' : x.toInt ≠ lo := fun e => hx (Int32.toInt_inj.mp (by rw [e, h1]))
      refine ⟨fun o' ho hlo => ?_, fun hh => ?_⟩
      · rw [zswt, if_neg hx]
        refine i1 o' ?_ (by omega)
        have z : (x.toInt - lo).toNat = (x.toInt - (lo + 1)).toNat + 1 := by omega
        rw [z, List.getElem?_cons_succ] at ho
        exact ho
      · rw [zswt, if_neg hx]
        refine i2 ?_
        simp only [List.length_cons] at hh
        omega
theorem zlk_in (pc : Nat) (d : Nat) (dflt : Int) (hd : (pc : Int) + dflt = (d : Int)) (x : Int32) : ∀ (os : List (Int × Int)) (l : List (Int32 × Nat)), zlk pc os l = true → (pc : Int) + Op.lookupswitch.offset os dflt x.toInt = (zswt l d x : Int)
  | [], [], _ => by simpa [Op.lookupswitch.offset, zswt] using hd
  | [], _ :: _, h => by simp [zlk] at h
  | _ :: _, [], h => by simp [zlk] at h
  | (a, o) :: os, (k, t) :: l, h => by
    simp only [zlk, Bool.and_eq_true, decide_eq_true_eq] at h
    obtain ⟨h1, h2, h3⟩ := h
    have ih := zlk_in pc d dflt hd x os l h3
    by_cases hx : x = k
    · subst hx
      rw [zswt, if_pos rfl]
      simpa [Op.lookupswitch.offset, h1] using h2
    · rw [zswt, if_neg hx, lv_osw hx h1]
      exact ih
section
variable {x : ZX} {g : ZG} {cc : ByteArray} {own : String} {ret : Option FieldType} {nL fr lo kc ks : Nat} {Q : State → Prop} {σ : ZS} {pc q t : Nat} {L : List (Option ZV)} {st : List ZV}
theorem zw.ref {o : Nat} (h : zsh o ≠ 0) (K : ∀ (H : Heap) (locs : List Loc) (ls : Array Slot), zP g σ H → va_S (zA g) x.2.2.2.2.1.heap H locs → zlh g ls nL L →
    W x.1 x.2.1 x.2.2.1 x.2.2.2.1 x.2.2.2.2.1 x.2.2.2.2.2.1 x.2.2.2.2.2.2.1 x.2.2.2.2.2.2.2.1 x.2.2.2.2.2.2.2.2.1 x.2.2.2.2.2.2.2.2.2 H locs kc ks Q (F0 x.2.2.2.2.2.1 pc ls (.ref (g.1 + o) :: st.map (zval g)))) : zw x g nL kc ks Q σ pc L (zr o :: st) := by
  intro H locs ls hP hS hl
  have h1 := K H locs ls hP hS hl
  rw [← zrv_of (g := g) h] at h1
  exact h1
theorem z_getI (C : zC x g cc own ret nL fr lo) {idx ci k o : Nat} (hd : zd cc pc (.getfield idx) 3 q) (hw : zFI own idx ci k) (ho : zsh o = ci + 1) (K : zw x g nL kc ks Q σ q L (zi (σ o k) :: st)) : zw x g nL kc ks Q σ pc L (zr o :: st) := by
  obtain ⟨d, rfl⟩ := hd
  obtain ⟨Cn, T, N, h1, h2, h3, h4, h5, h6⟩ := hw
  obtain ⟨u1, -, -⟩ := zhu ci _ h1
  refine zw.ref (by omega) fun H locs ls hP hS hl => ?_
  obtain ⟨p0, hp⟩ := zP_at (g := g) (σ := σ) (o := o) (by omega)
  rw [zen_obj ho h2] at hp
  have h7 := zob_get (g := g) (f := σ o) (o := o) (zfs (ci + 1)) 0 k none h6
  rw [Nat.zero_add] at h7
  exact va_get C.1 C.2.1 C.2.2.2.2.2.1 u1 C.2.2.2.2.1 C.2.2.2.2.2.2.2.2.1 hP p0 hp h1 k h3 (C.2.2.2.2.2.1 _ h5) (fun y hy => by rw [h4] at hy; exact hy) h7 d (K H locs ls hP hS hl)
theorem z_getR (C : zC x g cc own ret nL fr lo) {idx ci k o d0 : Nat} (hd : zd cc pc (.getfield idx) 3 q) (hw : zFR own idx ci k d0) (ho : zsh o = ci + 1) (o' : Nat) (he : o + (d0 + 1) = o') (ho' : zsh o' ≠ 0) (K : zw x g nL kc ks Q σ q L (zr o' :: st)) : zw x g nL kc ks Q σ pc L (zr o :: st) := by
  obtain ⟨d, rfl⟩ := hd
  obtain ⟨Cn, T, N, h1, h2, h3, h4, h5, h6⟩ := hw
  obtain ⟨u1, -, -⟩ := zhu ci _ h1
  subst he
  refine zw.ref (by omega) fun H locs ls hP hS hl => ?_
  obtain ⟨p0, hp⟩ := zP_at (g := g) (σ := σ) (o := o) (by omega)
  rw [zen_obj ho h2] at hp
  have h7 := zob_get (g := g) (f := σ o) (o := o) (zfs (ci + 1)) 0 k _ h6
  rw [Nat.zero_add] at h7
  have h8 := K H locs ls hP hS hl
  change W _ _ _ _ _ _ _ _ _ _ _ _ _ _ _ (F0 _ _ _ (zrv g (o + (d0 + 1)) :: st.map (zval g))) at h8
  rw [zrv_of ho'] at h8
  exact va_get C.1 C.2.1 C.2.2.2.2.2.1 u1 C.2.2.2.2.1 C.2.2.2.2.2.2.2.2.1 hP p0 hp h1 k h3 (C.2.2.2.2.2.1 _ h5) (fun y hy => by rw [h4] at hy; exact hy) h7 d h8
theorem z_getD (C : zC x g cc own ret nL fr lo) {idx ci k o : Nat} (hd : zd cc pc (.getfield idx) 3 q) (hw : zFD own idx ci k) (ho : zsh o = ci + 1) (K : zw x g nL kc ks Q σ q L (zr (σ o k).toNatClampNeg :: st)) : zw x g nL kc ks Q σ pc L (zr o :: st) := by
  obtain ⟨d, rfl⟩ := hd
  obtain ⟨Cn, T, N, h1, h2, h3, h4, h5, h6⟩ := hw
  obtain ⟨u1, -, -⟩ := zhu ci _ h1
  refine zw.ref (by omega) fun H locs ls hP hS hl => ?_
  obtain ⟨p0, hp⟩ := zP_at (g := g) (σ := σ) (o := o) (by omega)
  rw [zen_obj ho h2] at hp
  have h7 := zob_get (g := g) (f := σ o) (o := o) (zfs (ci + 1)) 0 k _ h6
  rw [Nat.zero_add] at h7
  exact va_get C.1 C.2.1 C.2.2.2.2.2.1 u1 C.2.2.2.2.1 C.2.2.2.2.2.2.2.2.1 hP p0 hp h1 k h3 (C.2.2.2.2.2.1 _ h5) (fun y hy => by rw [h4] at hy; exact hy) h7 d (K H locs ls hP hS hl)
theorem z_put (C : zC x g cc own ret nL fr lo) {idx ci k o : Nat} {v : Int32} {w : Value} {dd : Option Nat} {ty : FieldType} (hd : zd cc pc (.putfield idx) 3 q)
    {Cn : String} {T : u_T} {N : Nat} (h1 : zcl[ci]? = some (Cn, T, N)) (h2 : ci < 10) (h3 : k < N) (h4 : (T k).1 = Cn) (h5 : Cond.fieldLink own idx Cn (T k).2.1 (T k).2.2.1 ∈ lw_gd) (h6 : (zfs (ci + 1))[k]? = some dd)
    (hf : (T k).2.2.2 = false) (hty : parseFieldDescriptor (T k).2.2.1 = some ty) (hn : narrow ty w = w) (hfit : fits ty w = true) (hw : zfv g (upd (σ o) k v) o k dd = w) (ho : zsh o = ci + 1)
    (K : zw x g nL kc ks Q (zu σ o k v) q L st) {H : Heap} {locs : List Loc} {ls : Array Slot} (hP : zP g σ H) (hS : va_S (zA g) x.2.2.2.2.1.heap H locs) (hl : zlh g ls nL L) :
    W x.1 x.2.1 x.2.2.1 x.2.2.2.1 x.2.2.2.2.1 x.2.2.2.2.2.1 x.2.2.2.2.2.2.1 x.2.2.2.2.2.2.2.1 x.2.2.2.2.2.2.2.2.1 x.2.2.2.2.2.2.2.2.2 H locs kc ks Q (F0 x.2.2.2.2.2.1 pc ls (w :: .ref (g.1 + o) :: st.map (zval g))) := by
  obtain ⟨d, rfl⟩ := hd
  obtain ⟨u1, ⟨ty0, u2⟩, u3⟩ := zhu ci _ h1
  obtain ⟨p0, hp⟩ := zP_at (g := g) (σ := σ) (o := o) (by omega)
  have hp2 := hp
  rw [zen_obj ho h2] at hp
  refine va_put C.1 C.2.1 C.2.2.2.2.2.1 u1 ty0 u2 u3 C.2.2.2.2.1 C.2.2.2.2.2.2.2.2.1 hP (zD _) hS p0 hp h1 k h3 (C.2.2.2.2.2.1 _ h5) (fun y hy => by rw [h4] at hy; exact hy) hf hty hn hfit (by rw [zob_len]; exact (List.getElem?_eq_some_iff.mp h6).1) d fun H1 locs1 hP1 _ hS1 => ?_
  refine K H1 locs1 ls (zP_set (σ' := zu σ o k v) (by omega) hp2 ?_ (fun a ha => zu_ne ha) hP1) hS1 hl
  rw [zen_obj ho h2, show zu σ o k v o = upd (σ o) k v from zu_row, ← hw, zob_set h6]
theorem z_putI (C : zC x g cc own ret nL fr lo) {idx ci k o : Nat} {v : Int32} (hd : zd cc pc (.putfield idx) 3 q) (hw : zFI own idx ci k) (hty : zFty ci k .int) (ho : zsh o = ci + 1) {σ1 : ZS} (he : σ1 = zu σ o k v) (K : zw x g nL kc ks Q σ1 q L st) : zw x g nL kc ks Q σ pc L (zi v :: zr o :: st) := by
  subst he
  obtain ⟨Cn, T, N, h1, h2, h3, h4, h5, h6⟩ := hw
  obtain ⟨hf, hty⟩ := hty _ h1
  intro H locs ls hP hS hl
  show W _ _ _ _ _ _ _ _ _ _ _ _ _ _ _ (F0 _ _ _ (.int v :: zrv g o :: st.map (zval g)))
  rw [zrv_of (by omega)]
  exact z_put C (v := v) hd h1 h2 h3 h4 h5 h6 hf hty rfl rfl (by show Value.int (upd (σ o) k v k) = .int v; rw [pk_us]) ho K hP hS hl
theorem z_putZ (C : zC x g cc own ret nL fr lo) {idx ci k o : Nat} {v : Int32} (hd : zd cc pc (.putfield idx) 3 q) (hw : zFI own idx ci k) (hty : zFty ci k .boolean) (ho : zsh o = ci + 1) (hv : zbo v) {σ1 : ZS} (he : σ1 = zu σ o k v) (K : zw x g nL kc ks Q σ1 q L st) : zw x g nL kc ks Q σ pc L (zi v :: zr o :: st) := by
  subst he
  obtain ⟨Cn, T, N, h1, h2, h3, h4, h5, h6⟩ := hw
  obtain ⟨hf, hty⟩ := hty _ h1
  intro H locs ls hP hS hl
  show W _ _ _ _ _ _ _ _ _ _ _ _ _ _ _ (F0 _ _ _ (.int v :: zrv g o :: st.map (zval g)))
  rw [zrv_of (by omega)]
  exact z_put C (v := v) hd h1 h2 h3 h4 h5 h6 hf hty (zbo_n hv) (zbo_f hv) (by show Value.int (upd (σ o) k v k) = .int v; rw [pk_us]) ho K hP hS hl
theorem z_putD (C : zC x g cc own ret nL fr lo) {idx ci k o o1 : Nat} (hd : zd cc pc (.putfield idx) 3 q) (hw : zFD own idx ci k) (hty : zFty ci k (.array .int)) (ho : zsh o = ci + 1) (h1 : zsh o1 ≠ 0) {σ1 : ZS} (he : σ1 = zu σ o k (nI o1)) (K : zw x g nL kc ks Q σ1 q L st) : zw x g nL kc ks Q σ pc L (zr o1 :: zr o :: st) := by
  subst he
  have hlt := (zsh_lt h1).2
  obtain ⟨Cn, T, N, g1, g2, g3, g4, g5, g6⟩ := hw
  obtain ⟨hf, hty⟩ := hty _ g1
  intro H locs ls hP hS hl
  show W _ _ _ _ _ _ _ _ _ _ _ _ _ _ _ (F0 _ _ _ (zrv g o1 :: zrv g o :: st.map (zval g)))
  rw [zrv_of (o := o) (by omega)]
  refine z_put C (v := nI o1) hd g1 g2 g3 g4 g5 g6 hf hty ?_ ?_ ?_ ho K hP hS hl
  · rw [zrv_of h1]; rfl
  · rw [zrv_of h1]; rfl
  · show zrv g (upd (σ o) k (nI o1) k).toNatClampNeg = _
    rw [pk_us, nI_clamp (by omega)]
theorem z_iald (C : zC x g cc own ret nL fr lo) {o n : Nat} {i : Int32} (hd : zd cc pc .iaload 1 q) (ho : zsh o = 15) (hn : zln o = n) (hi : zin i n) (j : Nat) (hj : i.toNatClampNeg = j) (K : zw x g nL kc ks Q σ q L (zi (σ o j) :: st)) : zw x g nL kc ks Q σ pc L (zi i :: zr o :: st) := by
  subst hj
  obtain ⟨d, rfl⟩ := hd
  intro H locs ls hP hS hl
  show W _ _ _ _ _ _ _ _ _ _ _ _ _ _ _ (F0 _ _ _ (.int i :: zrv g o :: st.map (zval g)))
  rw [zrv_of (by omega)]
  obtain ⟨p0, hp⟩ := zP_at (g := g) (σ := σ) (o := o) (by omega)
  rw [zen_arr ho hn] at hp
  exact va_iald C.1 C.2.1 C.2.2.2.2.2.2.2.2.1 hP p0 0 hp rfl (zin_vp hi) d (K H locs ls hP hS hl)
theorem z_iast (C : zC x g cc own ret nL fr lo) {o n : Nat} {i v : Int32} (hd : zd cc pc .iastore 1 q) (ho : zsh o = 15) (hn : zln o = n) (hi : zin i n) {j : Nat} (hj : i.toNatClampNeg = j) {σ1 : ZS} (he : σ1 = zu σ o j v) (K : zw x g nL kc ks Q σ1 q L st) : zw x g nL kc ks Q σ pc L (zi v :: zi i :: zr o :: st) := by
  subst hj; subst he
  obtain ⟨d, rfl⟩ := hd
  intro H locs ls hP hS hl
  show W _ _ _ _ _ _ _ _ _ _ _ _ _ _ _ (F0 _ _ _ (.int v :: .int i :: zrv g o :: st.map (zval g)))
  rw [zrv_of (by omega)]
  obtain ⟨p0, hp⟩ := zP_at (g := g) (σ := σ) (o := o) (by omega)
  have hp2 := hp
  rw [zen_arr ho hn] at hp
  refine va_iast C.1 C.2.1 C.2.2.2.2.2.2.2.2.1 hP (zD _) hS p0 0 hp rfl (zin_vp hi) d fun H1 locs1 hP1 _ hS1 => ?_
  refine K H1 locs1 ls (zP_set (σ' := zu σ o i.toNatClampNeg v) (by omega) hp2 ?_ (fun a ha => zu_ne ha) hP1) hS1 hl
  rw [zen_arr ho hn]
  exact congrArg (fun f => (Sum.inl (g.2.2.1 0, n, .inl f) : va_E)) zu_row
theorem z_alen (C : zC x g cc own ret nL fr lo) {o n : Nat} (v : Int32) (hd : zd cc pc .arraylength 1 q) (ho : zsh o = 15) (hn : zln o = n) (hv : Int32.ofNat n = v) (K : zw x g nL kc ks Q σ q L (zi v :: st)) : zw x g nL kc ks Q σ pc L (zr o :: st) := by
  obtain ⟨d, rfl⟩ := hd
  refine zw.ref (by omega) fun H locs ls hP hS hl => ?_
  obtain ⟨p0, hp⟩ := zP_at (g := g) (σ := σ) (o := o) (by omega)
  rw [zen_arr ho hn] at hp
  exact va_alen C.1 C.2.1 C.2.2.2.2.2.2.2.2.1 hP p0 0 hp rfl hv d (K H locs ls hP hS hl)
theorem ztys_at (g : ZG) {κ : Nat} (h1 : 11 ≤ κ) (h2 : κ < 15) : (ztys g)[κ - 10]? = some (g.2.2.1 (κ - 10), .object (zrc κ)) := by
  match κ, h1, h2 with
  | 11, _, _ => rfl
  | 12, _, _ => rfl
  | 13, _, _ => rfl
  | 14, _, _ => rfl
theorem z_alenR (C : zC x g cc own ret nL fr lo) {o κ : Nat} (v : Int32) (hd : zd cc pc .arraylength 1 q) (ho : zsh o = κ) (h1 : 11 ≤ κ) (h2 : κ < 15) (hv : Int32.ofNat (zrn κ) = v) (K : zw x g nL kc ks Q σ q L (zi v :: st)) : zw x g nL kc ks Q σ pc L (zr o :: st) := by
  obtain ⟨d, rfl⟩ := hd
  refine zw.ref (by omega) fun H locs ls hP hS hl => ?_
  obtain ⟨p0, hp⟩ := zP_at (g := g) (σ := σ) (o := o) (by omega)
  rw [zen_ref ho h1 h2] at hp
  exact va_alen C.1 C.2.1 C.2.2.2.2.2.2.2.2.1 hP p0 (κ - 10) hp (ztys_at g h1 h2) hv d (K H locs ls hP hS hl)
theorem z_aald (C : zC x g cc own ret nL fr lo) {o κ : Nat} {i : Int32} (hd : zd cc pc .aaload 1 q) (ho : zsh o = κ) (h1 : 11 ≤ κ) (h2 : κ < 15) (hi : zin i (zrn κ)) (o' : Nat) (he : o + zrd κ + zrs κ * i.toNatClampNeg = o') (ho' : zsh o' ≠ 0) (K : zw x g nL kc ks Q σ q L (zr o' :: st)) : zw x g nL kc ks Q σ pc L (zi i :: zr o :: st) := by
  obtain ⟨d, rfl⟩ := hd
  subst he
  intro H locs ls hP hS hl
  show W _ _ _ _ _ _ _ _ _ _ _ _ _ _ _ (F0 _ _ _ (.int i :: zrv g o :: st.map (zval g)))
  rw [zrv_of (by omega)]
  obtain ⟨p0, hp⟩ := zP_at (g := g) (σ := σ) (o := o) (by omega)
  rw [zen_ref ho h1 h2] at hp
  have h8 := K H locs ls hP hS hl
  change W _ _ _ _ _ _ _ _ _ _ _ _ _ _ _ (F0 _ _ _ (zrv g (o + zrd κ + zrs κ * i.toNatClampNeg) :: st.map (zval g))) at h8
  rw [zrv_of ho'] at h8
  exact va_aldq C.1 C.2.1 C.2.2.2.2.2.2.2.2.1 hP p0 (κ - 10) hp (ztys_at g h1 h2) (zin_vp hi) d h8
/-- the static rows: place 1000 KIND_ABOVE, 1001 BODIES -/
theorem z_gets0 (C : zC x g cc own ret nL fr lo) {idx : Nat} {host : String} (hd : zd cc pc (.getstatic idx) 3 q) (hw : Cond.fieldLinkNest own idx "GlassTax" "KIND_ABOVE" "[I" host ∈ lw_tbl) (K : zw x g nL kc ks Q σ q L (zr 1000 :: st)) : zw x g nL kc ks Q σ pc L st := by
  obtain ⟨d, rfl⟩ := hd
  exact fun H locs ls hP hS hl => va_getsN C.1 C.2.1 C.2.2.2.2.2.2.2.2.2.1.1.1 hS C.2.2.2.2.1 (va_Nw.use rfl (C.2.2.2.2.2.2.2.2.2.2.1 _ hw rfl)) (fun _ h => h) d (K H locs ls hP hS hl)
theorem z_gets1 (C : zC x g cc own ret nL fr lo) {idx : Nat} (hd : zd cc pc (.getstatic idx) 3 q) (hw : Cond.fieldLink own idx "GlassTax$Voices" "BODIES" "[I" ∈ lw_gd) (K : zw x g nL kc ks Q σ q L (zr 1001 :: st)) : zw x g nL kc ks Q σ pc L st := by
  obtain ⟨d, rfl⟩ := hd
  exact fun H locs ls hP hS hl => va_gets C.1 C.2.1 C.2.2.2.2.2.2.2.2.2.1.2.1.1 hS C.2.2.2.2.1 (C.2.2.2.2.2.1 _ hw) (fun _ h => h) d (K H locs ls hP hS hl)
theorem z_iald0 (C : zC x g cc own ret nL fr lo) {i : Int32} (hd : zd cc pc .iaload 1 q) (hi : zin i 7) (K : zw x g nL kc ks Q σ q L (zi (zKA.getD i.toNatClampNeg 0) :: st)) : zw x g nL kc ks Q σ pc L (zi i :: zr 1000 :: st) := by
  obtain ⟨d, rfl⟩ := hd
  exact fun H locs ls hP hS hl => va_ti C.1 C.2.1 C.2.2.2.2.2.2.2.2.2.1.1.2 hS (zin_vp hi) rfl d (K H locs ls hP hS hl)
theorem z_iald1 (C : zC x g cc own ret nL fr lo) {i : Int32} (hd : zd cc pc .iaload 1 q) (hi : zin i 28) (K : zw x g nL kc ks Q σ q L (zi (zBO.getD i.toNatClampNeg 0) :: st)) : zw x g nL kc ks Q σ pc L (zi i :: zr 1001 :: st) := by
  obtain ⟨d, rfl⟩ := hd
  exact fun H locs ls hP hS hl => va_ti C.1 C.2.1 C.2.2.2.2.2.2.2.2.2.1.2.1.2 hS (zin_vp hi) rfl d (K H locs ls hP hS hl)
theorem z_tsw (C : zC x g cc own ret nL fr lo) {dflt lw hw : Int} {offs : Array Int} {len d : Nat} {v : Int32} (l : List (Int32 × Nat)) (hd : decode cc pc = .ok (.tableswitch dflt lw hw offs, len)) (hdf : (pc : Int) + dflt = (d : Int)) (h1 : lw + offs.size = hw + 1) (h2 : ztb pc lw offs.toList l = true) (K : zw x g nL kc ks Q σ (zswt l d v) L st) : zw x g nL kc ks Q σ pc L (zi v :: st) := by
  intro H locs ls hP hS hl
  obtain ⟨i1, i2⟩ := ztb_in pc d v lw offs.toList l h2
  have hsz : offs.toList.length = offs.size := Array.length_toList
  by_cases hv : v.toInt < lw ∨ hw < v.toInt
  · have e := i2 (by omega)
    have K2 := K H locs ls hP hS hl
    rw [e] at K2
    exact lv_tableOut C.1 C.2.1 hd hv hdf K2
  · obtain ⟨o, ho⟩ : ∃ o, offs[(v.toInt - lw).toNat]? = some o := ⟨_, Array.getElem?_eq_getElem (by omega)⟩
    exact lv_tableIn C.1 C.2.1 hd (by omega) (by omega) ho (i1 o (by rw [Array.getElem?_toList]; exact ho) (by omega)) (K H locs ls hP hS hl)
theorem z_lsw (C : zC x g cc own ret nL fr lo) {dflt : Int} {ps : Array (Int × Int)} {len d : Nat} {v : Int32} (l : List (Int32 × Nat)) (hd : decode cc pc = .ok (.lookupswitch dflt ps, len)) (hp : (ps.toList.zip (ps.toList.drop 1)).all (fun (a, next) => a.1 < next.1) = true) (hdf : (pc : Int) + dflt = (d : Int)) (h2 : zlk pc ps.toList l = true) (K : zw x g nL kc ks Q σ (zswt l d v) L st) : zw x g nL kc ks Q σ pc L (zi v :: st) := by
  intro H locs ls hP hS hl
  exact lv_lookup C.1 C.2.1 hd hp rfl (zlk_in pc d dflt hdf v ps.toList l h2) (K H locs ls hP hS hl)
theorem z_swc {l : List (Int32 × Nat)} {k v : Int32} {t d : Nat} (kt : v = k → zw x g nL kc ks Q σ t L st) (kf : ¬ v = k → zw x g nL kc ks Q σ (zswt l d v) L st) : zw x g nL kc ks Q σ (zswt ((k, t) :: l) d v) L st := by
  by_cases h : v = k
  · rw [zswt, if_pos h]; exact kt h
  · rw [zswt, if_neg h]; exact kf h
/-! ends -/
theorem z_iret (C : zC x g cc own (some .int) nL fr lo) {r v : Int32} {σ' : ZS} (hd : zd cc pc .ireturn 1 q) (hf : some (v, σ) = some (r, σ')) : zw x g nL 0 0 (zMQ x g (some (zi r)) σ') σ pc L [zi v] := by
  cases hf
  obtain ⟨d, rfl⟩ := hd
  exact fun H locs ls hP hS hl => W.iret C.1 C.2.1 C.2.2.1 (fun t ht _ => ⟨rfl, by rw [ht]; exact hP, hS.F ht⟩) hS.2.2 d C.2.2.2.2.2.2.1
theorem z_zret (C : zC x g cc own (some .boolean) nL fr lo) {r v : Int32} {σ' : ZS} (hd : zd cc pc .ireturn 1 q) (hv : zbo v) (hf : some (v, σ) = some (r, σ')) : zw x g nL 0 0 (zMQ x g (some (zi r)) σ') σ pc L [zi v] := by
  cases hf
  obtain ⟨d, rfl⟩ := hd
  exact fun H locs ls hP hS hl => W.zret C.1 C.2.1 C.2.2.1 (zbo_n hv) (fun t ht _ => ⟨rfl, by rw [ht]; exact hP, hS.F ht⟩) hS.2.2 d C.2.2.2.2.2.2.1
theorem z_sret (C : zC x g cc own (some .byte) nL fr lo) {r v : Int32} {σ' : ZS} (hd : zd cc pc .ireturn 1 q) (hv : narrow .byte (.int v) = .int v) (hf : some (v, σ) = some (r, σ')) : zw x g nL 0 0 (zMQ x g (some (zi r)) σ') σ pc L [zi v] := by
  cases hf
  obtain ⟨d, rfl⟩ := hd
  exact fun H locs ls hP hS hl => W.zret C.1 C.2.1 C.2.2.1 hv (fun t ht _ => ⟨rfl, by rw [ht]; exact hP, hS.F ht⟩) hS.2.2 d C.2.2.2.2.2.2.1
theorem z_cret (C : zC x g cc own (some .char) nL fr lo) {r v : Int32} {σ' : ZS} (hd : zd cc pc .ireturn 1 q) (hv : narrow .char (.int v) = .int v) (hf : some (v, σ) = some (r, σ')) : zw x g nL 0 0 (zMQ x g (some (zi r)) σ') σ pc L [zi v] := by
  cases hf
  obtain ⟨d, rfl⟩ := hd
  exact fun H locs ls hP hS hl => W.zret C.1 C.2.1 C.2.2.1 hv (fun t ht _ => ⟨rfl, by rw [ht]; exact hP, hS.F ht⟩) hS.2.2 d C.2.2.2.2.2.2.1
theorem z_vret (C : zC x g cc own none nL fr lo) {u : Unit} {σ' : ZS} (hd : zd cc pc .return_ 1 q) (hf : some ((), σ) = some (u, σ')) : zw x g nL 0 0 (zMQ x g none σ') σ pc L [] := by
  cases hf
  obtain ⟨d, rfl⟩ := hd
  exact fun H locs ls hP hS hl => W.vret C.1 C.2.1 C.2.2.1 (fun t ht _ => ⟨rfl, by rw [ht]; exact hP, hS.F ht⟩) hS.2.2 d C.2.2.2.2.2.2.1
theorem z_aret {n : String} (C : zC x g cc own (some (.object n)) nL fr lo) {r v : Nat} {σ' : ZS} (hd : zd cc pc .areturn 1 q) (hf : some (v, σ) = some (r, σ')) : zw x g nL 0 0 (zMQ x g (some (zr r)) σ') σ pc L [zr v] := by
  cases hf
  obtain ⟨d, rfl⟩ := hd
  exact fun H locs ls hP hS hl => W.aret C.1 C.2.1 C.2.2.1 (Or.inl ⟨n, rfl⟩) (by
    show zrv g r = .null ∨ ∃ a, zrv g r = .ref a
    by_cases h : r = 0
    · subst h; exact Or.inl rfl
    · exact Or.inr (zrv_ref h)) (fun t ht _ => ⟨rfl, by rw [ht]; exact hP, hS.F ht⟩) hS.2.2 d C.2.2.2.2.2.2.1
/-! calls -/
theorem z_blind {as : List ZV} {σ0 : ZS} : FrameBlind (va_Pc (as.map (zval g)) (fun U => zP g σ0 U.heap ∧ zK g U)) := fun _ _ _ _ h => ⟨h.1, h.2.1, h.2.2.blind⟩
theorem z_ran {v : Option ZV} {σ1 : ZS} {st0 : List Value} {rest : List ZV} {H : Heap} {locs : List Loc} {ls : Array Slot} {a : Array Value} (hS : va_S (zA g) x.2.2.2.2.1.heap H locs) (hl : zlh g ls nL L)
    (hr : va_Run x.1 x.2.1 x.2.2.1 x.2.2.2.1 x.2.2.2.2.1 x.2.2.2.2.2.1 x.2.2.2.2.2.2.1 x.2.2.2.2.2.2.2.1 x.2.2.2.2.2.2.2.2.1 x.2.2.2.2.2.2.2.2.2 H locs kc ks 0 0 (F0 x.2.2.2.2.2.1 pc ls st0) (rest.map (zval g)) (zQ g v σ1 a) (zA g))
    (K : zw x g nL kc ks Q σ1 (pc + 3) L (v.toList ++ rest)) : W x.1 x.2.1 x.2.2.1 x.2.2.2.1 x.2.2.2.2.1 x.2.2.2.2.2.1 x.2.2.2.2.2.2.1 x.2.2.2.2.2.2.2.1 x.2.2.2.2.2.2.2.2.1 x.2.2.2.2.2.2.2.2.2 H locs kc ks Q (F0 x.2.2.2.2.2.1 pc ls st0) := by
  intro T hT X
  obtain ⟨v', st₀, t, T', L', h0, X', hL, e1, e2, ⟨hv, hP1, hz, hk⟩, stp⟩ := hr T hT X
  cases hv
  rw [h0] at hz hk
  have hS1 : va_S (zA g) x.2.2.2.2.1.heap T'.heap (locs ++ L') := ⟨Nat.le_trans hS.1 (by rw [e1]; exact hz), fun q h1 h2 => by rw [e1, hk q (Nat.lt_of_lt_of_le h1 hS.1) h2]; exact hS.2.1 q h1 h2, fun q hq => by
      rcases List.mem_append.mp hq with h | h
      · exact hS.2.2 q h
      · exact hL q h⟩
  obtain ⟨t2, a1, b1⟩ := K T'.heap (locs ++ L') ls (by rw [e1]; exact hP1) hS1 hl T' rfl X'
  refine ⟨t2, stp t2 ?_, b1⟩
  have e : (v.map (zval g)).toList ++ rest.map (zval g) = (v.toList ++ rest).map (zval g) := by
    rw [List.map_append]
    cases v <;> rfl
  rw [e]
  exact a1
theorem z_room {rest : List ZV} (h : (rest.map fun v => if zlong (some v) = true then 2 else 1).sum ≤ 8) : ((rest.map (zval g)).map fun v => v.category).sum ≤ 8 := by
  have e : (rest.map (zval g)).map (fun v => v.category) = rest.map fun v => if zlong (some v) = true then 2 else 1 := by
    rw [List.map_map]
    exact List.map_congr_left fun v _ => zval_cat v
  rw [e]; exact h
theorem z_callV (C : zC x g cc own ret nL fr lo) {y : MethodName} {cc' : ByteArray} {nL' : Nat} {ret' : Option FieldType} {fr' lo' idx n ci o : Nat} {as : List ZV} {v : Option ZV} {σ1 : ZS} {st' : List ZV} (hd : zd cc pc (.invokevirtual idx) 3 q) (hw : Cond.methodLink own idx y ∈ lw_gd) (hy : zYV y cc' nL' ret' n) (hT : zT x.2.1 g y cc' nL' ret' fr' lo' (zr o :: as) σ v σ1)
    (hc : zYC y ci) (ho : zsh o = ci + 1) (hn : as.length = n) (hst : as.reverse ++ zr o :: st = st') (hrm : (st.map fun v => if zlong (some v) = true then 2 else 1).sum ≤ 8) (hR : fr' + 1 ≤ fr ∧ 8 + (nL' + 11) + lo' ≤ lo) (hk : kc ≤ x.2.2.2.1.cells ∧ ks ≤ x.2.2.2.1.slots)
    (K : zw x g nL kc ks Q σ1 q L (v.toList ++ st)) : zw x g nL kc ks Q σ pc L st' := by
  obtain ⟨d, rfl⟩ := hd
  subst hst
  obtain ⟨h2, T, N, hc⟩ := hc
  obtain ⟨⟨y1, y2, y3, y4⟩, y5, y6⟩ := hy
  intro H locs ls hP hS hl
  have hts := C.2.2.2.2.2.1
  refine z_ran hS hl (va_runV (b := g.1 + o) (As := as.map (zval g)) (n := n) ⟨C.1, C.2.1, C.2.2.2.1, C.2.2.2.2.1, hts⟩ hT ⟨⟨rfl, rfl, Nat.le_trans hR.1 C.2.2.2.2.2.2.2.1.1, Nat.le_trans hR.2 C.2.2.2.2.2.2.2.1.2, pay_in hts (fun w hw => by
      rcases List.mem_cons.mp hw with rfl | h
      · exact lw_gdIn _ y1
      · exact lw_gdIn _ h), List.mem_cons_self, hts _ y1, hts _ y2, y3, zY.params ⟨y1, y2, y3, y4⟩, hts _ hw⟩, hts _ y5, hts _ y6⟩ ⟨z_blind, ?_, fun U hU hW => ⟨by
        show (Value.ref (g.1 + o) :: as.map (zval g)).toArray = (zrv g o :: as.map (zval g)).toArray
        rw [zrv_of (by omega)], by rw [hU]; exact hP, C.2.2.2.2.2.2.2.2.go hS hU hW⟩⟩ rfl (by rw [List.length_map]; exact hn) hl.1 ?_ (lv_room (z_room hrm)) d hk) K
  · obtain ⟨p0, hp⟩ := zP_at (g := g) (σ := σ) (o := o) (by omega)
    rw [zen_obj ho h2] at hp
    exact va_recv C.2.2.2.2.2.2.2.2.1 hP hc hp
  · show (as.reverse ++ zr o :: st).map (zval g) = _
    rw [List.map_append, List.map_reverse, List.map_cons]
    show _ ++ zrv g o :: _ = _
    rw [zrv_of (by omega)]
theorem z_callS (C : zC x g cc own ret nL fr lo) {y : MethodName} {cc' : ByteArray} {nL' : Nat} {ret' : Option FieldType} {fr' lo' idx n : Nat} {as : List ZV} {v : Option ZV} {σ1 : ZS} {st' : List ZV} (hd : zd cc pc (.invokestatic idx) 3 q) (hw : Cond.methodLink own idx y ∈ lw_gd) (hy : zYS y cc' nL' ret' n) (hT : zT x.2.1 g y cc' nL' ret' fr' lo' as σ v σ1)
    (hn : as.length = n) (hst : as.reverse ++ st = st') (hrm : (st.map fun v => if zlong (some v) = true then 2 else 1).sum ≤ 8) (hR : fr' + 1 ≤ fr ∧ 8 + (nL' + 11) + lo' ≤ lo) (hk : kc ≤ x.2.2.2.1.cells ∧ ks ≤ x.2.2.2.1.slots)
    (K : zw x g nL kc ks Q σ1 q L (v.toList ++ st)) : zw x g nL kc ks Q σ pc L st' := by
  obtain ⟨d, rfl⟩ := hd
  subst hst
  obtain ⟨⟨y1, y2, y3, y4⟩, y5⟩ := hy
  intro H locs ls hP hS hl
  have hts := C.2.2.2.2.2.1
  refine z_ran hS hl (va_runS (As := as.map (zval g)) (n := n) ⟨C.1, C.2.1, C.2.2.2.1, C.2.2.2.2.1, hts⟩ hT ⟨⟨rfl, rfl, Nat.le_trans hR.1 C.2.2.2.2.2.2.2.1.1, Nat.le_trans hR.2 C.2.2.2.2.2.2.2.1.2, pay_in hts (fun w hw => by
      rcases List.mem_cons.mp hw with rfl | h
      · exact lw_gdIn _ y1
      · exact lw_gdIn _ h), List.mem_cons_self, hts _ y1, hts _ y2, y3, zY.params ⟨y1, y2, y3, y4⟩, hts _ hw⟩, hts _ y5⟩ ⟨z_blind, fun U hU hW => ⟨rfl, by rw [hU]; exact hP, C.2.2.2.2.2.2.2.2.go hS hU hW⟩⟩ rfl (by rw [List.length_map]; exact hn) hl.1 ?_ (lv_room (z_room hrm)) d hk) K
  show (as.reverse ++ st).map (zval g) = _
  rw [List.map_append, List.map_reverse]
theorem z_callSN (C : zC x g cc own ret nL fr lo) {y : MethodName} {host : String} {cc' : ByteArray} {nL' : Nat} {ret' : Option FieldType} {fr' lo' idx n : Nat} {as : List ZV} {v : Option ZV} {σ1 : ZS} {st' : List ZV} (hd : zd cc pc (.invokestatic idx) 3 q) (hw : Cond.methodLinkNest own idx y host ∈ lw_tbl) (hy : zYS y cc' nL' ret' n) (hT : zT x.2.1 g y cc' nL' ret' fr' lo' as σ v σ1)
    (hn : as.length = n) (hst : as.reverse ++ st = st') (hrm : (st.map fun v => if zlong (some v) = true then 2 else 1).sum ≤ 8) (hR : fr' + 1 ≤ fr ∧ 8 + (nL' + 11) + lo' ≤ lo) (hk : kc ≤ x.2.2.2.1.cells ∧ ks ≤ x.2.2.2.1.slots)
    (K : zw x g nL kc ks Q σ1 q L (v.toList ++ st)) : zw x g nL kc ks Q σ pc L st' := by
  obtain ⟨d, rfl⟩ := hd
  subst hst
  obtain ⟨⟨y1, y2, y3, y4⟩, y5⟩ := hy
  intro H locs ls hP hS hl
  have hts := C.2.2.2.2.2.1
  refine z_ran hS hl (va_runSN (As := as.map (zval g)) (n := n) ⟨C.1, C.2.1, C.2.2.2.1, C.2.2.2.2.1, hts⟩ hT ⟨⟨⟨rfl, rfl, Nat.le_trans hR.1 C.2.2.2.2.2.2.2.1.1, Nat.le_trans hR.2 C.2.2.2.2.2.2.2.1.2, pay_in hts (fun w hw => by
      rcases List.mem_cons.mp hw with rfl | h
      · exact lw_gdIn _ y1
      · exact lw_gdIn _ h), List.mem_cons_self⟩, hts _ y1, hts _ y2, y3, zY.params ⟨y1, y2, y3, y4⟩, va_Nw.use rfl (C.2.2.2.2.2.2.2.2.2.2.1 _ hw rfl)⟩, hts _ y5, trivial⟩ ⟨z_blind, fun U hU hW => ⟨rfl, by rw [hU]; exact hP, C.2.2.2.2.2.2.2.2.go hS hU hW⟩⟩ rfl (by rw [List.length_map]; exact hn) hl.1 ?_ (lv_room (z_room hrm)) d hk) K
  show (as.reverse ++ st).map (zval g) = _
  rw [List.map_append, List.map_reverse]
/-! the JDK's -/
theorem z_max (C : zC x g cc own ret nL fr lo) {idx : Nat} {a b : Int32} (hd : zd cc pc (.invokestatic idx) 3 q) (hw : Cond.methodLink own idx Lib.Math.max.name ∈ lw_gd) (hrm : (st.map fun v => if zlong (some v) = true then 2 else 1).sum ≤ 8) (hR : 1 ≤ fr ∧ 21 ≤ lo) (hk : kc ≤ x.2.2.2.1.cells ∧ ks ≤ x.2.2.2.1.slots) (hmx : Cond.static Lib.Math.max.name ∈ lw_gd ∧ Cond.initialized "java/lang/Math" ∈ lw_gd ∧ Cond.code Lib.Math.max.name Lib.Math.max.code 2 (some .int) ∈ lw_gd)
    (K : zw x g nL kc ks Q σ q L (zi (if a < b then b else a) :: st)) : zw x g nL kc ks Q σ pc L (zi b :: zi a :: st) := by
  obtain ⟨d, rfl⟩ := hd
  have hts := C.2.2.2.2.2.1
  have hrm2 := z_room (g := g) hrm
  exact fun H locs ls hP hS hl => va_mmax C.1 C.2.1 (C.2.2.2.1.trans hl.1.symm) C.2.2.2.2.1 (hts _ hw) (hts _ hmx.1) (hts _ hmx.2.1) (hts _ hmx.2.2) (Nat.le_trans hR.1 C.2.2.2.2.2.2.2.1.1) (Nat.le_trans (by omega) C.2.2.2.2.2.2.2.1.2) hk.1 hk.2 d (K H locs ls hP hS hl)
theorem z_min (C : zC x g cc own ret nL fr lo) {idx : Nat} {a b : Int32} (hd : zd cc pc (.invokestatic idx) 3 q) (hw : Cond.methodLink own idx Lib.Math.min.name ∈ lw_gd) (hrm : (st.map fun v => if zlong (some v) = true then 2 else 1).sum ≤ 8) (hR : 1 ≤ fr ∧ 21 ≤ lo) (hk : kc ≤ x.2.2.2.1.cells ∧ ks ≤ x.2.2.2.1.slots) (hmx : Cond.static Lib.Math.min.name ∈ lw_gd ∧ Cond.initialized "java/lang/Math" ∈ lw_gd ∧ Cond.code Lib.Math.min.name Lib.Math.min.code 2 (some .int) ∈ lw_gd)
    (K : zw x g nL kc ks Q σ q L (zi (if b < a then b else a) :: st)) : zw x g nL kc ks Q σ pc L (zi b :: zi a :: st) := by
  obtain ⟨d, rfl⟩ := hd
  have hts := C.2.2.2.2.2.1
  have hrm2 := z_room (g := g) hrm
  exact fun H locs ls hP hS hl => va_mmin C.1 C.2.1 (C.2.2.2.1.trans hl.1.symm) C.2.2.2.2.1 (hts _ hw) (hts _ hmx.1) (hts _ hmx.2.1) (hts _ hmx.2.2) (Nat.le_trans hR.1 C.2.2.2.2.2.2.2.1.1) (Nat.le_trans (by omega) C.2.2.2.2.2.2.2.1.2) hk.1 hk.2 d (K H locs ls hP hS hl)
theorem z_copy (C : zC x g cc own ret nL fr lo) {idx o0 o1 n0 n1 : Nat} {sp dp n : Int32} (hd : zd cc pc (.invokestatic idx) 3 q) (hw : Cond.methodLink own idx arraycopyName ∈ lw_gd) (hmx : Cond.native arraycopyName ∈ lw_gd ∧ Cond.static arraycopyName ∈ lw_gd ∧ Cond.initialized "java/lang/System" ∈ lw_gd) (ho0 : zsh o0 = 15) (hn0 : zln o0 = n0) (ho1 : zsh o1 = 15) (hn1 : zln o1 = n1)
    (h1 : 0 ≤ sp.toInt ∧ 0 ≤ dp.toInt ∧ 0 ≤ n.toInt ∧ sp.toInt + n.toInt ≤ n0 ∧ dp.toInt + n.toInt ≤ n1) (hR : 1 ≤ fr ∧ 40 ≤ lo) (hrm : (st.map fun v => if zlong (some v) = true then 2 else 1).sum ≤ 8)
    {σ1 : ZS} (he : σ1 = zurow σ o1 (va_cpy (σ o0) (σ o1) sp.toNatClampNeg dp.toNatClampNeg n.toNatClampNeg)) (K : zw x g nL kc ks Q σ1 q L st) : zw x g nL kc ks Q σ pc L (zi n :: zi dp :: zr o1 :: zi sp :: zr o0 :: st) := by
  subst he
  obtain ⟨d, rfl⟩ := hd
  have hts := C.2.2.2.2.2.1
  have hrm2 := z_room (g := g) hrm
  intro H locs ls hP hS hl
  show W _ _ _ _ _ _ _ _ _ _ _ _ _ _ _ (F0 _ _ _ (.int n :: .int dp :: zrv g o1 :: .int sp :: zrv g o0 :: st.map (zval g)))
  rw [zrv_of (o := o0) (by omega), zrv_of (o := o1) (by omega)]
  obtain ⟨p0, hp0⟩ := zP_at (g := g) (σ := σ) (o := o0) (by omega)
  obtain ⟨p1, hp1⟩ := zP_at (g := g) (σ := σ) (o := o1) (by omega)
  have hp2 := hp1
  rw [zen_arr ho0 hn0] at hp0
  rw [zen_arr ho1 hn1] at hp1
  have neg : ∀ z : Int32, 0 ≤ z.toInt → ¬ z < 0 := fun z hz h => by
    have := Int32.lt_iff_toInt_lt.mp h
    simp at this
    omega
  have cl : ∀ z : Int32, z.toNatClampNeg = z.toInt.toNat := fun z => rfl
  refine va_copyi C.1 C.2.1 (C.2.2.2.1.trans hl.1.symm) C.2.2.2.2.1 (hts _ hw) (hts _ hmx.1) (hts _ hmx.2.1) (hts _ hmx.2.2) C.2.2.2.2.2.2.2.2.1 hP (zD _) hS p0 p1 0 0 hp0 hp1 rfl rfl rfl (neg _ h1.1) (neg _ h1.2.1) (neg _ h1.2.2.1) (by rw [cl, cl]; omega) (by rw [cl, cl]; omega) (fun _ _ => rfl) (Nat.le_trans hR.1 C.2.2.2.2.2.2.2.1.1) (Nat.le_trans (Nat.le_trans (Nat.add_le_add_right hrm2 _) (Nat.le_trans (by decide) hR.2)) C.2.2.2.2.2.2.2.1.2) d fun H1 locs1 hP1 _ hS1 => ?_
  refine K H1 locs1 ls (zP_set (σ' := zurow σ o1 (va_cpy (σ o0) (σ o1) sp.toNatClampNeg dp.toNatClampNeg n.toNatClampNeg)) (by omega) hp2 ?_ (fun a ha => zu_ne ha) hP1) hS1 hl
  rw [zen_arr ho1 hn1]
  exact congrArg (fun f => (Sum.inl (g.2.2.1 0, n1, .inl f) : va_E)) zu_row
theorem z_callVi (C : zC x g cc own ret nL fr lo) {y : MethodName} {cc' : ByteArray} {nL' : Nat} {ret' : Option FieldType} {fr' lo' idx n ci o : Nat} {as : List ZV} {rr : Int32} {σ1 : ZS} {st' : List ZV} (hd : zd cc pc (.invokevirtual idx) 3 q) (hw : Cond.methodLink own idx y ∈ lw_gd) (hy : zYV y cc' nL' ret' n) (hT : zT x.2.1 g y cc' nL' ret' fr' lo' (zr o :: as) σ (some (zi rr)) σ1)
    (hc : zYC y ci) (ho : zsh o = ci + 1) (hn : as.length = n) (hst : as.reverse ++ zr o :: st = st') (hrm : (st.map fun v => if zlong (some v) = true then 2 else 1).sum ≤ 8) (hR : fr' + 1 ≤ fr ∧ 8 + (nL' + 11) + lo' ≤ lo) (hk : kc ≤ x.2.2.2.1.cells ∧ ks ≤ x.2.2.2.1.slots)
    (K : zw x g nL kc ks Q σ1 q L (zi rr :: st)) : zw x g nL kc ks Q σ pc L st' := z_callV (v := (some (zi rr))) C hd hw hy hT hc ho hn hst hrm hR hk K
theorem z_callVr (C : zC x g cc own ret nL fr lo) {y : MethodName} {cc' : ByteArray} {nL' : Nat} {ret' : Option FieldType} {fr' lo' idx n ci o : Nat} {as : List ZV} {rr : Nat} {σ1 : ZS} {st' : List ZV} (hd : zd cc pc (.invokevirtual idx) 3 q) (hw : Cond.methodLink own idx y ∈ lw_gd) (hy : zYV y cc' nL' ret' n) (hT : zT x.2.1 g y cc' nL' ret' fr' lo' (zr o :: as) σ (some (zr rr)) σ1)
    (hc : zYC y ci) (ho : zsh o = ci + 1) (hn : as.length = n) (hst : as.reverse ++ zr o :: st = st') (hrm : (st.map fun v => if zlong (some v) = true then 2 else 1).sum ≤ 8) (hR : fr' + 1 ≤ fr ∧ 8 + (nL' + 11) + lo' ≤ lo) (hk : kc ≤ x.2.2.2.1.cells ∧ ks ≤ x.2.2.2.1.slots)
    (K : zw x g nL kc ks Q σ1 q L (zr rr :: st)) : zw x g nL kc ks Q σ pc L st' := z_callV (v := (some (zr rr))) C hd hw hy hT hc ho hn hst hrm hR hk K
theorem z_callVv (C : zC x g cc own ret nL fr lo) {y : MethodName} {cc' : ByteArray} {nL' : Nat} {ret' : Option FieldType} {fr' lo' idx n ci o : Nat} {as : List ZV}  {σ1 : ZS} {st' : List ZV} (hd : zd cc pc (.invokevirtual idx) 3 q) (hw : Cond.methodLink own idx y ∈ lw_gd) (hy : zYV y cc' nL' ret' n) (hT : zT x.2.1 g y cc' nL' ret' fr' lo' (zr o :: as) σ none σ1)
    (hc : zYC y ci) (ho : zsh o = ci + 1) (hn : as.length = n) (hst : as.reverse ++ zr o :: st = st') (hrm : (st.map fun v => if zlong (some v) = true then 2 else 1).sum ≤ 8) (hR : fr' + 1 ≤ fr ∧ 8 + (nL' + 11) + lo' ≤ lo) (hk : kc ≤ x.2.2.2.1.cells ∧ ks ≤ x.2.2.2.1.slots)
    (K : zw x g nL kc ks Q σ1 q L (st)) : zw x g nL kc ks Q σ pc L st' := z_callV (v := none) C hd hw hy hT hc ho hn hst hrm hR hk K
theorem z_callSi (C : zC x g cc own ret nL fr lo) {y : MethodName} {cc' : ByteArray} {nL' : Nat} {ret' : Option FieldType} {fr' lo' idx n : Nat} {as : List ZV} {rr : Int32} {σ1 : ZS} {st' : List ZV} (hd : zd cc pc (.invokestatic idx) 3 q) (hw : Cond.methodLink own idx y ∈ lw_gd) (hy : zYS y cc' nL' ret' n) (hT : zT x.2.1 g y cc' nL' ret' fr' lo' as σ (some (zi rr)) σ1)
    (hn : as.length = n) (hst : as.reverse ++ st = st') (hrm : (st.map fun v => if zlong (some v) = true then 2 else 1).sum ≤ 8) (hR : fr' + 1 ≤ fr ∧ 8 + (nL' + 11) + lo' ≤ lo) (hk : kc ≤ x.2.2.2.1.cells ∧ ks ≤ x.2.2.2.1.slots)
    (K : zw x g nL kc ks Q σ1 q L (zi rr :: st)) : zw x g nL kc ks Q σ pc L st' := z_callS (v := (some (zi rr))) C hd hw hy hT hn hst hrm hR hk K
theorem z_callSr (C : zC x g cc own ret nL fr lo) {y : MethodName} {cc' : ByteArray} {nL' : Nat} {ret' : Option FieldType} {fr' lo' idx n : Nat} {as : List ZV} {rr : Nat} {σ1 : ZS} {st' : List ZV} (hd : zd cc pc (.invokestatic idx) 3 q) (hw : Cond.methodLink own idx y ∈ lw_gd) (hy : zYS y cc' nL' ret' n) (hT : zT x.2.1 g y cc' nL' ret' fr' lo' as σ (some (zr rr)) σ1)
    (hn : as.length = n) (hst : as.reverse ++ st = st') (hrm : (st.map fun v => if zlong (some v) = true then 2 else 1).sum ≤ 8) (hR : fr' + 1 ≤ fr ∧ 8 + (nL' + 11) + lo' ≤ lo) (hk : kc ≤ x.2.2.2.1.cells ∧ ks ≤ x.2.2.2.1.slots)
    (K : zw x g nL kc ks Q σ1 q L (zr rr :: st)) : zw x g nL kc ks Q σ pc L st' := z_callS (v := (some (zr rr))) C hd hw hy hT hn hst hrm hR hk K
theorem z_callSv (C : zC x g cc own ret nL fr lo) {y : MethodName} {cc' : ByteArray} {nL' : Nat} {ret' : Option FieldType} {fr' lo' idx n : Nat} {as : List ZV}  {σ1 : ZS} {st' : List ZV} (hd : zd cc pc (.invokestatic idx) 3 q) (hw : Cond.methodLink own idx y ∈ lw_gd) (hy : zYS y cc' nL' ret' n) (hT : zT x.2.1 g y cc' nL' ret' fr' lo' as σ none σ1)
    (hn : as.length = n) (hst : as.reverse ++ st = st') (hrm : (st.map fun v => if zlong (some v) = true then 2 else 1).sum ≤ 8) (hR : fr' + 1 ≤ fr ∧ 8 + (nL' + 11) + lo' ≤ lo) (hk : kc ≤ x.2.2.2.1.cells ∧ ks ≤ x.2.2.2.1.slots)
    (K : zw x g nL kc ks Q σ1 q L (st)) : zw x g nL kc ks Q σ pc L st' := z_callS (v := none) C hd hw hy hT hn hst hrm hR hk K
theorem z_callSNi (C : zC x g cc own ret nL fr lo) {y : MethodName} {host : String} {cc' : ByteArray} {nL' : Nat} {ret' : Option FieldType} {fr' lo' idx n : Nat} {as : List ZV} {rr : Int32} {σ1 : ZS} {st' : List ZV} (hd : zd cc pc (.invokestatic idx) 3 q) (hw : Cond.methodLinkNest own idx y host ∈ lw_tbl) (hy : zYS y cc' nL' ret' n) (hT : zT x.2.1 g y cc' nL' ret' fr' lo' as σ (some (zi rr)) σ1)
    (hn : as.length = n) (hst : as.reverse ++ st = st') (hrm : (st.map fun v => if zlong (some v) = true then 2 else 1).sum ≤ 8) (hR : fr' + 1 ≤ fr ∧ 8 + (nL' + 11) + lo' ≤ lo) (hk : kc ≤ x.2.2.2.1.cells ∧ ks ≤ x.2.2.2.1.slots)
    (K : zw x g nL kc ks Q σ1 q L (zi rr :: st)) : zw x g nL kc ks Q σ pc L st' := z_callSN (v := (some (zi rr))) C hd hw hy hT hn hst hrm hR hk K
theorem z_callSNr (C : zC x g cc own ret nL fr lo) {y : MethodName} {host : String} {cc' : ByteArray} {nL' : Nat} {ret' : Option FieldType} {fr' lo' idx n : Nat} {as : List ZV} {rr : Nat} {σ1 : ZS} {st' : List ZV} (hd : zd cc pc (.invokestatic idx) 3 q) (hw : Cond.methodLinkNest own idx y host ∈ lw_tbl) (hy : zYS y cc' nL' ret' n) (hT : zT x.2.1 g y cc' nL' ret' fr' lo' as σ (some (zr rr)) σ1)
    (hn : as.length = n) (hst : as.reverse ++ st = st') (hrm : (st.map fun v => if zlong (some v) = true then 2 else 1).sum ≤ 8) (hR : fr' + 1 ≤ fr ∧ 8 + (nL' + 11) + lo' ≤ lo) (hk : kc ≤ x.2.2.2.1.cells ∧ ks ≤ x.2.2.2.1.slots)
    (K : zw x g nL kc ks Q σ1 q L (zr rr :: st)) : zw x g nL kc ks Q σ pc L st' := z_callSN (v := (some (zr rr))) C hd hw hy hT hn hst hrm hR hk K
theorem z_callSNv (C : zC x g cc own ret nL fr lo) {y : MethodName} {host : String} {cc' : ByteArray} {nL' : Nat} {ret' : Option FieldType} {fr' lo' idx n : Nat} {as : List ZV}  {σ1 : ZS} {st' : List ZV} (hd : zd cc pc (.invokestatic idx) 3 q) (hw : Cond.methodLinkNest own idx y host ∈ lw_tbl) (hy : zYS y cc' nL' ret' n) (hT : zT x.2.1 g y cc' nL' ret' fr' lo' as σ none σ1)
    (hn : as.length = n) (hst : as.reverse ++ st = st') (hrm : (st.map fun v => if zlong (some v) = true then 2 else 1).sum ≤ 8) (hR : fr' + 1 ≤ fr ∧ 8 + (nL' + 11) + lo' ≤ lo) (hk : kc ≤ x.2.2.2.1.cells ∧ ks ≤ x.2.2.2.1.slots)
    (K : zw x g nL kc ks Q σ1 q L (st)) : zw x g nL kc ks Q σ pc L st' := z_callSN (v := none) C hd hw hy hT hn hst hrm hR hk K
theorem z_sw0 {v : Int32} {d : Nat} (K : zw x g nL kc ks Q σ d L st) : zw x g nL kc ks Q σ (zswt [] d v) L st := K
end
/-! the shallow functions' words -/
def zput {α : Type} (s : ZS) (k : ZS → α) : α := k s
def zbd {α β : Type} (m : Option (α × ZS)) (k : α → ZS → Option β) : Option β := match m with
  | none => none
  | some z => k z.1 z.2
theorem zpx {α : Type} {s : ZS} {k : ZS → α} {r : α} (h : zput s k = r) : ∃ s' : ZS, s' = s ∧ k s' = r := ⟨s, rfl, h⟩
theorem zbx {α β : Type} {m : Option (α × ZS)} {k : α → ZS → Option β} {r : β} (h : zbd m k = some r) : ∃ (a : α) (s' : ZS), m = some (a, s') ∧ k a s' = some r := by
  cases m with
  | none => cases h
  | some z => exact ⟨z.1, z.2, rfl, h⟩
theorem zgo {α : Type} {c : Prop} {_ : Decidable c} {m : Option α} {r : α} (h : (if c then m else none) = some r) : c ∧ m = some r := by
  by_cases hc : c
  · rw [if_pos hc] at h; exact ⟨hc, h⟩
  · rw [if_neg hc] at h; cases h
theorem zit {α : Type} {c : Prop} {_ : Decidable c} {a b r : α} (hc : c) (h : (if c then a else b) = r) : a = r := by
  rw [if_pos hc] at h; exact h
theorem zie {α : Type} {c : Prop} {_ : Decidable c} {a b r : α} (hc : ¬ c) (h : (if c then a else b) = r) : b = r := by
  rw [if_neg hc] at h; exact h
theorem zn0 {o κ : Nat} (h : zsh o = κ + 1) : zsh o ≠ 0 := by omega
/-! static rows, the one text -/
section
variable {x : ZX} {g : ZG} {cc : ByteArray} {own : String} {ret : Option FieldType} {nL fr lo kc ks : Nat} {Q : State → Prop} {σ : ZS} {pc q t : Nat} {L : List (Option ZV)} {st : List ZV}
theorem z_talen (C : zC x g cc own ret nL fr lo) {ty : FieldType} {t n : Nat} {f : Nat → Value} (hT : va_T ty t n f (zA g) x.2.2.2.2.1 x.2.2.2.2.1.heap) {v : Int32} (hv : Int32.ofNat n = v) {o : Nat} (ho : zrv g o = .ref t) (hd : zd cc pc .arraylength 1 q) (K : zw x g nL kc ks Q σ q L (zi v :: st)) : zw x g nL kc ks Q σ pc L (zr o :: st) := by
  obtain ⟨d, rfl⟩ := hd
  obtain ⟨cell, h1, h2, h3, h4, h5, h6, h7⟩ := hT
  intro H locs ls hP hS hl
  show W _ _ _ _ _ _ _ _ _ _ _ _ _ _ _ (F0 _ _ _ (zrv g o :: st.map (zval g)))
  rw [ho]
  exact W.alen (n := v) C.1 C.2.1 (by rw [hS.2.1 t (Array.getElem?_eq_some_iff.mp h1).1 h7]; exact h1) h2 (by rw [h5, hv]) rfl rfl d (K H locs ls hP hS hl)
theorem z_alen0 (C : zC x g cc own ret nL fr lo) (hd : zd cc pc .arraylength 1 q) (K : zw x g nL kc ks Q σ q L (zi 7 :: st)) : zw x g nL kc ks Q σ pc L (zr 1000 :: st) := z_talen C C.2.2.2.2.2.2.2.2.2.1.1.2 rfl rfl hd K
theorem z_alen1 (C : zC x g cc own ret nL fr lo) (hd : zd cc pc .arraylength 1 q) (K : zw x g nL kc ks Q σ q L (zi 28 :: st)) : zw x g nL kc ks Q σ pc L (zr 1001 :: st) := z_talen C C.2.2.2.2.2.2.2.2.2.1.2.1.2 rfl rfl hd K
theorem z_blen (C : zC x g cc own ret nL fr lo) (hd : zd cc pc .arraylength 1 q) (K : zw x g nL kc ks Q σ q L (zi 6 :: st)) : zw x g nL kc ks Q σ pc L (zr 1003 :: st) := z_talen C (C.2.2.2.2.2.2.2.2.2.1.2.2.1.1 0 (by decide)).2.2.2 rfl rfl hd K
theorem z_bald (C : zC x g cc own ret nL fr lo) {i : Int32} (hd : zd cc pc .baload 1 q) (hi : zin i 6) (K : zw x g nL kc ks Q σ q L (zi ((zBy.getD 0 []).getD i.toNatClampNeg 0) :: st)) : zw x g nL kc ks Q σ pc L (zi i :: zr 1003 :: st) := by
  obtain ⟨d, rfl⟩ := hd
  exact fun H locs ls hP hS hl => va_tb C.1 C.2.1 (C.2.2.2.2.2.2.2.2.2.1.2.2.1.1 0 (by decide)).2.2.2 hS (zin_vp hi) rfl d (K H locs ls hP hS hl)
theorem z_strV (C : zC x g cc own ret nL fr lo) {idx : Nat} (hd : zd cc pc (.getfield idx) 3 q) (hw : Cond.fieldLink own idx "java/lang/String" "value" "[B" ∈ lw_gd) (K : zw x g nL kc ks Q σ q L (zr 1003 :: st)) : zw x g nL kc ks Q σ pc L (zr 1002 :: st) := by
  obtain ⟨d, rfl⟩ := hd
  exact fun H locs ls hP hS hl => vk_getf C.1 C.2.1 (C.2.2.2.2.2.2.2.2.2.1.2.2.1.1 0 (by decide)).2.2.1 hS C.2.2.2.2.1 (C.2.2.2.2.2.1 _ hw) (fun _ h => h) d (K H locs ls hP hS hl)
theorem z_strC (C : zC x g cc own ret nL fr lo) {idx : Nat} (hd : zd cc pc (.getfield idx) 3 q) (hw : Cond.fieldLink own idx "java/lang/String" "coder" "B" ∈ lw_gd) (K : zw x g nL kc ks Q σ q L (zi 0 :: st)) : zw x g nL kc ks Q σ pc L (zr 1002 :: st) := by
  obtain ⟨d, rfl⟩ := hd
  exact fun H locs ls hP hS hl => vk_getf C.1 C.2.1 (C.2.2.2.2.2.2.2.2.2.1.2.2.1.1 0 (by decide)).2.1 hS C.2.2.2.2.1 (C.2.2.2.2.2.1 _ hw) (fun _ h => h) d (K H locs ls hP hS hl)
theorem z_getsC (C : zC x g cc own ret nL fr lo) {idx : Nat} (hd : zd cc pc (.getstatic idx) 3 q) (hw : Cond.fieldLink own idx "java/lang/String" "COMPACT_STRINGS" "Z" ∈ lw_gd) (K : zw x g nL kc ks Q σ q L (zi 1 :: st)) : zw x g nL kc ks Q σ pc L st := by
  obtain ⟨d, rfl⟩ := hd
  exact fun H locs ls hP hS hl => va_gets C.1 C.2.1 C.2.2.2.2.2.2.2.2.2.1.2.2.2.1 hS C.2.2.2.2.1 (C.2.2.2.2.2.1 _ hw) (fun _ h => h) d (K H locs ls hP hS hl)
theorem z_getsF (C : zC x g cc own ret nL fr lo) {idx : Nat} (hd : zd cc pc (.getstatic idx) 3 q) (hw : Cond.fieldLink own idx "jdk/internal/util/Preconditions" "SIOOBE_FORMATTER" "Ljava/util/function/BiFunction;" ∈ lw_gd) (K : zw x g nL kc ks Q σ q L (zr (g.2.2.2 5) :: st)) : zw x g nL kc ks Q σ pc L st := by
  obtain ⟨d, rfl⟩ := hd
  exact fun H locs ls hP hS hl => va_gets C.1 C.2.1 C.2.2.2.2.2.2.2.2.2.1.2.2.2.2 hS C.2.2.2.2.1 (C.2.2.2.2.2.1 _ hw) (fun _ h => h) d (K H locs ls hP hS hl)
theorem z_ldcS (C : zC x g cc own ret nL fr lo) (ho : own = "GlassTax$Reader") (hd : zd cc pc (.ldc 69) 2 q) (K : zw x g nL kc ks Q σ q L (zr 1002 :: st)) : zw x g nL kc ks Q σ pc L st := by
  obtain ⟨d, rfl⟩ := hd
  subst ho
  exact fun H locs ls hP hS hl => va_ldcS C.1 C.2.1 C.2.2.2.2.1 C.2.2.2.2.2.2.2.2.2.2.2.1 d (K H locs ls hP hS hl)
theorem z_callT (C : zC x g cc own ret nL fr lo) {y : MethodName} {cc' : ByteArray} {nL' : Nat} {ret' : Option FieldType} {fr' lo' idx n : Nat} {as : List ZV} {v : Option ZV} {σ1 : ZS} {st' : List ZV} (hd : zd cc pc (.invokevirtual idx) 3 q) (hw : Cond.methodLink own idx y ∈ lw_gd) (hy : zYV y cc' nL' ret' n) (hcls : y.cls = "java/lang/String") (hT : zT x.2.1 g y cc' nL' ret' fr' lo' (zr 1002 :: as) σ v σ1)
    (hn : as.length = n) (hst : as.reverse ++ zr 1002 :: st = st') (hrm : (st.map fun v => if zlong (some v) = true then 2 else 1).sum ≤ 8) (hR : fr' + 1 ≤ fr ∧ 8 + (nL' + 11) + lo' ≤ lo) (hk : kc ≤ x.2.2.2.1.cells ∧ ks ≤ x.2.2.2.1.slots)
    (K : zw x g nL kc ks Q σ1 q L (v.toList ++ st)) : zw x g nL kc ks Q σ pc L st' := by
  obtain ⟨d, rfl⟩ := hd
  subst hst
  obtain ⟨⟨y1, y2, y3, y4⟩, y5, y6⟩ := hy
  intro H locs ls hP hS hl
  have hts := C.2.2.2.2.2.1
  refine z_ran hS hl (va_runV (b := g.2.2.2 2) (As := as.map (zval g)) (n := n) ⟨C.1, C.2.1, C.2.2.2.1, C.2.2.2.2.1, hts⟩ hT ⟨⟨rfl, rfl, Nat.le_trans hR.1 C.2.2.2.2.2.2.2.1.1, Nat.le_trans hR.2 C.2.2.2.2.2.2.2.1.2, pay_in hts (fun w hw => by
      rcases List.mem_cons.mp hw with rfl | h
      · exact lw_gdIn _ y1
      · exact lw_gdIn _ h), List.mem_cons_self, hts _ y1, hts _ y2, y3, zY.params ⟨y1, y2, y3, y4⟩, hts _ hw⟩, hts _ y5, hts _ y6⟩ ⟨z_blind, ?_, fun U hU hW => ⟨rfl, by rw [hU]; exact hP, C.2.2.2.2.2.2.2.2.go hS hU hW⟩⟩ rfl (by rw [List.length_map]; exact hn) hl.1 ?_ (lv_room (z_room hrm)) d hk) K
  · rw [hcls]
    exact vk_recv C.2.2.2.2.2.2.2.2.2.1.2.2.1 (i := 0) (by decide) hS
  · show (as.reverse ++ zr 1002 :: st).map (zval g) = _
    rw [List.map_append, List.map_reverse, List.map_cons]
    rfl
theorem z_callTi (C : zC x g cc own ret nL fr lo) {y : MethodName} {cc' : ByteArray} {nL' : Nat} {ret' : Option FieldType} {fr' lo' idx n : Nat} {as : List ZV} {rr : Int32} {σ1 : ZS} {st' : List ZV} (hd : zd cc pc (.invokevirtual idx) 3 q) (hw : Cond.methodLink own idx y ∈ lw_gd) (hy : zYV y cc' nL' ret' n) (hcls : y.cls = "java/lang/String") (hT : zT x.2.1 g y cc' nL' ret' fr' lo' (zr 1002 :: as) σ (some (zi rr)) σ1)
    (hn : as.length = n) (hst : as.reverse ++ zr 1002 :: st = st') (hrm : (st.map fun v => if zlong (some v) = true then 2 else 1).sum ≤ 8) (hR : fr' + 1 ≤ fr ∧ 8 + (nL' + 11) + lo' ≤ lo) (hk : kc ≤ x.2.2.2.1.cells ∧ ks ≤ x.2.2.2.1.slots)
    (K : zw x g nL kc ks Q σ1 q L (zi rr :: st)) : zw x g nL kc ks Q σ pc L st' := z_callT (v := some (zi rr)) C hd hw hy hcls hT hn hst hrm hR hk K
end
end
section
/-! words, field facts, constants, shapes (printed by wip/whole/gen/build_parts.py) -/
def RJA : String := "java/util/Arrays"
def RJS : String := "java/lang/String"
def RJL : String := "java/lang/StringLatin1"
def RJP : String := "jdk/internal/util/Preconditions"
theorem zwc1 {w : Cond} (i : Nat) (h : tables_1_1[i]? = some w) (hg : goodWord w = true) : w ∈ lw_gd := List.mem_filter.mpr ⟨List.mem_append_right _ (List.mem_append_left _ (List.mem_of_getElem? h)), hg⟩
theorem zwc2 {w : Cond} (i : Nat) (h : tables_1_2[i]? = some w) (hg : goodWord w = true) : w ∈ lw_gd := List.mem_filter.mpr ⟨List.mem_append_right _ (List.mem_append_right _ (List.mem_append_left _ (List.mem_of_getElem? h))), hg⟩
theorem zwc3 {w : Cond} (i : Nat) (h : tables_1_3[i]? = some w) (hg : goodWord w = true) : w ∈ lw_gd := List.mem_filter.mpr ⟨List.mem_append_right _ (List.mem_append_right _ (List.mem_append_right _ (List.mem_append_left _ (List.mem_of_getElem? h)))), hg⟩
theorem zwc4 {w : Cond} (i : Nat) (h : tables_1_4[i]? = some w) (hg : goodWord w = true) : w ∈ lw_gd := List.mem_filter.mpr ⟨List.mem_append_right _ (List.mem_append_right _ (List.mem_append_right _ (List.mem_append_right _ (List.mem_append_left _ (List.mem_of_getElem? h))))), hg⟩
theorem zwc5 {w : Cond} (i : Nat) (h : tables_1_5[i]? = some w) (hg : goodWord w = true) : w ∈ lw_gd := List.mem_filter.mpr ⟨List.mem_append_right _ (List.mem_append_right _ (List.mem_append_right _ (List.mem_append_right _ (List.mem_append_right _ (List.mem_append_left _ (List.mem_of_getElem? h)))))), hg⟩
theorem zwc6 {w : Cond} (i : Nat) (h : tables_1_6[i]? = some w) (hg : goodWord w = true) : w ∈ lw_gd := List.mem_filter.mpr ⟨List.mem_append_right _ (List.mem_append_right _ (List.mem_append_right _ (List.mem_append_right _ (List.mem_append_right _ (List.mem_append_right _ (List.mem_of_getElem? h)))))), hg⟩
theorem zmaxw : Cond.static Lib.Math.max.name ∈ lw_gd ∧ Cond.initialized "java/lang/Math" ∈ lw_gd ∧ Cond.code Lib.Math.max.name Lib.Math.max.code 2 (some .int) ∈ lw_gd := ⟨zwc2 207 rfl rfl, zwc1 12 rfl rfl, zwc2 208 rfl rfl⟩
theorem zminw : Cond.static Lib.Math.min.name ∈ lw_gd ∧ Cond.initialized "java/lang/Math" ∈ lw_gd ∧ Cond.code Lib.Math.min.name Lib.Math.min.code 2 (some .int) ∈ lw_gd := ⟨zwc2 204 rfl rfl, zwc1 12 rfl rfl, zwc2 205 rfl rfl⟩
theorem zcopyw : Cond.native arraycopyName ∈ lw_gd ∧ Cond.static arraycopyName ∈ lw_gd ∧ Cond.initialized "java/lang/System" ∈ lw_gd := ⟨zwc3 89 rfl rfl, zwc3 88 rfl rfl, zwc1 17 rfl rfl⟩
theorem zshape {κ : Nat} {p : Nat → Prop} (hd : ∀ t, t < 119 → zsh t = κ → p t) (h0 : κ ≠ 0) {t : Nat} (h : zsh t = κ) : p t := hd t (zsh_lt (by omega)).2 h
theorem zelem {n : Nat} {i : Int32} {κ : Nat} {p : Nat → Nat → Prop} (hd : ∀ t, t < 119 → zsh t = κ → ∀ j, j < n → p t j) (hi : zin i n) : ∀ t, t < 119 → zsh t = κ → p t i.toNatClampNeg := fun t ht h => hd t ht h _ (by
  have : i.toNatClampNeg = i.toInt.toNat := rfl
  omega)
-- methods
abbrev b8_error : ByteArray := prog_1_method_42_code
def y8_error : MethodName := ⟨R8, "error", "(I)I"⟩
theorem yy8_error : zYV y8_error b8_error 2 (some .int) 1 := ⟨⟨zwc2 71 rfl rfl, (zwc1 1 rfl rfl), ⟨by decide +kernel, by decide +kernel⟩, by decide +kernel⟩, (zwc2 70 rfl rfl), (zws 0 rfl rfl)⟩
theorem yc8_error : zYC y8_error 8 := ⟨by decide, T8, 11, rfl⟩
abbrev b0_isOne : ByteArray := prog_2_method_3_code
def y0_isOne : MethodName := ⟨R0, "isOne", "(I)Z"⟩
theorem yy0_isOne : zYV y0_isOne b0_isOne 4 (some .boolean) 1 := ⟨⟨zwc2 128 rfl rfl, (zwc1 4 rfl rfl), ⟨by decide +kernel, by decide +kernel⟩, by decide +kernel⟩, (zwc2 126 rfl rfl), (zwc2 127 rfl rfl)⟩
theorem yc0_isOne : zYC y0_isOne 0 := ⟨by decide, T0, 5, rfl⟩
abbrev b5_glassOf : ByteArray := prog_7_method_3_code
def y5_glassOf : MethodName := ⟨R5, "glassOf", "(I)LGlassTax$Glass;"⟩
theorem yy5_glassOf : zYV y5_glassOf b5_glassOf 2 (some (.object "GlassTax$Glass")) 1 := ⟨⟨zwc2 84 rfl rfl, (zwc1 2 rfl rfl), ⟨by decide +kernel, by decide +kernel⟩, by decide +kernel⟩, (zwc2 82 rfl rfl), (zwc2 83 rfl rfl)⟩
theorem yc5_glassOf : zYC y5_glassOf 5 := ⟨by decide, T5, 12, rfl⟩
abbrev b8_as : ByteArray := prog_1_method_6_code
def y8_as : MethodName := ⟨R8, "as", "(II)I"⟩
theorem yy8_as : zYV y8_as b8_as 4 (some .int) 2 := ⟨⟨zwc2 124 rfl rfl, (zwc1 1 rfl rfl), ⟨by decide +kernel, by decide +kernel⟩, by decide +kernel⟩, (zwc2 122 rfl rfl), (zwc2 123 rfl rfl)⟩
theorem yc8_as : zYC y8_as 8 := ⟨by decide, T8, 11, rfl⟩
abbrev b8_isNoCell : ByteArray := prog_1_method_45_code
def y8_isNoCell : MethodName := ⟨R8, "isNoCell", "(I)Z"⟩
theorem yy8_isNoCell : zYS y8_isNoCell b8_isNoCell 1 (some .boolean) 1 := ⟨⟨zwc2 64 rfl rfl, (zwc1 1 rfl rfl), ⟨by decide +kernel, by decide +kernel⟩, by decide +kernel⟩, (zwc2 63 rfl rfl)⟩
abbrev b8_isNoWay : ByteArray := prog_1_method_46_code
def y8_isNoWay : MethodName := ⟨R8, "isNoWay", "(I)Z"⟩
theorem yy8_isNoWay : zYS y8_isNoWay b8_isNoWay 1 (some .boolean) 1 := ⟨⟨zwc2 101 rfl rfl, (zwc1 1 rfl rfl), ⟨by decide +kernel, by decide +kernel⟩, by decide +kernel⟩, (zwc2 100 rfl rfl)⟩
abbrev b1_cellAt : ByteArray := prog_3_method_6_code
def y1_cellAt : MethodName := ⟨R1, "cellAt", "(I)I"⟩
theorem yy1_cellAt : zYV y1_cellAt b1_cellAt 2 (some .int) 1 := ⟨⟨zwc3 140 rfl rfl, (zwc1 7 rfl rfl), ⟨by decide +kernel, by decide +kernel⟩, by decide +kernel⟩, (zwc3 138 rfl rfl), (zwc3 139 rfl rfl)⟩
theorem yc1_cellAt : zYC y1_cellAt 1 := ⟨by decide, T1, 5, rfl⟩
abbrev b0_roundFrom : ByteArray := prog_2_method_6_code
def y0_roundFrom : MethodName := ⟨R0, "roundFrom", "(I)I"⟩
theorem yy0_roundFrom : zYS y0_roundFrom b0_roundFrom 1 (some .int) 1 := ⟨⟨zwc2 116 rfl rfl, (zwc1 4 rfl rfl), ⟨by decide +kernel, by decide +kernel⟩, by decide +kernel⟩, (zwc2 115 rfl rfl)⟩
abbrev b0_byTurn : ByteArray := prog_2_method_5_code
def y0_byTurn : MethodName := ⟨R0, "byTurn", "(I)I"⟩
theorem yy0_byTurn : zYV y0_byTurn b0_byTurn 2 (some .int) 1 := ⟨⟨zwc2 113 rfl rfl, (zwc1 4 rfl rfl), ⟨by decide +kernel, by decide +kernel⟩, by decide +kernel⟩, (zwc2 112 rfl rfl), (zws 1 rfl rfl)⟩
theorem yc0_byTurn : zYC y0_byTurn 0 := ⟨by decide, T0, 5, rfl⟩
abbrev b0_onward : ByteArray := prog_2_method_4_code
def y0_onward : MethodName := ⟨R0, "onward", "(IZ)I"⟩
theorem yy0_onward : zYV y0_onward b0_onward 3 (some .int) 2 := ⟨⟨zwc2 109 rfl rfl, (zwc1 4 rfl rfl), ⟨by decide +kernel, by decide +kernel⟩, by decide +kernel⟩, (zwc2 107 rfl rfl), (zwc2 108 rfl rfl)⟩
theorem yc0_onward : zYC y0_onward 0 := ⟨by decide, T0, 5, rfl⟩
abbrev b1_enter : ByteArray := prog_3_method_3_code
def y1_enter : MethodName := ⟨R1, "enter", "(I)V"⟩
theorem yy1_enter : zYV y1_enter b1_enter 2 none 1 := ⟨⟨zwc2 169 rfl rfl, (zwc1 7 rfl rfl), ⟨by decide +kernel, by decide +kernel⟩, by decide +kernel⟩, (zwc2 168 rfl rfl), (zws 2 rfl rfl)⟩
theorem yc1_enter : zYC y1_enter 1 := ⟨by decide, T1, 5, rfl⟩
abbrev b1_meet : ByteArray := prog_3_method_4_code
def y1_meet : MethodName := ⟨R1, "meet", "(I)V"⟩
theorem yy1_meet : zYV y1_meet b1_meet 2 none 1 := ⟨⟨zwc2 179 rfl rfl, (zwc1 7 rfl rfl), ⟨by decide +kernel, by decide +kernel⟩, by decide +kernel⟩, (zwc2 178 rfl rfl), (zws 3 rfl rfl)⟩
theorem yc1_meet : zYC y1_meet 1 := ⟨by decide, T1, 5, rfl⟩
abbrev b1_nextCell : ByteArray := prog_3_method_5_code
def y1_nextCell : MethodName := ⟨R1, "nextCell", "(II)I"⟩
theorem yy1_nextCell : zYS y1_nextCell b1_nextCell 2 (some .int) 2 := ⟨⟨zwc2 172 rfl rfl, (zwc1 7 rfl rfl), ⟨by decide +kernel, by decide +kernel⟩, by decide +kernel⟩, (zwc2 171 rfl rfl)⟩
abbrev b5_glassAt : ByteArray := prog_7_method_6_code
def y5_glassAt : MethodName := ⟨R5, "glassAt", "(I)I"⟩
theorem yy5_glassAt : zYV y5_glassAt b5_glassAt 2 (some .int) 1 := ⟨⟨zwc2 76 rfl rfl, (zwc1 2 rfl rfl), ⟨by decide +kernel, by decide +kernel⟩, by decide +kernel⟩, (zwc2 74 rfl rfl), (zwc2 75 rfl rfl)⟩
theorem yc5_glassAt : zYC y5_glassAt 5 := ⟨by decide, T5, 12, rfl⟩
abbrev b5_isNight : ByteArray := prog_7_method_13_code
def y5_isNight : MethodName := ⟨R5, "isNight", "()Z"⟩
theorem yy5_isNight : zYV y5_isNight b5_isNight 1 (some .boolean) 0 := ⟨⟨zwc2 105 rfl rfl, (zwc1 2 rfl rfl), ⟨by decide +kernel, by decide +kernel⟩, by decide +kernel⟩, (zwc2 103 rfl rfl), (zwc2 104 rfl rfl)⟩
theorem yc5_isNight : zYC y5_isNight 5 := ⟨by decide, T5, 12, rfl⟩
abbrev b1_follow : ByteArray := prog_3_method_2_code
def y1_follow : MethodName := ⟨R1, "follow", "(LGlassTax$Street;II)V"⟩
theorem yy1_follow : zYV y1_follow b1_follow 11 none 3 := ⟨⟨zwc2 164 rfl rfl, (zwc1 7 rfl rfl), ⟨by decide +kernel, by decide +kernel⟩, by decide +kernel⟩, (zwc2 162 rfl rfl), (zwc2 163 rfl rfl)⟩
theorem yc1_follow : zYC y1_follow 1 := ⟨by decide, T1, 5, rfl⟩
abbrev b8_at : ByteArray := prog_1_method_22_code
def y8_at : MethodName := ⟨R8, "at", "(III)I"⟩
theorem yy8_at : zYV y8_at b8_at 4 (some .int) 3 := ⟨⟨zwc3 144 rfl rfl, (zwc1 1 rfl rfl), ⟨by decide +kernel, by decide +kernel⟩, by decide +kernel⟩, (zwc3 142 rfl rfl), (zwc3 143 rfl rfl)⟩
theorem yc8_at : zYC y8_at 8 := ⟨by decide, T8, 11, rfl⟩
abbrev b8_isNoKm : ByteArray := prog_1_method_48_code
def y8_isNoKm : MethodName := ⟨R8, "isNoKm", "(I)Z"⟩
theorem yy8_isNoKm : zYS y8_isNoKm b8_isNoKm 1 (some .boolean) 1 := ⟨⟨zwc2 61 rfl rfl, (zwc1 1 rfl rfl), ⟨by decide +kernel, by decide +kernel⟩, by decide +kernel⟩, (zwc2 60 rfl rfl)⟩
abbrev b8_become : ByteArray := prog_1_method_5_code
def y8_become : MethodName := ⟨R8, "become", "(II)I"⟩
theorem yy8_become : zYV y8_become b8_become 5 (some .int) 2 := ⟨⟨zwc2 120 rfl rfl, (zwc1 1 rfl rfl), ⟨by decide +kernel, by decide +kernel⟩, by decide +kernel⟩, (zwc2 118 rfl rfl), (zwc2 119 rfl rfl)⟩
theorem yc8_become : zYC y8_become 8 := ⟨by decide, T8, 11, rfl⟩
abbrev b7_tracedAt : ByteArray := prog_9_method_3_code
def y7_tracedAt : MethodName := ⟨R7, "tracedAt", "(I)I"⟩
theorem yy7_tracedAt : zYV y7_tracedAt b7_tracedAt 2 (some .int) 1 := ⟨⟨zwc4 24 rfl rfl, (zwc1 9 rfl rfl), ⟨by decide +kernel, by decide +kernel⟩, by decide +kernel⟩, (zwc4 22 rfl rfl), (zwc4 23 rfl rfl)⟩
theorem yc7_tracedAt : zYC y7_tracedAt 7 := ⟨by decide, T7, 6, rfl⟩
abbrev b8_body : ByteArray := prog_1_method_30_code
def y8_body : MethodName := ⟨R8, "body", "(I)I"⟩
theorem yy8_body : zYV y8_body b8_body 2 (some .int) 1 := ⟨⟨zwc4 20 rfl rfl, (zwc1 1 rfl rfl), ⟨by decide +kernel, by decide +kernel⟩, by decide +kernel⟩, (zwc4 18 rfl rfl), (zwc4 19 rfl rfl)⟩
theorem yc8_body : zYC y8_body 8 := ⟨by decide, T8, 11, rfl⟩
abbrev b5_personOf : ByteArray := prog_7_method_4_code
def y5_personOf : MethodName := ⟨R5, "personOf", "(I)LGlassTax$Person;"⟩
theorem yy5_personOf : zYV y5_personOf b5_personOf 2 (some (.object "GlassTax$Person")) 1 := ⟨⟨zwc2 151 rfl rfl, (zwc1 2 rfl rfl), ⟨by decide +kernel, by decide +kernel⟩, by decide +kernel⟩, (zwc2 149 rfl rfl), (zwc2 150 rfl rfl)⟩
theorem yc5_personOf : zYC y5_personOf 5 := ⟨by decide, T5, 12, rfl⟩
abbrev b5_waitingAt : ByteArray := prog_7_method_12_code
def y5_waitingAt : MethodName := ⟨R5, "waitingAt", "(I)I"⟩
theorem yy5_waitingAt : zYV y5_waitingAt b5_waitingAt 2 (some .int) 1 := ⟨⟨zwc4 82 rfl rfl, (zwc1 2 rfl rfl), ⟨by decide +kernel, by decide +kernel⟩, by decide +kernel⟩, (zwc4 80 rfl rfl), (zwc4 81 rfl rfl)⟩
theorem yc5_waitingAt : zYC y5_waitingAt 5 := ⟨by decide, T5, 12, rfl⟩
abbrev b8_check : ByteArray := prog_1_method_39_code
def y8_check : MethodName := ⟨R8, "check", "()I"⟩
theorem yy8_check : zYV y8_check b8_check 4 (some .int) 0 := ⟨⟨zwc4 78 rfl rfl, (zwc1 1 rfl rfl), ⟨by decide +kernel, by decide +kernel⟩, by decide +kernel⟩, (zwc4 76 rfl rfl), (zwc4 77 rfl rfl)⟩
theorem yc8_check : zYC y8_check 8 := ⟨by decide, T8, 11, rfl⟩
abbrev b8_count : ByteArray := prog_1_method_40_code
def y8_count : MethodName := ⟨R8, "count", "(I)I"⟩
theorem yy8_count : zYV y8_count b8_count 2 (some .int) 1 := ⟨⟨zwc4 86 rfl rfl, (zwc1 1 rfl rfl), ⟨by decide +kernel, by decide +kernel⟩, by decide +kernel⟩, (zwc4 84 rfl rfl), (zwc4 85 rfl rfl)⟩
theorem yc8_count : zYC y8_count 8 := ⟨by decide, T8, 11, rfl⟩
abbrev b5_addByte : ByteArray := prog_7_method_10_code
def y5_addByte : MethodName := ⟨R5, "addByte", "(I)V"⟩
theorem yy5_addByte : zYV y5_addByte b5_addByte 2 none 1 := ⟨⟨zwc2 230 rfl rfl, (zwc1 2 rfl rfl), ⟨by decide +kernel, by decide +kernel⟩, by decide +kernel⟩, (zwc2 228 rfl rfl), (zwc2 229 rfl rfl)⟩
theorem yc5_addByte : zYC y5_addByte 5 := ⟨by decide, T5, 12, rfl⟩
abbrev b8_feed : ByteArray := prog_1_method_14_code
def y8_feed : MethodName := ⟨R8, "feed", "(JI)I"⟩
theorem yy8_feed : zYV y8_feed b8_feed 5 (some .int) 2 := ⟨⟨zwc2 226 rfl rfl, (zwc1 1 rfl rfl), ⟨by decide +kernel, by decide +kernel⟩, by decide +kernel⟩, (zwc2 224 rfl rfl), (zwc2 225 rfl rfl)⟩
theorem yc8_feed : zYC y8_feed 8 := ⟨by decide, T8, 11, rfl⟩
abbrev b8_writeSpin : ByteArray := prog_1_method_53_code
def y8_writeSpin : MethodName := ⟨R8, "writeSpin", "(III)V"⟩
theorem yy8_writeSpin : zYV y8_writeSpin b8_writeSpin 4 none 3 := ⟨⟨zwc3 194 rfl rfl, (zwc1 1 rfl rfl), ⟨by decide +kernel, by decide +kernel⟩, by decide +kernel⟩, (zwc3 193 rfl rfl), (zws 15 rfl rfl)⟩
theorem yc8_writeSpin : zYC y8_writeSpin 8 := ⟨by decide, T8, 11, rfl⟩
abbrev b1_seesCell : ByteArray := prog_3_method_8_code
def y1_seesCell : MethodName := ⟨R1, "seesCell", "(I)Z"⟩
theorem yy1_seesCell : zYV y1_seesCell b1_seesCell 3 (some .boolean) 1 := ⟨⟨zwc3 152 rfl rfl, (zwc1 7 rfl rfl), ⟨by decide +kernel, by decide +kernel⟩, by decide +kernel⟩, (zwc3 150 rfl rfl), (zwc3 151 rfl rfl)⟩
theorem yc1_seesCell : zYC y1_seesCell 1 := ⟨by decide, T1, 5, rfl⟩
abbrev b8_isSeenByOneSpin : ByteArray := prog_1_method_52_code
def y8_isSeenByOneSpin : MethodName := ⟨R8, "isSeenByOneSpin", "(LGlassTax$Person;III)Z"⟩
theorem yy8_isSeenByOneSpin : zYV y8_isSeenByOneSpin b8_isSeenByOneSpin 9 (some .boolean) 4 := ⟨⟨zwc3 190 rfl rfl, (zwc1 1 rfl rfl), ⟨by decide +kernel, by decide +kernel⟩, by decide +kernel⟩, (zwc3 189 rfl rfl), (zws 14 rfl rfl)⟩
theorem yc8_isSeenByOneSpin : zYC y8_isSeenByOneSpin 8 := ⟨by decide, T8, 11, rfl⟩
abbrev b8_isSeenByTwoSpins : ByteArray := prog_1_method_51_code
def y8_isSeenByTwoSpins : MethodName := ⟨R8, "isSeenByTwoSpins", "(LGlassTax$Person;I)Z"⟩
theorem yy8_isSeenByTwoSpins : zYV y8_isSeenByTwoSpins b8_isSeenByTwoSpins 7 (some .boolean) 2 := ⟨⟨zwc3 198 rfl rfl, (zwc1 1 rfl rfl), ⟨by decide +kernel, by decide +kernel⟩, by decide +kernel⟩, (zwc3 197 rfl rfl), (zws 16 rfl rfl)⟩
theorem yc8_isSeenByTwoSpins : zYC y8_isSeenByTwoSpins 8 := ⟨by decide, T8, 11, rfl⟩
abbrev b8_fewestSpins : ByteArray := prog_1_method_50_code
def y8_fewestSpins : MethodName := ⟨R8, "fewestSpins", "(LGlassTax$Person;I)I"⟩
theorem yy8_fewestSpins : zYV y8_fewestSpins b8_fewestSpins 3 (some .int) 2 := ⟨⟨zwc3 186 rfl rfl, (zwc1 1 rfl rfl), ⟨by decide +kernel, by decide +kernel⟩, by decide +kernel⟩, (zwc3 185 rfl rfl), (zws 13 rfl rfl)⟩
theorem yc8_fewestSpins : zYC y8_fewestSpins 8 := ⟨by decide, T8, 11, rfl⟩
abbrev b4_numberAt : ByteArray := prog_6_method_5_code
def y4_numberAt : MethodName := ⟨R4, "numberAt", "(I)I"⟩
theorem yy4_numberAt : zYV y4_numberAt b4_numberAt 2 (some .int) 1 := ⟨⟨zwc3 218 rfl rfl, (zwc1 10 rfl rfl), ⟨by decide +kernel, by decide +kernel⟩, by decide +kernel⟩, (zwc3 216 rfl rfl), (zwc3 217 rfl rfl)⟩
theorem yc4_numberAt : zYC y4_numberAt 4 := ⟨by decide, T4, 3, rfl⟩
abbrev b8_isLook : ByteArray := prog_1_method_49_code
def y8_isLook : MethodName := ⟨R8, "isLook", "(LGlassTax$Sheet;)Z"⟩
theorem yy8_isLook : zYV y8_isLook b8_isLook 3 (some .boolean) 1 := ⟨⟨zwc3 214 rfl rfl, (zwc1 1 rfl rfl), ⟨by decide +kernel, by decide +kernel⟩, by decide +kernel⟩, (zwc3 213 rfl rfl), (zws 18 rfl rfl)⟩
theorem yc8_isLook : zYC y8_isLook 8 := ⟨by decide, T8, 11, rfl⟩
abbrev b8_manyOrLeast : ByteArray := prog_1_method_43_code
def y8_manyOrLeast : MethodName := ⟨R8, "manyOrLeast", "(III)I"⟩
theorem yy8_manyOrLeast : zYV y8_manyOrLeast b8_manyOrLeast 4 (some .int) 3 := ⟨⟨zwc3 178 rfl rfl, (zwc1 1 rfl rfl), ⟨by decide +kernel, by decide +kernel⟩, by decide +kernel⟩, (zwc3 177 rfl rfl), (zws 12 rfl rfl)⟩
theorem yc8_manyOrLeast : zYC y8_manyOrLeast 8 := ⟨by decide, T8, 11, rfl⟩
abbrev b8_sheetOf : ByteArray := prog_1_method_44_code
def y8_sheetOf : MethodName := ⟨R8, "sheetOf", "(I)LGlassTax$Sheet;"⟩
theorem yy8_sheetOf : zYV y8_sheetOf b8_sheetOf 2 (some (.object "GlassTax$Sheet")) 1 := ⟨⟨zwc3 210 rfl rfl, (zwc1 1 rfl rfl), ⟨by decide +kernel, by decide +kernel⟩, by decide +kernel⟩, (zwc3 209 rfl rfl), (zws 17 rfl rfl)⟩
theorem yc8_sheetOf : zYC y8_sheetOf 8 := ⟨by decide, T8, 11, rfl⟩
abbrev b8_fits : ByteArray := prog_1_method_28_code
def y8_fits : MethodName := ⟨R8, "fits", "(II)I"⟩
theorem yy8_fits : zYV y8_fits b8_fits 7 (some .int) 2 := ⟨⟨zwc3 206 rfl rfl, (zwc1 1 rfl rfl), ⟨by decide +kernel, by decide +kernel⟩, by decide +kernel⟩, (zwc3 204 rfl rfl), (zwc3 205 rfl rfl)⟩
theorem yc8_fits : zYC y8_fits 8 := ⟨by decide, T8, 11, rfl⟩
abbrev b8_isNoTurn : ByteArray := prog_1_method_47_code
def y8_isNoTurn : MethodName := ⟨R8, "isNoTurn", "(I)Z"⟩
theorem yy8_isNoTurn : zYS y8_isNoTurn b8_isNoTurn 1 (some .boolean) 1 := ⟨⟨zwc2 67 rfl rfl, (zwc1 1 rfl rfl), ⟨by decide +kernel, by decide +kernel⟩, by decide +kernel⟩, (zwc2 66 rfl rfl)⟩
abbrev b5_hangGlass : ByteArray := prog_7_method_8_code
def y5_hangGlass : MethodName := ⟨R5, "hangGlass", "(II)V"⟩
theorem yy5_hangGlass : zYV y5_hangGlass b5_hangGlass 4 none 2 := ⟨⟨zwc2 88 rfl rfl, (zwc1 2 rfl rfl), ⟨by decide +kernel, by decide +kernel⟩, by decide +kernel⟩, (zwc2 86 rfl rfl), (zwc2 87 rfl rfl)⟩
theorem yc5_hangGlass : zYC y5_hangGlass 5 := ⟨by decide, T5, 12, rfl⟩
abbrev b5_addGlass : ByteArray := prog_7_method_7_code
def y5_addGlass : MethodName := ⟨R5, "addGlass", "(III)I"⟩
theorem yy5_addGlass : zYV y5_addGlass b5_addGlass 6 (some .int) 3 := ⟨⟨zwc2 80 rfl rfl, (zwc1 2 rfl rfl), ⟨by decide +kernel, by decide +kernel⟩, by decide +kernel⟩, (zwc2 78 rfl rfl), (zwc2 79 rfl rfl)⟩
theorem yc5_addGlass : zYC y5_addGlass 5 := ⟨by decide, T5, 12, rfl⟩
abbrev b8_glass : ByteArray := prog_1_method_2_code
def y8_glass : MethodName := ⟨R8, "glass", "(III)I"⟩
theorem yy8_glass : zYV y8_glass b8_glass 4 (some .int) 3 := ⟨⟨zwc2 58 rfl rfl, (zwc1 1 rfl rfl), ⟨by decide +kernel, by decide +kernel⟩, by decide +kernel⟩, (zwc2 56 rfl rfl), (zwc2 57 rfl rfl)⟩
theorem yc8_glass : zYC y8_glass 8 := ⟨by decide, T8, 11, rfl⟩
abbrev b8_glassIs : ByteArray := prog_1_method_3_code
def y8_glassIs : MethodName := ⟨R8, "glassIs", "(II)I"⟩
theorem yy8_glassIs : zYV y8_glassIs b8_glassIs 4 (some .int) 2 := ⟨⟨zwc2 93 rfl rfl, (zwc1 1 rfl rfl), ⟨by decide +kernel, by decide +kernel⟩, by decide +kernel⟩, (zwc2 91 rfl rfl), (zwc2 92 rfl rfl)⟩
theorem yc8_glassIs : zYC y8_glassIs 8 := ⟨by decide, T8, 11, rfl⟩
abbrev b8_hang : ByteArray := prog_1_method_8_code
def y8_hang : MethodName := ⟨R8, "hang", "(II)I"⟩
theorem yy8_hang : zYV y8_hang b8_hang 6 (some .int) 2 := ⟨⟨zwc2 138 rfl rfl, (zwc1 1 rfl rfl), ⟨by decide +kernel, by decide +kernel⟩, by decide +kernel⟩, (zwc2 136 rfl rfl), (zwc2 137 rfl rfl)⟩
theorem yc8_hang : zYC y8_hang 8 := ⟨by decide, T8, 11, rfl⟩
abbrev b8_hour : ByteArray := prog_1_method_13_code
def y8_hour : MethodName := ⟨R8, "hour", "(I)I"⟩
theorem yy8_hour : zYV y8_hour b8_hour 3 (some .int) 1 := ⟨⟨zwc2 222 rfl rfl, (zwc1 1 rfl rfl), ⟨by decide +kernel, by decide +kernel⟩, by decide +kernel⟩, (zwc2 220 rfl rfl), (zwc2 221 rfl rfl)⟩
theorem yc8_hour : zYC y8_hour 8 := ⟨by decide, T8, 11, rfl⟩
abbrev b1_metAt : ByteArray := prog_3_method_7_code
def y1_metAt : MethodName := ⟨R1, "metAt", "(I)I"⟩
theorem yy1_metAt : zYV y1_metAt b1_metAt 2 (some .int) 1 := ⟨⟨zwc2 187 rfl rfl, (zwc1 7 rfl rfl), ⟨by decide +kernel, by decide +kernel⟩, by decide +kernel⟩, (zwc2 185 rfl rfl), (zwc2 186 rfl rfl)⟩
theorem yc1_metAt : zYC y1_metAt 1 := ⟨by decide, T1, 5, rfl⟩
abbrev b5_countMeetings : ByteArray := prog_7_method_18_code
def y5_countMeetings : MethodName := ⟨R5, "countMeetings", "(LGlassTax$Look;)V"⟩
theorem yy5_countMeetings : zYV y5_countMeetings b5_countMeetings 4 none 1 := ⟨⟨zwc3 113 rfl rfl, (zwc1 2 rfl rfl), ⟨by decide +kernel, by decide +kernel⟩, by decide +kernel⟩, (zwc3 112 rfl rfl), (zws 10 rfl rfl)⟩
theorem yc5_countMeetings : zYC y5_countMeetings 5 := ⟨by decide, T5, 12, rfl⟩
abbrev b5_textOf : ByteArray := prog_7_method_5_code
def y5_textOf : MethodName := ⟨R5, "textOf", "(I)LGlassTax$Text;"⟩
theorem yy5_textOf : zYV y5_textOf b5_textOf 2 (some (.object "GlassTax$Text")) 1 := ⟨⟨zwc2 195 rfl rfl, (zwc1 2 rfl rfl), ⟨by decide +kernel, by decide +kernel⟩, by decide +kernel⟩, (zwc2 193 rfl rfl), (zwc2 194 rfl rfl)⟩
theorem yc5_textOf : zYC y5_textOf 5 := ⟨by decide, T5, 12, rfl⟩
abbrev b6_joined : ByteArray := prog_8_method_5_code
def y6_joined : MethodName := ⟨R6, "joined", "(III)I"⟩
theorem yy6_joined : zYS y6_joined b6_joined 3 (some .int) 3 := ⟨⟨zwc2 202 rfl rfl, (zwc1 6 rfl rfl), ⟨by decide +kernel, by decide +kernel⟩, by decide +kernel⟩, (zwc2 201 rfl rfl)⟩
abbrev b6_worth : ByteArray := prog_8_method_4_code
def y6_worth : MethodName := ⟨R6, "worth", "(III)I"⟩
theorem yy6_worth : zYV y6_worth b6_worth 7 (some .int) 3 := ⟨⟨zwc2 199 rfl rfl, (zwc1 6 rfl rfl), ⟨by decide +kernel, by decide +kernel⟩, by decide +kernel⟩, (zwc2 197 rfl rfl), (zwc2 198 rfl rfl)⟩
theorem yc6_worth : zYC y6_worth 6 := ⟨by decide, T6, 4, rfl⟩
abbrev b5_given : ByteArray := prog_7_method_14_code
def y5_given : MethodName := ⟨R5, "given", "(IIII)I"⟩
theorem yy5_given : zYV y5_given b5_given 7 (some .int) 4 := ⟨⟨zwc2 191 rfl rfl, (zwc1 2 rfl rfl), ⟨by decide +kernel, by decide +kernel⟩, by decide +kernel⟩, (zwc2 189 rfl rfl), (zwc2 190 rfl rfl)⟩
theorem yc5_given : zYC y5_given 5 := ⟨by decide, T5, 12, rfl⟩
abbrev b5_taxOf : ByteArray := prog_7_method_15_code
def y5_taxOf : MethodName := ⟨R5, "taxOf", "(LGlassTax$Look;)I"⟩
theorem yy5_taxOf : zYV y5_taxOf b5_taxOf 5 (some .int) 1 := ⟨⟨zwc2 183 rfl rfl, (zwc1 2 rfl rfl), ⟨by decide +kernel, by decide +kernel⟩, by decide +kernel⟩, (zwc2 181 rfl rfl), (zwc2 182 rfl rfl)⟩
theorem yc5_taxOf : zYC y5_taxOf 5 := ⟨by decide, T5, 12, rfl⟩
abbrev b5_dueOf : ByteArray := prog_7_method_16_code
def y5_dueOf : MethodName := ⟨R5, "dueOf", "(ILGlassTax$Look;)I"⟩
theorem yy5_dueOf : zYV y5_dueOf b5_dueOf 4 (some .int) 2 := ⟨⟨zwc2 160 rfl rfl, (zwc1 2 rfl rfl), ⟨by decide +kernel, by decide +kernel⟩, by decide +kernel⟩, (zwc2 158 rfl rfl), (zwc2 159 rfl rfl)⟩
theorem yc5_dueOf : zYC y5_dueOf 5 := ⟨by decide, T5, 12, rfl⟩
abbrev b5_passHour : ByteArray := prog_7_method_17_code
def y5_passHour : MethodName := ⟨R5, "passHour", "(LGlassTax$Look;)V"⟩
theorem yy5_passHour : zYV y5_passHour b5_passHour 4 none 1 := ⟨⟨zwc3 107 rfl rfl, (zwc1 2 rfl rfl), ⟨by decide +kernel, by decide +kernel⟩, by decide +kernel⟩, (zwc3 105 rfl rfl), (zwc3 106 rfl rfl)⟩
theorem yc5_passHour : zYC y5_passHour 5 := ⟨by decide, T5, 12, rfl⟩
abbrev b8_hours : ByteArray := prog_1_method_18_code
def y8_hours : MethodName := ⟨R8, "hours", "(I)I"⟩
theorem yy8_hours : zYV y8_hours b8_hours 3 (some .int) 1 := ⟨⟨zwc3 103 rfl rfl, (zwc1 1 rfl rfl), ⟨by decide +kernel, by decide +kernel⟩, by decide +kernel⟩, (zwc3 101 rfl rfl), (zwc3 102 rfl rfl)⟩
theorem yc8_hours : zYC y8_hours 8 := ⟨by decide, T8, 11, rfl⟩
abbrev b0_copyFrom : ByteArray := prog_2_method_2_code
def y0_copyFrom : MethodName := ⟨R0, "copyFrom", "(LGlassTax$Glass;)V"⟩
theorem yy0_copyFrom : zYV y0_copyFrom b0_copyFrom 2 none 1 := ⟨⟨zwc3 164 rfl rfl, (zwc1 4 rfl rfl), ⟨by decide +kernel, by decide +kernel⟩, by decide +kernel⟩, (zwc3 162 rfl rfl), (zwc3 163 rfl rfl)⟩
theorem yc0_copyFrom : zYC y0_copyFrom 0 := ⟨by decide, T0, 5, rfl⟩
abbrev b2_copyFrom : ByteArray := prog_4_method_2_code
def y2_copyFrom : MethodName := ⟨R2, "copyFrom", "(LGlassTax$Person;)V"⟩
theorem yy2_copyFrom : zYV y2_copyFrom b2_copyFrom 2 none 1 := ⟨⟨zwc3 168 rfl rfl, (zwc1 5 rfl rfl), ⟨by decide +kernel, by decide +kernel⟩, by decide +kernel⟩, (zwc3 166 rfl rfl), (zwc3 167 rfl rfl)⟩
theorem yc2_copyFrom : zYC y2_copyFrom 2 := ⟨by decide, T2, 3, rfl⟩
abbrev b6_copyFrom : ByteArray := prog_8_method_2_code
def y6_copyFrom : MethodName := ⟨R6, "copyFrom", "(LGlassTax$Text;)V"⟩
theorem yy6_copyFrom : zYV y6_copyFrom b6_copyFrom 2 none 1 := ⟨⟨zwc3 86 rfl rfl, (zwc1 6 rfl rfl), ⟨by decide +kernel, by decide +kernel⟩, by decide +kernel⟩, (zwc3 84 rfl rfl), (zwc3 85 rfl rfl)⟩
theorem yc6_copyFrom : zYC y6_copyFrom 6 := ⟨by decide, T6, 4, rfl⟩
abbrev b5_copyFrom : ByteArray := prog_7_method_2_code
def y5_copyFrom : MethodName := ⟨R5, "copyFrom", "(LGlassTax$Street;)V"⟩
theorem yy5_copyFrom : zYV y5_copyFrom b5_copyFrom 3 none 1 := ⟨⟨zwc3 160 rfl rfl, (zwc1 2 rfl rfl), ⟨by decide +kernel, by decide +kernel⟩, by decide +kernel⟩, (zwc3 158 rfl rfl), (zwc3 159 rfl rfl)⟩
theorem yc5_copyFrom : zYC y5_copyFrom 5 := ⟨by decide, T5, 12, rfl⟩
abbrev b8_image : ByteArray := prog_1_method_36_code
def y8_image : MethodName := ⟨R8, "image", "()I"⟩
theorem yy8_image : zYV y8_image b8_image 1 (some .int) 0 := ⟨⟨zwc4 62 rfl rfl, (zwc1 1 rfl rfl), ⟨by decide +kernel, by decide +kernel⟩, by decide +kernel⟩, (zwc4 60 rfl rfl), (zwc4 61 rfl rfl)⟩
theorem yc8_image : zYC y8_image 8 := ⟨by decide, T8, 11, rfl⟩
abbrev b8_judge : ByteArray := prog_1_method_35_code
def y8_judge : MethodName := ⟨R8, "judge", "(I)I"⟩
theorem yy8_judge : zYV y8_judge b8_judge 5 (some .int) 1 := ⟨⟨zwc4 58 rfl rfl, (zwc1 1 rfl rfl), ⟨by decide +kernel, by decide +kernel⟩, by decide +kernel⟩, (zwc4 56 rfl rfl), (zwc4 57 rfl rfl)⟩
theorem yc8_judge : zYC y8_judge 8 := ⟨by decide, T8, 11, rfl⟩
abbrev b8_law : ByteArray := prog_1_method_17_code
def y8_law : MethodName := ⟨R8, "law", "(IIII)I"⟩
theorem yy8_law : zYV y8_law b8_law 5 (some .int) 4 := ⟨⟨zwc3 98 rfl rfl, (zwc1 1 rfl rfl), ⟨by decide +kernel, by decide +kernel⟩, by decide +kernel⟩, (zwc3 96 rfl rfl), (zwc3 97 rfl rfl)⟩
theorem yc8_law : zYC y8_law 8 := ⟨by decide, T8, 11, rfl⟩
abbrev b8_look : ByteArray := prog_1_method_21_code
def y8_look : MethodName := ⟨R8, "look", "(III)I"⟩
theorem yy8_look : zYV y8_look b8_look 4 (some .int) 3 := ⟨⟨zwc3 134 rfl rfl, (zwc1 1 rfl rfl), ⟨by decide +kernel, by decide +kernel⟩, by decide +kernel⟩, (zwc3 132 rfl rfl), (zwc3 133 rfl rfl)⟩
theorem yc8_look : zYC y8_look 8 := ⟨by decide, T8, 11, rfl⟩
abbrev b5_draw : ByteArray := prog_7_method_20_code
def y5_draw : MethodName := ⟨R5, "draw", "()I"⟩
theorem yy5_draw : zYV y5_draw b5_draw 1 (some .int) 0 := ⟨⟨zwc3 125 rfl rfl, (zwc1 2 rfl rfl), ⟨by decide +kernel, by decide +kernel⟩, by decide +kernel⟩, (zwc3 124 rfl rfl), (zws 11 rfl rfl)⟩
theorem yc5_draw : zYC y5_draw 5 := ⟨by decide, T5, 12, rfl⟩
abbrev b5_standByDraws : ByteArray := prog_7_method_19_code
def y5_standByDraws : MethodName := ⟨R5, "standByDraws", "()V"⟩
theorem yy5_standByDraws : zYV y5_standByDraws b5_standByDraws 3 none 0 := ⟨⟨zwc3 121 rfl rfl, (zwc1 2 rfl rfl), ⟨by decide +kernel, by decide +kernel⟩, by decide +kernel⟩, (zwc3 119 rfl rfl), (zwc3 120 rfl rfl)⟩
theorem yc5_standByDraws : zYC y5_standByDraws 5 := ⟨by decide, T5, 12, rfl⟩
abbrev b8_loose : ByteArray := prog_1_method_19_code
def y8_loose : MethodName := ⟨R8, "loose", "(I)I"⟩
theorem yy8_loose : zYV y8_loose b8_loose 3 (some .int) 1 := ⟨⟨zwc3 117 rfl rfl, (zwc1 1 rfl rfl), ⟨by decide +kernel, by decide +kernel⟩, by decide +kernel⟩, (zwc3 115 rfl rfl), (zwc3 116 rfl rfl)⟩
theorem yc8_loose : zYC y8_loose 8 := ⟨by decide, T8, 11, rfl⟩
abbrev b4_holds : ByteArray := prog_6_method_3_code
def y4_holds : MethodName := ⟨R4, "holds", "(II)Z"⟩
theorem yy4_holds : zYV y4_holds b4_holds 3 (some .boolean) 2 := ⟨⟨zwc4 49 rfl rfl, (zwc1 10 rfl rfl), ⟨by decide +kernel, by decide +kernel⟩, by decide +kernel⟩, (zwc4 47 rfl rfl), (zwc4 48 rfl rfl)⟩
theorem yc4_holds : zYC y4_holds 4 := ⟨by decide, T4, 3, rfl⟩
abbrev b8_move : ByteArray := prog_1_method_33_code
def y8_move : MethodName := ⟨R8, "move", "(IIIII)I"⟩
theorem yy8_move : zYV y8_move b8_move 8 (some .int) 5 := ⟨⟨zwc4 45 rfl rfl, (zwc1 1 rfl rfl), ⟨by decide +kernel, by decide +kernel⟩, by decide +kernel⟩, (zwc4 43 rfl rfl), (zwc4 44 rfl rfl)⟩
theorem yc8_move : zYC y8_move 8 := ⟨by decide, T8, 11, rfl⟩
abbrev b8_odds : ByteArray := prog_1_method_27_code
def y8_odds : MethodName := ⟨R8, "odds", "(I)I"⟩
theorem yy8_odds : zYV y8_odds b8_odds 5 (some .int) 1 := ⟨⟨zwc3 202 rfl rfl, (zwc1 1 rfl rfl), ⟨by decide +kernel, by decide +kernel⟩, by decide +kernel⟩, (zwc3 200 rfl rfl), (zwc3 201 rfl rfl)⟩
theorem yc8_odds : zYC y8_odds 8 := ⟨by decide, T8, 11, rfl⟩
abbrev b8_pay : ByteArray := prog_1_method_12_code
def y8_pay : MethodName := ⟨R8, "pay", "(II)I"⟩
theorem yy8_pay : zYV y8_pay b8_pay 5 (some .int) 2 := ⟨⟨zwc2 216 rfl rfl, (zwc1 1 rfl rfl), ⟨by decide +kernel, by decide +kernel⟩, by decide +kernel⟩, (zwc2 214 rfl rfl), (zwc2 215 rfl rfl)⟩
theorem yc8_pay : zYC y8_pay 8 := ⟨by decide, T8, 11, rfl⟩
abbrev b5_addPerson : ByteArray := prog_7_method_9_code
def y5_addPerson : MethodName := ⟨R5, "addPerson", "(II)I"⟩
theorem yy5_addPerson : zYV y5_addPerson b5_addPerson 5 (some .int) 2 := ⟨⟨zwc2 147 rfl rfl, (zwc1 2 rfl rfl), ⟨by decide +kernel, by decide +kernel⟩, by decide +kernel⟩, (zwc2 145 rfl rfl), (zwc2 146 rfl rfl)⟩
theorem yc5_addPerson : zYC y5_addPerson 5 := ⟨by decide, T5, 12, rfl⟩
abbrev b8_person : ByteArray := prog_1_method_9_code
def y8_person : MethodName := ⟨R8, "person", "(II)I"⟩
theorem yy8_person : zYV y8_person b8_person 3 (some .int) 2 := ⟨⟨zwc2 143 rfl rfl, (zwc1 1 rfl rfl), ⟨by decide +kernel, by decide +kernel⟩, by decide +kernel⟩, (zwc2 141 rfl rfl), (zwc2 142 rfl rfl)⟩
theorem yc8_person : zYC y8_person 8 := ⟨by decide, T8, 11, rfl⟩
abbrev b8_personIs : ByteArray := prog_1_method_10_code
def y8_personIs : MethodName := ⟨R8, "personIs", "(II)I"⟩
theorem yy8_personIs : zYV y8_personIs b8_personIs 4 (some .int) 2 := ⟨⟨zwc2 155 rfl rfl, (zwc1 1 rfl rfl), ⟨by decide +kernel, by decide +kernel⟩, by decide +kernel⟩, (zwc2 153 rfl rfl), (zwc2 154 rfl rfl)⟩
theorem yc8_personIs : zYC y8_personIs 8 := ⟨by decide, T8, 11, rfl⟩
abbrev b4_write : ByteArray := prog_6_method_4_code
def y4_write : MethodName := ⟨R4, "write", "(II)V"⟩
theorem yy4_write : zYV y4_write b4_write 3 none 2 := ⟨⟨zwc4 41 rfl rfl, (zwc1 10 rfl rfl), ⟨by decide +kernel, by decide +kernel⟩, by decide +kernel⟩, (zwc4 39 rfl rfl), (zwc4 40 rfl rfl)⟩
theorem yc4_write : zYC y4_write 4 := ⟨by decide, T4, 3, rfl⟩
abbrev b8_put : ByteArray := prog_1_method_32_code
def y8_put : MethodName := ⟨R8, "put", "(III)I"⟩
theorem yy8_put : zYV y8_put b8_put 5 (some .int) 3 := ⟨⟨zwc4 37 rfl rfl, (zwc1 1 rfl rfl), ⟨by decide +kernel, by decide +kernel⟩, by decide +kernel⟩, (zwc4 35 rfl rfl), (zwc4 36 rfl rfl)⟩
theorem yc8_put : zYC y8_put 8 := ⟨by decide, T8, 11, rfl⟩
abbrev b8_restore : ByteArray := prog_1_method_37_code
def y8_restore : MethodName := ⟨R8, "restore", "()I"⟩
theorem yy8_restore : zYV y8_restore b8_restore 1 (some .int) 0 := ⟨⟨zwc4 66 rfl rfl, (zwc1 1 rfl rfl), ⟨by decide +kernel, by decide +kernel⟩, by decide +kernel⟩, (zwc4 64 rfl rfl), (zwc4 65 rfl rfl)⟩
theorem yc8_restore : zYC y8_restore 8 := ⟨by decide, T8, 11, rfl⟩
abbrev b8_seed : ByteArray := prog_1_method_20_code
def y8_seed : MethodName := ⟨R8, "seed", "(I)I"⟩
theorem yy8_seed : zYV y8_seed b8_seed 3 (some .int) 1 := ⟨⟨zwc3 130 rfl rfl, (zwc1 1 rfl rfl), ⟨by decide +kernel, by decide +kernel⟩, by decide +kernel⟩, (zwc3 128 rfl rfl), (zwc3 129 rfl rfl)⟩
theorem yc8_seed : zYC y8_seed 8 := ⟨by decide, T8, 11, rfl⟩
abbrev b8_sees : ByteArray := prog_1_method_23_code
def y8_sees : MethodName := ⟨R8, "sees", "(I)I"⟩
theorem yy8_sees : zYV y8_sees b8_sees 6 (some .int) 1 := ⟨⟨zwc3 148 rfl rfl, (zwc1 1 rfl rfl), ⟨by decide +kernel, by decide +kernel⟩, by decide +kernel⟩, (zwc3 146 rfl rfl), (zwc3 147 rfl rfl)⟩
theorem yc8_sees : zYC y8_sees 8 := ⟨by decide, T8, 11, rfl⟩
abbrev bA_fill : ByteArray := prog_17_method_103_code
def yA_fill : MethodName := ⟨RJA, "fill", "([II)V"⟩
theorem yyA_fill : zYS yA_fill bA_fill 4 none 2 := ⟨⟨zwc1 40 rfl rfl, (zwc1 3 rfl rfl), ⟨by decide +kernel, by decide +kernel⟩, by decide +kernel⟩, (zwc1 39 rfl rfl)⟩
abbrev b4_begin : ByteArray := prog_6_method_2_code
def y4_begin : MethodName := ⟨R4, "begin", "(II)V"⟩
theorem yy4_begin : zYV y4_begin b4_begin 3 none 2 := ⟨⟨zwc4 32 rfl rfl, (zwc1 10 rfl rfl), ⟨by decide +kernel, by decide +kernel⟩, by decide +kernel⟩, (zwc4 30 rfl rfl), (zwc4 31 rfl rfl)⟩
theorem yc4_begin : zYC y4_begin 4 := ⟨by decide, T4, 3, rfl⟩
abbrev b8_sheet : ByteArray := prog_1_method_31_code
def y8_sheet : MethodName := ⟨R8, "sheet", "(III)I"⟩
theorem yy8_sheet : zYV y8_sheet b8_sheet 5 (some .int) 3 := ⟨⟨zwc4 28 rfl rfl, (zwc1 1 rfl rfl), ⟨by decide +kernel, by decide +kernel⟩, by decide +kernel⟩, (zwc4 26 rfl rfl), (zwc4 27 rfl rfl)⟩
theorem yc8_sheet : zYC y8_sheet 8 := ⟨by decide, T8, 11, rfl⟩
abbrev b8_spin : ByteArray := prog_1_method_7_code
def y8_spin : MethodName := ⟨R8, "spin", "(II)I"⟩
theorem yy8_spin : zYV y8_spin b8_spin 5 (some .int) 2 := ⟨⟨zwc2 134 rfl rfl, (zwc1 1 rfl rfl), ⟨by decide +kernel, by decide +kernel⟩, by decide +kernel⟩, (zwc2 132 rfl rfl), (zwc2 133 rfl rfl)⟩
theorem yc8_spin : zYC y8_spin 8 := ⟨by decide, T8, 11, rfl⟩
abbrev b8_spins : ByteArray := prog_1_method_26_code
def y8_spins : MethodName := ⟨R8, "spins", "(III)I"⟩
theorem yy8_spins : zYV y8_spins b8_spins 6 (some .int) 3 := ⟨⟨zwc3 182 rfl rfl, (zwc1 1 rfl rfl), ⟨by decide +kernel, by decide +kernel⟩, by decide +kernel⟩, (zwc3 180 rfl rfl), (zwc3 181 rfl rfl)⟩
theorem yc8_spins : zYC y8_spins 8 := ⟨by decide, T8, 11, rfl⟩
abbrev b8_stand : ByteArray := prog_1_method_11_code
def y8_stand : MethodName := ⟨R8, "stand", "(III)I"⟩
theorem yy8_stand : zYV y8_stand b8_stand 6 (some .int) 3 := ⟨⟨zwc2 212 rfl rfl, (zwc1 1 rfl rfl), ⟨by decide +kernel, by decide +kernel⟩, by decide +kernel⟩, (zwc2 210 rfl rfl), (zwc2 211 rfl rfl)⟩
theorem yc8_stand : zYC y8_stand 8 := ⟨by decide, T8, 11, rfl⟩
abbrev b8_starts : ByteArray := prog_1_method_25_code
def y8_starts : MethodName := ⟨R8, "starts", "(II)I"⟩
theorem yy8_starts : zYV y8_starts b8_starts 6 (some .int) 2 := ⟨⟨zwc3 174 rfl rfl, (zwc1 1 rfl rfl), ⟨by decide +kernel, by decide +kernel⟩, by decide +kernel⟩, (zwc3 172 rfl rfl), (zwc3 173 rfl rfl)⟩
theorem yc8_starts : zYC y8_starts 8 := ⟨by decide, T8, 11, rfl⟩
abbrev b5_addWaiting : ByteArray := prog_7_method_11_code
def y5_addWaiting : MethodName := ⟨R5, "addWaiting", "(I)V"⟩
theorem yy5_addWaiting : zYV y5_addWaiting b5_addWaiting 2 none 1 := ⟨⟨zwc4 74 rfl rfl, (zwc1 2 rfl rfl), ⟨by decide +kernel, by decide +kernel⟩, by decide +kernel⟩, (zwc4 72 rfl rfl), (zwc4 73 rfl rfl)⟩
theorem yc5_addWaiting : zYC y5_addWaiting 5 := ⟨by decide, T5, 12, rfl⟩
abbrev b8_tell : ByteArray := prog_1_method_38_code
def y8_tell : MethodName := ⟨R8, "tell", "(I)I"⟩
theorem yy8_tell : zYV y8_tell b8_tell 2 (some .int) 1 := ⟨⟨zwc4 70 rfl rfl, (zwc1 1 rfl rfl), ⟨by decide +kernel, by decide +kernel⟩, by decide +kernel⟩, (zwc4 68 rfl rfl), (zwc4 69 rfl rfl)⟩
theorem yc8_tell : zYC y8_tell 8 := ⟨by decide, T8, 11, rfl⟩
abbrev b3_levelOf : ByteArray := prog_5_method_10_code
def y3_levelOf : MethodName := ⟨R3, "levelOf", "(I)I"⟩
theorem yy3_levelOf : zYS y3_levelOf b3_levelOf 1 (some .int) 1 := ⟨⟨zwc3 82 rfl rfl, (zwc1 8 rfl rfl), ⟨by decide +kernel, by decide +kernel⟩, by decide +kernel⟩, (zwc3 81 rfl rfl)⟩
abbrev b3_signHere : ByteArray := prog_5_method_3_code
def y3_signHere : MethodName := ⟨R3, "signHere", "()I"⟩
theorem yy3_signHere : zYV y3_signHere b3_signHere 1 (some .int) 0 := ⟨⟨zwc3 11 rfl rfl, (zwc1 8 rfl rfl), ⟨by decide +kernel, by decide +kernel⟩, by decide +kernel⟩, (zwc3 10 rfl rfl), (zws 6 rfl rfl)⟩
theorem yc3_signHere : zYC y3_signHere 3 := ⟨by decide, T3, 5, rfl⟩
abbrev b6_add : ByteArray := prog_8_method_3_code
def y6_add : MethodName := ⟨R6, "add", "(I)V"⟩
theorem yy6_add : zYV y6_add b6_add 2 none 1 := ⟨⟨zwc3 22 rfl rfl, (zwc1 6 rfl rfl), ⟨by decide +kernel, by decide +kernel⟩, by decide +kernel⟩, (zwc3 20 rfl rfl), (zwc3 21 rfl rfl)⟩
theorem yc6_add : zYC y6_add 6 := ⟨by decide, T6, 4, rfl⟩
abbrev b3_isDigit : ByteArray := prog_5_method_9_code
def y3_isDigit : MethodName := ⟨R3, "isDigit", "(I)Z"⟩
theorem yy3_isDigit : zYS y3_isDigit b3_isDigit 1 (some .boolean) 1 := ⟨⟨zwc3 14 rfl rfl, (zwc1 8 rfl rfl), ⟨by decide +kernel, by decide +kernel⟩, by decide +kernel⟩, (zwc3 13 rfl rfl)⟩
abbrev b3_readNumber : ByteArray := prog_5_method_8_code
def y3_readNumber : MethodName := ⟨R3, "readNumber", "()V"⟩
theorem yy3_readNumber : zYV y3_readNumber b3_readNumber 3 none 0 := ⟨⟨zwc3 18 rfl rfl, (zwc1 8 rfl rfl), ⟨by decide +kernel, by decide +kernel⟩, by decide +kernel⟩, (zwc3 17 rfl rfl), (zws 7 rfl rfl)⟩
theorem yc3_readNumber : zYC y3_readNumber 3 := ⟨by decide, T3, 5, rfl⟩
abbrev bS_isLatin1 : ByteArray := prog_13_method_154_code
def yS_isLatin1 : MethodName := ⟨RJS, "isLatin1", "()Z"⟩
theorem yyS_isLatin1 : zYV yS_isLatin1 bS_isLatin1 1 (some .boolean) 0 := ⟨⟨zwc3 45 rfl rfl, (zwc1 13 rfl rfl), ⟨by decide +kernel, by decide +kernel⟩, by decide +kernel⟩, (zwc3 43 rfl rfl), (zwc3 44 rfl rfl)⟩
abbrev bP_checkIndex : ByteArray := prog_18_method_11_code
def yP_checkIndex : MethodName := ⟨RJP, "checkIndex", "(IILjava/util/function/BiFunction;)I"⟩
theorem yyP_checkIndex : zYS yP_checkIndex bP_checkIndex 3 (some .int) 3 := ⟨⟨zwc3 56 rfl rfl, (zwc1 15 rfl rfl), ⟨by decide +kernel, by decide +kernel⟩, by decide +kernel⟩, (zwc3 55 rfl rfl)⟩
abbrev bS_checkIndex : ByteArray := prog_13_method_155_code
def yS_checkIndex : MethodName := ⟨RJS, "checkIndex", "(II)V"⟩
theorem yyS_checkIndex : zYS yS_checkIndex bS_checkIndex 2 none 2 := ⟨⟨zwc3 51 rfl rfl, (zwc1 13 rfl rfl), ⟨by decide +kernel, by decide +kernel⟩, by decide +kernel⟩, (zwc3 50 rfl rfl)⟩
abbrev bL_charAt : ByteArray := prog_14_method_2_code
def yL_charAt : MethodName := ⟨RJL, "charAt", "([BI)C"⟩
theorem yyL_charAt : zYS yL_charAt bL_charAt 2 (some .char) 2 := ⟨⟨zwc3 48 rfl rfl, (zwc1 14 rfl rfl), ⟨by decide +kernel, by decide +kernel⟩, by decide +kernel⟩, (zwc3 47 rfl rfl)⟩
abbrev bS_charAt : ByteArray := prog_13_method_56_code
def yS_charAt : MethodName := ⟨RJS, "charAt", "(I)C"⟩
theorem yyS_charAt : zYV yS_charAt bS_charAt 2 (some .char) 1 := ⟨⟨zwc3 41 rfl rfl, (zwc1 13 rfl rfl), ⟨by decide +kernel, by decide +kernel⟩, by decide +kernel⟩, (zwc3 39 rfl rfl), (zwc3 40 rfl rfl)⟩
abbrev bS_coder : ByteArray := prog_13_method_152_code
def yS_coder : MethodName := ⟨RJS, "coder", "()B"⟩
theorem yyS_coder : zYV yS_coder bS_coder 1 (some .byte) 0 := ⟨⟨zwc3 35 rfl rfl, (zwc1 13 rfl rfl), ⟨by decide +kernel, by decide +kernel⟩, by decide +kernel⟩, (zwc3 33 rfl rfl), (zwc3 34 rfl rfl)⟩
abbrev bS_length : ByteArray := prog_13_method_54_code
def yS_length : MethodName := ⟨RJS, "length", "()I"⟩
theorem yyS_length : zYV yS_length bS_length 1 (some .int) 0 := ⟨⟨zwc3 31 rfl rfl, (zwc1 13 rfl rfl), ⟨by decide +kernel, by decide +kernel⟩, by decide +kernel⟩, (zwc3 29 rfl rfl), (zwc3 30 rfl rfl)⟩
abbrev b3_readPart : ByteArray := prog_5_method_4_code
def y3_readPart : MethodName := ⟨R3, "readPart", "(II)Z"⟩
theorem yy3_readPart : zYV y3_readPart b3_readPart 3 (some .boolean) 2 := ⟨⟨zwc3 3 rfl rfl, (zwc1 8 rfl rfl), ⟨by decide +kernel, by decide +kernel⟩, by decide +kernel⟩, (zwc3 2 rfl rfl), (zws 4 rfl rfl)⟩
theorem yc3_readPart : zYC y3_readPart 3 := ⟨by decide, T3, 5, rfl⟩
abbrev b3_readLevel : ByteArray := prog_5_method_5_code
def y3_readLevel : MethodName := ⟨R3, "readLevel", "(II)Z"⟩
theorem yy3_readLevel : zYV y3_readLevel b3_readLevel 5 (some .boolean) 2 := ⟨⟨zwc3 79 rfl rfl, (zwc1 8 rfl rfl), ⟨by decide +kernel, by decide +kernel⟩, by decide +kernel⟩, (zwc3 78 rfl rfl), (zws 9 rfl rfl)⟩
theorem yc3_readLevel : zYC y3_readLevel 3 := ⟨by decide, T3, 5, rfl⟩
abbrev b3_readUnit : ByteArray := prog_5_method_6_code
def y3_readUnit : MethodName := ⟨R3, "readUnit", "(I)Z"⟩
theorem yy3_readUnit : zYV y3_readUnit b3_readUnit 5 (some .boolean) 1 := ⟨⟨zwc3 7 rfl rfl, (zwc1 8 rfl rfl), ⟨by decide +kernel, by decide +kernel⟩, by decide +kernel⟩, (zwc3 6 rfl rfl), (zws 5 rfl rfl)⟩
theorem yc3_readUnit : zYC y3_readUnit 3 := ⟨by decide, T3, 5, rfl⟩
abbrev b3_readOpen : ByteArray := prog_5_method_7_code
def y3_readOpen : MethodName := ⟨R3, "readOpen", "(II)Z"⟩
theorem yy3_readOpen : zYV y3_readOpen b3_readOpen 4 (some .boolean) 2 := ⟨⟨zwc3 26 rfl rfl, (zwc1 8 rfl rfl), ⟨by decide +kernel, by decide +kernel⟩, by decide +kernel⟩, (zwc3 25 rfl rfl), (zws 8 rfl rfl)⟩
theorem yc3_readOpen : zYC y3_readOpen 3 := ⟨by decide, T3, 5, rfl⟩
abbrev b3_fault : ByteArray := prog_5_method_2_code
def y3_fault : MethodName := ⟨R3, "fault", "([III)I"⟩
theorem yy3_fault : zYV y3_fault b3_fault 4 (some .int) 3 := ⟨⟨zwc2 239 rfl rfl, (zwc1 8 rfl rfl), ⟨by decide +kernel, by decide +kernel⟩, by decide +kernel⟩, (zwc2 237 rfl rfl), (zwc2 238 rfl rfl)⟩
theorem yc3_fault : zYC y3_fault 3 := ⟨by decide, T3, 5, rfl⟩
abbrev b8_text : ByteArray := prog_1_method_15_code
def y8_text : MethodName := ⟨R8, "text", "(I)I"⟩
theorem yy8_text : zYV y8_text b8_text 4 (some .int) 1 := ⟨⟨zwc2 234 rfl rfl, (zwc1 1 rfl rfl), ⟨by decide +kernel, by decide +kernel⟩, by decide +kernel⟩, (zwc2 232 rfl rfl), (zwc2 233 rfl rfl)⟩
theorem yc8_text : zYC y8_text 8 := ⟨by decide, T8, 11, rfl⟩
abbrev b8_then : ByteArray := prog_1_method_24_code
def y8_then : MethodName := ⟨R8, "then", "(II)I"⟩
theorem yy8_then : zYV y8_then b8_then 4 (some .int) 2 := ⟨⟨zwc3 156 rfl rfl, (zwc1 1 rfl rfl), ⟨by decide +kernel, by decide +kernel⟩, by decide +kernel⟩, (zwc3 154 rfl rfl), (zwc3 155 rfl rfl)⟩
theorem yc8_then : zYC y8_then 8 := ⟨by decide, T8, 11, rfl⟩
abbrev b8_throwsOn : ByteArray := prog_1_method_4_code
def y8_throwsOn : MethodName := ⟨R8, "throwsOn", "(II)I"⟩
theorem yy8_throwsOn : zYV y8_throwsOn b8_throwsOn 4 (some .int) 2 := ⟨⟨zwc2 98 rfl rfl, (zwc1 1 rfl rfl), ⟨by decide +kernel, by decide +kernel⟩, by decide +kernel⟩, (zwc2 96 rfl rfl), (zwc2 97 rfl rfl)⟩
theorem yc8_throwsOn : zYC y8_throwsOn 8 := ⟨by decide, T8, 11, rfl⟩
abbrev b8_told : ByteArray := prog_1_method_41_code
def y8_told : MethodName := ⟨R8, "told", "(I)I"⟩
theorem yy8_told : zYV y8_told b8_told 2 (some .int) 1 := ⟨⟨zwc4 90 rfl rfl, (zwc1 1 rfl rfl), ⟨by decide +kernel, by decide +kernel⟩, by decide +kernel⟩, (zwc4 88 rfl rfl), (zwc4 89 rfl rfl)⟩
theorem yc8_told : zYC y8_told 8 := ⟨by decide, T8, 11, rfl⟩
abbrev b8_turnsOf : ByteArray := prog_1_method_34_code
def y8_turnsOf : MethodName := ⟨R8, "turnsOf", "(I)I"⟩
theorem yy8_turnsOf : zYV y8_turnsOf b8_turnsOf 7 (some .int) 1 := ⟨⟨zwc4 54 rfl rfl, (zwc1 1 rfl rfl), ⟨by decide +kernel, by decide +kernel⟩, by decide +kernel⟩, (zwc4 52 rfl rfl), (zwc4 53 rfl rfl)⟩
theorem yc8_turnsOf : zYC y8_turnsOf 8 := ⟨by decide, T8, 11, rfl⟩
abbrev b8_untell : ByteArray := prog_1_method_16_code
def y8_untell : MethodName := ⟨R8, "untell", "(I)I"⟩
theorem yy8_untell : zYV y8_untell b8_untell 4 (some .int) 1 := ⟨⟨zwc3 94 rfl rfl, (zwc1 1 rfl rfl), ⟨by decide +kernel, by decide +kernel⟩, by decide +kernel⟩, (zwc3 92 rfl rfl), (zwc3 93 rfl rfl)⟩
theorem yc8_untell : zYC y8_untell 8 := ⟨by decide, T8, 11, rfl⟩
abbrev b7_bodyFrom : ByteArray := prog_9_method_10_code
def y7_bodyFrom : MethodName := ⟨R7, "bodyFrom", "(II)I"⟩
theorem yy7_bodyFrom : zYS y7_bodyFrom b7_bodyFrom 5 (some .int) 2 := ⟨⟨zwc3 233 rfl rfl, (zwc1 9 rfl rfl), ⟨by decide +kernel, by decide +kernel⟩, by decide +kernel⟩, (zwc3 232 rfl rfl)⟩
abbrev b7_say : ByteArray := prog_9_method_4_code
def y7_say : MethodName := ⟨R7, "say", "(IIII)I"⟩
theorem yy7_say : zYV y7_say b7_say 6 (some .int) 4 := ⟨⟨zwc3 230 rfl rfl, (zwc1 9 rfl rfl), ⟨by decide +kernel, by decide +kernel⟩, by decide +kernel⟩, (zwc3 229 rfl rfl), (zws 19 rfl rfl)⟩
theorem yc7_say : zYC y7_say 7 := ⟨by decide, T7, 6, rfl⟩
abbrev b7_sayGlass : ByteArray := prog_9_method_5_code
def y7_sayGlass : MethodName := ⟨R7, "sayGlass", "(III)I"⟩
theorem yy7_sayGlass : zYV y7_sayGlass b7_sayGlass 5 (some .int) 3 := ⟨⟨zwc4 0 rfl rfl, (zwc1 9 rfl rfl), ⟨by decide +kernel, by decide +kernel⟩, by decide +kernel⟩, (zwc3 239 rfl rfl), (zws 20 rfl rfl)⟩
theorem yc7_sayGlass : zYC y7_sayGlass 7 := ⟨by decide, T7, 6, rfl⟩
abbrev b7_saySpoon : ByteArray := prog_9_method_6_code
def y7_saySpoon : MethodName := ⟨R7, "saySpoon", "(III)I"⟩
theorem yy7_saySpoon : zYV y7_saySpoon b7_saySpoon 5 (some .int) 3 := ⟨⟨zwc4 4 rfl rfl, (zwc1 9 rfl rfl), ⟨by decide +kernel, by decide +kernel⟩, by decide +kernel⟩, (zwc4 3 rfl rfl), (zws 21 rfl rfl)⟩
theorem yc7_saySpoon : zYC y7_saySpoon 7 := ⟨by decide, T7, 6, rfl⟩
abbrev b7_sayBowl : ByteArray := prog_9_method_7_code
def y7_sayBowl : MethodName := ⟨R7, "sayBowl", "(III)I"⟩
theorem yy7_sayBowl : zYV y7_sayBowl b7_sayBowl 4 (some .int) 3 := ⟨⟨zwc4 8 rfl rfl, (zwc1 9 rfl rfl), ⟨by decide +kernel, by decide +kernel⟩, by decide +kernel⟩, (zwc4 7 rfl rfl), (zws 22 rfl rfl)⟩
theorem yc7_sayBowl : zYC y7_sayBowl 7 := ⟨by decide, T7, 6, rfl⟩
abbrev b7_saySilvered : ByteArray := prog_9_method_8_code
def y7_saySilvered : MethodName := ⟨R7, "saySilvered", "(III)I"⟩
theorem yy7_saySilvered : zYV y7_saySilvered b7_saySilvered 4 (some .int) 3 := ⟨⟨zwc4 12 rfl rfl, (zwc1 9 rfl rfl), ⟨by decide +kernel, by decide +kernel⟩, by decide +kernel⟩, (zwc4 11 rfl rfl), (zws 23 rfl rfl)⟩
theorem yc7_saySilvered : zYC y7_saySilvered 7 := ⟨by decide, T7, 6, rfl⟩
abbrev b7_sayOnly : ByteArray := prog_9_method_9_code
def y7_sayOnly : MethodName := ⟨R7, "sayOnly", "(III)I"⟩
theorem yy7_sayOnly : zYV y7_sayOnly b7_sayOnly 4 (some .int) 3 := ⟨⟨zwc4 16 rfl rfl, (zwc1 9 rfl rfl), ⟨by decide +kernel, by decide +kernel⟩, by decide +kernel⟩, (zwc4 15 rfl rfl), (zws 24 rfl rfl)⟩
theorem yc7_sayOnly : zYC y7_sayOnly 7 := ⟨by decide, T7, 6, rfl⟩
abbrev b7_answer : ByteArray := prog_9_method_2_code
def y7_answer : MethodName := ⟨R7, "answer", "(LGlassTax$Glass;III)I"⟩
theorem yy7_answer : zYV y7_answer b7_answer 5 (some .int) 4 := ⟨⟨zwc3 226 rfl rfl, (zwc1 9 rfl rfl), ⟨by decide +kernel, by decide +kernel⟩, by decide +kernel⟩, (zwc3 224 rfl rfl), (zwc3 225 rfl rfl)⟩
theorem yc7_answer : zYC y7_answer 7 := ⟨by decide, T7, 6, rfl⟩
abbrev b8_voice : ByteArray := prog_1_method_29_code
def y8_voice : MethodName := ⟨R8, "voice", "(III)I"⟩
theorem yy8_voice : zYV y8_voice b8_voice 6 (some .int) 3 := ⟨⟨zwc3 222 rfl rfl, (zwc1 1 rfl rfl), ⟨by decide +kernel, by decide +kernel⟩, by decide +kernel⟩, (zwc3 220 rfl rfl), (zwc3 221 rfl rfl)⟩
theorem yc8_voice : zYC y8_voice 8 := ⟨by decide, T8, 11, rfl⟩
abbrev b9_about : ByteArray := prog_11_method_12_code
def y9_about : MethodName := ⟨R9, "about", "(II)I"⟩
theorem yy9_about : zYV y9_about b9_about 3 (some .int) 2 := ⟨⟨zwc5 33 rfl rfl, (zwc1 11 rfl rfl), ⟨by decide +kernel, by decide +kernel⟩, by decide +kernel⟩, (zwc5 32 rfl rfl), (zws 33 rfl rfl)⟩
theorem yc9_about : zYC y9_about 9 := ⟨by decide, T9, 27, rfl⟩
abbrev b9_byteHere : ByteArray := prog_11_method_39_code
def y9_byteHere : MethodName := ⟨R9, "byteHere", "()I"⟩
theorem yy9_byteHere : zYV y9_byteHere b9_byteHere 1 (some .int) 0 := ⟨⟨zwc5 120 rfl rfl, (zwc1 11 rfl rfl), ⟨by decide +kernel, by decide +kernel⟩, by decide +kernel⟩, (zwc5 119 rfl rfl), (zws 47 rfl rfl)⟩
theorem yc9_byteHere : zYC y9_byteHere 9 := ⟨by decide, T9, 27, rfl⟩
abbrev b9_step : ByteArray := prog_11_method_40_code
def y9_step : MethodName := ⟨R9, "step", "(II)V"⟩
theorem yy9_step : zYV y9_step b9_step 3 none 2 := ⟨⟨zwc5 128 rfl rfl, (zwc1 11 rfl rfl), ⟨by decide +kernel, by decide +kernel⟩, by decide +kernel⟩, (zwc5 127 rfl rfl), (zws 49 rfl rfl)⟩
theorem yc9_step : zYC y9_step 9 := ⟨by decide, T9, 27, rfl⟩
abbrev b9_nameOf : ByteArray := prog_11_method_41_code
def y9_nameOf : MethodName := ⟨R9, "nameOf", "(I)I"⟩
theorem yy9_nameOf : zYV y9_nameOf b9_nameOf 2 (some .int) 1 := ⟨⟨zwc5 124 rfl rfl, (zwc1 11 rfl rfl), ⟨by decide +kernel, by decide +kernel⟩, by decide +kernel⟩, (zwc5 123 rfl rfl), (zws 48 rfl rfl)⟩
theorem yc9_nameOf : zYC y9_nameOf 9 := ⟨by decide, T9, 27, rfl⟩
abbrev b9_in : ByteArray := prog_11_method_3_code
def y9_in : MethodName := ⟨R9, "in", "(III)Z"⟩
theorem yy9_in : zYS y9_in b9_in 3 (some .boolean) 3 := ⟨⟨zwc4 188 rfl rfl, (zwc1 11 rfl rfl), ⟨by decide +kernel, by decide +kernel⟩, by decide +kernel⟩, (zwc4 187 rfl rfl)⟩
abbrev b9_number : ByteArray := prog_11_method_42_code
def y9_number : MethodName := ⟨R9, "number", "()V"⟩
theorem yy9_number : zYV y9_number b9_number 3 none 0 := ⟨⟨zwc5 136 rfl rfl, (zwc1 11 rfl rfl), ⟨by decide +kernel, by decide +kernel⟩, by decide +kernel⟩, (zwc5 135 rfl rfl), (zws 51 rfl rfl)⟩
theorem yc9_number : zYC y9_number 9 := ⟨by decide, T9, 27, rfl⟩
abbrev b9_opens : ByteArray := prog_11_method_43_code
def y9_opens : MethodName := ⟨R9, "opens", "(I)V"⟩
theorem yy9_opens : zYV y9_opens b9_opens 2 none 1 := ⟨⟨zwc5 132 rfl rfl, (zwc1 11 rfl rfl), ⟨by decide +kernel, by decide +kernel⟩, by decide +kernel⟩, (zwc5 131 rfl rfl), (zws 50 rfl rfl)⟩
theorem yc9_opens : zYC y9_opens 9 := ⟨by decide, T9, 27, rfl⟩
abbrev b9_one : ByteArray := prog_11_method_44_code
def y9_one : MethodName := ⟨R9, "one", "()V"⟩
theorem yy9_one : zYV y9_one b9_one 3 none 0 := ⟨⟨zwc5 116 rfl rfl, (zwc1 11 rfl rfl), ⟨by decide +kernel, by decide +kernel⟩, by decide +kernel⟩, (zwc5 115 rfl rfl), (zws 46 rfl rfl)⟩
theorem yc9_one : zYC y9_one 9 := ⟨by decide, T9, 27, rfl⟩
abbrev b9_times : ByteArray := prog_11_method_45_code
def y9_times : MethodName := ⟨R9, "times", "()V"⟩
theorem yy9_times : zYV y9_times b9_times 2 none 0 := ⟨⟨zwc5 112 rfl rfl, (zwc1 11 rfl rfl), ⟨by decide +kernel, by decide +kernel⟩, by decide +kernel⟩, (zwc5 111 rfl rfl), (zws 45 rfl rfl)⟩
theorem yc9_times : zYC y9_times 9 := ⟨by decide, T9, 27, rfl⟩
abbrev b9_sum : ByteArray := prog_11_method_46_code
def y9_sum : MethodName := ⟨R9, "sum", "()V"⟩
theorem yy9_sum : zYV y9_sum b9_sum 2 none 0 := ⟨⟨zwc5 108 rfl rfl, (zwc1 11 rfl rfl), ⟨by decide +kernel, by decide +kernel⟩, by decide +kernel⟩, (zwc5 107 rfl rfl), (zws 44 rfl rfl)⟩
theorem yc9_sum : zYC y9_sum 9 := ⟨by decide, T9, 27, rfl⟩
abbrev b9_compares : ByteArray := prog_11_method_47_code
def y9_compares : MethodName := ⟨R9, "compares", "()V"⟩
theorem yy9_compares : zYV y9_compares b9_compares 2 none 0 := ⟨⟨zwc5 104 rfl rfl, (zwc1 11 rfl rfl), ⟨by decide +kernel, by decide +kernel⟩, by decide +kernel⟩, (zwc5 103 rfl rfl), (zws 43 rfl rfl)⟩
theorem yc9_compares : zYC y9_compares 9 := ⟨by decide, T9, 27, rfl⟩
abbrev b9_all : ByteArray := prog_11_method_48_code
def y9_all : MethodName := ⟨R9, "all", "()V"⟩
theorem yy9_all : zYV y9_all b9_all 1 none 0 := ⟨⟨zwc5 100 rfl rfl, (zwc1 11 rfl rfl), ⟨by decide +kernel, by decide +kernel⟩, by decide +kernel⟩, (zwc5 99 rfl rfl), (zws 42 rfl rfl)⟩
theorem yc9_all : zYC y9_all 9 := ⟨by decide, T9, 27, rfl⟩
abbrev b9_any : ByteArray := prog_11_method_49_code
def y9_any : MethodName := ⟨R9, "any", "()V"⟩
theorem yy9_any : zYV y9_any b9_any 1 none 0 := ⟨⟨zwc5 96 rfl rfl, (zwc1 11 rfl rfl), ⟨by decide +kernel, by decide +kernel⟩, by decide +kernel⟩, (zwc5 95 rfl rfl), (zws 41 rfl rfl)⟩
theorem yc9_any : zYC y9_any 9 := ⟨by decide, T9, 27, rfl⟩
abbrev b9_around : ByteArray := prog_11_method_15_code
def y9_around : MethodName := ⟨R9, "around", "(I)I"⟩
theorem yy9_around : zYS y9_around b9_around 1 (some .int) 1 := ⟨⟨zwc4 232 rfl rfl, (zwc1 11 rfl rfl), ⟨by decide +kernel, by decide +kernel⟩, by decide +kernel⟩, (zwc4 231 rfl rfl)⟩
abbrev b9_error : ByteArray := prog_11_method_2_code
def y9_error : MethodName := ⟨R9, "error", "(I)I"⟩
theorem yy9_error : zYV y9_error b9_error 2 (some .int) 1 := ⟨⟨zwc4 199 rfl rfl, (zwc1 11 rfl rfl), ⟨by decide +kernel, by decide +kernel⟩, by decide +kernel⟩, (zwc4 198 rfl rfl), (zws 25 rfl rfl)⟩
theorem yc9_error : zYC y9_error 9 := ⟨by decide, T9, 27, rfl⟩
abbrev b9_isGlass : ByteArray := prog_11_method_6_code
def y9_isGlass : MethodName := ⟨R9, "isGlass", "(I)Z"⟩
theorem yy9_isGlass : zYV y9_isGlass b9_isGlass 2 (some .boolean) 1 := ⟨⟨zwc4 218 rfl rfl, (zwc1 11 rfl rfl), ⟨by decide +kernel, by decide +kernel⟩, by decide +kernel⟩, (zwc4 217 rfl rfl), (zws 28 rfl rfl)⟩
theorem yc9_isGlass : zYC y9_isGlass 9 := ⟨by decide, T9, 27, rfl⟩
abbrev b9_of : ByteArray := prog_11_method_11_code
def y9_of : MethodName := ⟨R9, "of", "(II)I"⟩
theorem yy9_of : zYV y9_of b9_of 3 (some .int) 2 := ⟨⟨zwc4 209 rfl rfl, (zwc1 11 rfl rfl), ⟨by decide +kernel, by decide +kernel⟩, by decide +kernel⟩, (zwc4 208 rfl rfl), (zws 27 rfl rfl)⟩
theorem yc9_of : zYC y9_of 9 := ⟨by decide, T9, 27, rfl⟩
abbrev b9_as : ByteArray := prog_11_method_29_code
def y9_as : MethodName := ⟨R9, "as", "(II)I"⟩
theorem yy9_as : zYV y9_as b9_as 5 (some .int) 2 := ⟨⟨zwc5 8 rfl rfl, (zwc1 11 rfl rfl), ⟨by decide +kernel, by decide +kernel⟩, by decide +kernel⟩, (zwc5 6 rfl rfl), (zwc5 7 rfl rfl)⟩
theorem yc9_as : zYC y9_as 9 := ⟨by decide, T9, 27, rfl⟩
abbrev b9_isCell : ByteArray := prog_11_method_8_code
def y9_isCell : MethodName := ⟨R9, "isCell", "(I)Z"⟩
theorem yy9_isCell : zYS y9_isCell b9_isCell 1 (some .boolean) 1 := ⟨⟨zwc4 191 rfl rfl, (zwc1 11 rfl rfl), ⟨by decide +kernel, by decide +kernel⟩, by decide +kernel⟩, (zwc4 190 rfl rfl)⟩
abbrev b9_isFour : ByteArray := prog_11_method_9_code
def y9_isFour : MethodName := ⟨R9, "isFour", "(I)Z"⟩
theorem yy9_isFour : zYS y9_isFour b9_isFour 1 (some .boolean) 1 := ⟨⟨zwc4 194 rfl rfl, (zwc1 11 rfl rfl), ⟨by decide +kernel, by decide +kernel⟩, by decide +kernel⟩, (zwc4 193 rfl rfl)⟩
abbrev b9_glassAt : ByteArray := prog_11_method_13_code
def y9_glassAt : MethodName := ⟨R9, "glassAt", "(I)I"⟩
theorem yy9_glassAt : zYV y9_glassAt b9_glassAt 3 (some .int) 1 := ⟨⟨zwc4 205 rfl rfl, (zwc1 11 rfl rfl), ⟨by decide +kernel, by decide +kernel⟩, by decide +kernel⟩, (zwc4 204 rfl rfl), (zws 26 rfl rfl)⟩
theorem yc9_glassAt : zYC y9_glassAt 9 := ⟨by decide, T9, 27, rfl⟩
abbrev b9_held : ByteArray := prog_11_method_4_code
def y9_held : MethodName := ⟨R9, "held", "(III)I"⟩
theorem yy9_held : zYS y9_held b9_held 3 (some .int) 3 := ⟨⟨zwc5 66 rfl rfl, (zwc1 11 rfl rfl), ⟨by decide +kernel, by decide +kernel⟩, by decide +kernel⟩, (zwc5 65 rfl rfl)⟩
abbrev b9_twoOf : ByteArray := prog_11_method_52_code
def y9_twoOf : MethodName := ⟨R9, "twoOf", "(III)I"⟩
theorem yy9_twoOf : zYS y9_twoOf b9_twoOf 3 (some .int) 3 := ⟨⟨zwc5 63 rfl rfl, (zwc1 11 rfl rfl), ⟨by decide +kernel, by decide +kernel⟩, by decide +kernel⟩, (zwc5 62 rfl rfl)⟩
abbrev b9_works : ByteArray := prog_11_method_53_code
def y9_works : MethodName := ⟨R9, "works", "(I)I"⟩
theorem yy9_works : zYV y9_works b9_works 5 (some .int) 1 := ⟨⟨zwc5 60 rfl rfl, (zwc1 11 rfl rfl), ⟨by decide +kernel, by decide +kernel⟩, by decide +kernel⟩, (zwc5 59 rfl rfl), (zws 39 rfl rfl)⟩
theorem yc9_works : zYC y9_works 9 := ⟨by decide, T9, 27, rfl⟩
abbrev b9_gives : ByteArray := prog_11_method_54_code
def y9_gives : MethodName := ⟨R9, "gives", "(IIII)I"⟩
theorem yy9_gives : zYV y9_gives b9_gives 7 (some .int) 4 := ⟨⟨zwc5 56 rfl rfl, (zwc1 11 rfl rfl), ⟨by decide +kernel, by decide +kernel⟩, by decide +kernel⟩, (zwc5 55 rfl rfl), (zws 38 rfl rfl)⟩
theorem yc9_gives : zYC y9_gives 9 := ⟨by decide, T9, 27, rfl⟩
abbrev b9_isNight : ByteArray := prog_11_method_14_code
def y9_isNight : MethodName := ⟨R9, "isNight", "()Z"⟩
theorem yy9_isNight : zYV y9_isNight b9_isNight 2 (some .boolean) 0 := ⟨⟨zwc4 236 rfl rfl, (zwc1 11 rfl rfl), ⟨by decide +kernel, by decide +kernel⟩, by decide +kernel⟩, (zwc4 235 rfl rfl), (zws 30 rfl rfl)⟩
theorem yc9_isNight : zYC y9_isNight 9 := ⟨by decide, T9, 27, rfl⟩
abbrev b9_plainOnward : ByteArray := prog_11_method_16_code
def y9_plainOnward : MethodName := ⟨R9, "plainOnward", "(II)I"⟩
theorem yy9_plainOnward : zYS y9_plainOnward b9_plainOnward 2 (some .int) 2 := ⟨⟨zwc4 229 rfl rfl, (zwc1 11 rfl rfl), ⟨by decide +kernel, by decide +kernel⟩, by decide +kernel⟩, (zwc4 228 rfl rfl)⟩
abbrev b9_onward : ByteArray := prog_11_method_17_code
def y9_onward : MethodName := ⟨R9, "onward", "(II)I"⟩
theorem yy9_onward : zYV y9_onward b9_onward 4 (some .int) 2 := ⟨⟨zwc4 226 rfl rfl, (zwc1 11 rfl rfl), ⟨by decide +kernel, by decide +kernel⟩, by decide +kernel⟩, (zwc4 225 rfl rfl), (zws 29 rfl rfl)⟩
theorem yc9_onward : zYC y9_onward 9 := ⟨by decide, T9, 27, rfl⟩
abbrev b9_meet : ByteArray := prog_11_method_19_code
def y9_meet : MethodName := ⟨R9, "meet", "(II)I"⟩
theorem yy9_meet : zYV y9_meet b9_meet 4 (some .int) 2 := ⟨⟨zwc5 52 rfl rfl, (zwc1 11 rfl rfl), ⟨by decide +kernel, by decide +kernel⟩, by decide +kernel⟩, (zwc5 51 rfl rfl), (zws 37 rfl rfl)⟩
theorem yc9_meet : zYC y9_meet 9 := ⟨by decide, T9, 27, rfl⟩
abbrev b9_next : ByteArray := prog_11_method_18_code
def y9_next : MethodName := ⟨R9, "next", "(II)I"⟩
theorem yy9_next : zYS y9_next b9_next 2 (some .int) 2 := ⟨⟨zwc5 48 rfl rfl, (zwc1 11 rfl rfl), ⟨by decide +kernel, by decide +kernel⟩, by decide +kernel⟩, (zwc5 47 rfl rfl)⟩
abbrev b9_looks : ByteArray := prog_11_method_20_code
def y9_looks : MethodName := ⟨R9, "looks", "(II)V"⟩
theorem yy9_looks : zYV y9_looks b9_looks 6 none 2 := ⟨⟨zwc5 45 rfl rfl, (zwc1 11 rfl rfl), ⟨by decide +kernel, by decide +kernel⟩, by decide +kernel⟩, (zwc5 44 rfl rfl), (zws 36 rfl rfl)⟩
theorem yc9_looks : zYC y9_looks 9 := ⟨by decide, T9, 27, rfl⟩
abbrev b9_at : ByteArray := prog_11_method_63_code
def y9_at : MethodName := ⟨R9, "at", "(III)I"⟩
theorem yy9_at : zYV y9_at b9_at 4 (some .int) 3 := ⟨⟨zwc5 178 rfl rfl, (zwc1 11 rfl rfl), ⟨by decide +kernel, by decide +kernel⟩, by decide +kernel⟩, (zwc5 176 rfl rfl), (zwc5 177 rfl rfl)⟩
theorem yc9_at : zYC y9_at 9 := ⟨by decide, T9, 27, rfl⟩
abbrev b9_becomes : ByteArray := prog_11_method_10_code
def y9_becomes : MethodName := ⟨R9, "becomes", "(II)I"⟩
theorem yy9_becomes : zYV y9_becomes b9_becomes 4 (some .int) 2 := ⟨⟨zwc5 4 rfl rfl, (zwc1 11 rfl rfl), ⟨by decide +kernel, by decide +kernel⟩, by decide +kernel⟩, (zwc5 3 rfl rfl), (zws 31 rfl rfl)⟩
theorem yc9_becomes : zYC y9_becomes 9 := ⟨by decide, T9, 27, rfl⟩
abbrev b9_isKm : ByteArray := prog_11_method_24_code
def y9_isKm : MethodName := ⟨R9, "isKm", "(I)Z"⟩
theorem yy9_isKm : zYS y9_isKm b9_isKm 1 (some .boolean) 1 := ⟨⟨zwc4 185 rfl rfl, (zwc1 11 rfl rfl), ⟨by decide +kernel, by decide +kernel⟩, by decide +kernel⟩, (zwc4 184 rfl rfl)⟩
abbrev b9_become : ByteArray := prog_11_method_28_code
def y9_become : MethodName := ⟨R9, "become", "(II)I"⟩
theorem yy9_become : zYV y9_become b9_become 3 (some .int) 2 := ⟨⟨zwc5 0 rfl rfl, (zwc1 11 rfl rfl), ⟨by decide +kernel, by decide +kernel⟩, by decide +kernel⟩, (zwc4 238 rfl rfl), (zwc4 239 rfl rfl)⟩
theorem yc9_become : zYC y9_become 9 := ⟨by decide, T9, 27, rfl⟩
abbrev b9_begins : ByteArray := prog_11_method_75_code
def y9_begins : MethodName := ⟨R9, "begins", "(I)V"⟩
theorem yy9_begins : zYV y9_begins b9_begins 2 none 1 := ⟨⟨zwc6 8 rfl rfl, (zwc1 11 rfl rfl), ⟨by decide +kernel, by decide +kernel⟩, by decide +kernel⟩, (zwc6 7 rfl rfl), (zws 63 rfl rfl)⟩
theorem yc9_begins : zYC y9_begins 9 := ⟨by decide, T9, 27, rfl⟩
abbrev b9_body : ByteArray := prog_11_method_87_code
def y9_body : MethodName := ⟨R9, "body", "(I)I"⟩
theorem yy9_body : zYV y9_body b9_body 2 (some .int) 1 := ⟨⟨zwc6 45 rfl rfl, (zwc1 11 rfl rfl), ⟨by decide +kernel, by decide +kernel⟩, by decide +kernel⟩, (zwc6 43 rfl rfl), (zwc6 44 rfl rfl)⟩
theorem yc9_body : zYC y9_body 9 := ⟨by decide, T9, 27, rfl⟩
abbrev b9_isSeen : ByteArray := prog_11_method_21_code
def y9_isSeen : MethodName := ⟨R9, "isSeen", "(I)Z"⟩
theorem yy9_isSeen : zYV y9_isSeen b9_isSeen 3 (some .boolean) 1 := ⟨⟨zwc5 186 rfl rfl, (zwc1 11 rfl rfl), ⟨by decide +kernel, by decide +kernel⟩, by decide +kernel⟩, (zwc5 185 rfl rfl), (zws 55 rfl rfl)⟩
theorem yc9_isSeen : zYC y9_isSeen 9 := ⟨by decide, T9, 27, rfl⟩
abbrev b9_looksOf : ByteArray := prog_11_method_22_code
def y9_looksOf : MethodName := ⟨R9, "looksOf", "(I)V"⟩
theorem yy9_looksOf : zYV y9_looksOf b9_looksOf 2 none 1 := ⟨⟨zwc5 41 rfl rfl, (zwc1 11 rfl rfl), ⟨by decide +kernel, by decide +kernel⟩, by decide +kernel⟩, (zwc5 40 rfl rfl), (zws 35 rfl rfl)⟩
theorem yc9_looksOf : zYC y9_looksOf 9 := ⟨by decide, T9, 27, rfl⟩
abbrev b9_doesSee : ByteArray := prog_11_method_69_code
def y9_doesSee : MethodName := ⟨R9, "doesSee", "(II)Z"⟩
theorem yy9_doesSee : zYV y9_doesSee b9_doesSee 3 (some .boolean) 2 := ⟨⟨zwc5 217 rfl rfl, (zwc1 11 rfl rfl), ⟨by decide +kernel, by decide +kernel⟩, by decide +kernel⟩, (zwc5 216 rfl rfl), (zws 59 rfl rfl)⟩
theorem yc9_doesSee : zYC y9_doesSee 9 := ⟨by decide, T9, 27, rfl⟩
abbrev b9_canSee : ByteArray := prog_11_method_70_code
def y9_canSee : MethodName := ⟨R9, "canSee", "(IIII)Z"⟩
theorem yy9_canSee : zYV y9_canSee b9_canSee 9 (some .boolean) 4 := ⟨⟨zwc5 213 rfl rfl, (zwc1 11 rfl rfl), ⟨by decide +kernel, by decide +kernel⟩, by decide +kernel⟩, (zwc5 212 rfl rfl), (zws 58 rfl rfl)⟩
theorem yc9_canSee : zYC y9_canSee 9 := ⟨by decide, T9, 27, rfl⟩
abbrev b9_isPerson : ByteArray := prog_11_method_7_code
def y9_isPerson : MethodName := ⟨R9, "isPerson", "(I)Z"⟩
theorem yy9_isPerson : zYV y9_isPerson b9_isPerson 2 (some .boolean) 1 := ⟨⟨zwc5 29 rfl rfl, (zwc1 11 rfl rfl), ⟨by decide +kernel, by decide +kernel⟩, by decide +kernel⟩, (zwc5 28 rfl rfl), (zws 32 rfl rfl)⟩
theorem yc9_isPerson : zYC y9_isPerson 9 := ⟨by decide, T9, 27, rfl⟩
abbrev b9_check : ByteArray := prog_11_method_99_code
def y9_check : MethodName := ⟨R9, "check", "()I"⟩
theorem yy9_check : zYV y9_check b9_check 3 (some .int) 0 := ⟨⟨zwc6 89 rfl rfl, (zwc1 11 rfl rfl), ⟨by decide +kernel, by decide +kernel⟩, by decide +kernel⟩, (zwc6 87 rfl rfl), (zwc6 88 rfl rfl)⟩
theorem yc9_check : zYC y9_check 9 := ⟨by decide, T9, 27, rfl⟩
abbrev b9_copyAll : ByteArray := prog_11_method_5_code
def y9_copyAll : MethodName := ⟨R9, "copyAll", "([I[I)V"⟩
theorem yy9_copyAll : zYS y9_copyAll b9_copyAll 3 none 2 := ⟨⟨zwc5 197 rfl rfl, (zwc1 11 rfl rfl), ⟨by decide +kernel, by decide +kernel⟩, by decide +kernel⟩, (zwc5 196 rfl rfl)⟩
abbrev b9_count : ByteArray := prog_11_method_100_code
def y9_count : MethodName := ⟨R9, "count", "(I)I"⟩
theorem yy9_count : zYV y9_count b9_count 2 (some .int) 1 := ⟨⟨zwc6 93 rfl rfl, (zwc1 11 rfl rfl), ⟨by decide +kernel, by decide +kernel⟩, by decide +kernel⟩, (zwc6 91 rfl rfl), (zwc6 92 rfl rfl)⟩
theorem yc9_count : zYC y9_count 9 := ⟨by decide, T9, 27, rfl⟩
abbrev b9_draw : ByteArray := prog_11_method_58_code
def y9_draw : MethodName := ⟨R9, "draw", "()I"⟩
theorem yy9_draw : zYV y9_draw b9_draw 1 (some .int) 0 := ⟨⟨zwc5 164 rfl rfl, (zwc1 11 rfl rfl), ⟨by decide +kernel, by decide +kernel⟩, by decide +kernel⟩, (zwc5 163 rfl rfl), (zws 54 rfl rfl)⟩
theorem yc9_draw : zYC y9_draw 9 := ⟨by decide, T9, 27, rfl⟩
abbrev b9_drawn : ByteArray := prog_11_method_59_code
def y9_drawn : MethodName := ⟨R9, "drawn", "()V"⟩
theorem yy9_drawn : zYV y9_drawn b9_drawn 3 none 0 := ⟨⟨zwc5 160 rfl rfl, (zwc1 11 rfl rfl), ⟨by decide +kernel, by decide +kernel⟩, by decide +kernel⟩, (zwc5 159 rfl rfl), (zws 53 rfl rfl)⟩
theorem yc9_drawn : zYC y9_drawn 9 := ⟨by decide, T9, 27, rfl⟩
abbrev b9_dueOf : ByteArray := prog_11_method_23_code
def y9_dueOf : MethodName := ⟨R9, "dueOf", "(I)I"⟩
theorem yy9_dueOf : zYV y9_dueOf b9_dueOf 2 (some .int) 1 := ⟨⟨zwc5 37 rfl rfl, (zwc1 11 rfl rfl), ⟨by decide +kernel, by decide +kernel⟩, by decide +kernel⟩, (zwc5 36 rfl rfl), (zws 34 rfl rfl)⟩
theorem yc9_dueOf : zYC y9_dueOf 9 := ⟨by decide, T9, 27, rfl⟩
abbrev b9_plainGleams : ByteArray := prog_11_method_76_code
def y9_plainGleams : MethodName := ⟨R9, "plainGleams", "(II)I"⟩
theorem yy9_plainGleams : zYV y9_plainGleams b9_plainGleams 3 (some .int) 2 := ⟨⟨zwc6 12 rfl rfl, (zwc1 11 rfl rfl), ⟨by decide +kernel, by decide +kernel⟩, by decide +kernel⟩, (zwc6 11 rfl rfl), (zws 64 rfl rfl)⟩
theorem yc9_plainGleams : zYC y9_plainGleams 9 := ⟨by decide, T9, 27, rfl⟩
abbrev b9_spoonGleams : ByteArray := prog_11_method_77_code
def y9_spoonGleams : MethodName := ⟨R9, "spoonGleams", "(II)I"⟩
theorem yy9_spoonGleams : zYV y9_spoonGleams b9_spoonGleams 3 (some .int) 2 := ⟨⟨zwc6 4 rfl rfl, (zwc1 11 rfl rfl), ⟨by decide +kernel, by decide +kernel⟩, by decide +kernel⟩, (zwc6 3 rfl rfl), (zws 62 rfl rfl)⟩
theorem yc9_spoonGleams : zYC y9_spoonGleams 9 := ⟨by decide, T9, 27, rfl⟩
abbrev b9_gleams : ByteArray := prog_11_method_78_code
def y9_gleams : MethodName := ⟨R9, "gleams", "(II)I"⟩
theorem yy9_gleams : zYV y9_gleams b9_gleams 3 (some .int) 2 := ⟨⟨zwc6 0 rfl rfl, (zwc1 11 rfl rfl), ⟨by decide +kernel, by decide +kernel⟩, by decide +kernel⟩, (zwc5 239 rfl rfl), (zws 61 rfl rfl)⟩
theorem yc9_gleams : zYC y9_gleams 9 := ⟨by decide, T9, 27, rfl⟩
abbrev b9_plainGlints : ByteArray := prog_11_method_79_code
def y9_plainGlints : MethodName := ⟨R9, "plainGlints", "(II)I"⟩
theorem yy9_plainGlints : zYV y9_plainGlints b9_plainGlints 3 (some .int) 2 := ⟨⟨zwc6 24 rfl rfl, (zwc1 11 rfl rfl), ⟨by decide +kernel, by decide +kernel⟩, by decide +kernel⟩, (zwc6 23 rfl rfl), (zws 67 rfl rfl)⟩
theorem yc9_plainGlints : zYC y9_plainGlints 9 := ⟨by decide, T9, 27, rfl⟩
abbrev b9_paneGlints : ByteArray := prog_11_method_80_code
def y9_paneGlints : MethodName := ⟨R9, "paneGlints", "(II)I"⟩
theorem yy9_paneGlints : zYV y9_paneGlints b9_paneGlints 3 (some .int) 2 := ⟨⟨zwc6 20 rfl rfl, (zwc1 11 rfl rfl), ⟨by decide +kernel, by decide +kernel⟩, by decide +kernel⟩, (zwc6 19 rfl rfl), (zws 66 rfl rfl)⟩
theorem yc9_paneGlints : zYC y9_paneGlints 9 := ⟨by decide, T9, 27, rfl⟩
abbrev b9_glints : ByteArray := prog_11_method_81_code
def y9_glints : MethodName := ⟨R9, "glints", "(II)I"⟩
theorem yy9_glints : zYV y9_glints b9_glints 3 (some .int) 2 := ⟨⟨zwc6 16 rfl rfl, (zwc1 11 rfl rfl), ⟨by decide +kernel, by decide +kernel⟩, by decide +kernel⟩, (zwc6 15 rfl rfl), (zws 65 rfl rfl)⟩
theorem yc9_glints : zYC y9_glints 9 := ⟨by decide, T9, 27, rfl⟩
abbrev b9_plainFades : ByteArray := prog_11_method_82_code
def y9_plainFades : MethodName := ⟨R9, "plainFades", "(II)I"⟩
theorem yy9_plainFades : zYV y9_plainFades b9_plainFades 3 (some .int) 2 := ⟨⟨zwc6 32 rfl rfl, (zwc1 11 rfl rfl), ⟨by decide +kernel, by decide +kernel⟩, by decide +kernel⟩, (zwc6 31 rfl rfl), (zws 69 rfl rfl)⟩
theorem yc9_plainFades : zYC y9_plainFades 9 := ⟨by decide, T9, 27, rfl⟩
abbrev b9_fades : ByteArray := prog_11_method_83_code
def y9_fades : MethodName := ⟨R9, "fades", "(II)I"⟩
theorem yy9_fades : zYV y9_fades b9_fades 3 (some .int) 2 := ⟨⟨zwc6 28 rfl rfl, (zwc1 11 rfl rfl), ⟨by decide +kernel, by decide +kernel⟩, by decide +kernel⟩, (zwc6 27 rfl rfl), (zws 68 rfl rfl)⟩
theorem yc9_fades : zYC y9_fades 9 := ⟨by decide, T9, 27, rfl⟩
abbrev b9_feed : ByteArray := prog_11_method_38_code
def y9_feed : MethodName := ⟨R9, "feed", "(JI)I"⟩
theorem yy9_feed : zYV y9_feed b9_feed 5 (some .int) 2 := ⟨⟨zwc5 87 rfl rfl, (zwc1 11 rfl rfl), ⟨by decide +kernel, by decide +kernel⟩, by decide +kernel⟩, (zwc5 85 rfl rfl), (zwc5 86 rfl rfl)⟩
theorem yc9_feed : zYC y9_feed 9 := ⟨by decide, T9, 27, rfl⟩
abbrev b9_isSheet : ByteArray := prog_11_method_88_code
def y9_isSheet : MethodName := ⟨R9, "isSheet", "(I)Z"⟩
theorem yy9_isSheet : zYS y9_isSheet b9_isSheet 1 (some .boolean) 1 := ⟨⟨zwc5 228 rfl rfl, (zwc1 11 rfl rfl), ⟨by decide +kernel, by decide +kernel⟩, by decide +kernel⟩, (zwc5 227 rfl rfl)⟩
abbrev b9_isSo : ByteArray := prog_11_method_73_code
def y9_isSo : MethodName := ⟨R9, "isSo", "(I)Z"⟩
theorem yy9_isSo : zYV y9_isSo b9_isSo 4 (some .boolean) 1 := ⟨⟨zwc5 232 rfl rfl, (zwc1 11 rfl rfl), ⟨by decide +kernel, by decide +kernel⟩, by decide +kernel⟩, (zwc5 231 rfl rfl), (zws 60 rfl rfl)⟩
theorem yc9_isSo : zYC y9_isSo 9 := ⟨by decide, T9, 27, rfl⟩
abbrev b9_fits : ByteArray := prog_11_method_74_code
def y9_fits : MethodName := ⟨R9, "fits", "(II)I"⟩
theorem yy9_fits : zYV y9_fits b9_fits 7 (some .int) 2 := ⟨⟨zwc5 225 rfl rfl, (zwc1 11 rfl rfl), ⟨by decide +kernel, by decide +kernel⟩, by decide +kernel⟩, (zwc5 223 rfl rfl), (zwc5 224 rfl rfl)⟩
theorem yc9_fits : zYC y9_fits 9 := ⟨by decide, T9, 27, rfl⟩
abbrev b9_glass : ByteArray := prog_11_method_25_code
def y9_glass : MethodName := ⟨R9, "glass", "(III)I"⟩
theorem yy9_glass : zYV y9_glass b9_glass 6 (some .int) 3 := ⟨⟨zwc4 182 rfl rfl, (zwc1 11 rfl rfl), ⟨by decide +kernel, by decide +kernel⟩, by decide +kernel⟩, (zwc4 180 rfl rfl), (zwc4 181 rfl rfl)⟩
theorem yc9_glass : zYC y9_glass 9 := ⟨by decide, T9, 27, rfl⟩
abbrev b9_glassIs : ByteArray := prog_11_method_26_code
def y9_glassIs : MethodName := ⟨R9, "glassIs", "(II)I"⟩
theorem yy9_glassIs : zYV y9_glassIs b9_glassIs 3 (some .int) 2 := ⟨⟨zwc4 214 rfl rfl, (zwc1 11 rfl rfl), ⟨by decide +kernel, by decide +kernel⟩, by decide +kernel⟩, (zwc4 212 rfl rfl), (zwc4 213 rfl rfl)⟩
theorem yc9_glassIs : zYC y9_glassIs 9 := ⟨by decide, T9, 27, rfl⟩
abbrev b9_goes : ByteArray := prog_11_method_56_code
def y9_goes : MethodName := ⟨R9, "goes", "()V"⟩
theorem yy9_goes : zYV y9_goes b9_goes 3 none 0 := ⟨⟨zwc5 152 rfl rfl, (zwc1 11 rfl rfl), ⟨by decide +kernel, by decide +kernel⟩, by decide +kernel⟩, (zwc5 151 rfl rfl), (zws 52 rfl rfl)⟩
theorem yc9_goes : zYC y9_goes 9 := ⟨by decide, T9, 27, rfl⟩
abbrev b9_hang : ByteArray := prog_11_method_31_code
def y9_hang : MethodName := ⟨R9, "hang", "(II)I"⟩
theorem yy9_hang : zYV y9_hang b9_hang 4 (some .int) 2 := ⟨⟨zwc5 17 rfl rfl, (zwc1 11 rfl rfl), ⟨by decide +kernel, by decide +kernel⟩, by decide +kernel⟩, (zwc5 15 rfl rfl), (zwc5 16 rfl rfl)⟩
theorem yc9_hang : zYC y9_hang 9 := ⟨by decide, T9, 27, rfl⟩
abbrev b9_hour : ByteArray := prog_11_method_37_code
def y9_hour : MethodName := ⟨R9, "hour", "(I)I"⟩
theorem yy9_hour : zYV y9_hour b9_hour 2 (some .int) 1 := ⟨⟨zwc5 83 rfl rfl, (zwc1 11 rfl rfl), ⟨by decide +kernel, by decide +kernel⟩, by decide +kernel⟩, (zwc5 81 rfl rfl), (zwc5 82 rfl rfl)⟩
theorem yc9_hour : zYC y9_hour 9 := ⟨by decide, T9, 27, rfl⟩
abbrev b9_hours : ByteArray := prog_11_method_57_code
def y9_hours : MethodName := ⟨R9, "hours", "(I)I"⟩
theorem yy9_hours : zYV y9_hours b9_hours 3 (some .int) 1 := ⟨⟨zwc5 148 rfl rfl, (zwc1 11 rfl rfl), ⟨by decide +kernel, by decide +kernel⟩, by decide +kernel⟩, (zwc5 146 rfl rfl), (zwc5 147 rfl rfl)⟩
theorem yc9_hours : zYC y9_hours 9 := ⟨by decide, T9, 27, rfl⟩
abbrev b9_image : ByteArray := prog_11_method_96_code
def y9_image : MethodName := ⟨R9, "image", "()I"⟩
theorem yy9_image : zYV y9_image b9_image 1 (some .int) 0 := ⟨⟨zwc6 77 rfl rfl, (zwc1 11 rfl rfl), ⟨by decide +kernel, by decide +kernel⟩, by decide +kernel⟩, (zwc6 75 rfl rfl), (zwc6 76 rfl rfl)⟩
theorem yc9_image : zYC y9_image 9 := ⟨by decide, T9, 27, rfl⟩
abbrev b9_notThere : ByteArray := prog_11_method_90_code
def y9_notThere : MethodName := ⟨R9, "notThere", "(I)I"⟩
theorem yy9_notThere : zYV y9_notThere b9_notThere 2 (some .int) 1 := ⟨⟨zwc6 57 rfl rfl, (zwc1 11 rfl rfl), ⟨by decide +kernel, by decide +kernel⟩, by decide +kernel⟩, (zwc6 56 rfl rfl), (zws 72 rfl rfl)⟩
theorem yc9_notThere : zYC y9_notThere 9 := ⟨by decide, T9, 27, rfl⟩
abbrev b9_judge : ByteArray := prog_11_method_95_code
def y9_judge : MethodName := ⟨R9, "judge", "(I)I"⟩
theorem yy9_judge : zYV y9_judge b9_judge 4 (some .int) 1 := ⟨⟨zwc6 73 rfl rfl, (zwc1 11 rfl rfl), ⟨by decide +kernel, by decide +kernel⟩, by decide +kernel⟩, (zwc6 71 rfl rfl), (zwc6 72 rfl rfl)⟩
theorem yc9_judge : zYC y9_judge 9 := ⟨by decide, T9, 27, rfl⟩
abbrev b9_law : ByteArray := prog_11_method_55_code
def y9_law : MethodName := ⟨R9, "law", "(IIII)I"⟩
theorem yy9_law : zYV y9_law b9_law 5 (some .int) 4 := ⟨⟨zwc5 144 rfl rfl, (zwc1 11 rfl rfl), ⟨by decide +kernel, by decide +kernel⟩, by decide +kernel⟩, (zwc5 142 rfl rfl), (zwc5 143 rfl rfl)⟩
theorem yc9_law : zYC y9_law 9 := ⟨by decide, T9, 27, rfl⟩
abbrev b9_look : ByteArray := prog_11_method_62_code
def y9_look : MethodName := ⟨R9, "look", "(III)I"⟩
theorem yy9_look : zYV y9_look b9_look 4 (some .int) 3 := ⟨⟨zwc5 173 rfl rfl, (zwc1 11 rfl rfl), ⟨by decide +kernel, by decide +kernel⟩, by decide +kernel⟩, (zwc5 171 rfl rfl), (zwc5 172 rfl rfl)⟩
theorem yc9_look : zYC y9_look 9 := ⟨by decide, T9, 27, rfl⟩
abbrev b9_loose : ByteArray := prog_11_method_60_code
def y9_loose : MethodName := ⟨R9, "loose", "(I)I"⟩
theorem yy9_loose : zYV y9_loose b9_loose 3 (some .int) 1 := ⟨⟨zwc5 156 rfl rfl, (zwc1 11 rfl rfl), ⟨by decide +kernel, by decide +kernel⟩, by decide +kernel⟩, (zwc5 154 rfl rfl), (zwc5 155 rfl rfl)⟩
theorem yc9_loose : zYC y9_loose 9 := ⟨by decide, T9, 27, rfl⟩
abbrev b9_notMoved : ByteArray := prog_11_method_92_code
def y9_notMoved : MethodName := ⟨R9, "notMoved", "(IIIII)I"⟩
theorem yy9_notMoved : zYV y9_notMoved b9_notMoved 7 (some .int) 5 := ⟨⟨zwc6 65 rfl rfl, (zwc1 11 rfl rfl), ⟨by decide +kernel, by decide +kernel⟩, by decide +kernel⟩, (zwc6 64 rfl rfl), (zws 73 rfl rfl)⟩
theorem yc9_notMoved : zYC y9_notMoved 9 := ⟨by decide, T9, 27, rfl⟩
abbrev b9_move : ByteArray := prog_11_method_93_code
def y9_move : MethodName := ⟨R9, "move", "(IIIII)I"⟩
theorem yy9_move : zYV y9_move b9_move 9 (some .int) 5 := ⟨⟨zwc6 61 rfl rfl, (zwc1 11 rfl rfl), ⟨by decide +kernel, by decide +kernel⟩, by decide +kernel⟩, (zwc6 59 rfl rfl), (zwc6 60 rfl rfl)⟩
theorem yc9_move : zYC y9_move 9 := ⟨by decide, T9, 27, rfl⟩
abbrev b9_odds : ByteArray := prog_11_method_72_code
def y9_odds : MethodName := ⟨R9, "odds", "(I)I"⟩
theorem yy9_odds : zYV y9_odds b9_odds 4 (some .int) 1 := ⟨⟨zwc5 221 rfl rfl, (zwc1 11 rfl rfl), ⟨by decide +kernel, by decide +kernel⟩, by decide +kernel⟩, (zwc5 219 rfl rfl), (zwc5 220 rfl rfl)⟩
theorem yc9_odds : zYC y9_odds 9 := ⟨by decide, T9, 27, rfl⟩
abbrev b9_plainParts : ByteArray := prog_11_method_84_code
def y9_plainParts : MethodName := ⟨R9, "plainParts", "(II)I"⟩
theorem yy9_plainParts : zYV y9_plainParts b9_plainParts 4 (some .int) 2 := ⟨⟨zwc6 40 rfl rfl, (zwc1 11 rfl rfl), ⟨by decide +kernel, by decide +kernel⟩, by decide +kernel⟩, (zwc6 39 rfl rfl), (zws 71 rfl rfl)⟩
theorem yc9_plainParts : zYC y9_plainParts 9 := ⟨by decide, T9, 27, rfl⟩
abbrev b9_parts : ByteArray := prog_11_method_85_code
def y9_parts : MethodName := ⟨R9, "parts", "(II)I"⟩
theorem yy9_parts : zYV y9_parts b9_parts 4 (some .int) 2 := ⟨⟨zwc6 36 rfl rfl, (zwc1 11 rfl rfl), ⟨by decide +kernel, by decide +kernel⟩, by decide +kernel⟩, (zwc6 35 rfl rfl), (zws 70 rfl rfl)⟩
theorem yc9_parts : zYC y9_parts 9 := ⟨by decide, T9, 27, rfl⟩
abbrev b9_pay : ByteArray := prog_11_method_36_code
def y9_pay : MethodName := ⟨R9, "pay", "(II)I"⟩
theorem yy9_pay : zYV y9_pay b9_pay 4 (some .int) 2 := ⟨⟨zwc5 78 rfl rfl, (zwc1 11 rfl rfl), ⟨by decide +kernel, by decide +kernel⟩, by decide +kernel⟩, (zwc5 76 rfl rfl), (zwc5 77 rfl rfl)⟩
theorem yc9_pay : zYC y9_pay 9 := ⟨by decide, T9, 27, rfl⟩
abbrev b9_person : ByteArray := prog_11_method_32_code
def y9_person : MethodName := ⟨R9, "person", "(II)I"⟩
theorem yy9_person : zYV y9_person b9_person 4 (some .int) 2 := ⟨⟨zwc5 21 rfl rfl, (zwc1 11 rfl rfl), ⟨by decide +kernel, by decide +kernel⟩, by decide +kernel⟩, (zwc5 19 rfl rfl), (zwc5 20 rfl rfl)⟩
theorem yc9_person : zYC y9_person 9 := ⟨by decide, T9, 27, rfl⟩
abbrev b9_personIs : ByteArray := prog_11_method_33_code
def y9_personIs : MethodName := ⟨R9, "personIs", "(II)I"⟩
theorem yy9_personIs : zYV y9_personIs b9_personIs 3 (some .int) 2 := ⟨⟨zwc5 25 rfl rfl, (zwc1 11 rfl rfl), ⟨by decide +kernel, by decide +kernel⟩, by decide +kernel⟩, (zwc5 23 rfl rfl), (zwc5 24 rfl rfl)⟩
theorem yc9_personIs : zYC y9_personIs 9 := ⟨by decide, T9, 27, rfl⟩
abbrev b9_put : ByteArray := prog_11_method_91_code
def y9_put : MethodName := ⟨R9, "put", "(III)I"⟩
theorem yy9_put : zYV y9_put b9_put 5 (some .int) 3 := ⟨⟨zwc6 53 rfl rfl, (zwc1 11 rfl rfl), ⟨by decide +kernel, by decide +kernel⟩, by decide +kernel⟩, (zwc6 51 rfl rfl), (zwc6 52 rfl rfl)⟩
theorem yc9_put : zYC y9_put 9 := ⟨by decide, T9, 27, rfl⟩
abbrev b9_putsBack : ByteArray := prog_11_method_66_code
def y9_putsBack : MethodName := ⟨R9, "putsBack", "()V"⟩
theorem yy9_putsBack : zYV y9_putsBack b9_putsBack 1 none 0 := ⟨⟨zwc5 201 rfl rfl, (zwc1 11 rfl rfl), ⟨by decide +kernel, by decide +kernel⟩, by decide +kernel⟩, (zwc5 200 rfl rfl), (zws 57 rfl rfl)⟩
theorem yc9_putsBack : zYC y9_putsBack 9 := ⟨by decide, T9, 27, rfl⟩
abbrev b9_restore : ByteArray := prog_11_method_97_code
def y9_restore : MethodName := ⟨R9, "restore", "()I"⟩
theorem yy9_restore : zYV y9_restore b9_restore 1 (some .int) 0 := ⟨⟨zwc6 81 rfl rfl, (zwc1 11 rfl rfl), ⟨by decide +kernel, by decide +kernel⟩, by decide +kernel⟩, (zwc6 79 rfl rfl), (zwc6 80 rfl rfl)⟩
theorem yc9_restore : zYC y9_restore 9 := ⟨by decide, T9, 27, rfl⟩
abbrev b9_seed : ByteArray := prog_11_method_61_code
def y9_seed : MethodName := ⟨R9, "seed", "(I)I"⟩
theorem yy9_seed : zYV y9_seed b9_seed 2 (some .int) 1 := ⟨⟨zwc5 169 rfl rfl, (zwc1 11 rfl rfl), ⟨by decide +kernel, by decide +kernel⟩, by decide +kernel⟩, (zwc5 167 rfl rfl), (zwc5 168 rfl rfl)⟩
theorem yc9_seed : zYC y9_seed 9 := ⟨by decide, T9, 27, rfl⟩
abbrev b9_sees : ByteArray := prog_11_method_64_code
def y9_sees : MethodName := ⟨R9, "sees", "(I)I"⟩
theorem yy9_sees : zYV y9_sees b9_sees 4 (some .int) 1 := ⟨⟨zwc5 182 rfl rfl, (zwc1 11 rfl rfl), ⟨by decide +kernel, by decide +kernel⟩, by decide +kernel⟩, (zwc5 180 rfl rfl), (zwc5 181 rfl rfl)⟩
theorem yc9_sees : zYC y9_sees 9 := ⟨by decide, T9, 27, rfl⟩
abbrev b9_sheet : ByteArray := prog_11_method_89_code
def y9_sheet : MethodName := ⟨R9, "sheet", "(III)I"⟩
theorem yy9_sheet : zYV y9_sheet b9_sheet 5 (some .int) 3 := ⟨⟨zwc6 49 rfl rfl, (zwc1 11 rfl rfl), ⟨by decide +kernel, by decide +kernel⟩, by decide +kernel⟩, (zwc6 47 rfl rfl), (zwc6 48 rfl rfl)⟩
theorem yc9_sheet : zYC y9_sheet 9 := ⟨by decide, T9, 27, rfl⟩
abbrev b9_spin : ByteArray := prog_11_method_30_code
def y9_spin : MethodName := ⟨R9, "spin", "(II)I"⟩
theorem yy9_spin : zYV y9_spin b9_spin 3 (some .int) 2 := ⟨⟨zwc5 13 rfl rfl, (zwc1 11 rfl rfl), ⟨by decide +kernel, by decide +kernel⟩, by decide +kernel⟩, (zwc5 11 rfl rfl), (zwc5 12 rfl rfl)⟩
theorem yc9_spin : zYC y9_spin 9 := ⟨by decide, T9, 27, rfl⟩
abbrev b9_spins : ByteArray := prog_11_method_71_code
def y9_spins : MethodName := ⟨R9, "spins", "(III)I"⟩
theorem yy9_spins : zYV y9_spins b9_spins 6 (some .int) 3 := ⟨⟨zwc5 209 rfl rfl, (zwc1 11 rfl rfl), ⟨by decide +kernel, by decide +kernel⟩, by decide +kernel⟩, (zwc5 207 rfl rfl), (zwc5 208 rfl rfl)⟩
theorem yc9_spins : zYC y9_spins 9 := ⟨by decide, T9, 27, rfl⟩
abbrev b9_stands : ByteArray := prog_11_method_34_code
def y9_stands : MethodName := ⟨R9, "stands", "(III)I"⟩
theorem yy9_stands : zYV y9_stands b9_stands 5 (some .int) 3 := ⟨⟨zwc5 74 rfl rfl, (zwc1 11 rfl rfl), ⟨by decide +kernel, by decide +kernel⟩, by decide +kernel⟩, (zwc5 73 rfl rfl), (zws 40 rfl rfl)⟩
theorem yc9_stands : zYC y9_stands 9 := ⟨by decide, T9, 27, rfl⟩
abbrev b9_stand : ByteArray := prog_11_method_35_code
def y9_stand : MethodName := ⟨R9, "stand", "(III)I"⟩
theorem yy9_stand : zYV y9_stand b9_stand 4 (some .int) 3 := ⟨⟨zwc5 70 rfl rfl, (zwc1 11 rfl rfl), ⟨by decide +kernel, by decide +kernel⟩, by decide +kernel⟩, (zwc5 68 rfl rfl), (zwc5 69 rfl rfl)⟩
theorem yc9_stand : zYC y9_stand 9 := ⟨by decide, T9, 27, rfl⟩
abbrev b9_starts : ByteArray := prog_11_method_68_code
def y9_starts : MethodName := ⟨R9, "starts", "(II)I"⟩
theorem yy9_starts : zYV y9_starts b9_starts 7 (some .int) 2 := ⟨⟨zwc5 205 rfl rfl, (zwc1 11 rfl rfl), ⟨by decide +kernel, by decide +kernel⟩, by decide +kernel⟩, (zwc5 203 rfl rfl), (zwc5 204 rfl rfl)⟩
theorem yc9_starts : zYC y9_starts 9 := ⟨by decide, T9, 27, rfl⟩
abbrev b9_tell : ByteArray := prog_11_method_98_code
def y9_tell : MethodName := ⟨R9, "tell", "(I)I"⟩
theorem yy9_tell : zYV y9_tell b9_tell 2 (some .int) 1 := ⟨⟨zwc6 85 rfl rfl, (zwc1 11 rfl rfl), ⟨by decide +kernel, by decide +kernel⟩, by decide +kernel⟩, (zwc6 83 rfl rfl), (zwc6 84 rfl rfl)⟩
theorem yc9_tell : zYC y9_tell 9 := ⟨by decide, T9, 27, rfl⟩
abbrev b9_text : ByteArray := prog_11_method_50_code
def y9_text : MethodName := ⟨R9, "text", "(I)I"⟩
theorem yy9_text : zYV y9_text b9_text 4 (some .int) 1 := ⟨⟨zwc5 92 rfl rfl, (zwc1 11 rfl rfl), ⟨by decide +kernel, by decide +kernel⟩, by decide +kernel⟩, (zwc5 90 rfl rfl), (zwc5 91 rfl rfl)⟩
theorem yc9_text : zYC y9_text 9 := ⟨by decide, T9, 27, rfl⟩
abbrev b9_thinks : ByteArray := prog_11_method_65_code
def y9_thinks : MethodName := ⟨R9, "thinks", "()V"⟩
theorem yy9_thinks : zYV y9_thinks b9_thinks 1 none 0 := ⟨⟨zwc5 194 rfl rfl, (zwc1 11 rfl rfl), ⟨by decide +kernel, by decide +kernel⟩, by decide +kernel⟩, (zwc5 193 rfl rfl), (zws 56 rfl rfl)⟩
theorem yc9_thinks : zYC y9_thinks 9 := ⟨by decide, T9, 27, rfl⟩
abbrev b9_then : ByteArray := prog_11_method_67_code
def y9_then : MethodName := ⟨R9, "then", "(II)I"⟩
theorem yy9_then : zYV y9_then b9_then 4 (some .int) 2 := ⟨⟨zwc5 190 rfl rfl, (zwc1 11 rfl rfl), ⟨by decide +kernel, by decide +kernel⟩, by decide +kernel⟩, (zwc5 188 rfl rfl), (zwc5 189 rfl rfl)⟩
theorem yc9_then : zYC y9_then 9 := ⟨by decide, T9, 27, rfl⟩
abbrev b9_throwsOn : ByteArray := prog_11_method_27_code
def y9_throwsOn : MethodName := ⟨R9, "throwsOn", "(II)I"⟩
theorem yy9_throwsOn : zYV y9_throwsOn b9_throwsOn 3 (some .int) 2 := ⟨⟨zwc4 222 rfl rfl, (zwc1 11 rfl rfl), ⟨by decide +kernel, by decide +kernel⟩, by decide +kernel⟩, (zwc4 220 rfl rfl), (zwc4 221 rfl rfl)⟩
theorem yc9_throwsOn : zYC y9_throwsOn 9 := ⟨by decide, T9, 27, rfl⟩
abbrev b9_told : ByteArray := prog_11_method_101_code
def y9_told : MethodName := ⟨R9, "told", "(I)I"⟩
theorem yy9_told : zYV y9_told b9_told 2 (some .int) 1 := ⟨⟨zwc6 97 rfl rfl, (zwc1 11 rfl rfl), ⟨by decide +kernel, by decide +kernel⟩, by decide +kernel⟩, (zwc6 95 rfl rfl), (zwc6 96 rfl rfl)⟩
theorem yc9_told : zYC y9_told 9 := ⟨by decide, T9, 27, rfl⟩
abbrev b9_turnsOf : ByteArray := prog_11_method_94_code
def y9_turnsOf : MethodName := ⟨R9, "turnsOf", "(I)I"⟩
theorem yy9_turnsOf : zYV y9_turnsOf b9_turnsOf 4 (some .int) 1 := ⟨⟨zwc6 69 rfl rfl, (zwc1 11 rfl rfl), ⟨by decide +kernel, by decide +kernel⟩, by decide +kernel⟩, (zwc6 67 rfl rfl), (zwc6 68 rfl rfl)⟩
theorem yc9_turnsOf : zYC y9_turnsOf 9 := ⟨by decide, T9, 27, rfl⟩
abbrev b9_untell : ByteArray := prog_11_method_51_code
def y9_untell : MethodName := ⟨R9, "untell", "(I)I"⟩
theorem yy9_untell : zYV y9_untell b9_untell 2 (some .int) 1 := ⟨⟨zwc5 140 rfl rfl, (zwc1 11 rfl rfl), ⟨by decide +kernel, by decide +kernel⟩, by decide +kernel⟩, (zwc5 138 rfl rfl), (zwc5 139 rfl rfl)⟩
theorem yc9_untell : zYC y9_untell 9 := ⟨by decide, T9, 27, rfl⟩
abbrev b9_voice : ByteArray := prog_11_method_86_code
def y9_voice : MethodName := ⟨R9, "voice", "(III)I"⟩
theorem yy9_voice : zYV y9_voice b9_voice 5 (some .int) 3 := ⟨⟨zwc5 236 rfl rfl, (zwc1 11 rfl rfl), ⟨by decide +kernel, by decide +kernel⟩, by decide +kernel⟩, (zwc5 234 rfl rfl), (zwc5 235 rfl rfl)⟩
theorem yc9_voice : zYC y9_voice 9 := ⟨by decide, T9, 27, rfl⟩
-- words
theorem fl_46 : zFI R0 9 0 0 := ⟨R0, T0, 5, rfl, by decide, by decide, rfl, zwc1 46 rfl rfl, rfl⟩
theorem fl_47 : zFI R7 15 0 0 := ⟨R0, T0, 5, rfl, by decide, by decide, rfl, zwc1 47 rfl rfl, rfl⟩
theorem fl_48 : zFI R8 86 0 0 := ⟨R0, T0, 5, rfl, by decide, by decide, rfl, zwc1 48 rfl rfl, rfl⟩
theorem fl_49 : zFI R5 87 0 0 := ⟨R0, T0, 5, rfl, by decide, by decide, rfl, zwc1 49 rfl rfl, rfl⟩
theorem fl_50 : zFI R0 15 0 1 := ⟨R0, T0, 5, rfl, by decide, by decide, rfl, zwc1 50 rfl rfl, rfl⟩
theorem fl_51 : zFI R7 25 0 1 := ⟨R0, T0, 5, rfl, by decide, by decide, rfl, zwc1 51 rfl rfl, rfl⟩
theorem fl_52 : zFI R8 91 0 1 := ⟨R0, T0, 5, rfl, by decide, by decide, rfl, zwc1 52 rfl rfl, rfl⟩
theorem fl_53 : zFI R5 90 0 1 := ⟨R0, T0, 5, rfl, by decide, by decide, rfl, zwc1 53 rfl rfl, rfl⟩
theorem fl_54 : zFI R0 18 0 2 := ⟨R0, T0, 5, rfl, by decide, by decide, rfl, zwc1 54 rfl rfl, rfl⟩
theorem fl_55 : zFI R8 94 0 2 := ⟨R0, T0, 5, rfl, by decide, by decide, rfl, zwc1 55 rfl rfl, rfl⟩
theorem fl_56 : zFI R5 99 0 2 := ⟨R0, T0, 5, rfl, by decide, by decide, rfl, zwc1 56 rfl rfl, rfl⟩
theorem fl_57 : zFI R0 21 0 3 := ⟨R0, T0, 5, rfl, by decide, by decide, rfl, zwc1 57 rfl rfl, rfl⟩
theorem fl_58 : zFI R8 97 0 3 := ⟨R0, T0, 5, rfl, by decide, by decide, rfl, zwc1 58 rfl rfl, rfl⟩
theorem fl_59 : zFI R5 93 0 3 := ⟨R0, T0, 5, rfl, by decide, by decide, rfl, zwc1 59 rfl rfl, rfl⟩
theorem fl_60 : zFI R0 24 0 4 := ⟨R0, T0, 5, rfl, by decide, by decide, rfl, zwc1 60 rfl rfl, rfl⟩
theorem fl_61 : zFI R8 100 0 4 := ⟨R0, T0, 5, rfl, by decide, by decide, rfl, zwc1 61 rfl rfl, rfl⟩
theorem fl_62 : zFI R5 96 0 4 := ⟨R0, T0, 5, rfl, by decide, by decide, rfl, zwc1 62 rfl rfl, rfl⟩
theorem fl_80 : zFI R2 7 2 0 := ⟨R2, T2, 3, rfl, by decide, by decide, rfl, zwc1 80 rfl rfl, rfl⟩
theorem fl_81 : zFI R5 114 2 0 := ⟨R2, T2, 3, rfl, by decide, by decide, rfl, zwc1 81 rfl rfl, rfl⟩
theorem fl_82 : zFI R8 132 2 0 := ⟨R2, T2, 3, rfl, by decide, by decide, rfl, zwc1 82 rfl rfl, rfl⟩
theorem fl_83 : zFI R2 13 2 1 := ⟨R2, T2, 3, rfl, by decide, by decide, rfl, zwc1 83 rfl rfl, rfl⟩
theorem fl_84 : zFI R5 115 2 1 := ⟨R2, T2, 3, rfl, by decide, by decide, rfl, zwc1 84 rfl rfl, rfl⟩
theorem fl_85 : zFI R8 135 2 1 := ⟨R2, T2, 3, rfl, by decide, by decide, rfl, zwc1 85 rfl rfl, rfl⟩
theorem fl_86 : zFI R2 16 2 2 := ⟨R2, T2, 3, rfl, by decide, by decide, rfl, zwc1 86 rfl rfl, rfl⟩
theorem fl_87 : zFI R5 118 2 2 := ⟨R2, T2, 3, rfl, by decide, by decide, rfl, zwc1 87 rfl rfl, rfl⟩
theorem fl_88 : zFI R8 138 2 2 := ⟨R2, T2, 3, rfl, by decide, by decide, rfl, zwc1 88 rfl rfl, rfl⟩
theorem fl_101 : zFR R6 9 6 0 0 := ⟨R6, T6, 4, rfl, by decide, by decide, rfl, zwc1 101 rfl rfl, rfl⟩
theorem fl_102 : zFR R6 15 6 1 1 := ⟨R6, T6, 4, rfl, by decide, by decide, rfl, zwc1 102 rfl rfl, rfl⟩
theorem fl_103 : zFI R6 24 6 2 := ⟨R6, T6, 4, rfl, by decide, by decide, rfl, zwc1 103 rfl rfl, rfl⟩
theorem fl_104 : zFI R3 32 6 2 := ⟨R6, T6, 4, rfl, by decide, by decide, rfl, zwc1 104 rfl rfl, rfl⟩
theorem fl_105 : zFI R6 28 6 3 := ⟨R6, T6, 4, rfl, by decide, by decide, rfl, zwc1 105 rfl rfl, rfl⟩
theorem fl_106 : zFI R3 33 6 3 := ⟨R6, T6, 4, rfl, by decide, by decide, rfl, zwc1 106 rfl rfl, rfl⟩
theorem fl_107 : zFI R5 125 6 3 := ⟨R6, T6, 4, rfl, by decide, by decide, rfl, zwc1 107 rfl rfl, rfl⟩
theorem fl_108 : zFI R8 182 6 3 := ⟨R6, T6, 4, rfl, by decide, by decide, rfl, zwc1 108 rfl rfl, rfl⟩
theorem fl_118 : zFR R5 11 5 0 0 := ⟨R5, T5, 12, rfl, by decide, by decide, rfl, zwc1 118 rfl rfl, rfl⟩
theorem fl_119 : zFR R5 19 5 1 1 := ⟨R5, T5, 12, rfl, by decide, by decide, rfl, zwc1 119 rfl rfl, rfl⟩
theorem fl_120 : zFR R5 25 5 2 2 := ⟨R5, T5, 12, rfl, by decide, by decide, rfl, zwc1 120 rfl rfl, rfl⟩
theorem fl_121 : zFR R5 29 5 3 3 := ⟨R5, T5, 12, rfl, by decide, by decide, rfl, zwc1 121 rfl rfl, rfl⟩
theorem fl_122 : zFR R5 33 5 4 4 := ⟨R5, T5, 12, rfl, by decide, by decide, rfl, zwc1 122 rfl rfl, rfl⟩
theorem fl_123 : zFR R8 165 5 4 4 := ⟨R5, T5, 12, rfl, by decide, by decide, rfl, zwc1 123 rfl rfl, rfl⟩
theorem fl_124 : zFR R5 36 5 5 5 := ⟨R5, T5, 12, rfl, by decide, by decide, rfl, zwc1 124 rfl rfl, rfl⟩
theorem fl_125 : zFI R8 71 5 6 := ⟨R5, T5, 12, rfl, by decide, by decide, rfl, zwc1 125 rfl rfl, rfl⟩
theorem fl_126 : zFI R5 68 5 6 := ⟨R5, T5, 12, rfl, by decide, by decide, rfl, zwc1 126 rfl rfl, rfl⟩
theorem fl_127 : zFI R5 71 5 7 := ⟨R5, T5, 12, rfl, by decide, by decide, rfl, zwc1 127 rfl rfl, rfl⟩
theorem fl_128 : zFI R8 121 5 7 := ⟨R5, T5, 12, rfl, by decide, by decide, rfl, zwc1 128 rfl rfl, rfl⟩
theorem fl_129 : zFI R5 74 5 8 := ⟨R5, T5, 12, rfl, by decide, by decide, rfl, zwc1 129 rfl rfl, rfl⟩
theorem fl_130 : zFI R8 154 5 8 := ⟨R5, T5, 12, rfl, by decide, by decide, rfl, zwc1 130 rfl rfl, rfl⟩
theorem fl_131 : zFI R5 77 5 9 := ⟨R5, T5, 12, rfl, by decide, by decide, rfl, zwc1 131 rfl rfl, rfl⟩
theorem fl_132 : zFI R8 286 5 9 := ⟨R5, T5, 12, rfl, by decide, by decide, rfl, zwc1 132 rfl rfl, rfl⟩
theorem fl_133 : zFI R5 80 5 10 := ⟨R5, T5, 12, rfl, by decide, by decide, rfl, zwc1 133 rfl rfl, rfl⟩
theorem fl_134 : zFI R8 151 5 10 := ⟨R5, T5, 12, rfl, by decide, by decide, rfl, zwc1 134 rfl rfl, rfl⟩
theorem fl_135 : zFI R5 39 5 11 := ⟨R5, T5, 12, rfl, by decide, by decide, rfl, zwc1 135 rfl rfl, rfl⟩
theorem fl_136 : zFI R8 197 5 11 := ⟨R5, T5, 12, rfl, by decide, by decide, rfl, zwc1 136 rfl rfl, rfl⟩
theorem fl_168 : zFR R1 11 1 0 0 := ⟨R1, T1, 5, rfl, by decide, by decide, rfl, zwc1 168 rfl rfl, rfl⟩
theorem fl_169 : zFR R1 15 1 1 1 := ⟨R1, T1, 5, rfl, by decide, by decide, rfl, zwc1 169 rfl rfl, rfl⟩
theorem fl_170 : zFI R1 24 1 2 := ⟨R1, T1, 5, rfl, by decide, by decide, rfl, zwc1 170 rfl rfl, rfl⟩
theorem fl_171 : zFI R8 211 1 2 := ⟨R1, T1, 5, rfl, by decide, by decide, rfl, zwc1 171 rfl rfl, rfl⟩
theorem fl_172 : zFI R1 28 1 3 := ⟨R1, T1, 5, rfl, by decide, by decide, rfl, zwc1 172 rfl rfl, rfl⟩
theorem fl_173 : zFI R5 147 1 3 := ⟨R1, T1, 5, rfl, by decide, by decide, rfl, zwc1 173 rfl rfl, rfl⟩
theorem fl_174 : zFI R8 217 1 3 := ⟨R1, T1, 5, rfl, by decide, by decide, rfl, zwc1 174 rfl rfl, rfl⟩
theorem fl_175 : zFI R1 31 1 4 := ⟨R1, T1, 5, rfl, by decide, by decide, rfl, zwc1 175 rfl rfl, rfl⟩
theorem fl_176 : zFI R5 142 1 4 := ⟨R1, T1, 5, rfl, by decide, by decide, rfl, zwc1 176 rfl rfl, rfl⟩
theorem fl_177 : zFI R8 208 1 4 := ⟨R1, T1, 5, rfl, by decide, by decide, rfl, zwc1 177 rfl rfl, rfl⟩
theorem fl_197 : zFR R3 12 3 0 0 := ⟨R3, T3, 5, rfl, by decide, by decide, rfl, zwc1 197 rfl rfl, rfl⟩
theorem fl_198 : zFR R8 172 3 0 0 := ⟨R3, T3, 5, rfl, by decide, by decide, rfl, zwc1 198 rfl rfl, rfl⟩
theorem fl_199 : zFD R3 18 3 1 := ⟨R3, T3, 5, rfl, by decide, by decide, rfl, zwc1 199 rfl rfl, rfl⟩
theorem fl_200 : zFI R3 22 3 2 := ⟨R3, T3, 5, rfl, by decide, by decide, rfl, zwc1 200 rfl rfl, rfl⟩
theorem fl_201 : zFI R3 26 3 3 := ⟨R3, T3, 5, rfl, by decide, by decide, rfl, zwc1 201 rfl rfl, rfl⟩
theorem fl_202 : zFI R3 29 3 4 := ⟨R3, T3, 5, rfl, by decide, by decide, rfl, zwc1 202 rfl rfl, rfl⟩
theorem fl_220 : zFR R7 11 7 0 0 := ⟨R7, T7, 6, rfl, by decide, by decide, rfl, zwc1 220 rfl rfl, rfl⟩
theorem fl_221 : zFI R7 29 7 1 := ⟨R7, T7, 6, rfl, by decide, by decide, rfl, zwc1 221 rfl rfl, rfl⟩
theorem fl_222 : zFI R8 251 7 1 := ⟨R7, T7, 6, rfl, by decide, by decide, rfl, zwc1 222 rfl rfl, rfl⟩
theorem fl_223 : zFI R7 32 7 2 := ⟨R7, T7, 6, rfl, by decide, by decide, rfl, zwc1 223 rfl rfl, rfl⟩
theorem fl_224 : zFI R8 248 7 2 := ⟨R7, T7, 6, rfl, by decide, by decide, rfl, zwc1 224 rfl rfl, rfl⟩
theorem fl_225 : zFI R7 21 7 3 := ⟨R7, T7, 6, rfl, by decide, by decide, rfl, zwc1 225 rfl rfl, rfl⟩
theorem fl_226 : zFI R7 22 7 4 := ⟨R7, T7, 6, rfl, by decide, by decide, rfl, zwc1 226 rfl rfl, rfl⟩
theorem fl_227 : zFI R7 28 7 5 := ⟨R7, T7, 6, rfl, by decide, by decide, rfl, zwc1 227 rfl rfl, rfl⟩
theorem fl_248 : zFR R4 9 4 0 0 := ⟨R4, T4, 3, rfl, by decide, by decide, rfl, zwc2 8 rfl rfl, rfl⟩
theorem fl_249 : zFR R8 268 4 0 0 := ⟨R4, T4, 3, rfl, by decide, by decide, rfl, zwc2 9 rfl rfl, rfl⟩
theorem fl_250 : zFI R4 21 4 1 := ⟨R4, T4, 3, rfl, by decide, by decide, rfl, zwc2 10 rfl rfl, rfl⟩
theorem fl_251 : zFI R8 237 4 1 := ⟨R4, T4, 3, rfl, by decide, by decide, rfl, zwc2 11 rfl rfl, rfl⟩
theorem fl_252 : zFI R4 25 4 2 := ⟨R4, T4, 3, rfl, by decide, by decide, rfl, zwc2 12 rfl rfl, rfl⟩
theorem fl_253 : zFI R8 260 4 2 := ⟨R4, T4, 3, rfl, by decide, by decide, rfl, zwc2 13 rfl rfl, rfl⟩
theorem fl_261 : zFR R8 10 8 0 0 := ⟨R8, T8, 11, rfl, by decide, by decide, rfl, zwc2 21 rfl rfl, rfl⟩
theorem fl_262 : zFR R8 16 8 1 27 := ⟨R8, T8, 11, rfl, by decide, by decide, rfl, zwc2 22 rfl rfl, rfl⟩
theorem fl_263 : zFR R8 19 8 2 54 := ⟨R8, T8, 11, rfl, by decide, by decide, rfl, zwc2 23 rfl rfl, rfl⟩
theorem fl_264 : zFR R8 25 8 3 81 := ⟨R8, T8, 11, rfl, by decide, by decide, rfl, zwc2 24 rfl rfl, rfl⟩
theorem fl_265 : zFR R8 32 8 4 84 := ⟨R8, T8, 11, rfl, by decide, by decide, rfl, zwc2 25 rfl rfl, rfl⟩
theorem fl_266 : zFR R8 39 8 5 88 := ⟨R8, T8, 11, rfl, by decide, by decide, rfl, zwc2 26 rfl rfl, rfl⟩
theorem fl_267 : zFR R8 45 8 6 90 := ⟨R8, T8, 11, rfl, by decide, by decide, rfl, zwc2 27 rfl rfl, rfl⟩
theorem fl_268 : zFR R8 49 8 7 91 := ⟨R8, T8, 11, rfl, by decide, by decide, rfl, zwc2 28 rfl rfl, rfl⟩
theorem fl_269 : zFR R8 53 8 8 92 := ⟨R8, T8, 11, rfl, by decide, by decide, rfl, zwc2 29 rfl rfl, rfl⟩
theorem fl_270 : zFI R8 280 8 9 := ⟨R8, T8, 11, rfl, by decide, by decide, rfl, zwc2 30 rfl rfl, rfl⟩
theorem fl_271 : zFI R8 283 8 10 := ⟨R8, T8, 11, rfl, by decide, by decide, rfl, zwc2 31 rfl rfl, rfl⟩
theorem fl_817 : zFR R9 9 9 0 0 := ⟨R9, T9, 27, rfl, by decide, by decide, rfl, zwc4 97 rfl rfl, rfl⟩
theorem fl_818 : zFR R9 13 9 1 1 := ⟨R9, T9, 27, rfl, by decide, by decide, rfl, zwc4 98 rfl rfl, rfl⟩
theorem fl_819 : zFR R9 16 9 2 2 := ⟨R9, T9, 27, rfl, by decide, by decide, rfl, zwc4 99 rfl rfl, rfl⟩
theorem fl_820 : zFI R9 295 9 3 := ⟨R9, T9, 27, rfl, by decide, by decide, rfl, zwc4 100 rfl rfl, rfl⟩
theorem fl_821 : zFR R9 19 9 4 3 := ⟨R9, T9, 27, rfl, by decide, by decide, rfl, zwc4 101 rfl rfl, rfl⟩
theorem fl_822 : zFR R9 22 9 5 4 := ⟨R9, T9, 27, rfl, by decide, by decide, rfl, zwc4 102 rfl rfl, rfl⟩
theorem fl_823 : zFR R9 25 9 6 5 := ⟨R9, T9, 27, rfl, by decide, by decide, rfl, zwc4 103 rfl rfl, rfl⟩
theorem fl_824 : zFR R9 28 9 7 6 := ⟨R9, T9, 27, rfl, by decide, by decide, rfl, zwc4 104 rfl rfl, rfl⟩
theorem fl_825 : zFR R9 31 9 8 7 := ⟨R9, T9, 27, rfl, by decide, by decide, rfl, zwc4 105 rfl rfl, rfl⟩
theorem fl_826 : zFI R9 93 9 9 := ⟨R9, T9, 27, rfl, by decide, by decide, rfl, zwc4 106 rfl rfl, rfl⟩
theorem fl_827 : zFI R9 78 9 10 := ⟨R9, T9, 27, rfl, by decide, by decide, rfl, zwc4 107 rfl rfl, rfl⟩
theorem fl_828 : zFR R9 34 9 11 8 := ⟨R9, T9, 27, rfl, by decide, by decide, rfl, zwc4 108 rfl rfl, rfl⟩
theorem fl_829 : zFI R9 82 9 12 := ⟨R9, T9, 27, rfl, by decide, by decide, rfl, zwc4 109 rfl rfl, rfl⟩
theorem fl_830 : zFI R9 105 9 13 := ⟨R9, T9, 27, rfl, by decide, by decide, rfl, zwc4 110 rfl rfl, rfl⟩
theorem fl_831 : zFR R9 37 9 14 9 := ⟨R9, T9, 27, rfl, by decide, by decide, rfl, zwc4 111 rfl rfl, rfl⟩
theorem fl_832 : zFR R9 40 9 15 10 := ⟨R9, T9, 27, rfl, by decide, by decide, rfl, zwc4 112 rfl rfl, rfl⟩
theorem fl_833 : zFR R9 43 9 16 11 := ⟨R9, T9, 27, rfl, by decide, by decide, rfl, zwc4 113 rfl rfl, rfl⟩
theorem fl_834 : zFR R9 46 9 17 12 := ⟨R9, T9, 27, rfl, by decide, by decide, rfl, zwc4 114 rfl rfl, rfl⟩
theorem fl_835 : zFI R9 158 9 18 := ⟨R9, T9, 27, rfl, by decide, by decide, rfl, zwc4 115 rfl rfl, rfl⟩
theorem fl_836 : zFI R9 155 9 19 := ⟨R9, T9, 27, rfl, by decide, by decide, rfl, zwc4 116 rfl rfl, rfl⟩
theorem fl_837 : zFI R9 174 9 20 := ⟨R9, T9, 27, rfl, by decide, by decide, rfl, zwc4 117 rfl rfl, rfl⟩
theorem fl_838 : zFI R9 168 9 21 := ⟨R9, T9, 27, rfl, by decide, by decide, rfl, zwc4 118 rfl rfl, rfl⟩
theorem fl_839 : zFI R9 161 9 22 := ⟨R9, T9, 27, rfl, by decide, by decide, rfl, zwc4 119 rfl rfl, rfl⟩
theorem fl_840 : zFR R9 49 9 23 13 := ⟨R9, T9, 27, rfl, by decide, by decide, rfl, zwc4 120 rfl rfl, rfl⟩
theorem fl_841 : zFR R9 52 9 24 14 := ⟨R9, T9, 27, rfl, by decide, by decide, rfl, zwc4 121 rfl rfl, rfl⟩
theorem fl_842 : zFI R9 248 9 25 := ⟨R9, T9, 27, rfl, by decide, by decide, rfl, zwc4 122 rfl rfl, rfl⟩
theorem fl_843 : zFI R9 275 9 26 := ⟨R9, T9, 27, rfl, by decide, by decide, rfl, zwc4 123 rfl rfl, rfl⟩
theorem ft_0_0 : zFty 0 0 .int := fun q hq => by cases hq; exact ⟨rfl, by decide +kernel⟩
theorem ft_0_1 : zFty 0 1 .int := fun q hq => by cases hq; exact ⟨rfl, by decide +kernel⟩
theorem ft_0_2 : zFty 0 2 .int := fun q hq => by cases hq; exact ⟨rfl, by decide +kernel⟩
theorem ft_0_3 : zFty 0 3 .int := fun q hq => by cases hq; exact ⟨rfl, by decide +kernel⟩
theorem ft_0_4 : zFty 0 4 .int := fun q hq => by cases hq; exact ⟨rfl, by decide +kernel⟩
theorem ft_1_2 : zFty 1 2 .int := fun q hq => by cases hq; exact ⟨rfl, by decide +kernel⟩
theorem ft_1_3 : zFty 1 3 .int := fun q hq => by cases hq; exact ⟨rfl, by decide +kernel⟩
theorem ft_1_4 : zFty 1 4 .boolean := fun q hq => by cases hq; exact ⟨rfl, by decide +kernel⟩
theorem ft_2_0 : zFty 2 0 .int := fun q hq => by cases hq; exact ⟨rfl, by decide +kernel⟩
theorem ft_2_1 : zFty 2 1 .int := fun q hq => by cases hq; exact ⟨rfl, by decide +kernel⟩
theorem ft_2_2 : zFty 2 2 .int := fun q hq => by cases hq; exact ⟨rfl, by decide +kernel⟩
theorem ft_3_1 : zFty 3 1 (.array .int) := fun q hq => by cases hq; exact ⟨rfl, by decide +kernel⟩
theorem ft_3_2 : zFty 3 2 .int := fun q hq => by cases hq; exact ⟨rfl, by decide +kernel⟩
theorem ft_3_3 : zFty 3 3 .int := fun q hq => by cases hq; exact ⟨rfl, by decide +kernel⟩
theorem ft_3_4 : zFty 3 4 .int := fun q hq => by cases hq; exact ⟨rfl, by decide +kernel⟩
theorem ft_4_1 : zFty 4 1 .int := fun q hq => by cases hq; exact ⟨rfl, by decide +kernel⟩
theorem ft_4_2 : zFty 4 2 .int := fun q hq => by cases hq; exact ⟨rfl, by decide +kernel⟩
theorem ft_5_6 : zFty 5 6 .int := fun q hq => by cases hq; exact ⟨rfl, by decide +kernel⟩
theorem ft_5_7 : zFty 5 7 .int := fun q hq => by cases hq; exact ⟨rfl, by decide +kernel⟩
theorem ft_5_8 : zFty 5 8 .int := fun q hq => by cases hq; exact ⟨rfl, by decide +kernel⟩
theorem ft_5_9 : zFty 5 9 .int := fun q hq => by cases hq; exact ⟨rfl, by decide +kernel⟩
theorem ft_5_10 : zFty 5 10 .int := fun q hq => by cases hq; exact ⟨rfl, by decide +kernel⟩
theorem ft_5_11 : zFty 5 11 .int := fun q hq => by cases hq; exact ⟨rfl, by decide +kernel⟩
theorem ft_6_2 : zFty 6 2 .int := fun q hq => by cases hq; exact ⟨rfl, by decide +kernel⟩
theorem ft_6_3 : zFty 6 3 .boolean := fun q hq => by cases hq; exact ⟨rfl, by decide +kernel⟩
theorem ft_7_1 : zFty 7 1 .int := fun q hq => by cases hq; exact ⟨rfl, by decide +kernel⟩
theorem ft_7_2 : zFty 7 2 .boolean := fun q hq => by cases hq; exact ⟨rfl, by decide +kernel⟩
theorem ft_7_3 : zFty 7 3 .int := fun q hq => by cases hq; exact ⟨rfl, by decide +kernel⟩
theorem ft_7_4 : zFty 7 4 .int := fun q hq => by cases hq; exact ⟨rfl, by decide +kernel⟩
theorem ft_7_5 : zFty 7 5 .int := fun q hq => by cases hq; exact ⟨rfl, by decide +kernel⟩
theorem ft_8_9 : zFty 8 9 .boolean := fun q hq => by cases hq; exact ⟨rfl, by decide +kernel⟩
theorem ft_8_10 : zFty 8 10 .int := fun q hq => by cases hq; exact ⟨rfl, by decide +kernel⟩
theorem ft_9_3 : zFty 9 3 .int := fun q hq => by cases hq; exact ⟨rfl, by decide +kernel⟩
theorem ft_9_9 : zFty 9 9 .int := fun q hq => by cases hq; exact ⟨rfl, by decide +kernel⟩
theorem ft_9_10 : zFty 9 10 .int := fun q hq => by cases hq; exact ⟨rfl, by decide +kernel⟩
theorem ft_9_12 : zFty 9 12 .int := fun q hq => by cases hq; exact ⟨rfl, by decide +kernel⟩
theorem ft_9_13 : zFty 9 13 .boolean := fun q hq => by cases hq; exact ⟨rfl, by decide +kernel⟩
theorem ft_9_18 : zFty 9 18 .int := fun q hq => by cases hq; exact ⟨rfl, by decide +kernel⟩
theorem ft_9_19 : zFty 9 19 .int := fun q hq => by cases hq; exact ⟨rfl, by decide +kernel⟩
theorem ft_9_20 : zFty 9 20 .int := fun q hq => by cases hq; exact ⟨rfl, by decide +kernel⟩
theorem ft_9_21 : zFty 9 21 .boolean := fun q hq => by cases hq; exact ⟨rfl, by decide +kernel⟩
theorem ft_9_22 : zFty 9 22 .int := fun q hq => by cases hq; exact ⟨rfl, by decide +kernel⟩
theorem ft_9_25 : zFty 9 25 .int := fun q hq => by cases hq; exact ⟨rfl, by decide +kernel⟩
theorem ft_9_26 : zFty 9 26 .boolean := fun q hq => by cases hq; exact ⟨rfl, by decide +kernel⟩
theorem w_299 : Cond.methodLink R8 57 y8_isNoKm ∈ lw_gd := zwc2 59 rfl rfl
theorem w_302 : Cond.methodLink R8 61 y8_isNoCell ∈ lw_gd := zwc2 62 rfl rfl
theorem w_305 : Cond.methodLink R8 64 y8_isNoTurn ∈ lw_gd := zwc2 65 rfl rfl
theorem w_308 : Cond.methodLink R8 67 y8_error ∈ lw_gd := zwc2 68 rfl rfl
theorem w_312 : Cond.constant R8 295 (-1000000000 : Int32) ∈ lw_gd := zwc2 72 rfl rfl
theorem w_313 : Cond.methodLink R8 75 y5_glassAt ∈ lw_gd := zwc2 73 rfl rfl
theorem w_317 : Cond.methodLink R8 78 y5_addGlass ∈ lw_gd := zwc2 77 rfl rfl
theorem w_321 : Cond.methodLink R5 83 y5_glassOf ∈ lw_gd := zwc2 81 rfl rfl
theorem w_325 : Cond.methodLink R5 102 y5_hangGlass ∈ lw_gd := zwc2 85 rfl rfl
theorem w_329 : Cond.methodLinkNest R5 106 y8_isNoCell "GlassTax" ∈ lw_tbl := List.mem_append_right _ (List.mem_of_getElem? (i := 329) (by decide +kernel))
theorem w_334 : Cond.methodLink R8 82 y5_glassOf ∈ lw_gd := zwc2 94 rfl rfl
theorem w_339 : Cond.methodLink R8 103 y8_isNoWay ∈ lw_gd := zwc2 99 rfl rfl
theorem w_342 : Cond.methodLink R8 106 y5_isNight ∈ lw_gd := zwc2 102 rfl rfl
theorem w_346 : Cond.methodLink R8 110 y0_onward ∈ lw_gd := zwc2 106 rfl rfl
theorem w_350 : Cond.methodLink R0 31 y0_byTurn ∈ lw_gd := zwc2 110 rfl rfl
theorem w_354 : Cond.methodLink R0 35 y0_roundFrom ∈ lw_gd := zwc2 114 rfl rfl
theorem w_365 : Cond.methodLink R8 114 y0_isOne ∈ lw_gd := zwc2 125 rfl rfl
theorem w_369 : Cond.fieldLinkNest R0 27 "GlassTax" "KIND_ABOVE" "[I" "GlassTax" ∈ lw_tbl := List.mem_append_right _ (List.mem_of_getElem? (i := 369) (by decide +kernel))
theorem w_379 : Cond.methodLink R8 117 y5_hangGlass ∈ lw_gd := zwc2 139 rfl rfl
theorem w_384 : Cond.methodLink R8 124 y5_addPerson ∈ lw_gd := zwc2 144 rfl rfl
theorem w_388 : Cond.methodLink R5 110 y5_personOf ∈ lw_gd := zwc2 148 rfl rfl
theorem w_396 : Cond.methodLink R8 128 y5_personOf ∈ lw_gd := zwc2 156 rfl rfl
theorem w_397 : Cond.methodLink R8 141 y5_dueOf ∈ lw_gd := zwc2 157 rfl rfl
theorem w_401 : Cond.methodLink R5 158 y1_follow ∈ lw_gd := zwc2 161 rfl rfl
theorem w_405 : Cond.methodLink R1 18 y5_isNight ∈ lw_gd := zwc2 165 rfl rfl
theorem w_406 : Cond.methodLink R1 35 y1_enter ∈ lw_gd := zwc2 166 rfl rfl
theorem w_410 : Cond.methodLink R1 39 y1_nextCell ∈ lw_gd := zwc2 170 rfl rfl
theorem w_413 : Cond.methodLink R1 43 y5_glassAt ∈ lw_gd := zwc2 173 rfl rfl
theorem w_414 : Cond.methodLink R1 47 y5_glassOf ∈ lw_gd := zwc2 174 rfl rfl
theorem w_415 : Cond.methodLink R1 51 y0_onward ∈ lw_gd := zwc2 175 rfl rfl
theorem w_416 : Cond.methodLink R1 57 y1_meet ∈ lw_gd := zwc2 176 rfl rfl
theorem w_420 : Cond.methodLink R5 162 y5_taxOf ∈ lw_gd := zwc2 180 rfl rfl
theorem w_424 : Cond.methodLink R5 150 y1_metAt ∈ lw_gd := zwc2 184 rfl rfl
theorem w_428 : Cond.methodLink R5 154 y5_given ∈ lw_gd := zwc2 188 rfl rfl
theorem w_432 : Cond.methodLink R5 121 y5_textOf ∈ lw_gd := zwc2 192 rfl rfl
theorem w_436 : Cond.methodLink R5 129 y6_worth ∈ lw_gd := zwc2 196 rfl rfl
theorem w_440 : Cond.methodLink R6 32 y6_joined ∈ lw_gd := zwc2 200 rfl rfl
theorem w_443 : Cond.methodLink R5 133 Lib.Math.min.name ∈ lw_gd := zwc2 203 rfl rfl
theorem w_446 : Cond.methodLink R5 139 Lib.Math.max.name ∈ lw_gd := zwc2 206 rfl rfl
theorem w_457 : Cond.constant R8 145 (99999 : Int32) ∈ lw_gd := zwc2 217 rfl rfl
theorem w_458 : Cond.methodLink R8 146 Lib.Math.min.name ∈ lw_gd := zwc2 218 rfl rfl
theorem w_467 : Cond.methodLink R8 157 y5_addByte ∈ lw_gd := zwc2 227 rfl rfl
theorem w_475 : Cond.methodLink R8 161 y5_textOf ∈ lw_gd := zwc2 235 rfl rfl
theorem w_476 : Cond.methodLink R8 168 y3_fault ∈ lw_gd := zwc2 236 rfl rfl
theorem w_480 : Cond.methodLink R3 37 y3_readPart ∈ lw_gd := zwc3 0 rfl rfl
theorem w_484 : Cond.methodLink R3 41 y3_readUnit ∈ lw_gd := zwc3 4 rfl rfl
theorem w_488 : Cond.methodLink R3 48 y3_signHere ∈ lw_gd := zwc3 8 rfl rfl
theorem w_492 : Cond.methodLink R3 60 y3_isDigit ∈ lw_gd := zwc3 12 rfl rfl
theorem w_495 : Cond.methodLink R3 63 y3_readNumber ∈ lw_gd := zwc3 15 rfl rfl
theorem w_499 : Cond.methodLink R3 56 y6_add ∈ lw_gd := zwc3 19 rfl rfl
theorem w_503 : Cond.methodLink R3 66 y3_readOpen ∈ lw_gd := zwc3 23 rfl rfl
theorem w_508 : Cond.methodLink R3 71 yS_length ∈ lw_gd := zwc3 28 rfl rfl
theorem w_512 : Cond.methodLink RJS 335 yS_coder ∈ lw_gd := zwc3 32 rfl rfl
theorem w_516 : Cond.fieldLink RJS 38 "java/lang/String" "COMPACT_STRINGS" "Z" ∈ lw_gd := zwc3 36 rfl rfl
theorem w_518 : Cond.methodLink R3 75 yS_charAt ∈ lw_gd := zwc3 38 rfl rfl
theorem w_522 : Cond.methodLink RJS 492 yS_isLatin1 ∈ lw_gd := zwc3 42 rfl rfl
theorem w_526 : Cond.methodLink RJS 495 yL_charAt ∈ lw_gd := zwc3 46 rfl rfl
theorem w_529 : Cond.methodLink RJL 9 yS_checkIndex ∈ lw_gd := zwc3 49 rfl rfl
theorem w_532 : Cond.fieldLink RJS 1053 "jdk/internal/util/Preconditions" "SIOOBE_FORMATTER" "Ljava/util/function/BiFunction;" ∈ lw_gd := zwc3 52 rfl rfl
theorem w_534 : Cond.methodLink RJS 1059 yP_checkIndex ∈ lw_gd := zwc3 54 rfl rfl
theorem w_556 : Cond.methodLink R3 45 y3_readLevel ∈ lw_gd := zwc3 76 rfl rfl
theorem w_560 : Cond.methodLink R3 52 y3_levelOf ∈ lw_gd := zwc3 80 rfl rfl
theorem w_563 : Cond.methodLink R8 176 y6_copyFrom ∈ lw_gd := zwc3 83 rfl rfl
theorem w_567 : Cond.methodLink R6 18 arraycopyName ∈ lw_gd := zwc3 87 rfl rfl
theorem w_579 : Cond.methodLink R8 186 y5_given ∈ lw_gd := zwc3 99 rfl rfl
theorem w_584 : Cond.methodLink R8 190 y5_passHour ∈ lw_gd := zwc3 104 rfl rfl
theorem w_588 : Cond.constant R5 166 (99999 : Int32) ∈ lw_gd := zwc3 108 rfl rfl
theorem w_589 : Cond.methodLink R5 167 y5_dueOf ∈ lw_gd := zwc3 109 rfl rfl
theorem w_590 : Cond.methodLink R5 171 y5_countMeetings ∈ lw_gd := zwc3 110 rfl rfl
theorem w_598 : Cond.methodLink R8 194 y5_standByDraws ∈ lw_gd := zwc3 118 rfl rfl
theorem w_602 : Cond.methodLink R5 175 y5_draw ∈ lw_gd := zwc3 122 rfl rfl
theorem w_606 : Cond.constant R5 179 (1103515245 : Int32) ∈ lw_gd := zwc3 126 rfl rfl
theorem w_615 : Cond.methodLink R8 200 y1_follow ∈ lw_gd := zwc3 135 rfl rfl
theorem w_616 : Cond.methodLink R8 204 y5_taxOf ∈ lw_gd := zwc3 136 rfl rfl
theorem w_617 : Cond.methodLink R8 214 y1_cellAt ∈ lw_gd := zwc3 137 rfl rfl
theorem w_629 : Cond.methodLink R8 220 y1_seesCell ∈ lw_gd := zwc3 149 rfl rfl
theorem w_637 : Cond.methodLink R8 223 y5_copyFrom ∈ lw_gd := zwc3 157 rfl rfl
theorem w_641 : Cond.methodLink R5 52 y0_copyFrom ∈ lw_gd := zwc3 161 rfl rfl
theorem w_645 : Cond.methodLink R5 56 y2_copyFrom ∈ lw_gd := zwc3 165 rfl rfl
theorem w_649 : Cond.methodLink R5 59 y6_copyFrom ∈ lw_gd := zwc3 169 rfl rfl
theorem w_650 : Cond.methodLink R5 62 arraycopyName ∈ lw_gd := zwc3 170 rfl rfl
theorem w_655 : Cond.methodLink R8 226 y8_manyOrLeast ∈ lw_gd := zwc3 175 rfl rfl
theorem w_663 : Cond.methodLink R8 229 y8_fewestSpins ∈ lw_gd := zwc3 183 rfl rfl
theorem w_667 : Cond.methodLink R8 296 y8_isSeenByOneSpin ∈ lw_gd := zwc3 187 rfl rfl
theorem w_671 : Cond.methodLink R8 304 y8_writeSpin ∈ lw_gd := zwc3 191 rfl rfl
theorem w_675 : Cond.methodLink R8 300 y8_isSeenByTwoSpins ∈ lw_gd := zwc3 195 rfl rfl
theorem w_687 : Cond.methodLink R8 233 y8_sheetOf ∈ lw_gd := zwc3 207 rfl rfl
theorem w_691 : Cond.methodLink R8 240 y8_isLook ∈ lw_gd := zwc3 211 rfl rfl
theorem w_695 : Cond.methodLink R8 277 y4_numberAt ∈ lw_gd := zwc3 215 rfl rfl
theorem w_703 : Cond.methodLink R8 244 y7_answer ∈ lw_gd := zwc3 223 rfl rfl
theorem w_707 : Cond.methodLink R7 36 y7_say ∈ lw_gd := zwc3 227 rfl rfl
theorem w_711 : Cond.methodLink R7 40 y7_bodyFrom ∈ lw_gd := zwc3 231 rfl rfl
theorem w_714 : Cond.fieldLinkNest R7 60 "GlassTax" "KIND_ABOVE" "[I" "GlassTax" ∈ lw_tbl := List.mem_append_right _ (List.mem_of_getElem? (i := 714) (by decide +kernel))
theorem w_715 : Cond.fieldLink R7 63 "GlassTax$Voices" "BODIES" "[I" ∈ lw_gd := zwc3 235 rfl rfl
theorem w_717 : Cond.methodLink R7 44 y7_sayGlass ∈ lw_gd := zwc3 237 rfl rfl
theorem w_721 : Cond.methodLink R7 48 y7_saySpoon ∈ lw_gd := zwc4 1 rfl rfl
theorem w_725 : Cond.methodLink R7 51 y7_sayBowl ∈ lw_gd := zwc4 5 rfl rfl
theorem w_729 : Cond.methodLink R7 54 y7_saySilvered ∈ lw_gd := zwc4 9 rfl rfl
theorem w_733 : Cond.methodLink R7 57 y7_sayOnly ∈ lw_gd := zwc4 13 rfl rfl
theorem w_741 : Cond.methodLink R8 254 y7_tracedAt ∈ lw_gd := zwc4 21 rfl rfl
theorem w_749 : Cond.methodLink R8 257 y4_begin ∈ lw_gd := zwc4 29 rfl rfl
theorem w_753 : Cond.methodLink R4 15 yA_fill ∈ lw_gd := zwc4 33 rfl rfl
theorem w_758 : Cond.methodLink R8 261 y4_write ∈ lw_gd := zwc4 38 rfl rfl
theorem w_766 : Cond.methodLink R8 264 y4_holds ∈ lw_gd := zwc4 46 rfl rfl
theorem w_770 : Cond.methodLink R8 271 arraycopyName ∈ lw_gd := zwc4 50 rfl rfl
theorem w_791 : Cond.methodLink R8 289 y5_addWaiting ∈ lw_gd := zwc4 71 rfl rfl
theorem w_799 : Cond.methodLink R8 292 y5_waitingAt ∈ lw_gd := zwc4 79 rfl rfl
theorem w_903 : Cond.methodLink R9 120 y9_isKm ∈ lw_gd := zwc4 183 rfl rfl
theorem w_906 : Cond.methodLink R9 56 y9_in ∈ lw_gd := zwc4 186 rfl rfl
theorem w_909 : Cond.methodLink R9 124 y9_isCell ∈ lw_gd := zwc4 189 rfl rfl
theorem w_912 : Cond.methodLink R9 127 y9_isFour ∈ lw_gd := zwc4 192 rfl rfl
theorem w_915 : Cond.constant R9 130 (-1000000001 : Int32) ∈ lw_gd := zwc4 195 rfl rfl
theorem w_916 : Cond.methodLink R9 131 y9_error ∈ lw_gd := zwc4 196 rfl rfl
theorem w_920 : Cond.constant R9 55 (-1000000000 : Int32) ∈ lw_gd := zwc4 200 rfl rfl
theorem w_921 : Cond.constant R9 134 (-1000000004 : Int32) ∈ lw_gd := zwc4 201 rfl rfl
theorem w_922 : Cond.methodLink R9 99 y9_glassAt ∈ lw_gd := zwc4 202 rfl rfl
theorem w_926 : Cond.methodLink R9 60 y9_of ∈ lw_gd := zwc4 206 rfl rfl
theorem w_930 : Cond.constant R9 135 (-1000000003 : Int32) ∈ lw_gd := zwc4 210 rfl rfl
theorem w_935 : Cond.methodLink R9 136 y9_isGlass ∈ lw_gd := zwc4 215 rfl rfl
theorem w_943 : Cond.methodLink R9 75 y9_onward ∈ lw_gd := zwc4 223 rfl rfl
theorem w_947 : Cond.methodLink R9 68 y9_plainOnward ∈ lw_gd := zwc4 227 rfl rfl
theorem w_950 : Cond.methodLink R9 64 y9_around ∈ lw_gd := zwc4 230 rfl rfl
theorem w_953 : Cond.methodLink R9 71 y9_isNight ∈ lw_gd := zwc4 233 rfl rfl
theorem w_961 : Cond.methodLink R9 139 y9_becomes ∈ lw_gd := zwc5 1 rfl rfl
theorem w_969 : Cond.constant R9 142 (-1000000005 : Int32) ∈ lw_gd := zwc5 9 rfl rfl
theorem w_986 : Cond.methodLink R9 143 y9_isPerson ∈ lw_gd := zwc5 26 rfl rfl
theorem w_990 : Cond.methodLink R9 109 y9_about ∈ lw_gd := zwc5 30 rfl rfl
theorem w_994 : Cond.methodLink R9 146 y9_dueOf ∈ lw_gd := zwc5 34 rfl rfl
theorem w_998 : Cond.methodLink R9 116 y9_looksOf ∈ lw_gd := zwc5 38 rfl rfl
theorem w_1002 : Cond.methodLink R9 112 y9_looks ∈ lw_gd := zwc5 42 rfl rfl
theorem w_1006 : Cond.methodLink R9 96 y9_next ∈ lw_gd := zwc5 46 rfl rfl
theorem w_1009 : Cond.methodLink R9 102 y9_meet ∈ lw_gd := zwc5 49 rfl rfl
theorem w_1013 : Cond.methodLink R9 85 y9_gives ∈ lw_gd := zwc5 53 rfl rfl
theorem w_1017 : Cond.methodLink R9 207 y9_works ∈ lw_gd := zwc5 57 rfl rfl
theorem w_1021 : Cond.methodLink R9 204 y9_twoOf ∈ lw_gd := zwc5 61 rfl rfl
theorem w_1024 : Cond.methodLink R9 89 y9_held ∈ lw_gd := zwc5 64 rfl rfl
theorem w_1031 : Cond.methodLink R9 149 y9_stands ∈ lw_gd := zwc5 71 rfl rfl
theorem w_1039 : Cond.constant R9 152 (99999 : Int32) ∈ lw_gd := zwc5 79 rfl rfl
theorem w_1048 : Cond.constantLong R9 153 (255 : Int64) ∈ lw_gd := zwc5 88 rfl rfl
theorem w_1053 : Cond.methodLink R9 180 y9_any ∈ lw_gd := zwc5 93 rfl rfl
theorem w_1057 : Cond.methodLink R9 201 y9_all ∈ lw_gd := zwc5 97 rfl rfl
theorem w_1061 : Cond.methodLink R9 198 y9_compares ∈ lw_gd := zwc5 101 rfl rfl
theorem w_1065 : Cond.methodLink R9 195 y9_sum ∈ lw_gd := zwc5 105 rfl rfl
theorem w_1069 : Cond.methodLink R9 192 y9_times ∈ lw_gd := zwc5 109 rfl rfl
theorem w_1073 : Cond.methodLink R9 177 y9_one ∈ lw_gd := zwc5 113 rfl rfl
theorem w_1077 : Cond.methodLink R9 164 y9_byteHere ∈ lw_gd := zwc5 117 rfl rfl
theorem w_1081 : Cond.methodLink R9 183 y9_nameOf ∈ lw_gd := zwc5 121 rfl rfl
theorem w_1085 : Cond.methodLink R9 171 y9_step ∈ lw_gd := zwc5 125 rfl rfl
theorem w_1089 : Cond.methodLink R9 186 y9_opens ∈ lw_gd := zwc5 129 rfl rfl
theorem w_1093 : Cond.methodLink R9 189 y9_number ∈ lw_gd := zwc5 133 rfl rfl
theorem w_1109 : Cond.methodLink R9 210 y9_goes ∈ lw_gd := zwc5 149 rfl rfl
theorem w_1117 : Cond.methodLink R9 217 y9_drawn ∈ lw_gd := zwc5 157 rfl rfl
theorem w_1121 : Cond.methodLink R9 214 y9_draw ∈ lw_gd := zwc5 161 rfl rfl
theorem w_1125 : Cond.constant R9 213 (1103515245 : Int32) ∈ lw_gd := zwc5 165 rfl rfl
theorem w_1134 : Cond.constant R9 220 (-1000000002 : Int32) ∈ lw_gd := zwc5 174 rfl rfl
theorem w_1143 : Cond.methodLink R9 221 y9_isSeen ∈ lw_gd := zwc5 183 rfl rfl
theorem w_1151 : Cond.methodLink R9 228 y9_thinks ∈ lw_gd := zwc5 191 rfl rfl
theorem w_1155 : Cond.methodLink R9 224 y9_copyAll ∈ lw_gd := zwc5 195 rfl rfl
theorem w_1158 : Cond.methodLink R9 231 y9_putsBack ∈ lw_gd := zwc5 198 rfl rfl
theorem w_1170 : Cond.methodLink R9 238 y9_canSee ∈ lw_gd := zwc5 210 rfl rfl
theorem w_1174 : Cond.methodLink R9 234 y9_doesSee ∈ lw_gd := zwc5 214 rfl rfl
theorem w_1186 : Cond.methodLink R9 242 y9_isSheet ∈ lw_gd := zwc5 226 rfl rfl
theorem w_1189 : Cond.methodLink R9 245 y9_isSo ∈ lw_gd := zwc5 229 rfl rfl
theorem w_1197 : Cond.methodLink R9 260 y9_gleams ∈ lw_gd := zwc5 237 rfl rfl
theorem w_1201 : Cond.methodLink R9 257 y9_spoonGleams ∈ lw_gd := zwc6 1 rfl rfl
theorem w_1205 : Cond.methodLink R9 251 y9_begins ∈ lw_gd := zwc6 5 rfl rfl
theorem w_1209 : Cond.methodLink R9 254 y9_plainGleams ∈ lw_gd := zwc6 9 rfl rfl
theorem w_1213 : Cond.methodLink R9 269 y9_glints ∈ lw_gd := zwc6 13 rfl rfl
theorem w_1217 : Cond.methodLink R9 266 y9_paneGlints ∈ lw_gd := zwc6 17 rfl rfl
theorem w_1221 : Cond.methodLink R9 263 y9_plainGlints ∈ lw_gd := zwc6 21 rfl rfl
theorem w_1225 : Cond.methodLink R9 281 y9_fades ∈ lw_gd := zwc6 25 rfl rfl
theorem w_1229 : Cond.methodLink R9 272 y9_plainFades ∈ lw_gd := zwc6 29 rfl rfl
theorem w_1233 : Cond.methodLink R9 284 y9_parts ∈ lw_gd := zwc6 33 rfl rfl
theorem w_1237 : Cond.methodLink R9 278 y9_plainParts ∈ lw_gd := zwc6 37 rfl rfl
theorem w_1241 : Cond.constant R9 287 (-1000000006 : Int32) ∈ lw_gd := zwc6 41 rfl rfl
theorem w_1254 : Cond.methodLink R9 288 y9_notThere ∈ lw_gd := zwc6 54 rfl rfl
theorem w_1262 : Cond.methodLink R9 291 y9_notMoved ∈ lw_gd := zwc6 62 rfl rfl
theorem w_1299 : Cond.fieldLink RJS 9 "java/lang/String" "value" "[B" ∈ lw_gd := zwc6 99 rfl rfl
theorem w_1300 : Cond.fieldLink RJS 15 "java/lang/String" "coder" "B" ∈ lw_gd := zwc6 100 rfl rfl
-- constants
theorem kB_m33 : (Int8.ofInt (-33)).toInt32 = (-33 : Int32) := by decide +kernel
theorem kB_m10 : (Int8.ofInt (-10)).toInt32 = (-10 : Int32) := by decide +kernel
theorem kB_m3 : (Int8.ofInt (-3)).toInt32 = (-3 : Int32) := by decide +kernel
theorem kB_m2 : (Int8.ofInt (-2)).toInt32 = (-2 : Int32) := by decide +kernel
theorem kB_6 : (Int8.ofInt 6).toInt32 = (6 : Int32) := by decide +kernel
theorem kB_7 : (Int8.ofInt 7).toInt32 = (7 : Int32) := by decide +kernel
theorem kB_8 : (Int8.ofInt 8).toInt32 = (8 : Int32) := by decide +kernel
theorem kB_9 : (Int8.ofInt 9).toInt32 = (9 : Int32) := by decide +kernel
theorem kB_10 : (Int8.ofInt 10).toInt32 = (10 : Int32) := by decide +kernel
theorem kB_11 : (Int8.ofInt 11).toInt32 = (11 : Int32) := by decide +kernel
theorem kB_12 : (Int8.ofInt 12).toInt32 = (12 : Int32) := by decide +kernel
theorem kB_13 : (Int8.ofInt 13).toInt32 = (13 : Int32) := by decide +kernel
theorem kB_16 : (Int8.ofInt 16).toInt32 = (16 : Int32) := by decide +kernel
theorem kB_18 : (Int8.ofInt 18).toInt32 = (18 : Int32) := by decide +kernel
theorem kB_20 : (Int8.ofInt 20).toInt32 = (20 : Int32) := by decide +kernel
theorem kB_21 : (Int8.ofInt 21).toInt32 = (21 : Int32) := by decide +kernel
theorem kB_24 : (Int8.ofInt 24).toInt32 = (24 : Int32) := by decide +kernel
theorem kB_30 : (Int8.ofInt 30).toInt32 = (30 : Int32) := by decide +kernel
theorem kB_32 : (Int8.ofInt 32).toInt32 = (32 : Int32) := by decide +kernel
theorem kB_33 : (Int8.ofInt 33).toInt32 = (33 : Int32) := by decide +kernel
theorem kB_37 : (Int8.ofInt 37).toInt32 = (37 : Int32) := by decide +kernel
theorem kB_38 : (Int8.ofInt 38).toInt32 = (38 : Int32) := by decide +kernel
theorem kB_40 : (Int8.ofInt 40).toInt32 = (40 : Int32) := by decide +kernel
theorem kB_41 : (Int8.ofInt 41).toInt32 = (41 : Int32) := by decide +kernel
theorem kB_42 : (Int8.ofInt 42).toInt32 = (42 : Int32) := by decide +kernel
theorem kB_43 : (Int8.ofInt 43).toInt32 = (43 : Int32) := by decide +kernel
theorem kB_45 : (Int8.ofInt 45).toInt32 = (45 : Int32) := by decide +kernel
theorem kB_46 : (Int8.ofInt 46).toInt32 = (46 : Int32) := by decide +kernel
theorem kB_47 : (Int8.ofInt 47).toInt32 = (47 : Int32) := by decide +kernel
theorem kB_48 : (Int8.ofInt 48).toInt32 = (48 : Int32) := by decide +kernel
theorem kB_50 : (Int8.ofInt 50).toInt32 = (50 : Int32) := by decide +kernel
theorem kB_51 : (Int8.ofInt 51).toInt32 = (51 : Int32) := by decide +kernel
theorem kB_55 : (Int8.ofInt 55).toInt32 = (55 : Int32) := by decide +kernel
theorem kB_56 : (Int8.ofInt 56).toInt32 = (56 : Int32) := by decide +kernel
theorem kB_57 : (Int8.ofInt 57).toInt32 = (57 : Int32) := by decide +kernel
theorem kB_60 : (Int8.ofInt 60).toInt32 = (60 : Int32) := by decide +kernel
theorem kB_61 : (Int8.ofInt 61).toInt32 = (61 : Int32) := by decide +kernel
theorem kB_62 : (Int8.ofInt 62).toInt32 = (62 : Int32) := by decide +kernel
theorem kB_63 : (Int8.ofInt 63).toInt32 = (63 : Int32) := by decide +kernel
theorem kB_64 : (Int8.ofInt 64).toInt32 = (64 : Int32) := by decide +kernel
theorem kB_69 : (Int8.ofInt 69).toInt32 = (69 : Int32) := by decide +kernel
theorem kB_70 : (Int8.ofInt 70).toInt32 = (70 : Int32) := by decide +kernel
theorem kB_71 : (Int8.ofInt 71).toInt32 = (71 : Int32) := by decide +kernel
theorem kB_99 : (Int8.ofInt 99).toInt32 = (99 : Int32) := by decide +kernel
theorem kB_104 : (Int8.ofInt 104).toInt32 = (104 : Int32) := by decide +kernel
theorem kB_107 : (Int8.ofInt 107).toInt32 = (107 : Int32) := by decide +kernel
theorem kB_110 : (Int8.ofInt 110).toInt32 = (110 : Int32) := by decide +kernel
theorem kB_116 : (Int8.ofInt 116).toInt32 = (116 : Int32) := by decide +kernel
theorem kB_121 : (Int8.ofInt 121).toInt32 = (121 : Int32) := by decide +kernel
theorem kB_124 : (Int8.ofInt 124).toInt32 = (124 : Int32) := by decide +kernel
theorem kI_m1 : Int32.ofInt (-1) = (-1 : Int32) := by decide +kernel
theorem kI_0 : Int32.ofInt 0 = (0 : Int32) := by decide +kernel
theorem kI_1 : Int32.ofInt 1 = (1 : Int32) := by decide +kernel
theorem kI_2 : Int32.ofInt 2 = (2 : Int32) := by decide +kernel
theorem kI_3 : Int32.ofInt 3 = (3 : Int32) := by decide +kernel
theorem kI_4 : Int32.ofInt 4 = (4 : Int32) := by decide +kernel
theorem kI_5 : Int32.ofInt 5 = (5 : Int32) := by decide +kernel
theorem kL_84 : zln 84 = 257 := by decide +kernel
theorem kL_85 : zln 85 = 257 := by decide +kernel
theorem kL_91 : zln 91 = 30 := by decide +kernel
theorem kL_93 : zln 93 = 4 := by decide +kernel
theorem kL_94 : zln 94 = 7 := by decide +kernel
theorem kL_104 : zln 104 = 390 := by decide +kernel
theorem kL_107 : zln 107 = 7 := by decide +kernel
theorem kL_108 : zln 108 = 4 := by decide +kernel
theorem kL_109 : zln 109 = 4 := by decide +kernel
theorem kL_110 : zln 110 = 96 := by decide +kernel
theorem kL_111 : zln 111 = 257 := by decide +kernel
theorem kL_112 : zln 112 = 8 := by decide +kernel
theorem kL_113 : zln 113 = 60 := by decide +kernel
theorem kL_114 : zln 114 = 60 := by decide +kernel
theorem kL_115 : zln 115 = 3 := by decide +kernel
theorem kL_116 : zln 116 = 60 := by decide +kernel
theorem kL_117 : zln 117 = 4 := by decide +kernel
theorem kL_118 : zln 118 = 30 := by decide +kernel
theorem kN_0 : (0 : Int32).toNatClampNeg = 0 := by decide +kernel
theorem kN_1 : (1 : Int32).toNatClampNeg = 1 := by decide +kernel
theorem kN_2 : (2 : Int32).toNatClampNeg = 2 := by decide +kernel
theorem kN_3 : (3 : Int32).toNatClampNeg = 3 := by decide +kernel
theorem kN_4 : (4 : Int32).toNatClampNeg = 4 := by decide +kernel
theorem kN_5 : (5 : Int32).toNatClampNeg = 5 := by decide +kernel
theorem kO_2 : Int32.ofNat 2 = (2 : Int32) := by decide +kernel
theorem kO_4 : Int32.ofNat 4 = (4 : Int32) := by decide +kernel
theorem kO_6 : Int32.ofNat 6 = (6 : Int32) := by decide +kernel
theorem kO_7 : Int32.ofNat 7 = (7 : Int32) := by decide +kernel
theorem kO_8 : Int32.ofNat 8 = (8 : Int32) := by decide +kernel
theorem kO_24 : Int32.ofNat 24 = (24 : Int32) := by decide +kernel
theorem kO_30 : Int32.ofNat 30 = (30 : Int32) := by decide +kernel
theorem kO_60 : Int32.ofNat 60 = (60 : Int32) := by decide +kernel
theorem kO_64 : Int32.ofNat 64 = (64 : Int32) := by decide +kernel
theorem kO_257 : Int32.ofNat 257 = (257 : Int32) := by decide +kernel
theorem kS_148 : (Int16.ofInt 148).toInt32 = (148 : Int32) := by decide +kernel
theorem kS_255 : (Int16.ofInt 255).toInt32 = (255 : Int32) := by decide +kernel
theorem kS_256 : (Int16.ofInt 256).toInt32 = (256 : Int32) := by decide +kernel
theorem kS_257 : (Int16.ofInt 257).toInt32 = (257 : Int32) := by decide +kernel
theorem kS_390 : (Int16.ofInt 390).toInt32 = (390 : Int32) := by decide +kernel
theorem kS_999 : (Int16.ofInt 999).toInt32 = (999 : Int32) := by decide +kernel
theorem kS_9999 : (Int16.ofInt 9999).toInt32 = (9999 : Int32) := by decide +kernel
theorem kS_12345 : (Int16.ofInt 12345).toInt32 = (12345 : Int32) := by decide +kernel
theorem kZ_1 : zsh 1 = 9 := by decide +kernel
theorem kZ_2 : zsh 2 = 6 := by decide +kernel
theorem kZ_7 : zsh 7 = 15 := by decide +kernel
theorem kZ_29 : zsh 29 = 6 := by decide +kernel
theorem kZ_56 : zsh 56 = 6 := by decide +kernel
theorem kZ_83 : zsh 83 = 2 := by decide +kernel
theorem kZ_84 : zsh 84 = 15 := by decide +kernel
theorem kZ_85 : zsh 85 = 15 := by decide +kernel
theorem kZ_86 : zsh 86 = 4 := by decide +kernel
theorem kZ_87 : zsh 87 = 7 := by decide +kernel
theorem kZ_90 : zsh 90 = 8 := by decide +kernel
theorem kZ_91 : zsh 91 = 15 := by decide +kernel
theorem kZ_92 : zsh 92 = 14 := by decide +kernel
theorem kZ_93 : zsh 93 = 15 := by decide +kernel
theorem kZ_94 : zsh 94 = 15 := by decide +kernel
theorem kZ_103 : zsh 103 = 10 := by decide +kernel
theorem kZ_104 : zsh 104 = 15 := by decide +kernel
theorem kZ_105 : zsh 105 = 15 := by decide +kernel
theorem kZ_106 : zsh 106 = 15 := by decide +kernel
theorem kZ_107 : zsh 107 = 15 := by decide +kernel
theorem kZ_108 : zsh 108 = 15 := by decide +kernel
theorem kZ_109 : zsh 109 = 15 := by decide +kernel
theorem kZ_110 : zsh 110 = 15 := by decide +kernel
theorem kZ_111 : zsh 111 = 15 := by decide +kernel
theorem kZ_112 : zsh 112 = 15 := by decide +kernel
theorem kZ_113 : zsh 113 = 15 := by decide +kernel
theorem kZ_114 : zsh 114 = 15 := by decide +kernel
theorem kZ_115 : zsh 115 = 15 := by decide +kernel
theorem kZ_116 : zsh 116 = 15 := by decide +kernel
theorem kZ_117 : zsh 117 = 15 := by decide +kernel
theorem kZ_118 : zsh 118 = 15 := by decide +kernel
-- shapes
theorem zD5_1 {t : Nat} (h : zsh t = 5) : zsh (t + 1) = 15 := zshape (κ := 5) (p := fun t => zsh (t + 1) = 15) (by decide +kernel) (by decide) h
theorem zD6_1 {t : Nat} (h : zsh t = 6) : zsh (t + 1) = 11 := zshape (κ := 6) (p := fun t => zsh (t + 1) = 11) (by decide +kernel) (by decide) h
theorem zD6_2 {t : Nat} (h : zsh t = 6) : zsh (t + 2) = 12 := zshape (κ := 6) (p := fun t => zsh (t + 2) = 12) (by decide +kernel) (by decide) h
theorem zD6_3 {t : Nat} (h : zsh t = 6) : zsh (t + 3) = 13 := zshape (κ := 6) (p := fun t => zsh (t + 3) = 13) (by decide +kernel) (by decide) h
theorem zD6_4 {t : Nat} (h : zsh t = 6) : zsh (t + 4) = 15 := zshape (κ := 6) (p := fun t => zsh (t + 4) = 15) (by decide +kernel) (by decide) h
theorem zD6_5 {t : Nat} (h : zsh t = 6) : zsh (t + 5) = 15 := zshape (κ := 6) (p := fun t => zsh (t + 5) = 15) (by decide +kernel) (by decide) h
theorem zD6_6 {t : Nat} (h : zsh t = 6) : zsh (t + 6) = 15 := zshape (κ := 6) (p := fun t => zsh (t + 6) = 15) (by decide +kernel) (by decide) h
theorem zD7_1 {t : Nat} (h : zsh t = 7) : zsh (t + 1) = 15 := zshape (κ := 7) (p := fun t => zsh (t + 1) = 15) (by decide +kernel) (by decide) h
theorem zD7_2 {t : Nat} (h : zsh t = 7) : zsh (t + 2) = 15 := zshape (κ := 7) (p := fun t => zsh (t + 2) = 15) (by decide +kernel) (by decide) h
theorem zE11 {t : Nat} {i : Int32} (h : zsh t = 6) (hi : zin i 8) : zsh (t + 7 + i.toNatClampNeg) = 1 := zshape (κ := 6) (p := fun t => zsh (t + 7 + i.toNatClampNeg) = 1) (zelem (n := 8) (p := fun t j => zsh (t + 7 + j) = 1) (by decide +kernel) hi) (by decide) h
theorem zE12 {t : Nat} {i : Int32} (h : zsh t = 6) (hi : zin i 6) : zsh (t + 15 + i.toNatClampNeg) = 3 := zshape (κ := 6) (p := fun t => zsh (t + 15 + i.toNatClampNeg) = 3) (zelem (n := 6) (p := fun t j => zsh (t + 15 + j) = 3) (by decide +kernel) hi) (by decide) h
theorem zE13 {t : Nat} {i : Int32} (h : zsh t = 6) (hi : zin i 2) : zsh (t + 21 + 3 * i.toNatClampNeg) = 7 := zshape (κ := 6) (p := fun t => zsh (t + 21 + 3 * i.toNatClampNeg) = 7) (zelem (n := 2) (p := fun t j => zsh (t + 21 + 3 * j) = 7) (by decide +kernel) hi) (by decide) h
theorem zE14 {i : Int32} (hi : zin i 4) : zsh (95 + 2 * i.toNatClampNeg) = 5 := zelem (n := 4) (κ := 14) (p := fun _ j => zsh (95 + 2 * j) = 5) (by decide +kernel) hi 92 (by decide) (by decide +kernel)
theorem zN5_1 {t : Nat} (h : zsh t = 5) : zln (t + 1) = 24 := zshape (κ := 5) (p := fun t => zln (t + 1) = 24) (by decide +kernel) (by decide) h
theorem zN6_4 {t : Nat} (h : zsh t = 6) : zln (t + 4) = 64 := zshape (κ := 6) (p := fun t => zln (t + 4) = 64) (by decide +kernel) (by decide) h
theorem zN6_5 {t : Nat} (h : zsh t = 6) : zln (t + 5) = 60 := zshape (κ := 6) (p := fun t => zln (t + 5) = 60) (by decide +kernel) (by decide) h
theorem zN6_6 {t : Nat} (h : zsh t = 6) : zln (t + 6) = 24 := zshape (κ := 6) (p := fun t => zln (t + 6) = 24) (by decide +kernel) (by decide) h
theorem zN7_1 {t : Nat} (h : zsh t = 7) : zln (t + 1) = 60 := zshape (κ := 7) (p := fun t => zln (t + 1) = 60) (by decide +kernel) (by decide) h
theorem zN7_2 {t : Nat} (h : zsh t = 7) : zln (t + 2) = 60 := zshape (κ := 7) (p := fun t => zln (t + 2) = 60) (by decide +kernel) (by decide) h
end
section
/-! methods, printed by wip/whole/gen: GlassTax.error, GlassTax$Glass.isOne, GlassTax$Street.glassOf, GlassTax.as, GlassTax.isNoCell, GlassTax.isNoWay, GlassTax$Look.cellAt, GlassTax$Glass.roundFrom, GlassTax$Glass.byTurn, GlassTax$Glass.onward, GlassTax$Look.enter, GlassTax$Look.meet, GlassTax$Look.nextCell, GlassTax$Street.glassAt, GlassTax$Street.isNight, GlassTax$Look.follow, GlassTax.at, GlassTax.isNoKm, GlassTax.become, GlassTax$Voices.tracedAt, GlassTax.body, GlassTax$Street.personOf, GlassTax$Street.waitingAt, GlassTax.check, GlassTax.count, GlassTax$Street.addByte, GlassTax.feed, GlassTax.writeSpin, GlassTax$Look.seesCell -/
theorem d8_error_0 : zd b8_error 0 (.iload_n 1) 1 1 := ⟨by decide +kernel, rfl⟩
theorem d8_error_1 : zdb b8_error 1 (.ifCond .lt 22) 22 4 23 := ⟨by decide +kernel, rfl, by decide⟩
theorem d8_error_4 : zd b8_error 4 (.iload_n 1) 1 5 := ⟨by decide +kernel, rfl⟩
theorem d8_error_5 : zd b8_error 5 (.aload_n 0) 1 6 := ⟨by decide +kernel, rfl⟩
theorem d8_error_6 : zd b8_error 6 (.getfield 53) 3 9 := ⟨by decide +kernel, rfl⟩
theorem d8_error_9 : zd b8_error 9 .arraylength 1 10 := ⟨by decide +kernel, rfl⟩
theorem d8_error_10 : zdb b8_error 10 (.if_icmp .ge 13) 13 13 23 := ⟨by decide +kernel, rfl, by decide⟩
theorem d8_error_13 : zd b8_error 13 (.aload_n 0) 1 14 := ⟨by decide +kernel, rfl⟩
theorem d8_error_14 : zd b8_error 14 (.getfield 53) 3 17 := ⟨by decide +kernel, rfl⟩
theorem d8_error_17 : zd b8_error 17 (.iload_n 1) 1 18 := ⟨by decide +kernel, rfl⟩
theorem d8_error_18 : zd b8_error 18 .dup2 1 19 := ⟨by decide +kernel, rfl⟩
theorem d8_error_19 : zd b8_error 19 .iaload 1 20 := ⟨by decide +kernel, rfl⟩
theorem d8_error_20 : zd b8_error 20 (.iconst 1) 1 21 := ⟨by decide +kernel, rfl⟩
theorem d8_error_21 : zd b8_error 21 .iadd 1 22 := ⟨by decide +kernel, rfl⟩
theorem d8_error_22 : zd b8_error 22 .iastore 1 23 := ⟨by decide +kernel, rfl⟩
theorem d8_error_23 : zd b8_error 23 (.ldc_w 295) 3 26 := ⟨by decide +kernel, rfl⟩
theorem d8_error_26 : zd b8_error 26 (.iload_n 1) 1 27 := ⟨by decide +kernel, rfl⟩
theorem d8_error_27 : zd b8_error 27 .isub 1 28 := ⟨by decide +kernel, rfl⟩
theorem d8_error_28 : zd b8_error 28 .ireturn 1 29 := ⟨by decide +kernel, rfl⟩
def f8_error (k : Nat) (x1 : Int32) (σ : ZS) : Option (Int32 × ZS) :=
  if x1 < 0 then (
  some (((-1000000000 : Int32) - x1), σ))
  else (
  if (7 : Int32) ≤ x1 then (
  some (((-1000000000 : Int32) - x1), σ))
  else (
  if zin x1 7 then (
  if zin x1 7 then (
  zput (zu σ 94 (x1.toNatClampNeg) ((σ 94 x1.toNatClampNeg) + (1 : Int32))) fun s5 =>
  some (((-1000000000 : Int32) - x1), s5)) else none) else none))
theorem c8_error (l : Launch) (g : ZG) {k : Nat} {x1 : Int32} {σ : ZS} {r : Int32} {σr : ZS} (hf : f8_error k x1 σ = some (r, σr)) : zT l g y8_error b8_error 2 (some .int) 1 60 [zr 1, zi x1] σ (some (zi r)) σr := by
  unfold f8_error at hf
  refine zT_start (own := R8) rfl (by decide +kernel) 0 (L := [some (zr 1), some (zi x1)]) rfl rfl (fun x hl C => ?_)
  subst hl
  refine z_iload_n C d8_error_0 rfl ?_
  refine z_if_lt C d8_error_1 (fun c1 => ?_) (fun c1 => ?_)
  · have hf := zit c1 hf
    refine z_ldcw C (-1000000000 : Int32) d8_error_23 w_312 ?_
    refine z_iload_n C d8_error_26 rfl ?_
    refine z_isub C d8_error_27 ?_
    exact z_iret C d8_error_28 hf
  · have hf := zie c1 hf
    refine z_iload_n C d8_error_4 rfl ?_
    refine z_aload_n C d8_error_5 rfl ?_
    refine z_getR C d8_error_6 fl_269 kZ_1 94 rfl (zn0 kZ_94) ?_
    refine z_alen C (7 : Int32) d8_error_9 kZ_94 kL_94 kO_7 ?_
    refine z_icmp_ge C d8_error_10 (fun c2 => ?_) (fun c2 => ?_)
    · have hf := zit c2 hf
      refine z_ldcw C (-1000000000 : Int32) d8_error_23 w_312 ?_
      refine z_iload_n C d8_error_26 rfl ?_
      refine z_isub C d8_error_27 ?_
      exact z_iret C d8_error_28 hf
    · have hf := zie c2 hf
      refine z_aload_n C d8_error_13 rfl ?_
      refine z_getR C d8_error_14 fl_269 kZ_1 94 rfl (zn0 kZ_94) ?_
      refine z_iload_n C d8_error_17 rfl ?_
      refine z_dup2 C d8_error_18 rfl rfl ?_
      obtain ⟨g3, hf⟩ := zgo hf
      refine z_iald C d8_error_19 kZ_94 kL_94 g3 (x1.toNatClampNeg) rfl ?_
      refine z_iconst C (1 : Int32) d8_error_20 kI_1 ?_
      refine z_iadd C d8_error_21 ?_
      obtain ⟨g4, hf⟩ := zgo hf
      obtain ⟨s5, e5, hf⟩ := zpx hf
      refine z_iast C d8_error_22 kZ_94 kL_94 g4 rfl e5 ?_
      refine z_ldcw C (-1000000000 : Int32) d8_error_23 w_312 ?_
      refine z_iload_n C d8_error_26 rfl ?_
      refine z_isub C d8_error_27 ?_
      exact z_iret C d8_error_28 hf
theorem d0_isOne_0 : zd b0_isOne 0 (.aload_n 0) 1 1 := ⟨by decide +kernel, rfl⟩
theorem d0_isOne_1 : zd b0_isOne 1 (.getfield 9) 3 4 := ⟨by decide +kernel, rfl⟩
theorem d0_isOne_4 : zd b0_isOne 4 (.istore_n 2) 1 5 := ⟨by decide +kernel, rfl⟩
theorem d0_isOne_5 : zd b0_isOne 5 (.iconst 0) 1 6 := ⟨by decide +kernel, rfl⟩
theorem d0_isOne_6 : zd b0_isOne 6 (.istore_n 3) 1 7 := ⟨by decide +kernel, rfl⟩
theorem d0_isOne_7 : zd b0_isOne 7 (.iload_n 3) 1 8 := ⟨by decide +kernel, rfl⟩
theorem d0_isOne_8 : zd b0_isOne 8 (.getstatic 27) 3 11 := ⟨by decide +kernel, rfl⟩
theorem d0_isOne_11 : zd b0_isOne 11 .arraylength 1 12 := ⟨by decide +kernel, rfl⟩
theorem d0_isOne_12 : zdb b0_isOne 12 (.if_icmp .ge 34) 34 15 46 := ⟨by decide +kernel, rfl, by decide⟩
theorem d0_isOne_15 : zd b0_isOne 15 (.iload_n 2) 1 16 := ⟨by decide +kernel, rfl⟩
theorem d0_isOne_16 : zdb b0_isOne 16 (.ifCond .le 30) 30 19 46 := ⟨by decide +kernel, rfl, by decide⟩
theorem d0_isOne_19 : zd b0_isOne 19 (.iload_n 2) 1 20 := ⟨by decide +kernel, rfl⟩
theorem d0_isOne_20 : zd b0_isOne 20 (.getstatic 27) 3 23 := ⟨by decide +kernel, rfl⟩
theorem d0_isOne_23 : zd b0_isOne 23 .arraylength 1 24 := ⟨by decide +kernel, rfl⟩
theorem d0_isOne_24 : zdb b0_isOne 24 (.if_icmp .ge 22) 22 27 46 := ⟨by decide +kernel, rfl, by decide⟩
theorem d0_isOne_27 : zd b0_isOne 27 (.iload_n 2) 1 28 := ⟨by decide +kernel, rfl⟩
theorem d0_isOne_28 : zd b0_isOne 28 (.iload_n 1) 1 29 := ⟨by decide +kernel, rfl⟩
theorem d0_isOne_29 : zdb b0_isOne 29 (.if_icmp .ne 5) 5 32 34 := ⟨by decide +kernel, rfl, by decide⟩
theorem d0_isOne_32 : zd b0_isOne 32 (.iconst 1) 1 33 := ⟨by decide +kernel, rfl⟩
theorem d0_isOne_33 : zd b0_isOne 33 .ireturn 1 34 := ⟨by decide +kernel, rfl⟩
theorem d0_isOne_34 : zd b0_isOne 34 (.getstatic 27) 3 37 := ⟨by decide +kernel, rfl⟩
theorem d0_isOne_37 : zd b0_isOne 37 (.iload_n 2) 1 38 := ⟨by decide +kernel, rfl⟩
theorem d0_isOne_38 : zd b0_isOne 38 .iaload 1 39 := ⟨by decide +kernel, rfl⟩
theorem d0_isOne_39 : zd b0_isOne 39 (.istore_n 2) 1 40 := ⟨by decide +kernel, rfl⟩
theorem d0_isOne_40 : zd b0_isOne 40 (.iinc 3 1) 3 43 := ⟨by decide +kernel, rfl⟩
theorem d0_isOne_43 : zdb b0_isOne 43 (.goto (-36)) (-36) 46 7 := ⟨by decide +kernel, rfl, by decide⟩
theorem d0_isOne_46 : zd b0_isOne 46 (.iload_n 2) 1 47 := ⟨by decide +kernel, rfl⟩
theorem d0_isOne_47 : zd b0_isOne 47 (.iload_n 1) 1 48 := ⟨by decide +kernel, rfl⟩
theorem d0_isOne_48 : zdb b0_isOne 48 (.if_icmp .ne 7) 7 51 55 := ⟨by decide +kernel, rfl, by decide⟩
theorem d0_isOne_51 : zd b0_isOne 51 (.iconst 1) 1 52 := ⟨by decide +kernel, rfl⟩
theorem d0_isOne_52 : zdb b0_isOne 52 (.goto 4) 4 55 56 := ⟨by decide +kernel, rfl, by decide⟩
theorem d0_isOne_55 : zd b0_isOne 55 (.iconst 0) 1 56 := ⟨by decide +kernel, rfl⟩
theorem d0_isOne_56 : zd b0_isOne 56 .ireturn 1 57 := ⟨by decide +kernel, rfl⟩
def b0_isOne_7 (k : Nat) (t : Nat) (q7 : Int32 → Int32 → Int32 → ZS → Option (Int32 × ZS)) (x1 : Int32) (x2 : Int32) (x3 : Int32) (σ : ZS) : Option (Int32 × ZS) :=
  if (7 : Int32) ≤ x3 then (
  if x2 = x1 then (
  some ((1 : Int32), σ))
  else (
  some ((0 : Int32), σ)))
  else (
  if x2 ≤ 0 then (
  if x2 = x1 then (
  some ((1 : Int32), σ))
  else (
  some ((0 : Int32), σ)))
  else (
  if (7 : Int32) ≤ x2 then (
  if x2 = x1 then (
  some ((1 : Int32), σ))
  else (
  some ((0 : Int32), σ)))
  else (
  if x2 = x1 then (
  some ((1 : Int32), σ))
  else (
  if zin x2 7 then (
  q7 x1 (zKA.getD x2.toNatClampNeg 0) (x3 + (1 : Int32)) σ) else none))))
def f0_isOne_7 (k : Nat) (t : Nat) : Nat → Int32 → Int32 → Int32 → ZS → Option (Int32 × ZS)
  | 0 => fun _ _ _ _ => none
  | n + 1 => b0_isOne_7 k t  (f0_isOne_7 k t  n)
theorem j0_isOne_7 {x : ZX} {g : ZG} (C : zC x g b0_isOne R0 (some .boolean) 4 1 60) {k : Nat} {t : Nat} (ht : zsh t = 1) {r : Int32} {σr : ZS}  {q7 : Int32 → Int32 → Int32 → ZS → Option (Int32 × ZS)} (hq7 : (∀ (x1 : Int32) (x2 : Int32) (x3 : Int32) (σ : ZS), q7 x1 x2 x3 σ = some (r, σr) → zw x g 4 0 0 (zMQ x g (some (zi r)) σr) σ 7 [none, some (zi x1), some (zi x2), some (zi x3)] [])) {x1 : Int32} {x2 : Int32} {x3 : Int32} {σ : ZS} (hf : b0_isOne_7 k t q7 x1 x2 x3 σ = some (r, σr)) : zw x g 4 0 0 (zMQ x g (some (zi r)) σr) σ 7 [none, some (zi x1), some (zi x2), some (zi x3)] [] := by
  unfold b0_isOne_7 at hf
  refine z_iload_n C d0_isOne_7 rfl ?_
  refine z_gets0 C d0_isOne_8 w_369 ?_
  refine z_alen0 C d0_isOne_11 ?_
  refine z_icmp_ge C d0_isOne_12 (fun c1 => ?_) (fun c1 => ?_)
  · have hf := zit c1 hf
    refine z_iload_n C d0_isOne_46 rfl ?_
    refine z_iload_n C d0_isOne_47 rfl ?_
    refine z_icmp_ne C d0_isOne_48 (fun c2 => ?_) (fun c2 => ?_)
    · have hf := zit c2 hf
      refine z_iconst C (1 : Int32) d0_isOne_51 kI_1 ?_
      refine z_goto C d0_isOne_52 ?_
      exact z_zret C d0_isOne_56 (Or.inr rfl) hf
    · have hf := zie c2 hf
      refine z_iconst C (0 : Int32) d0_isOne_55 kI_0 ?_
      exact z_zret C d0_isOne_56 (Or.inl rfl) hf
  · have hf := zie c1 hf
    refine z_iload_n C d0_isOne_15 rfl ?_
    refine z_if_le C d0_isOne_16 (fun c3 => ?_) (fun c3 => ?_)
    · have hf := zit c3 hf
      refine z_iload_n C d0_isOne_46 rfl ?_
      refine z_iload_n C d0_isOne_47 rfl ?_
      refine z_icmp_ne C d0_isOne_48 (fun c4 => ?_) (fun c4 => ?_)
      · have hf := zit c4 hf
        refine z_iconst C (1 : Int32) d0_isOne_51 kI_1 ?_
        refine z_goto C d0_isOne_52 ?_
        exact z_zret C d0_isOne_56 (Or.inr rfl) hf
      · have hf := zie c4 hf
        refine z_iconst C (0 : Int32) d0_isOne_55 kI_0 ?_
        exact z_zret C d0_isOne_56 (Or.inl rfl) hf
    · have hf := zie c3 hf
      refine z_iload_n C d0_isOne_19 rfl ?_
      refine z_gets0 C d0_isOne_20 w_369 ?_
      refine z_alen0 C d0_isOne_23 ?_
      refine z_icmp_ge C d0_isOne_24 (fun c5 => ?_) (fun c5 => ?_)
      · have hf := zit c5 hf
        refine z_iload_n C d0_isOne_46 rfl ?_
        refine z_iload_n C d0_isOne_47 rfl ?_
        refine z_icmp_ne C d0_isOne_48 (fun c6 => ?_) (fun c6 => ?_)
        · have hf := zit c6 hf
          refine z_iconst C (1 : Int32) d0_isOne_51 kI_1 ?_
          refine z_goto C d0_isOne_52 ?_
          exact z_zret C d0_isOne_56 (Or.inr rfl) hf
        · have hf := zie c6 hf
          refine z_iconst C (0 : Int32) d0_isOne_55 kI_0 ?_
          exact z_zret C d0_isOne_56 (Or.inl rfl) hf
      · have hf := zie c5 hf
        refine z_iload_n C d0_isOne_27 rfl ?_
        refine z_iload_n C d0_isOne_28 rfl ?_
        refine z_icmp_ne C d0_isOne_29 (fun c7 => ?_) (fun c7 => ?_)
        · have hf := zit c7 hf
          refine z_iconst C (1 : Int32) d0_isOne_32 kI_1 ?_
          exact z_zret C d0_isOne_33 (Or.inr rfl) hf
        · have hf := zie c7 hf
          refine z_gets0 C d0_isOne_34 w_369 ?_
          refine z_iload_n C d0_isOne_37 rfl ?_
          obtain ⟨g8, hf⟩ := zgo hf
          refine z_iald0 C d0_isOne_38 g8 ?_
          refine z_istore_n C d0_isOne_39 (Nat.le_of_ble_eq_true rfl) rfl (L' := [none, some (zi x1), some (zi (zKA.getD x2.toNatClampNeg 0)), some (zi x3)]) rfl ?_
          refine z_iinc C d0_isOne_40 rfl kI_1 (Nat.le_of_ble_eq_true rfl) rfl (L' := [none, some (zi x1), some (zi (zKA.getD x2.toNatClampNeg 0)), some (zi (x3 + (1 : Int32)))]) rfl ?_
          refine z_goto C d0_isOne_43 ?_
          exact hq7 _ _ _ _ hf
theorem j0_isOne_7l {x : ZX} {g : ZG} (C : zC x g b0_isOne R0 (some .boolean) 4 1 60) {k : Nat} {t : Nat} (ht : zsh t = 1) {r : Int32} {σr : ZS}  : ∀ (n : Nat) (x1 : Int32) (x2 : Int32) (x3 : Int32) (σ : ZS), f0_isOne_7 k t  n x1 x2 x3 σ = some (r, σr) → zw x g 4 0 0 (zMQ x g (some (zi r)) σr) σ 7 [none, some (zi x1), some (zi x2), some (zi x3)] [] := by
  intro n
  induction n with
  | zero => intro x1 x2 x3 σ hf; exact absurd (show none = some (r, σr) from hf) (fun z => by cases z)
  | succ n ih => intro x1 x2 x3 σ hf; exact j0_isOne_7 C ht  ih (show b0_isOne_7 k t  (f0_isOne_7 k t  n) x1 x2 x3 σ = some (r, σr) from hf)
def f0_isOne (k : Nat) (t : Nat) (x1 : Int32) (σ : ZS) : Option (Int32 × ZS) :=
  if zsh t = 1 then (
  f0_isOne_7 k t  k x1 (σ t 0) (0 : Int32) σ) else none
theorem c0_isOne (l : Launch) (g : ZG) {k : Nat} {t : Nat} {x1 : Int32} {σ : ZS} {r : Int32} {σr : ZS} (hf : f0_isOne k t x1 σ = some (r, σr)) : zT l g y0_isOne b0_isOne 4 (some .boolean) 1 60 [zr t, zi x1] σ (some (zi r)) σr := by
  unfold f0_isOne at hf
  obtain ⟨ht, hf⟩ := zgo hf
  refine zT_start (own := R0) rfl (by decide +kernel) 2 (L := [some (zr t), some (zi x1), none, none]) rfl rfl (fun x hl C => ?_)
  subst hl
  refine z_aload_n C d0_isOne_0 rfl ?_
  refine z_getI C d0_isOne_1 fl_46 ht ?_
  refine z_istore_n C d0_isOne_4 (Nat.le_of_ble_eq_true rfl) rfl (L' := [some (zr t), some (zi x1), some (zi (σ t 0)), none]) rfl ?_
  refine z_iconst C (0 : Int32) d0_isOne_5 kI_0 ?_
  refine z_istore_n C d0_isOne_6 (Nat.le_of_ble_eq_true rfl) rfl (L' := [some (zr t), some (zi x1), some (zi (σ t 0)), some (zi (0 : Int32))]) rfl ?_
  refine z_drop [false, true, true, true] (L' := [none, some (zi x1), some (zi (σ t 0)), some (zi (0 : Int32))]) rfl ?_
  exact j0_isOne_7l C ht  _ _ _ _ _ hf
theorem d5_glassOf_0 : zd b5_glassOf 0 (.iload_n 1) 1 1 := ⟨by decide +kernel, rfl⟩
theorem d5_glassOf_1 : zdb b5_glassOf 1 (.ifCond .lt 20) 20 4 21 := ⟨by decide +kernel, rfl, by decide⟩
theorem d5_glassOf_4 : zd b5_glassOf 4 (.iload_n 1) 1 5 := ⟨by decide +kernel, rfl⟩
theorem d5_glassOf_5 : zd b5_glassOf 5 (.aload_n 0) 1 6 := ⟨by decide +kernel, rfl⟩
theorem d5_glassOf_6 : zd b5_glassOf 6 (.getfield 68) 3 9 := ⟨by decide +kernel, rfl⟩
theorem d5_glassOf_9 : zdb b5_glassOf 9 (.if_icmp .ge 12) 12 12 21 := ⟨by decide +kernel, rfl, by decide⟩
theorem d5_glassOf_12 : zd b5_glassOf 12 (.iload_n 1) 1 13 := ⟨by decide +kernel, rfl⟩
theorem d5_glassOf_13 : zd b5_glassOf 13 (.aload_n 0) 1 14 := ⟨by decide +kernel, rfl⟩
theorem d5_glassOf_14 : zd b5_glassOf 14 (.getfield 11) 3 17 := ⟨by decide +kernel, rfl⟩
theorem d5_glassOf_17 : zd b5_glassOf 17 .arraylength 1 18 := ⟨by decide +kernel, rfl⟩
theorem d5_glassOf_18 : zdb b5_glassOf 18 (.if_icmp .lt 5) 5 21 23 := ⟨by decide +kernel, rfl, by decide⟩
theorem d5_glassOf_21 : zd b5_glassOf 21 .aconst_null 1 22 := ⟨by decide +kernel, rfl⟩
theorem d5_glassOf_22 : zd b5_glassOf 22 .areturn 1 23 := ⟨by decide +kernel, rfl⟩
theorem d5_glassOf_23 : zd b5_glassOf 23 (.aload_n 0) 1 24 := ⟨by decide +kernel, rfl⟩
theorem d5_glassOf_24 : zd b5_glassOf 24 (.getfield 11) 3 27 := ⟨by decide +kernel, rfl⟩
theorem d5_glassOf_27 : zd b5_glassOf 27 (.iload_n 1) 1 28 := ⟨by decide +kernel, rfl⟩
theorem d5_glassOf_28 : zd b5_glassOf 28 .aaload 1 29 := ⟨by decide +kernel, rfl⟩
theorem d5_glassOf_29 : zd b5_glassOf 29 .areturn 1 30 := ⟨by decide +kernel, rfl⟩
def f5_glassOf (k : Nat) (t : Nat) (x1 : Int32) (σ : ZS) : Option (Nat × ZS) :=
  if zsh t = 6 then (
  if x1 < 0 then (
  some (0, σ))
  else (
  if (σ t 6) ≤ x1 then (
  some (0, σ))
  else (
  if x1 < (8 : Int32) then (
  if zin x1 8 then (
  some ((t + 7 + x1.toNatClampNeg), σ)) else none)
  else (
  some (0, σ))))) else none
theorem c5_glassOf (l : Launch) (g : ZG) {k : Nat} {t : Nat} {x1 : Int32} {σ : ZS} {r : Nat} {σr : ZS} (hf : f5_glassOf k t x1 σ = some (r, σr)) : zT l g y5_glassOf b5_glassOf 2 (some (.object "GlassTax$Glass")) 1 60 [zr t, zi x1] σ (some (zr r)) σr := by
  unfold f5_glassOf at hf
  obtain ⟨ht, hf⟩ := zgo hf
  refine zT_start (own := R5) rfl (by decide +kernel) 0 (L := [some (zr t), some (zi x1)]) rfl rfl (fun x hl C => ?_)
  subst hl
  refine z_iload_n C d5_glassOf_0 rfl ?_
  refine z_if_lt C d5_glassOf_1 (fun c1 => ?_) (fun c1 => ?_)
  · have hf := zit c1 hf
    refine z_null C d5_glassOf_21 ?_
    exact z_aret C d5_glassOf_22 hf
  · have hf := zie c1 hf
    refine z_iload_n C d5_glassOf_4 rfl ?_
    refine z_aload_n C d5_glassOf_5 rfl ?_
    refine z_getI C d5_glassOf_6 fl_126 ht ?_
    refine z_icmp_ge C d5_glassOf_9 (fun c2 => ?_) (fun c2 => ?_)
    · have hf := zit c2 hf
      refine z_null C d5_glassOf_21 ?_
      exact z_aret C d5_glassOf_22 hf
    · have hf := zie c2 hf
      refine z_iload_n C d5_glassOf_12 rfl ?_
      refine z_aload_n C d5_glassOf_13 rfl ?_
      refine z_getR C d5_glassOf_14 fl_118 ht (t + 1) rfl (zn0 (zD6_1 ht)) ?_
      refine z_alenR C (8 : Int32) d5_glassOf_17 (zD6_1 ht) (by decide) (by decide) kO_8 ?_
      refine z_icmp_lt C d5_glassOf_18 (fun c3 => ?_) (fun c3 => ?_)
      · have hf := zit c3 hf
        refine z_aload_n C d5_glassOf_23 rfl ?_
        refine z_getR C d5_glassOf_24 fl_118 ht (t + 1) rfl (zn0 (zD6_1 ht)) ?_
        refine z_iload_n C d5_glassOf_27 rfl ?_
        obtain ⟨g4, hf⟩ := zgo hf
        refine z_aald C d5_glassOf_28 (zD6_1 ht) (by decide) (by decide) g4 (t + 7 + x1.toNatClampNeg) (by show (t + 1) + 6 + 1 * x1.toNatClampNeg = (t + 7 + x1.toNatClampNeg); omega) (zn0 (zE11 ht g4)) ?_
        exact z_aret C d5_glassOf_29 hf
      · have hf := zie c3 hf
        refine z_null C d5_glassOf_21 ?_
        exact z_aret C d5_glassOf_22 hf
theorem d8_as_0 : zd b8_as 0 (.aload_n 0) 1 1 := ⟨by decide +kernel, rfl⟩
theorem d8_as_1 : zd b8_as 1 (.getfield 10) 3 4 := ⟨by decide +kernel, rfl⟩
theorem d8_as_4 : zd b8_as 4 (.iload_n 1) 1 5 := ⟨by decide +kernel, rfl⟩
theorem d8_as_5 : zd b8_as 5 (.invokevirtual 82) 3 8 := ⟨by decide +kernel, rfl⟩
theorem d8_as_8 : zd b8_as 8 (.astore_n 3) 1 9 := ⟨by decide +kernel, rfl⟩
theorem d8_as_9 : zd b8_as 9 (.aload_n 3) 1 10 := ⟨by decide +kernel, rfl⟩
theorem d8_as_10 : zdb b8_as 10 (.ifnull 13) 13 13 23 := ⟨by decide +kernel, rfl, by decide⟩
theorem d8_as_13 : zd b8_as 13 (.iload_n 2) 1 14 := ⟨by decide +kernel, rfl⟩
theorem d8_as_14 : zdb b8_as 14 (.ifCond .lt 9) 9 17 23 := ⟨by decide +kernel, rfl, by decide⟩
theorem d8_as_17 : zd b8_as 17 (.iload_n 2) 1 18 := ⟨by decide +kernel, rfl⟩
theorem d8_as_18 : zd b8_as 18 (.bipush 6) 2 20 := ⟨by decide +kernel, rfl⟩
theorem d8_as_20 : zdb b8_as 20 (.if_icmp .le 9) 9 23 29 := ⟨by decide +kernel, rfl, by decide⟩
theorem d8_as_23 : zd b8_as 23 (.aload_n 0) 1 24 := ⟨by decide +kernel, rfl⟩
theorem d8_as_24 : zd b8_as 24 (.iconst 1) 1 25 := ⟨by decide +kernel, rfl⟩
theorem d8_as_25 : zd b8_as 25 (.invokevirtual 67) 3 28 := ⟨by decide +kernel, rfl⟩
theorem d8_as_28 : zd b8_as 28 .ireturn 1 29 := ⟨by decide +kernel, rfl⟩
theorem d8_as_29 : zd b8_as 29 (.aload_n 3) 1 30 := ⟨by decide +kernel, rfl⟩
theorem d8_as_30 : zd b8_as 30 (.iload_n 2) 1 31 := ⟨by decide +kernel, rfl⟩
theorem d8_as_31 : zd b8_as 31 (.invokevirtual 114) 3 34 := ⟨by decide +kernel, rfl⟩
theorem d8_as_34 : zdb b8_as 34 (.ifCond .eq 10) 10 37 44 := ⟨by decide +kernel, rfl, by decide⟩
theorem d8_as_37 : zd b8_as 37 (.aload_n 3) 1 38 := ⟨by decide +kernel, rfl⟩
theorem d8_as_38 : zd b8_as 38 (.getfield 91) 3 41 := ⟨by decide +kernel, rfl⟩
theorem d8_as_41 : zdb b8_as 41 (.goto 8) 8 44 49 := ⟨by decide +kernel, rfl, by decide⟩
theorem d8_as_44 : zd b8_as 44 (.aload_n 0) 1 45 := ⟨by decide +kernel, rfl⟩
theorem d8_as_45 : zd b8_as 45 (.iconst 5) 1 46 := ⟨by decide +kernel, rfl⟩
theorem d8_as_46 : zd b8_as 46 (.invokevirtual 67) 3 49 := ⟨by decide +kernel, rfl⟩
theorem d8_as_49 : zd b8_as 49 .ireturn 1 50 := ⟨by decide +kernel, rfl⟩
def f8_as (k : Nat) (x1 : Int32) (x2 : Int32) (σ : ZS) : Option (Int32 × ZS) :=
  zbd (f5_glassOf k 2 x1 σ) fun r1 s1 =>
  if r1 = 0 then (
  zbd (f8_error k (1 : Int32) s1) fun r3 s3 =>
  some (r3, s3))
  else (
  if x2 < 0 then (
  zbd (f8_error k (1 : Int32) s1) fun r5 s5 =>
  some (r5, s5))
  else (
  if x2 ≤ (6 : Int32) then (
  if zsh r1 = 1 then (
  zbd (f0_isOne k r1 x2 s1) fun r7 s7 =>
  if r7 = 0 then (
  zbd (f8_error k (5 : Int32) s7) fun r10 s10 =>
  some (r10, s10))
  else (
  some ((s7 r1 1), s7))) else none)
  else (
  zbd (f8_error k (1 : Int32) s1) fun r11 s11 =>
  some (r11, s11))))
theorem c8_as (l : Launch) (g : ZG) {k : Nat} {x1 : Int32} {x2 : Int32} {σ : ZS} {r : Int32} {σr : ZS} (hf : f8_as k x1 x2 σ = some (r, σr)) : zT l g y8_as b8_as 4 (some .int) 2 83 [zr 1, zi x1, zi x2] σ (some (zi r)) σr := by
  unfold f8_as at hf
  refine zT_start (own := R8) rfl (by decide +kernel) 1 (L := [some (zr 1), some (zi x1), some (zi x2), none]) rfl rfl (fun x hl C => ?_)
  subst hl
  refine z_aload_n C d8_as_0 rfl ?_
  refine z_getR C d8_as_1 fl_261 kZ_1 2 rfl (zn0 kZ_2) ?_
  refine z_iload_n C d8_as_4 rfl ?_
  obtain ⟨r1, s1, h1, hf⟩ := zbx hf
  refine z_callVr C (as := [zi x1]) d8_as_5 w_334 yy5_glassOf (c5_glassOf x.2.1 g h1) yc5_glassOf kZ_2 rfl rfl (Nat.le_of_ble_eq_true rfl) ⟨Nat.le_of_ble_eq_true rfl, Nat.le_of_ble_eq_true rfl⟩ ⟨Nat.zero_le _, Nat.zero_le _⟩ ?_
  refine z_astore_n C d8_as_8 (Nat.le_of_ble_eq_true rfl) rfl (L' := [some (zr 1), some (zi x1), some (zi x2), some (zr r1)]) rfl ?_
  refine z_aload_n C d8_as_9 rfl ?_
  refine z_ifnull C d8_as_10 (fun c2 => ?_) (fun c2 => ?_)
  · have hf := zit c2 hf
    refine z_aload_n C d8_as_23 rfl ?_
    refine z_iconst C (1 : Int32) d8_as_24 kI_1 ?_
    obtain ⟨r3, s3, h3, hf⟩ := zbx hf
    refine z_callVi C (as := [zi (1 : Int32)]) d8_as_25 w_308 yy8_error (c8_error x.2.1 g h3) yc8_error kZ_1 rfl rfl (Nat.le_of_ble_eq_true rfl) ⟨Nat.le_of_ble_eq_true rfl, Nat.le_of_ble_eq_true rfl⟩ ⟨Nat.zero_le _, Nat.zero_le _⟩ ?_
    exact z_iret C d8_as_28 hf
  · have hf := zie c2 hf
    refine z_iload_n C d8_as_13 rfl ?_
    refine z_if_lt C d8_as_14 (fun c4 => ?_) (fun c4 => ?_)
    · have hf := zit c4 hf
      refine z_aload_n C d8_as_23 rfl ?_
      refine z_iconst C (1 : Int32) d8_as_24 kI_1 ?_
      obtain ⟨r5, s5, h5, hf⟩ := zbx hf
      refine z_callVi C (as := [zi (1 : Int32)]) d8_as_25 w_308 yy8_error (c8_error x.2.1 g h5) yc8_error kZ_1 rfl rfl (Nat.le_of_ble_eq_true rfl) ⟨Nat.le_of_ble_eq_true rfl, Nat.le_of_ble_eq_true rfl⟩ ⟨Nat.zero_le _, Nat.zero_le _⟩ ?_
      exact z_iret C d8_as_28 hf
    · have hf := zie c4 hf
      refine z_iload_n C d8_as_17 rfl ?_
      refine z_bipush C (6 : Int32) d8_as_18 kB_6 ?_
      refine z_icmp_le C d8_as_20 (fun c6 => ?_) (fun c6 => ?_)
      · have hf := zit c6 hf
        refine z_aload_n C d8_as_29 rfl ?_
        refine z_iload_n C d8_as_30 rfl ?_
        obtain ⟨g8, hf⟩ := zgo hf
        obtain ⟨r7, s7, h7, hf⟩ := zbx hf
        refine z_callVi C (as := [zi x2]) d8_as_31 w_365 yy0_isOne (c0_isOne x.2.1 g h7) yc0_isOne g8 rfl rfl (Nat.le_of_ble_eq_true rfl) ⟨Nat.le_of_ble_eq_true rfl, Nat.le_of_ble_eq_true rfl⟩ ⟨Nat.zero_le _, Nat.zero_le _⟩ ?_
        refine z_if_eq C d8_as_34 (fun c9 => ?_) (fun c9 => ?_)
        · have hf := zit c9 hf
          refine z_aload_n C d8_as_44 rfl ?_
          refine z_iconst C (5 : Int32) d8_as_45 kI_5 ?_
          obtain ⟨r10, s10, h10, hf⟩ := zbx hf
          refine z_callVi C (as := [zi (5 : Int32)]) d8_as_46 w_308 yy8_error (c8_error x.2.1 g h10) yc8_error kZ_1 rfl rfl (Nat.le_of_ble_eq_true rfl) ⟨Nat.le_of_ble_eq_true rfl, Nat.le_of_ble_eq_true rfl⟩ ⟨Nat.zero_le _, Nat.zero_le _⟩ ?_
          exact z_iret C d8_as_49 hf
        · have hf := zie c9 hf
          refine z_aload_n C d8_as_37 rfl ?_
          refine z_getI C d8_as_38 fl_52 g8 ?_
          refine z_goto C d8_as_41 ?_
          exact z_iret C d8_as_49 hf
      · have hf := zie c6 hf
        refine z_aload_n C d8_as_23 rfl ?_
        refine z_iconst C (1 : Int32) d8_as_24 kI_1 ?_
        obtain ⟨r11, s11, h11, hf⟩ := zbx hf
        refine z_callVi C (as := [zi (1 : Int32)]) d8_as_25 w_308 yy8_error (c8_error x.2.1 g h11) yc8_error kZ_1 rfl rfl (Nat.le_of_ble_eq_true rfl) ⟨Nat.le_of_ble_eq_true rfl, Nat.le_of_ble_eq_true rfl⟩ ⟨Nat.zero_le _, Nat.zero_le _⟩ ?_
        exact z_iret C d8_as_28 hf
theorem d8_isNoCell_0 : zd b8_isNoCell 0 (.iload_n 0) 1 1 := ⟨by decide +kernel, rfl⟩
theorem d8_isNoCell_1 : zdb b8_isNoCell 1 (.ifCond .lt 9) 9 4 10 := ⟨by decide +kernel, rfl, by decide⟩
theorem d8_isNoCell_4 : zd b8_isNoCell 4 (.iload_n 0) 1 5 := ⟨by decide +kernel, rfl⟩
theorem d8_isNoCell_5 : zd b8_isNoCell 5 (.bipush 64) 2 7 := ⟨by decide +kernel, rfl⟩
theorem d8_isNoCell_7 : zdb b8_isNoCell 7 (.if_icmp .lt 7) 7 10 14 := ⟨by decide +kernel, rfl, by decide⟩
theorem d8_isNoCell_10 : zd b8_isNoCell 10 (.iconst 1) 1 11 := ⟨by decide +kernel, rfl⟩
theorem d8_isNoCell_11 : zdb b8_isNoCell 11 (.goto 4) 4 14 15 := ⟨by decide +kernel, rfl, by decide⟩
theorem d8_isNoCell_14 : zd b8_isNoCell 14 (.iconst 0) 1 15 := ⟨by decide +kernel, rfl⟩
theorem d8_isNoCell_15 : zd b8_isNoCell 15 .ireturn 1 16 := ⟨by decide +kernel, rfl⟩
def f8_isNoCell (k : Nat) (x0 : Int32) (σ : ZS) : Option (Int32 × ZS) :=
  if x0 < 0 then (
  some ((1 : Int32), σ))
  else (
  if x0 < (64 : Int32) then (
  some ((0 : Int32), σ))
  else (
  some ((1 : Int32), σ)))
theorem c8_isNoCell (l : Launch) (g : ZG) {k : Nat} {x0 : Int32} {σ : ZS} {r : Int32} {σr : ZS} (hf : f8_isNoCell k x0 σ = some (r, σr)) : zT l g y8_isNoCell b8_isNoCell 1 (some .boolean) 1 60 [zi x0] σ (some (zi r)) σr := by
  unfold f8_isNoCell at hf
  refine zT_start (own := R8) rfl (by decide +kernel) 0 (L := [some (zi x0)]) rfl rfl (fun x hl C => ?_)
  subst hl
  refine z_iload_n C d8_isNoCell_0 rfl ?_
  refine z_if_lt C d8_isNoCell_1 (fun c1 => ?_) (fun c1 => ?_)
  · have hf := zit c1 hf
    refine z_iconst C (1 : Int32) d8_isNoCell_10 kI_1 ?_
    refine z_goto C d8_isNoCell_11 ?_
    exact z_zret C d8_isNoCell_15 (Or.inr rfl) hf
  · have hf := zie c1 hf
    refine z_iload_n C d8_isNoCell_4 rfl ?_
    refine z_bipush C (64 : Int32) d8_isNoCell_5 kB_64 ?_
    refine z_icmp_lt C d8_isNoCell_7 (fun c2 => ?_) (fun c2 => ?_)
    · have hf := zit c2 hf
      refine z_iconst C (0 : Int32) d8_isNoCell_14 kI_0 ?_
      exact z_zret C d8_isNoCell_15 (Or.inl rfl) hf
    · have hf := zie c2 hf
      refine z_iconst C (1 : Int32) d8_isNoCell_10 kI_1 ?_
      refine z_goto C d8_isNoCell_11 ?_
      exact z_zret C d8_isNoCell_15 (Or.inr rfl) hf
theorem d8_isNoWay_0 : zd b8_isNoWay 0 (.iload_n 0) 1 1 := ⟨by decide +kernel, rfl⟩
theorem d8_isNoWay_1 : zdb b8_isNoWay 1 (.ifCond .lt 8) 8 4 9 := ⟨by decide +kernel, rfl, by decide⟩
theorem d8_isNoWay_4 : zd b8_isNoWay 4 (.iload_n 0) 1 5 := ⟨by decide +kernel, rfl⟩
theorem d8_isNoWay_5 : zd b8_isNoWay 5 (.iconst 4) 1 6 := ⟨by decide +kernel, rfl⟩
theorem d8_isNoWay_6 : zdb b8_isNoWay 6 (.if_icmp .lt 7) 7 9 13 := ⟨by decide +kernel, rfl, by decide⟩
theorem d8_isNoWay_9 : zd b8_isNoWay 9 (.iconst 1) 1 10 := ⟨by decide +kernel, rfl⟩
theorem d8_isNoWay_10 : zdb b8_isNoWay 10 (.goto 4) 4 13 14 := ⟨by decide +kernel, rfl, by decide⟩
theorem d8_isNoWay_13 : zd b8_isNoWay 13 (.iconst 0) 1 14 := ⟨by decide +kernel, rfl⟩
theorem d8_isNoWay_14 : zd b8_isNoWay 14 .ireturn 1 15 := ⟨by decide +kernel, rfl⟩
def f8_isNoWay (k : Nat) (x0 : Int32) (σ : ZS) : Option (Int32 × ZS) :=
  if x0 < 0 then (
  some ((1 : Int32), σ))
  else (
  if x0 < (4 : Int32) then (
  some ((0 : Int32), σ))
  else (
  some ((1 : Int32), σ)))
theorem c8_isNoWay (l : Launch) (g : ZG) {k : Nat} {x0 : Int32} {σ : ZS} {r : Int32} {σr : ZS} (hf : f8_isNoWay k x0 σ = some (r, σr)) : zT l g y8_isNoWay b8_isNoWay 1 (some .boolean) 1 60 [zi x0] σ (some (zi r)) σr := by
  unfold f8_isNoWay at hf
  refine zT_start (own := R8) rfl (by decide +kernel) 0 (L := [some (zi x0)]) rfl rfl (fun x hl C => ?_)
  subst hl
  refine z_iload_n C d8_isNoWay_0 rfl ?_
  refine z_if_lt C d8_isNoWay_1 (fun c1 => ?_) (fun c1 => ?_)
  · have hf := zit c1 hf
    refine z_iconst C (1 : Int32) d8_isNoWay_9 kI_1 ?_
    refine z_goto C d8_isNoWay_10 ?_
    exact z_zret C d8_isNoWay_14 (Or.inr rfl) hf
  · have hf := zie c1 hf
    refine z_iload_n C d8_isNoWay_4 rfl ?_
    refine z_iconst C (4 : Int32) d8_isNoWay_5 kI_4 ?_
    refine z_icmp_lt C d8_isNoWay_6 (fun c2 => ?_) (fun c2 => ?_)
    · have hf := zit c2 hf
      refine z_iconst C (0 : Int32) d8_isNoWay_13 kI_0 ?_
      exact z_zret C d8_isNoWay_14 (Or.inl rfl) hf
    · have hf := zie c2 hf
      refine z_iconst C (1 : Int32) d8_isNoWay_9 kI_1 ?_
      refine z_goto C d8_isNoWay_10 ?_
      exact z_zret C d8_isNoWay_14 (Or.inr rfl) hf
theorem d1_cellAt_0 : zd b1_cellAt 0 (.iload_n 1) 1 1 := ⟨by decide +kernel, rfl⟩
theorem d1_cellAt_1 : zdb b1_cellAt 1 (.ifCond .lt 20) 20 4 21 := ⟨by decide +kernel, rfl, by decide⟩
theorem d1_cellAt_4 : zd b1_cellAt 4 (.iload_n 1) 1 5 := ⟨by decide +kernel, rfl⟩
theorem d1_cellAt_5 : zd b1_cellAt 5 (.aload_n 0) 1 6 := ⟨by decide +kernel, rfl⟩
theorem d1_cellAt_6 : zd b1_cellAt 6 (.getfield 24) 3 9 := ⟨by decide +kernel, rfl⟩
theorem d1_cellAt_9 : zdb b1_cellAt 9 (.if_icmp .ge 12) 12 12 21 := ⟨by decide +kernel, rfl, by decide⟩
theorem d1_cellAt_12 : zd b1_cellAt 12 (.iload_n 1) 1 13 := ⟨by decide +kernel, rfl⟩
theorem d1_cellAt_13 : zd b1_cellAt 13 (.aload_n 0) 1 14 := ⟨by decide +kernel, rfl⟩
theorem d1_cellAt_14 : zd b1_cellAt 14 (.getfield 11) 3 17 := ⟨by decide +kernel, rfl⟩
theorem d1_cellAt_17 : zd b1_cellAt 17 .arraylength 1 18 := ⟨by decide +kernel, rfl⟩
theorem d1_cellAt_18 : zdb b1_cellAt 18 (.if_icmp .lt 7) 7 21 25 := ⟨by decide +kernel, rfl, by decide⟩
theorem d1_cellAt_21 : zd b1_cellAt 21 (.iconst (-1)) 1 22 := ⟨by decide +kernel, rfl⟩
theorem d1_cellAt_22 : zdb b1_cellAt 22 (.goto 9) 9 25 31 := ⟨by decide +kernel, rfl, by decide⟩
theorem d1_cellAt_25 : zd b1_cellAt 25 (.aload_n 0) 1 26 := ⟨by decide +kernel, rfl⟩
theorem d1_cellAt_26 : zd b1_cellAt 26 (.getfield 11) 3 29 := ⟨by decide +kernel, rfl⟩
theorem d1_cellAt_29 : zd b1_cellAt 29 (.iload_n 1) 1 30 := ⟨by decide +kernel, rfl⟩
theorem d1_cellAt_30 : zd b1_cellAt 30 .iaload 1 31 := ⟨by decide +kernel, rfl⟩
theorem d1_cellAt_31 : zd b1_cellAt 31 .ireturn 1 32 := ⟨by decide +kernel, rfl⟩
def f1_cellAt (k : Nat) (x1 : Int32) (σ : ZS) : Option (Int32 × ZS) :=
  if x1 < 0 then (
  some ((-1 : Int32), σ))
  else (
  if (σ 83 2) ≤ x1 then (
  some ((-1 : Int32), σ))
  else (
  if x1 < (257 : Int32) then (
  if zin x1 257 then (
  some ((σ 84 x1.toNatClampNeg), σ)) else none)
  else (
  some ((-1 : Int32), σ))))
theorem c1_cellAt (l : Launch) (g : ZG) {k : Nat} {x1 : Int32} {σ : ZS} {r : Int32} {σr : ZS} (hf : f1_cellAt k x1 σ = some (r, σr)) : zT l g y1_cellAt b1_cellAt 2 (some .int) 1 60 [zr 83, zi x1] σ (some (zi r)) σr := by
  unfold f1_cellAt at hf
  refine zT_start (own := R1) rfl (by decide +kernel) 0 (L := [some (zr 83), some (zi x1)]) rfl rfl (fun x hl C => ?_)
  subst hl
  refine z_iload_n C d1_cellAt_0 rfl ?_
  refine z_if_lt C d1_cellAt_1 (fun c1 => ?_) (fun c1 => ?_)
  · have hf := zit c1 hf
    refine z_iconst C (-1 : Int32) d1_cellAt_21 kI_m1 ?_
    refine z_goto C d1_cellAt_22 ?_
    exact z_iret C d1_cellAt_31 hf
  · have hf := zie c1 hf
    refine z_iload_n C d1_cellAt_4 rfl ?_
    refine z_aload_n C d1_cellAt_5 rfl ?_
    refine z_getI C d1_cellAt_6 fl_170 kZ_83 ?_
    refine z_icmp_ge C d1_cellAt_9 (fun c2 => ?_) (fun c2 => ?_)
    · have hf := zit c2 hf
      refine z_iconst C (-1 : Int32) d1_cellAt_21 kI_m1 ?_
      refine z_goto C d1_cellAt_22 ?_
      exact z_iret C d1_cellAt_31 hf
    · have hf := zie c2 hf
      refine z_iload_n C d1_cellAt_12 rfl ?_
      refine z_aload_n C d1_cellAt_13 rfl ?_
      refine z_getR C d1_cellAt_14 fl_168 kZ_83 84 rfl (zn0 kZ_84) ?_
      refine z_alen C (257 : Int32) d1_cellAt_17 kZ_84 kL_84 kO_257 ?_
      refine z_icmp_lt C d1_cellAt_18 (fun c3 => ?_) (fun c3 => ?_)
      · have hf := zit c3 hf
        refine z_aload_n C d1_cellAt_25 rfl ?_
        refine z_getR C d1_cellAt_26 fl_168 kZ_83 84 rfl (zn0 kZ_84) ?_
        refine z_iload_n C d1_cellAt_29 rfl ?_
        obtain ⟨g4, hf⟩ := zgo hf
        refine z_iald C d1_cellAt_30 kZ_84 kL_84 g4 (x1.toNatClampNeg) rfl ?_
        exact z_iret C d1_cellAt_31 hf
      · have hf := zie c3 hf
        refine z_iconst C (-1 : Int32) d1_cellAt_21 kI_m1 ?_
        refine z_goto C d1_cellAt_22 ?_
        exact z_iret C d1_cellAt_31 hf
theorem d0_roundFrom_0 : zd b0_roundFrom 0 (.iload_n 0) 1 1 := ⟨by decide +kernel, rfl⟩
theorem d0_roundFrom_1 : zd b0_roundFrom 1 (.iconst 2) 1 2 := ⟨by decide +kernel, rfl⟩
theorem d0_roundFrom_2 : zd b0_roundFrom 2 .ixor 1 3 := ⟨by decide +kernel, rfl⟩
theorem d0_roundFrom_3 : zd b0_roundFrom 3 .ireturn 1 4 := ⟨by decide +kernel, rfl⟩
def f0_roundFrom (k : Nat) (x0 : Int32) (σ : ZS) : Option (Int32 × ZS) :=
  some ((x0 ^^^ (2 : Int32)), σ)
theorem c0_roundFrom (l : Launch) (g : ZG) {k : Nat} {x0 : Int32} {σ : ZS} {r : Int32} {σr : ZS} (hf : f0_roundFrom k x0 σ = some (r, σr)) : zT l g y0_roundFrom b0_roundFrom 1 (some .int) 1 60 [zi x0] σ (some (zi r)) σr := by
  unfold f0_roundFrom at hf
  refine zT_start (own := R0) rfl (by decide +kernel) 0 (L := [some (zi x0)]) rfl rfl (fun x hl C => ?_)
  subst hl
  refine z_iload_n C d0_roundFrom_0 rfl ?_
  refine z_iconst C (2 : Int32) d0_roundFrom_1 kI_2 ?_
  refine z_ixor C d0_roundFrom_2 ?_
  exact z_iret C d0_roundFrom_3 hf
theorem d0_byTurn_0 : zd b0_byTurn 0 (.aload_n 0) 1 1 := ⟨by decide +kernel, rfl⟩
theorem d0_byTurn_1 : zd b0_byTurn 1 (.getfield 21) 3 4 := ⟨by decide +kernel, rfl⟩
theorem d0_byTurn_4 : decode b0_byTurn 4 = .ok ((.tableswitch 52 0 2 #[28, 32, 36]), 28) := by decide +kernel
theorem d0_byTurn_32 : zd b0_byTurn 32 (.iload_n 1) 1 33 := ⟨by decide +kernel, rfl⟩
theorem d0_byTurn_33 : zd b0_byTurn 33 (.iconst 1) 1 34 := ⟨by decide +kernel, rfl⟩
theorem d0_byTurn_34 : zd b0_byTurn 34 .ixor 1 35 := ⟨by decide +kernel, rfl⟩
theorem d0_byTurn_35 : zd b0_byTurn 35 .ireturn 1 36 := ⟨by decide +kernel, rfl⟩
theorem d0_byTurn_36 : zd b0_byTurn 36 (.iconst 3) 1 37 := ⟨by decide +kernel, rfl⟩
theorem d0_byTurn_37 : zd b0_byTurn 37 (.iload_n 1) 1 38 := ⟨by decide +kernel, rfl⟩
theorem d0_byTurn_38 : zd b0_byTurn 38 .isub 1 39 := ⟨by decide +kernel, rfl⟩
theorem d0_byTurn_39 : zd b0_byTurn 39 .ireturn 1 40 := ⟨by decide +kernel, rfl⟩
theorem d0_byTurn_40 : zd b0_byTurn 40 (.iload_n 1) 1 41 := ⟨by decide +kernel, rfl⟩
theorem d0_byTurn_41 : zd b0_byTurn 41 (.iconst 2) 1 42 := ⟨by decide +kernel, rfl⟩
theorem d0_byTurn_42 : zd b0_byTurn 42 .irem 1 43 := ⟨by decide +kernel, rfl⟩
theorem d0_byTurn_43 : zd b0_byTurn 43 (.iconst 1) 1 44 := ⟨by decide +kernel, rfl⟩
theorem d0_byTurn_44 : zdb b0_byTurn 44 (.if_icmp .ne 10) 10 47 54 := ⟨by decide +kernel, rfl, by decide⟩
theorem d0_byTurn_47 : zd b0_byTurn 47 (.iload_n 1) 1 48 := ⟨by decide +kernel, rfl⟩
theorem d0_byTurn_48 : zd b0_byTurn 48 (.invokestatic 35) 3 51 := ⟨by decide +kernel, rfl⟩
theorem d0_byTurn_51 : zdb b0_byTurn 51 (.goto 4) 4 54 55 := ⟨by decide +kernel, rfl, by decide⟩
theorem d0_byTurn_54 : zd b0_byTurn 54 (.iload_n 1) 1 55 := ⟨by decide +kernel, rfl⟩
theorem d0_byTurn_55 : zd b0_byTurn 55 .ireturn 1 56 := ⟨by decide +kernel, rfl⟩
theorem d0_byTurn_56 : zd b0_byTurn 56 (.iload_n 1) 1 57 := ⟨by decide +kernel, rfl⟩
theorem d0_byTurn_57 : zd b0_byTurn 57 (.iconst 2) 1 58 := ⟨by decide +kernel, rfl⟩
theorem d0_byTurn_58 : zd b0_byTurn 58 .irem 1 59 := ⟨by decide +kernel, rfl⟩
theorem d0_byTurn_59 : zdb b0_byTurn 59 (.ifCond .ne 10) 10 62 69 := ⟨by decide +kernel, rfl, by decide⟩
theorem d0_byTurn_62 : zd b0_byTurn 62 (.iload_n 1) 1 63 := ⟨by decide +kernel, rfl⟩
theorem d0_byTurn_63 : zd b0_byTurn 63 (.invokestatic 35) 3 66 := ⟨by decide +kernel, rfl⟩
theorem d0_byTurn_66 : zdb b0_byTurn 66 (.goto 4) 4 69 70 := ⟨by decide +kernel, rfl, by decide⟩
theorem d0_byTurn_69 : zd b0_byTurn 69 (.iload_n 1) 1 70 := ⟨by decide +kernel, rfl⟩
theorem d0_byTurn_70 : zd b0_byTurn 70 .ireturn 1 71 := ⟨by decide +kernel, rfl⟩
def f0_byTurn (k : Nat) (t : Nat) (x1 : Int32) (σ : ZS) : Option (Int32 × ZS) :=
  if zsh t = 1 then (
  if (σ t 3) = (0 : Int32) then (
  some ((x1 ^^^ (1 : Int32)), σ))
  else (
  if (σ t 3) = (1 : Int32) then (
  some (((3 : Int32) - x1), σ))
  else (
  if (σ t 3) = (2 : Int32) then (
  if (x1 % (2 : Int32)) = (1 : Int32) then (
  zbd (f0_roundFrom k x1 σ) fun r5 s5 =>
  some (r5, s5))
  else (
  some (x1, σ)))
  else (
  if (x1 % (2 : Int32)) = 0 then (
  zbd (f0_roundFrom k x1 σ) fun r7 s7 =>
  some (r7, s7))
  else (
  some (x1, σ)))))) else none
theorem c0_byTurn (l : Launch) (g : ZG) {k : Nat} {t : Nat} {x1 : Int32} {σ : ZS} {r : Int32} {σr : ZS} (hf : f0_byTurn k t x1 σ = some (r, σr)) : zT l g y0_byTurn b0_byTurn 2 (some .int) 2 80 [zr t, zi x1] σ (some (zi r)) σr := by
  unfold f0_byTurn at hf
  obtain ⟨ht, hf⟩ := zgo hf
  refine zT_start (own := R0) rfl (by decide +kernel) 0 (L := [some (zr t), some (zi x1)]) rfl rfl (fun x hl C => ?_)
  subst hl
  refine z_aload_n C d0_byTurn_0 rfl ?_
  refine z_getI C d0_byTurn_1 fl_57 ht ?_
  refine z_tsw C [((0 : Int32), 32), ((1 : Int32), 36), ((2 : Int32), 40)] (d := 56) d0_byTurn_4 (by decide) (by decide) (by decide +kernel) ?_
  refine z_swc (fun c1 => ?_) (fun c1 => ?_)
  · have hf := zit c1 hf
    refine z_iload_n C d0_byTurn_32 rfl ?_
    refine z_iconst C (1 : Int32) d0_byTurn_33 kI_1 ?_
    refine z_ixor C d0_byTurn_34 ?_
    exact z_iret C d0_byTurn_35 hf
  · have hf := zie c1 hf
    refine z_swc (fun c2 => ?_) (fun c2 => ?_)
    · have hf := zit c2 hf
      refine z_iconst C (3 : Int32) d0_byTurn_36 kI_3 ?_
      refine z_iload_n C d0_byTurn_37 rfl ?_
      refine z_isub C d0_byTurn_38 ?_
      exact z_iret C d0_byTurn_39 hf
    · have hf := zie c2 hf
      refine z_swc (fun c3 => ?_) (fun c3 => ?_)
      · have hf := zit c3 hf
        refine z_iload_n C d0_byTurn_40 rfl ?_
        refine z_iconst C (2 : Int32) d0_byTurn_41 kI_2 ?_
        refine z_irem C d0_byTurn_42 (by decide) ?_
        refine z_iconst C (1 : Int32) d0_byTurn_43 kI_1 ?_
        refine z_icmp_ne C d0_byTurn_44 (fun c4 => ?_) (fun c4 => ?_)
        · have hf := zit c4 hf
          refine z_iload_n C d0_byTurn_47 rfl ?_
          obtain ⟨r5, s5, h5, hf⟩ := zbx hf
          refine z_callSi C (as := [zi x1]) d0_byTurn_48 w_354 yy0_roundFrom (c0_roundFrom x.2.1 g h5) rfl rfl (Nat.le_of_ble_eq_true rfl) ⟨Nat.le_of_ble_eq_true rfl, Nat.le_of_ble_eq_true rfl⟩ ⟨Nat.zero_le _, Nat.zero_le _⟩ ?_
          refine z_goto C d0_byTurn_51 ?_
          exact z_iret C d0_byTurn_55 hf
        · have hf := zie c4 hf
          refine z_iload_n C d0_byTurn_54 rfl ?_
          exact z_iret C d0_byTurn_55 hf
      · have hf := zie c3 hf
        refine z_sw0 ?_
        refine z_iload_n C d0_byTurn_56 rfl ?_
        refine z_iconst C (2 : Int32) d0_byTurn_57 kI_2 ?_
        refine z_irem C d0_byTurn_58 (by decide) ?_
        refine z_if_ne C d0_byTurn_59 (fun c6 => ?_) (fun c6 => ?_)
        · have hf := zit c6 hf
          refine z_iload_n C d0_byTurn_62 rfl ?_
          obtain ⟨r7, s7, h7, hf⟩ := zbx hf
          refine z_callSi C (as := [zi x1]) d0_byTurn_63 w_354 yy0_roundFrom (c0_roundFrom x.2.1 g h7) rfl rfl (Nat.le_of_ble_eq_true rfl) ⟨Nat.le_of_ble_eq_true rfl, Nat.le_of_ble_eq_true rfl⟩ ⟨Nat.zero_le _, Nat.zero_le _⟩ ?_
          refine z_goto C d0_byTurn_66 ?_
          exact z_iret C d0_byTurn_70 hf
        · have hf := zie c6 hf
          refine z_iload_n C d0_byTurn_69 rfl ?_
          exact z_iret C d0_byTurn_70 hf
theorem d0_onward_0 : zd b0_onward 0 (.aload_n 0) 1 1 := ⟨by decide +kernel, rfl⟩
theorem d0_onward_1 : zd b0_onward 1 (.getfield 9) 3 4 := ⟨by decide +kernel, rfl⟩
theorem d0_onward_4 : decode b0_onward 4 = .ok ((.tableswitch 142 1 6 #[40, 55, 69, 74, 94, 121]), 40) := by decide +kernel
theorem d0_onward_44 : zd b0_onward 44 (.iload_n 1) 1 45 := ⟨by decide +kernel, rfl⟩
theorem d0_onward_45 : zd b0_onward 45 (.iconst 2) 1 46 := ⟨by decide +kernel, rfl⟩
theorem d0_onward_46 : zdb b0_onward 46 (.if_icmp .ge 11) 11 49 57 := ⟨by decide +kernel, rfl, by decide⟩
theorem d0_onward_49 : zd b0_onward 49 (.aload_n 0) 1 50 := ⟨by decide +kernel, rfl⟩
theorem d0_onward_50 : zd b0_onward 50 (.iload_n 1) 1 51 := ⟨by decide +kernel, rfl⟩
theorem d0_onward_51 : zd b0_onward 51 (.invokevirtual 31) 3 54 := ⟨by decide +kernel, rfl⟩
theorem d0_onward_54 : zdb b0_onward 54 (.goto 4) 4 57 58 := ⟨by decide +kernel, rfl, by decide⟩
theorem d0_onward_57 : zd b0_onward 57 (.iload_n 1) 1 58 := ⟨by decide +kernel, rfl⟩
theorem d0_onward_58 : zd b0_onward 58 .ireturn 1 59 := ⟨by decide +kernel, rfl⟩
theorem d0_onward_59 : zd b0_onward 59 (.iload_n 2) 1 60 := ⟨by decide +kernel, rfl⟩
theorem d0_onward_60 : zdb b0_onward 60 (.ifCond .eq 11) 11 63 71 := ⟨by decide +kernel, rfl, by decide⟩
theorem d0_onward_63 : zd b0_onward 63 (.aload_n 0) 1 64 := ⟨by decide +kernel, rfl⟩
theorem d0_onward_64 : zd b0_onward 64 (.iload_n 1) 1 65 := ⟨by decide +kernel, rfl⟩
theorem d0_onward_65 : zd b0_onward 65 (.invokevirtual 31) 3 68 := ⟨by decide +kernel, rfl⟩
theorem d0_onward_68 : zdb b0_onward 68 (.goto 4) 4 71 72 := ⟨by decide +kernel, rfl, by decide⟩
theorem d0_onward_71 : zd b0_onward 71 (.iload_n 1) 1 72 := ⟨by decide +kernel, rfl⟩
theorem d0_onward_72 : zd b0_onward 72 .ireturn 1 73 := ⟨by decide +kernel, rfl⟩
theorem d0_onward_73 : zd b0_onward 73 (.iload_n 1) 1 74 := ⟨by decide +kernel, rfl⟩
theorem d0_onward_74 : zd b0_onward 74 (.invokestatic 35) 3 77 := ⟨by decide +kernel, rfl⟩
theorem d0_onward_77 : zd b0_onward 77 .ireturn 1 78 := ⟨by decide +kernel, rfl⟩
theorem d0_onward_78 : zd b0_onward 78 (.iload_n 1) 1 79 := ⟨by decide +kernel, rfl⟩
theorem d0_onward_79 : zd b0_onward 79 (.iconst 2) 1 80 := ⟨by decide +kernel, rfl⟩
theorem d0_onward_80 : zdb b0_onward 80 (.if_icmp .ge 14) 14 83 94 := ⟨by decide +kernel, rfl, by decide⟩
theorem d0_onward_83 : zd b0_onward 83 (.aload_n 0) 1 84 := ⟨by decide +kernel, rfl⟩
theorem d0_onward_84 : zd b0_onward 84 (.iload_n 1) 1 85 := ⟨by decide +kernel, rfl⟩
theorem d0_onward_85 : zd b0_onward 85 (.invokevirtual 31) 3 88 := ⟨by decide +kernel, rfl⟩
theorem d0_onward_88 : zd b0_onward 88 (.invokestatic 35) 3 91 := ⟨by decide +kernel, rfl⟩
theorem d0_onward_91 : zdb b0_onward 91 (.goto 6) 6 94 97 := ⟨by decide +kernel, rfl, by decide⟩
theorem d0_onward_94 : zd b0_onward 94 (.iload_n 1) 1 95 := ⟨by decide +kernel, rfl⟩
theorem d0_onward_95 : zd b0_onward 95 (.iconst 1) 1 96 := ⟨by decide +kernel, rfl⟩
theorem d0_onward_96 : zd b0_onward 96 .ixor 1 97 := ⟨by decide +kernel, rfl⟩
theorem d0_onward_97 : zd b0_onward 97 .ireturn 1 98 := ⟨by decide +kernel, rfl⟩
theorem d0_onward_98 : zd b0_onward 98 (.iload_n 2) 1 99 := ⟨by decide +kernel, rfl⟩
theorem d0_onward_99 : zdb b0_onward 99 (.ifCond .eq 9) 9 102 108 := ⟨by decide +kernel, rfl, by decide⟩
theorem d0_onward_102 : zd b0_onward 102 (.aload_n 0) 1 103 := ⟨by decide +kernel, rfl⟩
theorem d0_onward_103 : zd b0_onward 103 (.iload_n 1) 1 104 := ⟨by decide +kernel, rfl⟩
theorem d0_onward_104 : zd b0_onward 104 (.invokevirtual 31) 3 107 := ⟨by decide +kernel, rfl⟩
theorem d0_onward_107 : zd b0_onward 107 .ireturn 1 108 := ⟨by decide +kernel, rfl⟩
theorem d0_onward_108 : zd b0_onward 108 (.aload_n 0) 1 109 := ⟨by decide +kernel, rfl⟩
theorem d0_onward_109 : zd b0_onward 109 (.getfield 15) 3 112 := ⟨by decide +kernel, rfl⟩
theorem d0_onward_112 : zd b0_onward 112 (.iconst 4) 1 113 := ⟨by decide +kernel, rfl⟩
theorem d0_onward_113 : zdb b0_onward 113 (.if_icmp .le 10) 10 116 123 := ⟨by decide +kernel, rfl, by decide⟩
theorem d0_onward_116 : zd b0_onward 116 (.iload_n 1) 1 117 := ⟨by decide +kernel, rfl⟩
theorem d0_onward_117 : zd b0_onward 117 (.invokestatic 35) 3 120 := ⟨by decide +kernel, rfl⟩
theorem d0_onward_120 : zdb b0_onward 120 (.goto 4) 4 123 124 := ⟨by decide +kernel, rfl, by decide⟩
theorem d0_onward_123 : zd b0_onward 123 (.iload_n 1) 1 124 := ⟨by decide +kernel, rfl⟩
theorem d0_onward_124 : zd b0_onward 124 .ireturn 1 125 := ⟨by decide +kernel, rfl⟩
theorem d0_onward_125 : zd b0_onward 125 (.aload_n 0) 1 126 := ⟨by decide +kernel, rfl⟩
theorem d0_onward_126 : zd b0_onward 126 (.getfield 24) 3 129 := ⟨by decide +kernel, rfl⟩
theorem d0_onward_129 : zd b0_onward 129 (.aload_n 0) 1 130 := ⟨by decide +kernel, rfl⟩
theorem d0_onward_130 : zd b0_onward 130 (.getfield 15) 3 133 := ⟨by decide +kernel, rfl⟩
theorem d0_onward_133 : zdb b0_onward 133 (.if_icmp .le 7) 7 136 140 := ⟨by decide +kernel, rfl, by decide⟩
theorem d0_onward_136 : zd b0_onward 136 (.iconst (-1)) 1 137 := ⟨by decide +kernel, rfl⟩
theorem d0_onward_137 : zdb b0_onward 137 (.goto 8) 8 140 145 := ⟨by decide +kernel, rfl, by decide⟩
theorem d0_onward_140 : zd b0_onward 140 (.aload_n 0) 1 141 := ⟨by decide +kernel, rfl⟩
theorem d0_onward_141 : zd b0_onward 141 (.iload_n 1) 1 142 := ⟨by decide +kernel, rfl⟩
theorem d0_onward_142 : zd b0_onward 142 (.invokevirtual 31) 3 145 := ⟨by decide +kernel, rfl⟩
theorem d0_onward_145 : zd b0_onward 145 .ireturn 1 146 := ⟨by decide +kernel, rfl⟩
theorem d0_onward_146 : zd b0_onward 146 (.aload_n 0) 1 147 := ⟨by decide +kernel, rfl⟩
theorem d0_onward_147 : zd b0_onward 147 (.iload_n 1) 1 148 := ⟨by decide +kernel, rfl⟩
theorem d0_onward_148 : zd b0_onward 148 (.invokevirtual 31) 3 151 := ⟨by decide +kernel, rfl⟩
theorem d0_onward_151 : zd b0_onward 151 .ireturn 1 152 := ⟨by decide +kernel, rfl⟩
def f0_onward (k : Nat) (t : Nat) (x1 : Int32) (x2 : Int32) (σ : ZS) : Option (Int32 × ZS) :=
  if zsh t = 1 then (
  if (σ t 0) = (1 : Int32) then (
  if (2 : Int32) ≤ x1 then (
  some (x1, σ))
  else (
  zbd (f0_byTurn k t x1 σ) fun r3 s3 =>
  some (r3, s3)))
  else (
  if (σ t 0) = (2 : Int32) then (
  if x2 = 0 then (
  some (x1, σ))
  else (
  zbd (f0_byTurn k t x1 σ) fun r6 s6 =>
  some (r6, s6)))
  else (
  if (σ t 0) = (3 : Int32) then (
  zbd (f0_roundFrom k x1 σ) fun r8 s8 =>
  some (r8, s8))
  else (
  if (σ t 0) = (4 : Int32) then (
  if (2 : Int32) ≤ x1 then (
  some ((x1 ^^^ (1 : Int32)), σ))
  else (
  zbd (f0_byTurn k t x1 σ) fun r11 s11 =>
  zbd (f0_roundFrom k r11 s11) fun r12 s12 =>
  some (r12, s12)))
  else (
  if (σ t 0) = (5 : Int32) then (
  if x2 = 0 then (
  if (σ t 1) ≤ (4 : Int32) then (
  some (x1, σ))
  else (
  zbd (f0_roundFrom k x1 σ) fun r16 s16 =>
  some (r16, s16)))
  else (
  zbd (f0_byTurn k t x1 σ) fun r17 s17 =>
  some (r17, s17)))
  else (
  if (σ t 0) = (6 : Int32) then (
  if (σ t 4) ≤ (σ t 1) then (
  zbd (f0_byTurn k t x1 σ) fun r20 s20 =>
  some (r20, s20))
  else (
  some ((-1 : Int32), σ)))
  else (
  zbd (f0_byTurn k t x1 σ) fun r21 s21 =>
  some (r21, s21)))))))) else none
theorem c0_onward (l : Launch) (g : ZG) {k : Nat} {t : Nat} {x1 : Int32} {x2 : Int32} {σ : ZS} {r : Int32} {σr : ZS} (hf : f0_onward k t x1 x2 σ = some (r, σr)) : zT l g y0_onward b0_onward 3 (some .int) 3 101 [zr t, zi x1, zi x2] σ (some (zi r)) σr := by
  unfold f0_onward at hf
  obtain ⟨ht, hf⟩ := zgo hf
  refine zT_start (own := R0) rfl (by decide +kernel) 0 (L := [some (zr t), some (zi x1), some (zi x2)]) rfl rfl (fun x hl C => ?_)
  subst hl
  refine z_aload_n C d0_onward_0 rfl ?_
  refine z_getI C d0_onward_1 fl_46 ht ?_
  refine z_tsw C [((1 : Int32), 44), ((2 : Int32), 59), ((3 : Int32), 73), ((4 : Int32), 78), ((5 : Int32), 98), ((6 : Int32), 125)] (d := 146) d0_onward_4 (by decide) (by decide) (by decide +kernel) ?_
  refine z_swc (fun c1 => ?_) (fun c1 => ?_)
  · have hf := zit c1 hf
    refine z_iload_n C d0_onward_44 rfl ?_
    refine z_iconst C (2 : Int32) d0_onward_45 kI_2 ?_
    refine z_icmp_ge C d0_onward_46 (fun c2 => ?_) (fun c2 => ?_)
    · have hf := zit c2 hf
      refine z_iload_n C d0_onward_57 rfl ?_
      exact z_iret C d0_onward_58 hf
    · have hf := zie c2 hf
      refine z_aload_n C d0_onward_49 rfl ?_
      refine z_iload_n C d0_onward_50 rfl ?_
      obtain ⟨r3, s3, h3, hf⟩ := zbx hf
      refine z_callVi C (as := [zi x1]) d0_onward_51 w_350 yy0_byTurn (c0_byTurn x.2.1 g h3) yc0_byTurn ht rfl rfl (Nat.le_of_ble_eq_true rfl) ⟨Nat.le_of_ble_eq_true rfl, Nat.le_of_ble_eq_true rfl⟩ ⟨Nat.zero_le _, Nat.zero_le _⟩ ?_
      refine z_goto C d0_onward_54 ?_
      exact z_iret C d0_onward_58 hf
  · have hf := zie c1 hf
    refine z_swc (fun c4 => ?_) (fun c4 => ?_)
    · have hf := zit c4 hf
      refine z_iload_n C d0_onward_59 rfl ?_
      refine z_if_eq C d0_onward_60 (fun c5 => ?_) (fun c5 => ?_)
      · have hf := zit c5 hf
        refine z_iload_n C d0_onward_71 rfl ?_
        exact z_iret C d0_onward_72 hf
      · have hf := zie c5 hf
        refine z_aload_n C d0_onward_63 rfl ?_
        refine z_iload_n C d0_onward_64 rfl ?_
        obtain ⟨r6, s6, h6, hf⟩ := zbx hf
        refine z_callVi C (as := [zi x1]) d0_onward_65 w_350 yy0_byTurn (c0_byTurn x.2.1 g h6) yc0_byTurn ht rfl rfl (Nat.le_of_ble_eq_true rfl) ⟨Nat.le_of_ble_eq_true rfl, Nat.le_of_ble_eq_true rfl⟩ ⟨Nat.zero_le _, Nat.zero_le _⟩ ?_
        refine z_goto C d0_onward_68 ?_
        exact z_iret C d0_onward_72 hf
    · have hf := zie c4 hf
      refine z_swc (fun c7 => ?_) (fun c7 => ?_)
      · have hf := zit c7 hf
        refine z_iload_n C d0_onward_73 rfl ?_
        obtain ⟨r8, s8, h8, hf⟩ := zbx hf
        refine z_callSi C (as := [zi x1]) d0_onward_74 w_354 yy0_roundFrom (c0_roundFrom x.2.1 g h8) rfl rfl (Nat.le_of_ble_eq_true rfl) ⟨Nat.le_of_ble_eq_true rfl, Nat.le_of_ble_eq_true rfl⟩ ⟨Nat.zero_le _, Nat.zero_le _⟩ ?_
        exact z_iret C d0_onward_77 hf
      · have hf := zie c7 hf
        refine z_swc (fun c9 => ?_) (fun c9 => ?_)
        · have hf := zit c9 hf
          refine z_iload_n C d0_onward_78 rfl ?_
          refine z_iconst C (2 : Int32) d0_onward_79 kI_2 ?_
          refine z_icmp_ge C d0_onward_80 (fun c10 => ?_) (fun c10 => ?_)
          · have hf := zit c10 hf
            refine z_iload_n C d0_onward_94 rfl ?_
            refine z_iconst C (1 : Int32) d0_onward_95 kI_1 ?_
            refine z_ixor C d0_onward_96 ?_
            exact z_iret C d0_onward_97 hf
          · have hf := zie c10 hf
            refine z_aload_n C d0_onward_83 rfl ?_
            refine z_iload_n C d0_onward_84 rfl ?_
            obtain ⟨r11, s11, h11, hf⟩ := zbx hf
            refine z_callVi C (as := [zi x1]) d0_onward_85 w_350 yy0_byTurn (c0_byTurn x.2.1 g h11) yc0_byTurn ht rfl rfl (Nat.le_of_ble_eq_true rfl) ⟨Nat.le_of_ble_eq_true rfl, Nat.le_of_ble_eq_true rfl⟩ ⟨Nat.zero_le _, Nat.zero_le _⟩ ?_
            obtain ⟨r12, s12, h12, hf⟩ := zbx hf
            refine z_callSi C (as := [zi r11]) d0_onward_88 w_354 yy0_roundFrom (c0_roundFrom x.2.1 g h12) rfl rfl (Nat.le_of_ble_eq_true rfl) ⟨Nat.le_of_ble_eq_true rfl, Nat.le_of_ble_eq_true rfl⟩ ⟨Nat.zero_le _, Nat.zero_le _⟩ ?_
            refine z_goto C d0_onward_91 ?_
            exact z_iret C d0_onward_97 hf
        · have hf := zie c9 hf
          refine z_swc (fun c13 => ?_) (fun c13 => ?_)
          · have hf := zit c13 hf
            refine z_iload_n C d0_onward_98 rfl ?_
            refine z_if_eq C d0_onward_99 (fun c14 => ?_) (fun c14 => ?_)
            · have hf := zit c14 hf
              refine z_aload_n C d0_onward_108 rfl ?_
              refine z_getI C d0_onward_109 fl_50 ht ?_
              refine z_iconst C (4 : Int32) d0_onward_112 kI_4 ?_
              refine z_icmp_le C d0_onward_113 (fun c15 => ?_) (fun c15 => ?_)
              · have hf := zit c15 hf
                refine z_iload_n C d0_onward_123 rfl ?_
                exact z_iret C d0_onward_124 hf
              · have hf := zie c15 hf
                refine z_iload_n C d0_onward_116 rfl ?_
                obtain ⟨r16, s16, h16, hf⟩ := zbx hf
                refine z_callSi C (as := [zi x1]) d0_onward_117 w_354 yy0_roundFrom (c0_roundFrom x.2.1 g h16) rfl rfl (Nat.le_of_ble_eq_true rfl) ⟨Nat.le_of_ble_eq_true rfl, Nat.le_of_ble_eq_true rfl⟩ ⟨Nat.zero_le _, Nat.zero_le _⟩ ?_
                refine z_goto C d0_onward_120 ?_
                exact z_iret C d0_onward_124 hf
            · have hf := zie c14 hf
              refine z_aload_n C d0_onward_102 rfl ?_
              refine z_iload_n C d0_onward_103 rfl ?_
              obtain ⟨r17, s17, h17, hf⟩ := zbx hf
              refine z_callVi C (as := [zi x1]) d0_onward_104 w_350 yy0_byTurn (c0_byTurn x.2.1 g h17) yc0_byTurn ht rfl rfl (Nat.le_of_ble_eq_true rfl) ⟨Nat.le_of_ble_eq_true rfl, Nat.le_of_ble_eq_true rfl⟩ ⟨Nat.zero_le _, Nat.zero_le _⟩ ?_
              exact z_iret C d0_onward_107 hf
          · have hf := zie c13 hf
            refine z_swc (fun c18 => ?_) (fun c18 => ?_)
            · have hf := zit c18 hf
              refine z_aload_n C d0_onward_125 rfl ?_
              refine z_getI C d0_onward_126 fl_60 ht ?_
              refine z_aload_n C d0_onward_129 rfl ?_
              refine z_getI C d0_onward_130 fl_50 ht ?_
              refine z_icmp_le C d0_onward_133 (fun c19 => ?_) (fun c19 => ?_)
              · have hf := zit c19 hf
                refine z_aload_n C d0_onward_140 rfl ?_
                refine z_iload_n C d0_onward_141 rfl ?_
                obtain ⟨r20, s20, h20, hf⟩ := zbx hf
                refine z_callVi C (as := [zi x1]) d0_onward_142 w_350 yy0_byTurn (c0_byTurn x.2.1 g h20) yc0_byTurn ht rfl rfl (Nat.le_of_ble_eq_true rfl) ⟨Nat.le_of_ble_eq_true rfl, Nat.le_of_ble_eq_true rfl⟩ ⟨Nat.zero_le _, Nat.zero_le _⟩ ?_
                exact z_iret C d0_onward_145 hf
              · have hf := zie c19 hf
                refine z_iconst C (-1 : Int32) d0_onward_136 kI_m1 ?_
                refine z_goto C d0_onward_137 ?_
                exact z_iret C d0_onward_145 hf
            · have hf := zie c18 hf
              refine z_sw0 ?_
              refine z_aload_n C d0_onward_146 rfl ?_
              refine z_iload_n C d0_onward_147 rfl ?_
              obtain ⟨r21, s21, h21, hf⟩ := zbx hf
              refine z_callVi C (as := [zi x1]) d0_onward_148 w_350 yy0_byTurn (c0_byTurn x.2.1 g h21) yc0_byTurn ht rfl rfl (Nat.le_of_ble_eq_true rfl) ⟨Nat.le_of_ble_eq_true rfl, Nat.le_of_ble_eq_true rfl⟩ ⟨Nat.zero_le _, Nat.zero_le _⟩ ?_
              exact z_iret C d0_onward_151 hf
theorem d1_enter_0 : zd b1_enter 0 (.aload_n 0) 1 1 := ⟨by decide +kernel, rfl⟩
theorem d1_enter_1 : zd b1_enter 1 (.getfield 24) 3 4 := ⟨by decide +kernel, rfl⟩
theorem d1_enter_4 : zdb b1_enter 4 (.ifCond .lt 35) 35 7 39 := ⟨by decide +kernel, rfl, by decide⟩
theorem d1_enter_7 : zd b1_enter 7 (.aload_n 0) 1 8 := ⟨by decide +kernel, rfl⟩
theorem d1_enter_8 : zd b1_enter 8 (.getfield 24) 3 11 := ⟨by decide +kernel, rfl⟩
theorem d1_enter_11 : zd b1_enter 11 (.aload_n 0) 1 12 := ⟨by decide +kernel, rfl⟩
theorem d1_enter_12 : zd b1_enter 12 (.getfield 11) 3 15 := ⟨by decide +kernel, rfl⟩
theorem d1_enter_15 : zd b1_enter 15 .arraylength 1 16 := ⟨by decide +kernel, rfl⟩
theorem d1_enter_16 : zdb b1_enter 16 (.if_icmp .ge 23) 23 19 39 := ⟨by decide +kernel, rfl, by decide⟩
theorem d1_enter_19 : zd b1_enter 19 (.aload_n 0) 1 20 := ⟨by decide +kernel, rfl⟩
theorem d1_enter_20 : zd b1_enter 20 (.getfield 11) 3 23 := ⟨by decide +kernel, rfl⟩
theorem d1_enter_23 : zd b1_enter 23 (.aload_n 0) 1 24 := ⟨by decide +kernel, rfl⟩
theorem d1_enter_24 : zd b1_enter 24 (.getfield 24) 3 27 := ⟨by decide +kernel, rfl⟩
theorem d1_enter_27 : zd b1_enter 27 (.iload_n 1) 1 28 := ⟨by decide +kernel, rfl⟩
theorem d1_enter_28 : zd b1_enter 28 .iastore 1 29 := ⟨by decide +kernel, rfl⟩
theorem d1_enter_29 : zd b1_enter 29 (.aload_n 0) 1 30 := ⟨by decide +kernel, rfl⟩
theorem d1_enter_30 : zd b1_enter 30 .dup 1 31 := ⟨by decide +kernel, rfl⟩
theorem d1_enter_31 : zd b1_enter 31 (.getfield 24) 3 34 := ⟨by decide +kernel, rfl⟩
theorem d1_enter_34 : zd b1_enter 34 (.iconst 1) 1 35 := ⟨by decide +kernel, rfl⟩
theorem d1_enter_35 : zd b1_enter 35 .iadd 1 36 := ⟨by decide +kernel, rfl⟩
theorem d1_enter_36 : zd b1_enter 36 (.putfield 24) 3 39 := ⟨by decide +kernel, rfl⟩
theorem d1_enter_39 : zd b1_enter 39 .return_ 1 40 := ⟨by decide +kernel, rfl⟩
def f1_enter (k : Nat) (x1 : Int32) (σ : ZS) : Option (Unit × ZS) :=
  if (σ 83 2) < 0 then (
  some ((), σ))
  else (
  if (257 : Int32) ≤ (σ 83 2) then (
  some ((), σ))
  else (
  if zin (σ 83 2) 257 then (
  zput (zu σ 84 ((σ 83 2).toNatClampNeg) x1) fun s4 =>
  zput (zu s4 83 2 ((s4 83 2) + (1 : Int32))) fun s5 =>
  some ((), s5)) else none))
theorem c1_enter (l : Launch) (g : ZG) {k : Nat} {x1 : Int32} {σ : ZS} {r : Unit} {σr : ZS} (hf : f1_enter k x1 σ = some (r, σr)) : zT l g y1_enter b1_enter 2 none 1 60 [zr 83, zi x1] σ none σr := by
  unfold f1_enter at hf
  refine zT_start (own := R1) rfl (by decide +kernel) 0 (L := [some (zr 83), some (zi x1)]) rfl rfl (fun x hl C => ?_)
  subst hl
  refine z_aload_n C d1_enter_0 rfl ?_
  refine z_getI C d1_enter_1 fl_170 kZ_83 ?_
  refine z_if_lt C d1_enter_4 (fun c1 => ?_) (fun c1 => ?_)
  · have hf := zit c1 hf
    exact z_vret C d1_enter_39 hf
  · have hf := zie c1 hf
    refine z_aload_n C d1_enter_7 rfl ?_
    refine z_getI C d1_enter_8 fl_170 kZ_83 ?_
    refine z_aload_n C d1_enter_11 rfl ?_
    refine z_getR C d1_enter_12 fl_168 kZ_83 84 rfl (zn0 kZ_84) ?_
    refine z_alen C (257 : Int32) d1_enter_15 kZ_84 kL_84 kO_257 ?_
    refine z_icmp_ge C d1_enter_16 (fun c2 => ?_) (fun c2 => ?_)
    · have hf := zit c2 hf
      exact z_vret C d1_enter_39 hf
    · have hf := zie c2 hf
      refine z_aload_n C d1_enter_19 rfl ?_
      refine z_getR C d1_enter_20 fl_168 kZ_83 84 rfl (zn0 kZ_84) ?_
      refine z_aload_n C d1_enter_23 rfl ?_
      refine z_getI C d1_enter_24 fl_170 kZ_83 ?_
      refine z_iload_n C d1_enter_27 rfl ?_
      obtain ⟨g3, hf⟩ := zgo hf
      obtain ⟨s4, e4, hf⟩ := zpx hf
      refine z_iast C d1_enter_28 kZ_84 kL_84 g3 rfl e4 ?_
      refine z_aload_n C d1_enter_29 rfl ?_
      refine z_dup C d1_enter_30 rfl ?_
      refine z_getI C d1_enter_31 fl_170 kZ_83 ?_
      refine z_iconst C (1 : Int32) d1_enter_34 kI_1 ?_
      refine z_iadd C d1_enter_35 ?_
      obtain ⟨s5, e5, hf⟩ := zpx hf
      refine z_putI C d1_enter_36 fl_170 ft_1_2 kZ_83 e5 ?_
      exact z_vret C d1_enter_39 hf
theorem d1_meet_0 : zd b1_meet 0 (.aload_n 0) 1 1 := ⟨by decide +kernel, rfl⟩
theorem d1_meet_1 : zd b1_meet 1 (.getfield 28) 3 4 := ⟨by decide +kernel, rfl⟩
theorem d1_meet_4 : zdb b1_meet 4 (.ifCond .lt 35) 35 7 39 := ⟨by decide +kernel, rfl, by decide⟩
theorem d1_meet_7 : zd b1_meet 7 (.aload_n 0) 1 8 := ⟨by decide +kernel, rfl⟩
theorem d1_meet_8 : zd b1_meet 8 (.getfield 28) 3 11 := ⟨by decide +kernel, rfl⟩
theorem d1_meet_11 : zd b1_meet 11 (.aload_n 0) 1 12 := ⟨by decide +kernel, rfl⟩
theorem d1_meet_12 : zd b1_meet 12 (.getfield 15) 3 15 := ⟨by decide +kernel, rfl⟩
theorem d1_meet_15 : zd b1_meet 15 .arraylength 1 16 := ⟨by decide +kernel, rfl⟩
theorem d1_meet_16 : zdb b1_meet 16 (.if_icmp .ge 23) 23 19 39 := ⟨by decide +kernel, rfl, by decide⟩
theorem d1_meet_19 : zd b1_meet 19 (.aload_n 0) 1 20 := ⟨by decide +kernel, rfl⟩
theorem d1_meet_20 : zd b1_meet 20 (.getfield 15) 3 23 := ⟨by decide +kernel, rfl⟩
theorem d1_meet_23 : zd b1_meet 23 (.aload_n 0) 1 24 := ⟨by decide +kernel, rfl⟩
theorem d1_meet_24 : zd b1_meet 24 (.getfield 28) 3 27 := ⟨by decide +kernel, rfl⟩
theorem d1_meet_27 : zd b1_meet 27 (.iload_n 1) 1 28 := ⟨by decide +kernel, rfl⟩
theorem d1_meet_28 : zd b1_meet 28 .iastore 1 29 := ⟨by decide +kernel, rfl⟩
theorem d1_meet_29 : zd b1_meet 29 (.aload_n 0) 1 30 := ⟨by decide +kernel, rfl⟩
theorem d1_meet_30 : zd b1_meet 30 .dup 1 31 := ⟨by decide +kernel, rfl⟩
theorem d1_meet_31 : zd b1_meet 31 (.getfield 28) 3 34 := ⟨by decide +kernel, rfl⟩
theorem d1_meet_34 : zd b1_meet 34 (.iconst 1) 1 35 := ⟨by decide +kernel, rfl⟩
theorem d1_meet_35 : zd b1_meet 35 .iadd 1 36 := ⟨by decide +kernel, rfl⟩
theorem d1_meet_36 : zd b1_meet 36 (.putfield 28) 3 39 := ⟨by decide +kernel, rfl⟩
theorem d1_meet_39 : zd b1_meet 39 .return_ 1 40 := ⟨by decide +kernel, rfl⟩
def f1_meet (k : Nat) (x1 : Int32) (σ : ZS) : Option (Unit × ZS) :=
  if (σ 83 3) < 0 then (
  some ((), σ))
  else (
  if (257 : Int32) ≤ (σ 83 3) then (
  some ((), σ))
  else (
  if zin (σ 83 3) 257 then (
  zput (zu σ 85 ((σ 83 3).toNatClampNeg) x1) fun s4 =>
  zput (zu s4 83 3 ((s4 83 3) + (1 : Int32))) fun s5 =>
  some ((), s5)) else none))
theorem c1_meet (l : Launch) (g : ZG) {k : Nat} {x1 : Int32} {σ : ZS} {r : Unit} {σr : ZS} (hf : f1_meet k x1 σ = some (r, σr)) : zT l g y1_meet b1_meet 2 none 1 60 [zr 83, zi x1] σ none σr := by
  unfold f1_meet at hf
  refine zT_start (own := R1) rfl (by decide +kernel) 0 (L := [some (zr 83), some (zi x1)]) rfl rfl (fun x hl C => ?_)
  subst hl
  refine z_aload_n C d1_meet_0 rfl ?_
  refine z_getI C d1_meet_1 fl_172 kZ_83 ?_
  refine z_if_lt C d1_meet_4 (fun c1 => ?_) (fun c1 => ?_)
  · have hf := zit c1 hf
    exact z_vret C d1_meet_39 hf
  · have hf := zie c1 hf
    refine z_aload_n C d1_meet_7 rfl ?_
    refine z_getI C d1_meet_8 fl_172 kZ_83 ?_
    refine z_aload_n C d1_meet_11 rfl ?_
    refine z_getR C d1_meet_12 fl_169 kZ_83 85 rfl (zn0 kZ_85) ?_
    refine z_alen C (257 : Int32) d1_meet_15 kZ_85 kL_85 kO_257 ?_
    refine z_icmp_ge C d1_meet_16 (fun c2 => ?_) (fun c2 => ?_)
    · have hf := zit c2 hf
      exact z_vret C d1_meet_39 hf
    · have hf := zie c2 hf
      refine z_aload_n C d1_meet_19 rfl ?_
      refine z_getR C d1_meet_20 fl_169 kZ_83 85 rfl (zn0 kZ_85) ?_
      refine z_aload_n C d1_meet_23 rfl ?_
      refine z_getI C d1_meet_24 fl_172 kZ_83 ?_
      refine z_iload_n C d1_meet_27 rfl ?_
      obtain ⟨g3, hf⟩ := zgo hf
      obtain ⟨s4, e4, hf⟩ := zpx hf
      refine z_iast C d1_meet_28 kZ_85 kL_85 g3 rfl e4 ?_
      refine z_aload_n C d1_meet_29 rfl ?_
      refine z_dup C d1_meet_30 rfl ?_
      refine z_getI C d1_meet_31 fl_172 kZ_83 ?_
      refine z_iconst C (1 : Int32) d1_meet_34 kI_1 ?_
      refine z_iadd C d1_meet_35 ?_
      obtain ⟨s5, e5, hf⟩ := zpx hf
      refine z_putI C d1_meet_36 fl_172 ft_1_3 kZ_83 e5 ?_
      exact z_vret C d1_meet_39 hf
theorem d1_nextCell_0 : zd b1_nextCell 0 (.iload_n 1) 1 1 := ⟨by decide +kernel, rfl⟩
theorem d1_nextCell_1 : decode b1_nextCell 1 = .ok ((.tableswitch 74 0 2 #[27, 42, 59]), 27) := by decide +kernel
theorem d1_nextCell_28 : zd b1_nextCell 28 (.iload_n 0) 1 29 := ⟨by decide +kernel, rfl⟩
theorem d1_nextCell_29 : zd b1_nextCell 29 (.bipush 8) 2 31 := ⟨by decide +kernel, rfl⟩
theorem d1_nextCell_31 : zdb b1_nextCell 31 (.if_icmp .lt 10) 10 34 41 := ⟨by decide +kernel, rfl, by decide⟩
theorem d1_nextCell_34 : zd b1_nextCell 34 (.iload_n 0) 1 35 := ⟨by decide +kernel, rfl⟩
theorem d1_nextCell_35 : zd b1_nextCell 35 (.bipush 8) 2 37 := ⟨by decide +kernel, rfl⟩
theorem d1_nextCell_37 : zd b1_nextCell 37 .isub 1 38 := ⟨by decide +kernel, rfl⟩
theorem d1_nextCell_38 : zdb b1_nextCell 38 (.goto 4) 4 41 42 := ⟨by decide +kernel, rfl, by decide⟩
theorem d1_nextCell_41 : zd b1_nextCell 41 (.iconst (-1)) 1 42 := ⟨by decide +kernel, rfl⟩
theorem d1_nextCell_42 : zd b1_nextCell 42 .ireturn 1 43 := ⟨by decide +kernel, rfl⟩
theorem d1_nextCell_43 : zd b1_nextCell 43 (.iload_n 0) 1 44 := ⟨by decide +kernel, rfl⟩
theorem d1_nextCell_44 : zd b1_nextCell 44 (.bipush 8) 2 46 := ⟨by decide +kernel, rfl⟩
theorem d1_nextCell_46 : zd b1_nextCell 46 .irem 1 47 := ⟨by decide +kernel, rfl⟩
theorem d1_nextCell_47 : zd b1_nextCell 47 (.bipush 7) 2 49 := ⟨by decide +kernel, rfl⟩
theorem d1_nextCell_49 : zdb b1_nextCell 49 (.if_icmp .ge 9) 9 52 58 := ⟨by decide +kernel, rfl, by decide⟩
theorem d1_nextCell_52 : zd b1_nextCell 52 (.iload_n 0) 1 53 := ⟨by decide +kernel, rfl⟩
theorem d1_nextCell_53 : zd b1_nextCell 53 (.iconst 1) 1 54 := ⟨by decide +kernel, rfl⟩
theorem d1_nextCell_54 : zd b1_nextCell 54 .iadd 1 55 := ⟨by decide +kernel, rfl⟩
theorem d1_nextCell_55 : zdb b1_nextCell 55 (.goto 4) 4 58 59 := ⟨by decide +kernel, rfl, by decide⟩
theorem d1_nextCell_58 : zd b1_nextCell 58 (.iconst (-1)) 1 59 := ⟨by decide +kernel, rfl⟩
theorem d1_nextCell_59 : zd b1_nextCell 59 .ireturn 1 60 := ⟨by decide +kernel, rfl⟩
theorem d1_nextCell_60 : zd b1_nextCell 60 (.iload_n 0) 1 61 := ⟨by decide +kernel, rfl⟩
theorem d1_nextCell_61 : zd b1_nextCell 61 (.bipush 56) 2 63 := ⟨by decide +kernel, rfl⟩
theorem d1_nextCell_63 : zdb b1_nextCell 63 (.if_icmp .ge 10) 10 66 73 := ⟨by decide +kernel, rfl, by decide⟩
theorem d1_nextCell_66 : zd b1_nextCell 66 (.iload_n 0) 1 67 := ⟨by decide +kernel, rfl⟩
theorem d1_nextCell_67 : zd b1_nextCell 67 (.bipush 8) 2 69 := ⟨by decide +kernel, rfl⟩
theorem d1_nextCell_69 : zd b1_nextCell 69 .iadd 1 70 := ⟨by decide +kernel, rfl⟩
theorem d1_nextCell_70 : zdb b1_nextCell 70 (.goto 4) 4 73 74 := ⟨by decide +kernel, rfl, by decide⟩
theorem d1_nextCell_73 : zd b1_nextCell 73 (.iconst (-1)) 1 74 := ⟨by decide +kernel, rfl⟩
theorem d1_nextCell_74 : zd b1_nextCell 74 .ireturn 1 75 := ⟨by decide +kernel, rfl⟩
theorem d1_nextCell_75 : zd b1_nextCell 75 (.iload_n 0) 1 76 := ⟨by decide +kernel, rfl⟩
theorem d1_nextCell_76 : zd b1_nextCell 76 (.bipush 8) 2 78 := ⟨by decide +kernel, rfl⟩
theorem d1_nextCell_78 : zd b1_nextCell 78 .irem 1 79 := ⟨by decide +kernel, rfl⟩
theorem d1_nextCell_79 : zdb b1_nextCell 79 (.ifCond .le 9) 9 82 88 := ⟨by decide +kernel, rfl, by decide⟩
theorem d1_nextCell_82 : zd b1_nextCell 82 (.iload_n 0) 1 83 := ⟨by decide +kernel, rfl⟩
theorem d1_nextCell_83 : zd b1_nextCell 83 (.iconst 1) 1 84 := ⟨by decide +kernel, rfl⟩
theorem d1_nextCell_84 : zd b1_nextCell 84 .isub 1 85 := ⟨by decide +kernel, rfl⟩
theorem d1_nextCell_85 : zdb b1_nextCell 85 (.goto 4) 4 88 89 := ⟨by decide +kernel, rfl, by decide⟩
theorem d1_nextCell_88 : zd b1_nextCell 88 (.iconst (-1)) 1 89 := ⟨by decide +kernel, rfl⟩
theorem d1_nextCell_89 : zd b1_nextCell 89 .ireturn 1 90 := ⟨by decide +kernel, rfl⟩
def f1_nextCell (k : Nat) (x0 : Int32) (x1 : Int32) (σ : ZS) : Option (Int32 × ZS) :=
  if x1 = (0 : Int32) then (
  if x0 < (8 : Int32) then (
  some ((-1 : Int32), σ))
  else (
  some ((x0 - (8 : Int32)), σ)))
  else (
  if x1 = (1 : Int32) then (
  if (7 : Int32) ≤ (x0 % (8 : Int32)) then (
  some ((-1 : Int32), σ))
  else (
  some ((x0 + (1 : Int32)), σ)))
  else (
  if x1 = (2 : Int32) then (
  if (56 : Int32) ≤ x0 then (
  some ((-1 : Int32), σ))
  else (
  some ((x0 + (8 : Int32)), σ)))
  else (
  if (x0 % (8 : Int32)) ≤ 0 then (
  some ((-1 : Int32), σ))
  else (
  some ((x0 - (1 : Int32)), σ)))))
theorem c1_nextCell (l : Launch) (g : ZG) {k : Nat} {x0 : Int32} {x1 : Int32} {σ : ZS} {r : Int32} {σr : ZS} (hf : f1_nextCell k x0 x1 σ = some (r, σr)) : zT l g y1_nextCell b1_nextCell 2 (some .int) 1 60 [zi x0, zi x1] σ (some (zi r)) σr := by
  unfold f1_nextCell at hf
  refine zT_start (own := R1) rfl (by decide +kernel) 0 (L := [some (zi x0), some (zi x1)]) rfl rfl (fun x hl C => ?_)
  subst hl
  refine z_iload_n C d1_nextCell_0 rfl ?_
  refine z_tsw C [((0 : Int32), 28), ((1 : Int32), 43), ((2 : Int32), 60)] (d := 75) d1_nextCell_1 (by decide) (by decide) (by decide +kernel) ?_
  refine z_swc (fun c1 => ?_) (fun c1 => ?_)
  · have hf := zit c1 hf
    refine z_iload_n C d1_nextCell_28 rfl ?_
    refine z_bipush C (8 : Int32) d1_nextCell_29 kB_8 ?_
    refine z_icmp_lt C d1_nextCell_31 (fun c2 => ?_) (fun c2 => ?_)
    · have hf := zit c2 hf
      refine z_iconst C (-1 : Int32) d1_nextCell_41 kI_m1 ?_
      exact z_iret C d1_nextCell_42 hf
    · have hf := zie c2 hf
      refine z_iload_n C d1_nextCell_34 rfl ?_
      refine z_bipush C (8 : Int32) d1_nextCell_35 kB_8 ?_
      refine z_isub C d1_nextCell_37 ?_
      refine z_goto C d1_nextCell_38 ?_
      exact z_iret C d1_nextCell_42 hf
  · have hf := zie c1 hf
    refine z_swc (fun c3 => ?_) (fun c3 => ?_)
    · have hf := zit c3 hf
      refine z_iload_n C d1_nextCell_43 rfl ?_
      refine z_bipush C (8 : Int32) d1_nextCell_44 kB_8 ?_
      refine z_irem C d1_nextCell_46 (by decide) ?_
      refine z_bipush C (7 : Int32) d1_nextCell_47 kB_7 ?_
      refine z_icmp_ge C d1_nextCell_49 (fun c4 => ?_) (fun c4 => ?_)
      · have hf := zit c4 hf
        refine z_iconst C (-1 : Int32) d1_nextCell_58 kI_m1 ?_
        exact z_iret C d1_nextCell_59 hf
      · have hf := zie c4 hf
        refine z_iload_n C d1_nextCell_52 rfl ?_
        refine z_iconst C (1 : Int32) d1_nextCell_53 kI_1 ?_
        refine z_iadd C d1_nextCell_54 ?_
        refine z_goto C d1_nextCell_55 ?_
        exact z_iret C d1_nextCell_59 hf
    · have hf := zie c3 hf
      refine z_swc (fun c5 => ?_) (fun c5 => ?_)
      · have hf := zit c5 hf
        refine z_iload_n C d1_nextCell_60 rfl ?_
        refine z_bipush C (56 : Int32) d1_nextCell_61 kB_56 ?_
        refine z_icmp_ge C d1_nextCell_63 (fun c6 => ?_) (fun c6 => ?_)
        · have hf := zit c6 hf
          refine z_iconst C (-1 : Int32) d1_nextCell_73 kI_m1 ?_
          exact z_iret C d1_nextCell_74 hf
        · have hf := zie c6 hf
          refine z_iload_n C d1_nextCell_66 rfl ?_
          refine z_bipush C (8 : Int32) d1_nextCell_67 kB_8 ?_
          refine z_iadd C d1_nextCell_69 ?_
          refine z_goto C d1_nextCell_70 ?_
          exact z_iret C d1_nextCell_74 hf
      · have hf := zie c5 hf
        refine z_sw0 ?_
        refine z_iload_n C d1_nextCell_75 rfl ?_
        refine z_bipush C (8 : Int32) d1_nextCell_76 kB_8 ?_
        refine z_irem C d1_nextCell_78 (by decide) ?_
        refine z_if_le C d1_nextCell_79 (fun c7 => ?_) (fun c7 => ?_)
        · have hf := zit c7 hf
          refine z_iconst C (-1 : Int32) d1_nextCell_88 kI_m1 ?_
          exact z_iret C d1_nextCell_89 hf
        · have hf := zie c7 hf
          refine z_iload_n C d1_nextCell_82 rfl ?_
          refine z_iconst C (1 : Int32) d1_nextCell_83 kI_1 ?_
          refine z_isub C d1_nextCell_84 ?_
          refine z_goto C d1_nextCell_85 ?_
          exact z_iret C d1_nextCell_89 hf
theorem d5_glassAt_0 : zd b5_glassAt 0 (.iload_n 1) 1 1 := ⟨by decide +kernel, rfl⟩
theorem d5_glassAt_1 : zdb b5_glassAt 1 (.ifCond .lt 12) 12 4 13 := ⟨by decide +kernel, rfl, by decide⟩
theorem d5_glassAt_4 : zd b5_glassAt 4 (.iload_n 1) 1 5 := ⟨by decide +kernel, rfl⟩
theorem d5_glassAt_5 : zd b5_glassAt 5 (.aload_n 0) 1 6 := ⟨by decide +kernel, rfl⟩
theorem d5_glassAt_6 : zd b5_glassAt 6 (.getfield 29) 3 9 := ⟨by decide +kernel, rfl⟩
theorem d5_glassAt_9 : zd b5_glassAt 9 .arraylength 1 10 := ⟨by decide +kernel, rfl⟩
theorem d5_glassAt_10 : zdb b5_glassAt 10 (.if_icmp .lt 7) 7 13 17 := ⟨by decide +kernel, rfl, by decide⟩
theorem d5_glassAt_13 : zd b5_glassAt 13 (.iconst (-1)) 1 14 := ⟨by decide +kernel, rfl⟩
theorem d5_glassAt_14 : zdb b5_glassAt 14 (.goto 9) 9 17 23 := ⟨by decide +kernel, rfl, by decide⟩
theorem d5_glassAt_17 : zd b5_glassAt 17 (.aload_n 0) 1 18 := ⟨by decide +kernel, rfl⟩
theorem d5_glassAt_18 : zd b5_glassAt 18 (.getfield 29) 3 21 := ⟨by decide +kernel, rfl⟩
theorem d5_glassAt_21 : zd b5_glassAt 21 (.iload_n 1) 1 22 := ⟨by decide +kernel, rfl⟩
theorem d5_glassAt_22 : zd b5_glassAt 22 .iaload 1 23 := ⟨by decide +kernel, rfl⟩
theorem d5_glassAt_23 : zd b5_glassAt 23 .ireturn 1 24 := ⟨by decide +kernel, rfl⟩
def f5_glassAt (k : Nat) (t : Nat) (x1 : Int32) (σ : ZS) : Option (Int32 × ZS) :=
  if zsh t = 6 then (
  if x1 < 0 then (
  some ((-1 : Int32), σ))
  else (
  if x1 < (64 : Int32) then (
  if zin x1 64 then (
  some ((σ (t + 4) x1.toNatClampNeg), σ)) else none)
  else (
  some ((-1 : Int32), σ)))) else none
theorem c5_glassAt (l : Launch) (g : ZG) {k : Nat} {t : Nat} {x1 : Int32} {σ : ZS} {r : Int32} {σr : ZS} (hf : f5_glassAt k t x1 σ = some (r, σr)) : zT l g y5_glassAt b5_glassAt 2 (some .int) 1 60 [zr t, zi x1] σ (some (zi r)) σr := by
  unfold f5_glassAt at hf
  obtain ⟨ht, hf⟩ := zgo hf
  refine zT_start (own := R5) rfl (by decide +kernel) 0 (L := [some (zr t), some (zi x1)]) rfl rfl (fun x hl C => ?_)
  subst hl
  refine z_iload_n C d5_glassAt_0 rfl ?_
  refine z_if_lt C d5_glassAt_1 (fun c1 => ?_) (fun c1 => ?_)
  · have hf := zit c1 hf
    refine z_iconst C (-1 : Int32) d5_glassAt_13 kI_m1 ?_
    refine z_goto C d5_glassAt_14 ?_
    exact z_iret C d5_glassAt_23 hf
  · have hf := zie c1 hf
    refine z_iload_n C d5_glassAt_4 rfl ?_
    refine z_aload_n C d5_glassAt_5 rfl ?_
    refine z_getR C d5_glassAt_6 fl_121 ht (t + 4) rfl (zn0 (zD6_4 ht)) ?_
    refine z_alen C (64 : Int32) d5_glassAt_9 (zD6_4 ht) (zN6_4 ht) kO_64 ?_
    refine z_icmp_lt C d5_glassAt_10 (fun c2 => ?_) (fun c2 => ?_)
    · have hf := zit c2 hf
      refine z_aload_n C d5_glassAt_17 rfl ?_
      refine z_getR C d5_glassAt_18 fl_121 ht (t + 4) rfl (zn0 (zD6_4 ht)) ?_
      refine z_iload_n C d5_glassAt_21 rfl ?_
      obtain ⟨g3, hf⟩ := zgo hf
      refine z_iald C d5_glassAt_22 (zD6_4 ht) (zN6_4 ht) g3 (x1.toNatClampNeg) rfl ?_
      exact z_iret C d5_glassAt_23 hf
    · have hf := zie c2 hf
      refine z_iconst C (-1 : Int32) d5_glassAt_13 kI_m1 ?_
      refine z_goto C d5_glassAt_14 ?_
      exact z_iret C d5_glassAt_23 hf
theorem d5_isNight_0 : zd b5_isNight 0 (.aload_n 0) 1 1 := ⟨by decide +kernel, rfl⟩
theorem d5_isNight_1 : zd b5_isNight 1 (.getfield 80) 3 4 := ⟨by decide +kernel, rfl⟩
theorem d5_isNight_4 : zd b5_isNight 4 (.bipush 24) 2 6 := ⟨by decide +kernel, rfl⟩
theorem d5_isNight_6 : zd b5_isNight 6 .irem 1 7 := ⟨by decide +kernel, rfl⟩
theorem d5_isNight_7 : zd b5_isNight 7 (.bipush 18) 2 9 := ⟨by decide +kernel, rfl⟩
theorem d5_isNight_9 : zdb b5_isNight 9 (.if_icmp .ge 15) 15 12 24 := ⟨by decide +kernel, rfl, by decide⟩
theorem d5_isNight_12 : zd b5_isNight 12 (.aload_n 0) 1 13 := ⟨by decide +kernel, rfl⟩
theorem d5_isNight_13 : zd b5_isNight 13 (.getfield 80) 3 16 := ⟨by decide +kernel, rfl⟩
theorem d5_isNight_16 : zd b5_isNight 16 (.bipush 24) 2 18 := ⟨by decide +kernel, rfl⟩
theorem d5_isNight_18 : zd b5_isNight 18 .irem 1 19 := ⟨by decide +kernel, rfl⟩
theorem d5_isNight_19 : zd b5_isNight 19 (.bipush 6) 2 21 := ⟨by decide +kernel, rfl⟩
theorem d5_isNight_21 : zdb b5_isNight 21 (.if_icmp .ge 7) 7 24 28 := ⟨by decide +kernel, rfl, by decide⟩
theorem d5_isNight_24 : zd b5_isNight 24 (.iconst 1) 1 25 := ⟨by decide +kernel, rfl⟩
theorem d5_isNight_25 : zdb b5_isNight 25 (.goto 4) 4 28 29 := ⟨by decide +kernel, rfl, by decide⟩
theorem d5_isNight_28 : zd b5_isNight 28 (.iconst 0) 1 29 := ⟨by decide +kernel, rfl⟩
theorem d5_isNight_29 : zd b5_isNight 29 .ireturn 1 30 := ⟨by decide +kernel, rfl⟩
def f5_isNight (k : Nat) (t : Nat)  (σ : ZS) : Option (Int32 × ZS) :=
  if zsh t = 6 then (
  if (18 : Int32) ≤ ((σ t 10) % (24 : Int32)) then (
  some ((1 : Int32), σ))
  else (
  if (6 : Int32) ≤ ((σ t 10) % (24 : Int32)) then (
  some ((0 : Int32), σ))
  else (
  some ((1 : Int32), σ)))) else none
theorem c5_isNight (l : Launch) (g : ZG) {k : Nat} {t : Nat}  {σ : ZS} {r : Int32} {σr : ZS} (hf : f5_isNight k t  σ = some (r, σr)) : zT l g y5_isNight b5_isNight 1 (some .boolean) 1 60 [zr t] σ (some (zi r)) σr := by
  unfold f5_isNight at hf
  obtain ⟨ht, hf⟩ := zgo hf
  refine zT_start (own := R5) rfl (by decide +kernel) 0 (L := [some (zr t)]) rfl rfl (fun x hl C => ?_)
  subst hl
  refine z_aload_n C d5_isNight_0 rfl ?_
  refine z_getI C d5_isNight_1 fl_133 ht ?_
  refine z_bipush C (24 : Int32) d5_isNight_4 kB_24 ?_
  refine z_irem C d5_isNight_6 (by decide) ?_
  refine z_bipush C (18 : Int32) d5_isNight_7 kB_18 ?_
  refine z_icmp_ge C d5_isNight_9 (fun c1 => ?_) (fun c1 => ?_)
  · have hf := zit c1 hf
    refine z_iconst C (1 : Int32) d5_isNight_24 kI_1 ?_
    refine z_goto C d5_isNight_25 ?_
    exact z_zret C d5_isNight_29 (Or.inr rfl) hf
  · have hf := zie c1 hf
    refine z_aload_n C d5_isNight_12 rfl ?_
    refine z_getI C d5_isNight_13 fl_133 ht ?_
    refine z_bipush C (24 : Int32) d5_isNight_16 kB_24 ?_
    refine z_irem C d5_isNight_18 (by decide) ?_
    refine z_bipush C (6 : Int32) d5_isNight_19 kB_6 ?_
    refine z_icmp_ge C d5_isNight_21 (fun c2 => ?_) (fun c2 => ?_)
    · have hf := zit c2 hf
      refine z_iconst C (0 : Int32) d5_isNight_28 kI_0 ?_
      exact z_zret C d5_isNight_29 (Or.inl rfl) hf
    · have hf := zie c2 hf
      refine z_iconst C (1 : Int32) d5_isNight_24 kI_1 ?_
      refine z_goto C d5_isNight_25 ?_
      exact z_zret C d5_isNight_29 (Or.inr rfl) hf
theorem d1_follow_0 : zd b1_follow 0 (.aload_n 1) 1 1 := ⟨by decide +kernel, rfl⟩
theorem d1_follow_1 : zd b1_follow 1 (.invokevirtual 18) 3 4 := ⟨by decide +kernel, rfl⟩
theorem d1_follow_4 : zd b1_follow 4 (.istore 4) 2 6 := ⟨by decide +kernel, rfl⟩
theorem d1_follow_6 : zd b1_follow 6 (.aload_n 0) 1 7 := ⟨by decide +kernel, rfl⟩
theorem d1_follow_7 : zd b1_follow 7 (.iconst 0) 1 8 := ⟨by decide +kernel, rfl⟩
theorem d1_follow_8 : zd b1_follow 8 (.putfield 24) 3 11 := ⟨by decide +kernel, rfl⟩
theorem d1_follow_11 : zd b1_follow 11 (.aload_n 0) 1 12 := ⟨by decide +kernel, rfl⟩
theorem d1_follow_12 : zd b1_follow 12 (.iconst 0) 1 13 := ⟨by decide +kernel, rfl⟩
theorem d1_follow_13 : zd b1_follow 13 (.putfield 28) 3 16 := ⟨by decide +kernel, rfl⟩
theorem d1_follow_16 : zd b1_follow 16 (.aload_n 0) 1 17 := ⟨by decide +kernel, rfl⟩
theorem d1_follow_17 : zd b1_follow 17 (.iconst 0) 1 18 := ⟨by decide +kernel, rfl⟩
theorem d1_follow_18 : zd b1_follow 18 (.putfield 31) 3 21 := ⟨by decide +kernel, rfl⟩
theorem d1_follow_21 : zd b1_follow 21 (.aload_n 0) 1 22 := ⟨by decide +kernel, rfl⟩
theorem d1_follow_22 : zd b1_follow 22 (.iload_n 2) 1 23 := ⟨by decide +kernel, rfl⟩
theorem d1_follow_23 : zd b1_follow 23 (.invokevirtual 35) 3 26 := ⟨by decide +kernel, rfl⟩
theorem d1_follow_26 : zd b1_follow 26 (.iload_n 2) 1 27 := ⟨by decide +kernel, rfl⟩
theorem d1_follow_27 : zd b1_follow 27 (.istore 5) 2 29 := ⟨by decide +kernel, rfl⟩
theorem d1_follow_29 : zd b1_follow 29 (.iload_n 3) 1 30 := ⟨by decide +kernel, rfl⟩
theorem d1_follow_30 : zd b1_follow 30 (.istore 6) 2 32 := ⟨by decide +kernel, rfl⟩
theorem d1_follow_32 : zd b1_follow 32 (.iconst 0) 1 33 := ⟨by decide +kernel, rfl⟩
theorem d1_follow_33 : zd b1_follow 33 (.istore 7) 2 35 := ⟨by decide +kernel, rfl⟩
theorem d1_follow_35 : zd b1_follow 35 (.iload 7) 2 37 := ⟨by decide +kernel, rfl⟩
theorem d1_follow_37 : zd b1_follow 37 (.sipush 257) 3 40 := ⟨by decide +kernel, rfl⟩
theorem d1_follow_40 : zdb b1_follow 40 (.if_icmp .ge 106) 106 43 146 := ⟨by decide +kernel, rfl, by decide⟩
theorem d1_follow_43 : zd b1_follow 43 (.iload 6) 2 45 := ⟨by decide +kernel, rfl⟩
theorem d1_follow_45 : zd b1_follow 45 (.iconst (-1)) 1 46 := ⟨by decide +kernel, rfl⟩
theorem d1_follow_46 : zdb b1_follow 46 (.if_icmp .eq 100) 100 49 146 := ⟨by decide +kernel, rfl, by decide⟩
theorem d1_follow_49 : zd b1_follow 49 (.iload 5) 2 51 := ⟨by decide +kernel, rfl⟩
theorem d1_follow_51 : zd b1_follow 51 (.iload 6) 2 53 := ⟨by decide +kernel, rfl⟩
theorem d1_follow_53 : zd b1_follow 53 (.invokestatic 39) 3 56 := ⟨by decide +kernel, rfl⟩
theorem d1_follow_56 : zd b1_follow 56 (.istore 5) 2 58 := ⟨by decide +kernel, rfl⟩
theorem d1_follow_58 : zd b1_follow 58 (.iload 5) 2 60 := ⟨by decide +kernel, rfl⟩
theorem d1_follow_60 : zdb b1_follow 60 (.ifCond .ge 4) 4 63 64 := ⟨by decide +kernel, rfl, by decide⟩
theorem d1_follow_63 : zd b1_follow 63 .return_ 1 64 := ⟨by decide +kernel, rfl⟩
theorem d1_follow_64 : zd b1_follow 64 (.aload_n 0) 1 65 := ⟨by decide +kernel, rfl⟩
theorem d1_follow_65 : zd b1_follow 65 (.getfield 24) 3 68 := ⟨by decide +kernel, rfl⟩
theorem d1_follow_68 : zd b1_follow 68 (.sipush 257) 3 71 := ⟨by decide +kernel, rfl⟩
theorem d1_follow_71 : zdb b1_follow 71 (.if_icmp .lt 9) 9 74 80 := ⟨by decide +kernel, rfl, by decide⟩
theorem d1_follow_74 : zd b1_follow 74 (.aload_n 0) 1 75 := ⟨by decide +kernel, rfl⟩
theorem d1_follow_75 : zd b1_follow 75 (.iconst 1) 1 76 := ⟨by decide +kernel, rfl⟩
theorem d1_follow_76 : zd b1_follow 76 (.putfield 31) 3 79 := ⟨by decide +kernel, rfl⟩
theorem d1_follow_79 : zd b1_follow 79 .return_ 1 80 := ⟨by decide +kernel, rfl⟩
theorem d1_follow_80 : zd b1_follow 80 (.aload_n 0) 1 81 := ⟨by decide +kernel, rfl⟩
theorem d1_follow_81 : zd b1_follow 81 (.iload 5) 2 83 := ⟨by decide +kernel, rfl⟩
theorem d1_follow_83 : zd b1_follow 83 (.invokevirtual 35) 3 86 := ⟨by decide +kernel, rfl⟩
theorem d1_follow_86 : zd b1_follow 86 (.aload_n 1) 1 87 := ⟨by decide +kernel, rfl⟩
theorem d1_follow_87 : zd b1_follow 87 (.iload 5) 2 89 := ⟨by decide +kernel, rfl⟩
theorem d1_follow_89 : zd b1_follow 89 (.invokevirtual 43) 3 92 := ⟨by decide +kernel, rfl⟩
theorem d1_follow_92 : zd b1_follow 92 (.istore 8) 2 94 := ⟨by decide +kernel, rfl⟩
theorem d1_follow_94 : zd b1_follow 94 (.aload_n 1) 1 95 := ⟨by decide +kernel, rfl⟩
theorem d1_follow_95 : zd b1_follow 95 (.iload 8) 2 97 := ⟨by decide +kernel, rfl⟩
theorem d1_follow_97 : zd b1_follow 97 (.invokevirtual 47) 3 100 := ⟨by decide +kernel, rfl⟩
theorem d1_follow_100 : zd b1_follow 100 (.astore 9) 2 102 := ⟨by decide +kernel, rfl⟩
theorem d1_follow_102 : zd b1_follow 102 (.aload 9) 2 104 := ⟨by decide +kernel, rfl⟩
theorem d1_follow_104 : zdb b1_follow 104 (.ifnonnull 8) 8 107 112 := ⟨by decide +kernel, rfl, by decide⟩
theorem d1_follow_107 : zd b1_follow 107 (.iload 6) 2 109 := ⟨by decide +kernel, rfl⟩
theorem d1_follow_109 : zdb b1_follow 109 (.goto 12) 12 112 121 := ⟨by decide +kernel, rfl, by decide⟩
theorem d1_follow_112 : zd b1_follow 112 (.aload 9) 2 114 := ⟨by decide +kernel, rfl⟩
theorem d1_follow_114 : zd b1_follow 114 (.iload 6) 2 116 := ⟨by decide +kernel, rfl⟩
theorem d1_follow_116 : zd b1_follow 116 (.iload 4) 2 118 := ⟨by decide +kernel, rfl⟩
theorem d1_follow_118 : zd b1_follow 118 (.invokevirtual 51) 3 121 := ⟨by decide +kernel, rfl⟩
theorem d1_follow_121 : zd b1_follow 121 (.istore 10) 2 123 := ⟨by decide +kernel, rfl⟩
theorem d1_follow_123 : zd b1_follow 123 (.iload 10) 2 125 := ⟨by decide +kernel, rfl⟩
theorem d1_follow_125 : zd b1_follow 125 (.iload 6) 2 127 := ⟨by decide +kernel, rfl⟩
theorem d1_follow_127 : zdb b1_follow 127 (.if_icmp .eq 13) 13 130 140 := ⟨by decide +kernel, rfl, by decide⟩
theorem d1_follow_130 : zd b1_follow 130 (.aload_n 0) 1 131 := ⟨by decide +kernel, rfl⟩
theorem d1_follow_131 : zd b1_follow 131 (.iload 8) 2 133 := ⟨by decide +kernel, rfl⟩
theorem d1_follow_133 : zd b1_follow 133 (.invokevirtual 57) 3 136 := ⟨by decide +kernel, rfl⟩
theorem d1_follow_136 : zd b1_follow 136 (.iload 10) 2 138 := ⟨by decide +kernel, rfl⟩
theorem d1_follow_138 : zd b1_follow 138 (.istore 6) 2 140 := ⟨by decide +kernel, rfl⟩
theorem d1_follow_140 : zd b1_follow 140 (.iinc 7 1) 3 143 := ⟨by decide +kernel, rfl⟩
theorem d1_follow_143 : zdb b1_follow 143 (.goto (-108)) (-108) 146 35 := ⟨by decide +kernel, rfl, by decide⟩
theorem d1_follow_146 : zd b1_follow 146 .return_ 1 147 := ⟨by decide +kernel, rfl⟩
def b1_follow_121 (k : Nat) (q35 : Nat → Int32 → Int32 → Int32 → Int32 → ZS → Option (Unit × ZS)) (x1 : Nat) (x4 : Int32) (x5 : Int32) (x6 : Int32) (x7 : Int32) (x8 : Int32) (v0 : Int32) (σ : ZS) : Option (Unit × ZS) :=
  if v0 = x6 then (
  q35 x1 x4 x5 x6 (x7 + (1 : Int32)) σ)
  else (
  zbd (f1_meet k x8 σ) fun _ s2 =>
  q35 x1 x4 x5 v0 (x7 + (1 : Int32)) s2)
theorem j1_follow_121 {x : ZX} {g : ZG} (C : zC x g b1_follow R1 none 11 4 123) {k : Nat} {r : Unit} {σr : ZS}  {q35 : Nat → Int32 → Int32 → Int32 → Int32 → ZS → Option (Unit × ZS)} (hq35 : (∀ (x1 : Nat) (x4 : Int32) (x5 : Int32) (x6 : Int32) (x7 : Int32) (σ : ZS), q35 x1 x4 x5 x6 x7 σ = some (r, σr) → zw x g 11 0 0 (zMQ x g none σr) σ 35 [some (zr 83), some (zr x1), none, none, some (zi x4), some (zi x5), some (zi x6), some (zi x7), none, none, none] [])) {x1 : Nat} {x4 : Int32} {x5 : Int32} {x6 : Int32} {x7 : Int32} {x8 : Int32} {v0 : Int32} {σ : ZS} (hf : b1_follow_121 k q35 x1 x4 x5 x6 x7 x8 v0 σ = some (r, σr)) : zw x g 11 0 0 (zMQ x g none σr) σ 121 [some (zr 83), some (zr x1), none, none, some (zi x4), some (zi x5), some (zi x6), some (zi x7), some (zi x8), none, none] [zi v0] := by
  unfold b1_follow_121 at hf
  refine z_istore C d1_follow_121 (Nat.le_of_ble_eq_true rfl) rfl (L' := [some (zr 83), some (zr x1), none, none, some (zi x4), some (zi x5), some (zi x6), some (zi x7), some (zi x8), none, some (zi v0)]) rfl ?_
  refine z_iload C d1_follow_123 rfl ?_
  refine z_iload C d1_follow_125 rfl ?_
  refine z_icmp_eq C d1_follow_127 (fun c1 => ?_) (fun c1 => ?_)
  · have hf := zit c1 hf
    refine z_iinc C d1_follow_140 rfl kI_1 (Nat.le_of_ble_eq_true rfl) rfl (L' := [some (zr 83), some (zr x1), none, none, some (zi x4), some (zi x5), some (zi x6), some (zi (x7 + (1 : Int32))), some (zi x8), none, some (zi v0)]) rfl ?_
    refine z_goto C d1_follow_143 ?_
    refine z_drop [true, true, false, false, true, true, true, true, false, false, false] (L' := [some (zr 83), some (zr x1), none, none, some (zi x4), some (zi x5), some (zi x6), some (zi (x7 + (1 : Int32))), none, none, none]) rfl ?_
    exact hq35 _ _ _ _ _ _ hf
  · have hf := zie c1 hf
    refine z_aload_n C d1_follow_130 rfl ?_
    refine z_iload C d1_follow_131 rfl ?_
    obtain ⟨r2, s2, h2, hf⟩ := zbx hf
    refine z_callVv C (as := [zi x8]) d1_follow_133 w_416 yy1_meet (c1_meet x.2.1 g h2) yc1_meet kZ_83 rfl rfl (Nat.le_of_ble_eq_true rfl) ⟨Nat.le_of_ble_eq_true rfl, Nat.le_of_ble_eq_true rfl⟩ ⟨Nat.zero_le _, Nat.zero_le _⟩ ?_
    refine z_iload C d1_follow_136 rfl ?_
    refine z_istore C d1_follow_138 (Nat.le_of_ble_eq_true rfl) rfl (L' := [some (zr 83), some (zr x1), none, none, some (zi x4), some (zi x5), some (zi v0), some (zi x7), some (zi x8), none, some (zi v0)]) rfl ?_
    refine z_iinc C d1_follow_140 rfl kI_1 (Nat.le_of_ble_eq_true rfl) rfl (L' := [some (zr 83), some (zr x1), none, none, some (zi x4), some (zi x5), some (zi v0), some (zi (x7 + (1 : Int32))), some (zi x8), none, some (zi v0)]) rfl ?_
    refine z_goto C d1_follow_143 ?_
    refine z_drop [true, true, false, false, true, true, true, true, false, false, false] (L' := [some (zr 83), some (zr x1), none, none, some (zi x4), some (zi x5), some (zi v0), some (zi (x7 + (1 : Int32))), none, none, none]) rfl ?_
    exact hq35 _ _ _ _ _ _ hf
def b1_follow_35 (k : Nat) (q35 : Nat → Int32 → Int32 → Int32 → Int32 → ZS → Option (Unit × ZS)) (x1 : Nat) (x4 : Int32) (x5 : Int32) (x6 : Int32) (x7 : Int32) (σ : ZS) : Option (Unit × ZS) :=
  if (257 : Int32) ≤ x7 then (
  some ((), σ))
  else (
  if x6 = (-1 : Int32) then (
  some ((), σ))
  else (
  zbd (f1_nextCell k x5 x6 σ) fun r3 s3 =>
  if 0 ≤ r3 then (
  if (s3 83 2) < (257 : Int32) then (
  zbd (f1_enter k r3 s3) fun _ s6 =>
  if zsh x1 = 6 then (
  zbd (f5_glassAt k x1 r3 s6) fun r7 s7 =>
  zbd (f5_glassOf k x1 r7 s7) fun r9 s9 =>
  if r9 = 0 then (
  b1_follow_121 k q35 x1 x4 r3 x6 x7 r7 x6 s9)
  else (
  if zsh r9 = 1 then (
  zbd (f0_onward k r9 x6 x4 s9) fun r11 s11 =>
  b1_follow_121 k q35 x1 x4 r3 x6 x7 r7 r11 s11) else none)) else none)
  else (
  zput (zu s3 83 4 (1 : Int32)) fun s13 =>
  some ((), s13)))
  else (
  some ((), s3))))
def f1_follow_35 (k : Nat) : Nat → Nat → Int32 → Int32 → Int32 → Int32 → ZS → Option (Unit × ZS)
  | 0 => fun _ _ _ _ _ _ => none
  | n + 1 => b1_follow_35 k  (f1_follow_35 k  n)
theorem j1_follow_35 {x : ZX} {g : ZG} (C : zC x g b1_follow R1 none 11 4 123) {k : Nat} {r : Unit} {σr : ZS}  {q35 : Nat → Int32 → Int32 → Int32 → Int32 → ZS → Option (Unit × ZS)} (hq35 : (∀ (x1 : Nat) (x4 : Int32) (x5 : Int32) (x6 : Int32) (x7 : Int32) (σ : ZS), q35 x1 x4 x5 x6 x7 σ = some (r, σr) → zw x g 11 0 0 (zMQ x g none σr) σ 35 [some (zr 83), some (zr x1), none, none, some (zi x4), some (zi x5), some (zi x6), some (zi x7), none, none, none] [])) {x1 : Nat} {x4 : Int32} {x5 : Int32} {x6 : Int32} {x7 : Int32} {σ : ZS} (hf : b1_follow_35 k q35 x1 x4 x5 x6 x7 σ = some (r, σr)) : zw x g 11 0 0 (zMQ x g none σr) σ 35 [some (zr 83), some (zr x1), none, none, some (zi x4), some (zi x5), some (zi x6), some (zi x7), none, none, none] [] := by
  unfold b1_follow_35 at hf
  refine z_iload C d1_follow_35 rfl ?_
  refine z_sipush C (257 : Int32) d1_follow_37 kS_257 ?_
  refine z_icmp_ge C d1_follow_40 (fun c1 => ?_) (fun c1 => ?_)
  · have hf := zit c1 hf
    exact z_vret C d1_follow_146 hf
  · have hf := zie c1 hf
    refine z_iload C d1_follow_43 rfl ?_
    refine z_iconst C (-1 : Int32) d1_follow_45 kI_m1 ?_
    refine z_icmp_eq C d1_follow_46 (fun c2 => ?_) (fun c2 => ?_)
    · have hf := zit c2 hf
      exact z_vret C d1_follow_146 hf
    · have hf := zie c2 hf
      refine z_iload C d1_follow_49 rfl ?_
      refine z_iload C d1_follow_51 rfl ?_
      obtain ⟨r3, s3, h3, hf⟩ := zbx hf
      refine z_callSi C (as := [zi x5, zi x6]) d1_follow_53 w_410 yy1_nextCell (c1_nextCell x.2.1 g h3) rfl rfl (Nat.le_of_ble_eq_true rfl) ⟨Nat.le_of_ble_eq_true rfl, Nat.le_of_ble_eq_true rfl⟩ ⟨Nat.zero_le _, Nat.zero_le _⟩ ?_
      refine z_istore C d1_follow_56 (Nat.le_of_ble_eq_true rfl) rfl (L' := [some (zr 83), some (zr x1), none, none, some (zi x4), some (zi r3), some (zi x6), some (zi x7), none, none, none]) rfl ?_
      refine z_iload C d1_follow_58 rfl ?_
      refine z_if_ge C d1_follow_60 (fun c4 => ?_) (fun c4 => ?_)
      · have hf := zit c4 hf
        refine z_aload_n C d1_follow_64 rfl ?_
        refine z_getI C d1_follow_65 fl_170 kZ_83 ?_
        refine z_sipush C (257 : Int32) d1_follow_68 kS_257 ?_
        refine z_icmp_lt C d1_follow_71 (fun c5 => ?_) (fun c5 => ?_)
        · have hf := zit c5 hf
          refine z_aload_n C d1_follow_80 rfl ?_
          refine z_iload C d1_follow_81 rfl ?_
          obtain ⟨r6, s6, h6, hf⟩ := zbx hf
          refine z_callVv C (as := [zi r3]) d1_follow_83 w_406 yy1_enter (c1_enter x.2.1 g h6) yc1_enter kZ_83 rfl rfl (Nat.le_of_ble_eq_true rfl) ⟨Nat.le_of_ble_eq_true rfl, Nat.le_of_ble_eq_true rfl⟩ ⟨Nat.zero_le _, Nat.zero_le _⟩ ?_
          refine z_aload_n C d1_follow_86 rfl ?_
          refine z_iload C d1_follow_87 rfl ?_
          obtain ⟨g8, hf⟩ := zgo hf
          obtain ⟨r7, s7, h7, hf⟩ := zbx hf
          refine z_callVi C (as := [zi r3]) d1_follow_89 w_413 yy5_glassAt (c5_glassAt x.2.1 g h7) yc5_glassAt g8 rfl rfl (Nat.le_of_ble_eq_true rfl) ⟨Nat.le_of_ble_eq_true rfl, Nat.le_of_ble_eq_true rfl⟩ ⟨Nat.zero_le _, Nat.zero_le _⟩ ?_
          refine z_istore C d1_follow_92 (Nat.le_of_ble_eq_true rfl) rfl (L' := [some (zr 83), some (zr x1), none, none, some (zi x4), some (zi r3), some (zi x6), some (zi x7), some (zi r7), none, none]) rfl ?_
          refine z_aload_n C d1_follow_94 rfl ?_
          refine z_iload C d1_follow_95 rfl ?_
          obtain ⟨r9, s9, h9, hf⟩ := zbx hf
          refine z_callVr C (as := [zi r7]) d1_follow_97 w_414 yy5_glassOf (c5_glassOf x.2.1 g h9) yc5_glassOf g8 rfl rfl (Nat.le_of_ble_eq_true rfl) ⟨Nat.le_of_ble_eq_true rfl, Nat.le_of_ble_eq_true rfl⟩ ⟨Nat.zero_le _, Nat.zero_le _⟩ ?_
          refine z_astore C d1_follow_100 (Nat.le_of_ble_eq_true rfl) rfl (L' := [some (zr 83), some (zr x1), none, none, some (zi x4), some (zi r3), some (zi x6), some (zi x7), some (zi r7), some (zr r9), none]) rfl ?_
          refine z_aload C d1_follow_102 rfl ?_
          refine z_ifnonnull C d1_follow_104 (fun c10 => ?_) (fun c10 => ?_)
          · have hf := zit c10 hf
            refine z_iload C d1_follow_107 rfl ?_
            refine z_goto C d1_follow_109 ?_
            refine z_drop [true, true, false, false, true, true, true, true, true, false, false] (L' := [some (zr 83), some (zr x1), none, none, some (zi x4), some (zi r3), some (zi x6), some (zi x7), some (zi r7), none, none]) rfl ?_
            exact j1_follow_121 C hq35 hf
          · have hf := zie c10 hf
            refine z_aload C d1_follow_112 rfl ?_
            refine z_iload C d1_follow_114 rfl ?_
            refine z_iload C d1_follow_116 rfl ?_
            obtain ⟨g12, hf⟩ := zgo hf
            obtain ⟨r11, s11, h11, hf⟩ := zbx hf
            refine z_callVi C (as := [zi x6, zi x4]) d1_follow_118 w_415 yy0_onward (c0_onward x.2.1 g h11) yc0_onward g12 rfl rfl (Nat.le_of_ble_eq_true rfl) ⟨Nat.le_of_ble_eq_true rfl, Nat.le_of_ble_eq_true rfl⟩ ⟨Nat.zero_le _, Nat.zero_le _⟩ ?_
            refine z_drop [true, true, false, false, true, true, true, true, true, false, false] (L' := [some (zr 83), some (zr x1), none, none, some (zi x4), some (zi r3), some (zi x6), some (zi x7), some (zi r7), none, none]) rfl ?_
            exact j1_follow_121 C hq35 hf
        · have hf := zie c5 hf
          refine z_aload_n C d1_follow_74 rfl ?_
          refine z_iconst C (1 : Int32) d1_follow_75 kI_1 ?_
          obtain ⟨s13, e13, hf⟩ := zpx hf
          refine z_putZ C d1_follow_76 fl_175 ft_1_4 kZ_83 (Or.inr rfl) e13 ?_
          exact z_vret C d1_follow_79 hf
      · have hf := zie c4 hf
        exact z_vret C d1_follow_63 hf
theorem j1_follow_35l {x : ZX} {g : ZG} (C : zC x g b1_follow R1 none 11 4 123) {k : Nat} {r : Unit} {σr : ZS}  : ∀ (n : Nat) (x1 : Nat) (x4 : Int32) (x5 : Int32) (x6 : Int32) (x7 : Int32) (σ : ZS), f1_follow_35 k  n x1 x4 x5 x6 x7 σ = some (r, σr) → zw x g 11 0 0 (zMQ x g none σr) σ 35 [some (zr 83), some (zr x1), none, none, some (zi x4), some (zi x5), some (zi x6), some (zi x7), none, none, none] [] := by
  intro n
  induction n with
  | zero => intro x1 x4 x5 x6 x7 σ hf; exact absurd (show none = some (r, σr) from hf) (fun z => by cases z)
  | succ n ih => intro x1 x4 x5 x6 x7 σ hf; exact j1_follow_35 C  ih (show b1_follow_35 k  (f1_follow_35 k  n) x1 x4 x5 x6 x7 σ = some (r, σr) from hf)
def f1_follow (k : Nat) (x1 : Nat) (x2 : Int32) (x3 : Int32) (σ : ZS) : Option (Unit × ZS) :=
  if zsh x1 = 6 then (
  zbd (f5_isNight k x1 σ) fun r1 s1 =>
  zput (zu s1 83 2 (0 : Int32)) fun s3 =>
  zput (zu s3 83 3 (0 : Int32)) fun s4 =>
  zput (zu s4 83 4 (0 : Int32)) fun s5 =>
  zbd (f1_enter k x2 s5) fun _ s6 =>
  f1_follow_35 k  k x1 r1 x2 x3 (0 : Int32) s6) else none
theorem c1_follow (l : Launch) (g : ZG) {k : Nat} {x1 : Nat} {x2 : Int32} {x3 : Int32} {σ : ZS} {r : Unit} {σr : ZS} (hf : f1_follow k x1 x2 x3 σ = some (r, σr)) : zT l g y1_follow b1_follow 11 none 4 123 [zr 83, zr x1, zi x2, zi x3] σ none σr := by
  unfold f1_follow at hf
  refine zT_start (own := R1) rfl (by decide +kernel) 7 (L := [some (zr 83), some (zr x1), some (zi x2), some (zi x3), none, none, none, none, none, none, none]) rfl rfl (fun x hl C => ?_)
  subst hl
  refine z_aload_n C d1_follow_0 rfl ?_
  obtain ⟨g2, hf⟩ := zgo hf
  obtain ⟨r1, s1, h1, hf⟩ := zbx hf
  refine z_callVi C (as := []) d1_follow_1 w_405 yy5_isNight (c5_isNight x.2.1 g h1) yc5_isNight g2 rfl rfl (Nat.le_of_ble_eq_true rfl) ⟨Nat.le_of_ble_eq_true rfl, Nat.le_of_ble_eq_true rfl⟩ ⟨Nat.zero_le _, Nat.zero_le _⟩ ?_
  refine z_istore C d1_follow_4 (Nat.le_of_ble_eq_true rfl) rfl (L' := [some (zr 83), some (zr x1), some (zi x2), some (zi x3), some (zi r1), none, none, none, none, none, none]) rfl ?_
  refine z_aload_n C d1_follow_6 rfl ?_
  refine z_iconst C (0 : Int32) d1_follow_7 kI_0 ?_
  obtain ⟨s3, e3, hf⟩ := zpx hf
  refine z_putI C d1_follow_8 fl_170 ft_1_2 kZ_83 e3 ?_
  refine z_aload_n C d1_follow_11 rfl ?_
  refine z_iconst C (0 : Int32) d1_follow_12 kI_0 ?_
  obtain ⟨s4, e4, hf⟩ := zpx hf
  refine z_putI C d1_follow_13 fl_172 ft_1_3 kZ_83 e4 ?_
  refine z_aload_n C d1_follow_16 rfl ?_
  refine z_iconst C (0 : Int32) d1_follow_17 kI_0 ?_
  obtain ⟨s5, e5, hf⟩ := zpx hf
  refine z_putZ C d1_follow_18 fl_175 ft_1_4 kZ_83 (Or.inl rfl) e5 ?_
  refine z_aload_n C d1_follow_21 rfl ?_
  refine z_iload_n C d1_follow_22 rfl ?_
  obtain ⟨r6, s6, h6, hf⟩ := zbx hf
  refine z_callVv C (as := [zi x2]) d1_follow_23 w_406 yy1_enter (c1_enter x.2.1 g h6) yc1_enter kZ_83 rfl rfl (Nat.le_of_ble_eq_true rfl) ⟨Nat.le_of_ble_eq_true rfl, Nat.le_of_ble_eq_true rfl⟩ ⟨Nat.zero_le _, Nat.zero_le _⟩ ?_
  refine z_iload_n C d1_follow_26 rfl ?_
  refine z_istore C d1_follow_27 (Nat.le_of_ble_eq_true rfl) rfl (L' := [some (zr 83), some (zr x1), some (zi x2), some (zi x3), some (zi r1), some (zi x2), none, none, none, none, none]) rfl ?_
  refine z_iload_n C d1_follow_29 rfl ?_
  refine z_istore C d1_follow_30 (Nat.le_of_ble_eq_true rfl) rfl (L' := [some (zr 83), some (zr x1), some (zi x2), some (zi x3), some (zi r1), some (zi x2), some (zi x3), none, none, none, none]) rfl ?_
  refine z_iconst C (0 : Int32) d1_follow_32 kI_0 ?_
  refine z_istore C d1_follow_33 (Nat.le_of_ble_eq_true rfl) rfl (L' := [some (zr 83), some (zr x1), some (zi x2), some (zi x3), some (zi r1), some (zi x2), some (zi x3), some (zi (0 : Int32)), none, none, none]) rfl ?_
  refine z_drop [true, true, false, false, true, true, true, true, false, false, false] (L' := [some (zr 83), some (zr x1), none, none, some (zi r1), some (zi x2), some (zi x3), some (zi (0 : Int32)), none, none, none]) rfl ?_
  exact j1_follow_35l C  _ _ _ _ _ _ _ hf
theorem d8_at_0 : zd b8_at 0 (.iload_n 1) 1 1 := ⟨by decide +kernel, rfl⟩
theorem d8_at_1 : zd b8_at 1 (.invokestatic 61) 3 4 := ⟨by decide +kernel, rfl⟩
theorem d8_at_4 : zdb b8_at 4 (.ifCond .ne 14) 14 7 18 := ⟨by decide +kernel, rfl, by decide⟩
theorem d8_at_7 : zd b8_at 7 (.iload_n 2) 1 8 := ⟨by decide +kernel, rfl⟩
theorem d8_at_8 : zd b8_at 8 (.invokestatic 103) 3 11 := ⟨by decide +kernel, rfl⟩
theorem d8_at_11 : zdb b8_at 11 (.ifCond .ne 7) 7 14 18 := ⟨by decide +kernel, rfl, by decide⟩
theorem d8_at_14 : zd b8_at 14 (.iload_n 3) 1 15 := ⟨by decide +kernel, rfl⟩
theorem d8_at_15 : zdb b8_at 15 (.ifCond .ge 9) 9 18 24 := ⟨by decide +kernel, rfl, by decide⟩
theorem d8_at_18 : zd b8_at 18 (.aload_n 0) 1 19 := ⟨by decide +kernel, rfl⟩
theorem d8_at_19 : zd b8_at 19 (.iconst 1) 1 20 := ⟨by decide +kernel, rfl⟩
theorem d8_at_20 : zd b8_at 20 (.invokevirtual 67) 3 23 := ⟨by decide +kernel, rfl⟩
theorem d8_at_23 : zd b8_at 23 .ireturn 1 24 := ⟨by decide +kernel, rfl⟩
theorem d8_at_24 : zd b8_at 24 (.aload_n 0) 1 25 := ⟨by decide +kernel, rfl⟩
theorem d8_at_25 : zd b8_at 25 (.getfield 25) 3 28 := ⟨by decide +kernel, rfl⟩
theorem d8_at_28 : zd b8_at 28 (.aload_n 0) 1 29 := ⟨by decide +kernel, rfl⟩
theorem d8_at_29 : zd b8_at 29 (.getfield 10) 3 32 := ⟨by decide +kernel, rfl⟩
theorem d8_at_32 : zd b8_at 32 (.iload_n 1) 1 33 := ⟨by decide +kernel, rfl⟩
theorem d8_at_33 : zd b8_at 33 (.iload_n 2) 1 34 := ⟨by decide +kernel, rfl⟩
theorem d8_at_34 : zd b8_at 34 (.invokevirtual 200) 3 37 := ⟨by decide +kernel, rfl⟩
theorem d8_at_37 : zd b8_at 37 (.iload_n 3) 1 38 := ⟨by decide +kernel, rfl⟩
theorem d8_at_38 : zd b8_at 38 (.aload_n 0) 1 39 := ⟨by decide +kernel, rfl⟩
theorem d8_at_39 : zd b8_at 39 (.getfield 25) 3 42 := ⟨by decide +kernel, rfl⟩
theorem d8_at_42 : zd b8_at 42 (.getfield 211) 3 45 := ⟨by decide +kernel, rfl⟩
theorem d8_at_45 : zdb b8_at 45 (.if_icmp .ge 14) 14 48 59 := ⟨by decide +kernel, rfl, by decide⟩
theorem d8_at_48 : zd b8_at 48 (.aload_n 0) 1 49 := ⟨by decide +kernel, rfl⟩
theorem d8_at_49 : zd b8_at 49 (.getfield 25) 3 52 := ⟨by decide +kernel, rfl⟩
theorem d8_at_52 : zd b8_at 52 (.iload_n 3) 1 53 := ⟨by decide +kernel, rfl⟩
theorem d8_at_53 : zd b8_at 53 (.invokevirtual 214) 3 56 := ⟨by decide +kernel, rfl⟩
theorem d8_at_56 : zdb b8_at 56 (.goto 8) 8 59 64 := ⟨by decide +kernel, rfl, by decide⟩
theorem d8_at_59 : zd b8_at 59 (.aload_n 0) 1 60 := ⟨by decide +kernel, rfl⟩
theorem d8_at_60 : zd b8_at 60 (.iconst 2) 1 61 := ⟨by decide +kernel, rfl⟩
theorem d8_at_61 : zd b8_at 61 (.invokevirtual 67) 3 64 := ⟨by decide +kernel, rfl⟩
theorem d8_at_64 : zd b8_at 64 .ireturn 1 65 := ⟨by decide +kernel, rfl⟩
def f8_at (k : Nat) (x1 : Int32) (x2 : Int32) (x3 : Int32) (σ : ZS) : Option (Int32 × ZS) :=
  zbd (f8_isNoCell k x1 σ) fun r1 s1 =>
  if r1 = 0 then (
  zbd (f8_isNoWay k x2 s1) fun r3 s3 =>
  if r3 = 0 then (
  if 0 ≤ x3 then (
  zbd (f1_follow k 2 x1 x2 s3) fun _ s6 =>
  if (s6 83 2) ≤ x3 then (
  zbd (f8_error k (2 : Int32) s6) fun r8 s8 =>
  some (r8, s8))
  else (
  zbd (f1_cellAt k x3 s6) fun r9 s9 =>
  some (r9, s9)))
  else (
  zbd (f8_error k (1 : Int32) s3) fun r10 s10 =>
  some (r10, s10)))
  else (
  zbd (f8_error k (1 : Int32) s3) fun r11 s11 =>
  some (r11, s11)))
  else (
  zbd (f8_error k (1 : Int32) s1) fun r12 s12 =>
  some (r12, s12))
theorem c8_at (l : Launch) (g : ZG) {k : Nat} {x1 : Int32} {x2 : Int32} {x3 : Int32} {σ : ZS} {r : Int32} {σr : ZS} (hf : f8_at k x1 x2 x3 σ = some (r, σr)) : zT l g y8_at b8_at 4 (some .int) 5 153 [zr 1, zi x1, zi x2, zi x3] σ (some (zi r)) σr := by
  unfold f8_at at hf
  refine zT_start (own := R8) rfl (by decide +kernel) 0 (L := [some (zr 1), some (zi x1), some (zi x2), some (zi x3)]) rfl rfl (fun x hl C => ?_)
  subst hl
  refine z_iload_n C d8_at_0 rfl ?_
  obtain ⟨r1, s1, h1, hf⟩ := zbx hf
  refine z_callSi C (as := [zi x1]) d8_at_1 w_302 yy8_isNoCell (c8_isNoCell x.2.1 g h1) rfl rfl (Nat.le_of_ble_eq_true rfl) ⟨Nat.le_of_ble_eq_true rfl, Nat.le_of_ble_eq_true rfl⟩ ⟨Nat.zero_le _, Nat.zero_le _⟩ ?_
  refine z_if_ne C d8_at_4 (fun c2 => ?_) (fun c2 => ?_)
  · have hf := zit c2 hf
    refine z_iload_n C d8_at_7 rfl ?_
    obtain ⟨r3, s3, h3, hf⟩ := zbx hf
    refine z_callSi C (as := [zi x2]) d8_at_8 w_339 yy8_isNoWay (c8_isNoWay x.2.1 g h3) rfl rfl (Nat.le_of_ble_eq_true rfl) ⟨Nat.le_of_ble_eq_true rfl, Nat.le_of_ble_eq_true rfl⟩ ⟨Nat.zero_le _, Nat.zero_le _⟩ ?_
    refine z_if_ne C d8_at_11 (fun c4 => ?_) (fun c4 => ?_)
    · have hf := zit c4 hf
      refine z_iload_n C d8_at_14 rfl ?_
      refine z_if_ge C d8_at_15 (fun c5 => ?_) (fun c5 => ?_)
      · have hf := zit c5 hf
        refine z_aload_n C d8_at_24 rfl ?_
        refine z_getR C d8_at_25 fl_264 kZ_1 83 rfl (zn0 kZ_83) ?_
        refine z_aload_n C d8_at_28 rfl ?_
        refine z_getR C d8_at_29 fl_261 kZ_1 2 rfl (zn0 kZ_2) ?_
        refine z_iload_n C d8_at_32 rfl ?_
        refine z_iload_n C d8_at_33 rfl ?_
        obtain ⟨r6, s6, h6, hf⟩ := zbx hf
        refine z_callVv C (as := [zr 2, zi x1, zi x2]) d8_at_34 w_615 yy1_follow (c1_follow x.2.1 g h6) yc1_follow kZ_83 rfl rfl (Nat.le_of_ble_eq_true rfl) ⟨Nat.le_of_ble_eq_true rfl, Nat.le_of_ble_eq_true rfl⟩ ⟨Nat.zero_le _, Nat.zero_le _⟩ ?_
        refine z_iload_n C d8_at_37 rfl ?_
        refine z_aload_n C d8_at_38 rfl ?_
        refine z_getR C d8_at_39 fl_264 kZ_1 83 rfl (zn0 kZ_83) ?_
        refine z_getI C d8_at_42 fl_171 kZ_83 ?_
        refine z_icmp_ge C d8_at_45 (fun c7 => ?_) (fun c7 => ?_)
        · have hf := zit c7 hf
          refine z_aload_n C d8_at_59 rfl ?_
          refine z_iconst C (2 : Int32) d8_at_60 kI_2 ?_
          obtain ⟨r8, s8, h8, hf⟩ := zbx hf
          refine z_callVi C (as := [zi (2 : Int32)]) d8_at_61 w_308 yy8_error (c8_error x.2.1 g h8) yc8_error kZ_1 rfl rfl (Nat.le_of_ble_eq_true rfl) ⟨Nat.le_of_ble_eq_true rfl, Nat.le_of_ble_eq_true rfl⟩ ⟨Nat.zero_le _, Nat.zero_le _⟩ ?_
          exact z_iret C d8_at_64 hf
        · have hf := zie c7 hf
          refine z_aload_n C d8_at_48 rfl ?_
          refine z_getR C d8_at_49 fl_264 kZ_1 83 rfl (zn0 kZ_83) ?_
          refine z_iload_n C d8_at_52 rfl ?_
          obtain ⟨r9, s9, h9, hf⟩ := zbx hf
          refine z_callVi C (as := [zi x3]) d8_at_53 w_617 yy1_cellAt (c1_cellAt x.2.1 g h9) yc1_cellAt kZ_83 rfl rfl (Nat.le_of_ble_eq_true rfl) ⟨Nat.le_of_ble_eq_true rfl, Nat.le_of_ble_eq_true rfl⟩ ⟨Nat.zero_le _, Nat.zero_le _⟩ ?_
          refine z_goto C d8_at_56 ?_
          exact z_iret C d8_at_64 hf
      · have hf := zie c5 hf
        refine z_aload_n C d8_at_18 rfl ?_
        refine z_iconst C (1 : Int32) d8_at_19 kI_1 ?_
        obtain ⟨r10, s10, h10, hf⟩ := zbx hf
        refine z_callVi C (as := [zi (1 : Int32)]) d8_at_20 w_308 yy8_error (c8_error x.2.1 g h10) yc8_error kZ_1 rfl rfl (Nat.le_of_ble_eq_true rfl) ⟨Nat.le_of_ble_eq_true rfl, Nat.le_of_ble_eq_true rfl⟩ ⟨Nat.zero_le _, Nat.zero_le _⟩ ?_
        exact z_iret C d8_at_23 hf
    · have hf := zie c4 hf
      refine z_aload_n C d8_at_18 rfl ?_
      refine z_iconst C (1 : Int32) d8_at_19 kI_1 ?_
      obtain ⟨r11, s11, h11, hf⟩ := zbx hf
      refine z_callVi C (as := [zi (1 : Int32)]) d8_at_20 w_308 yy8_error (c8_error x.2.1 g h11) yc8_error kZ_1 rfl rfl (Nat.le_of_ble_eq_true rfl) ⟨Nat.le_of_ble_eq_true rfl, Nat.le_of_ble_eq_true rfl⟩ ⟨Nat.zero_le _, Nat.zero_le _⟩ ?_
      exact z_iret C d8_at_23 hf
  · have hf := zie c2 hf
    refine z_aload_n C d8_at_18 rfl ?_
    refine z_iconst C (1 : Int32) d8_at_19 kI_1 ?_
    obtain ⟨r12, s12, h12, hf⟩ := zbx hf
    refine z_callVi C (as := [zi (1 : Int32)]) d8_at_20 w_308 yy8_error (c8_error x.2.1 g h12) yc8_error kZ_1 rfl rfl (Nat.le_of_ble_eq_true rfl) ⟨Nat.le_of_ble_eq_true rfl, Nat.le_of_ble_eq_true rfl⟩ ⟨Nat.zero_le _, Nat.zero_le _⟩ ?_
    exact z_iret C d8_at_23 hf
theorem d8_isNoKm_0 : zd b8_isNoKm 0 (.iload_n 0) 1 1 := ⟨by decide +kernel, rfl⟩
theorem d8_isNoKm_1 : zdb b8_isNoKm 1 (.ifCond .lt 9) 9 4 10 := ⟨by decide +kernel, rfl, by decide⟩
theorem d8_isNoKm_4 : zd b8_isNoKm 4 (.iload_n 0) 1 5 := ⟨by decide +kernel, rfl⟩
theorem d8_isNoKm_5 : zd b8_isNoKm 5 (.bipush 69) 2 7 := ⟨by decide +kernel, rfl⟩
theorem d8_isNoKm_7 : zdb b8_isNoKm 7 (.if_icmp .le 7) 7 10 14 := ⟨by decide +kernel, rfl, by decide⟩
theorem d8_isNoKm_10 : zd b8_isNoKm 10 (.iconst 1) 1 11 := ⟨by decide +kernel, rfl⟩
theorem d8_isNoKm_11 : zdb b8_isNoKm 11 (.goto 4) 4 14 15 := ⟨by decide +kernel, rfl, by decide⟩
theorem d8_isNoKm_14 : zd b8_isNoKm 14 (.iconst 0) 1 15 := ⟨by decide +kernel, rfl⟩
theorem d8_isNoKm_15 : zd b8_isNoKm 15 .ireturn 1 16 := ⟨by decide +kernel, rfl⟩
def f8_isNoKm (k : Nat) (x0 : Int32) (σ : ZS) : Option (Int32 × ZS) :=
  if x0 < 0 then (
  some ((1 : Int32), σ))
  else (
  if x0 ≤ (69 : Int32) then (
  some ((0 : Int32), σ))
  else (
  some ((1 : Int32), σ)))
theorem c8_isNoKm (l : Launch) (g : ZG) {k : Nat} {x0 : Int32} {σ : ZS} {r : Int32} {σr : ZS} (hf : f8_isNoKm k x0 σ = some (r, σr)) : zT l g y8_isNoKm b8_isNoKm 1 (some .boolean) 1 60 [zi x0] σ (some (zi r)) σr := by
  unfold f8_isNoKm at hf
  refine zT_start (own := R8) rfl (by decide +kernel) 0 (L := [some (zi x0)]) rfl rfl (fun x hl C => ?_)
  subst hl
  refine z_iload_n C d8_isNoKm_0 rfl ?_
  refine z_if_lt C d8_isNoKm_1 (fun c1 => ?_) (fun c1 => ?_)
  · have hf := zit c1 hf
    refine z_iconst C (1 : Int32) d8_isNoKm_10 kI_1 ?_
    refine z_goto C d8_isNoKm_11 ?_
    exact z_zret C d8_isNoKm_15 (Or.inr rfl) hf
  · have hf := zie c1 hf
    refine z_iload_n C d8_isNoKm_4 rfl ?_
    refine z_bipush C (69 : Int32) d8_isNoKm_5 kB_69 ?_
    refine z_icmp_le C d8_isNoKm_7 (fun c2 => ?_) (fun c2 => ?_)
    · have hf := zit c2 hf
      refine z_iconst C (0 : Int32) d8_isNoKm_14 kI_0 ?_
      exact z_zret C d8_isNoKm_15 (Or.inl rfl) hf
    · have hf := zie c2 hf
      refine z_iconst C (1 : Int32) d8_isNoKm_10 kI_1 ?_
      refine z_goto C d8_isNoKm_11 ?_
      exact z_zret C d8_isNoKm_15 (Or.inr rfl) hf
theorem d8_become_0 : zd b8_become 0 (.aload_n 0) 1 1 := ⟨by decide +kernel, rfl⟩
theorem d8_become_1 : zd b8_become 1 (.getfield 10) 3 4 := ⟨by decide +kernel, rfl⟩
theorem d8_become_4 : zd b8_become 4 (.iload_n 1) 1 5 := ⟨by decide +kernel, rfl⟩
theorem d8_become_5 : zd b8_become 5 (.invokevirtual 82) 3 8 := ⟨by decide +kernel, rfl⟩
theorem d8_become_8 : zd b8_become 8 (.astore_n 3) 1 9 := ⟨by decide +kernel, rfl⟩
theorem d8_become_9 : zd b8_become 9 (.aload_n 3) 1 10 := ⟨by decide +kernel, rfl⟩
theorem d8_become_10 : zdb b8_become 10 (.ifnull 10) 10 13 20 := ⟨by decide +kernel, rfl, by decide⟩
theorem d8_become_13 : zd b8_become 13 (.iload_n 2) 1 14 := ⟨by decide +kernel, rfl⟩
theorem d8_become_14 : zd b8_become 14 (.invokestatic 57) 3 17 := ⟨by decide +kernel, rfl⟩
theorem d8_become_17 : zdb b8_become 17 (.ifCond .eq 9) 9 20 26 := ⟨by decide +kernel, rfl, by decide⟩
theorem d8_become_20 : zd b8_become 20 (.aload_n 0) 1 21 := ⟨by decide +kernel, rfl⟩
theorem d8_become_21 : zd b8_become 21 (.iconst 1) 1 22 := ⟨by decide +kernel, rfl⟩
theorem d8_become_22 : zd b8_become 22 (.invokevirtual 67) 3 25 := ⟨by decide +kernel, rfl⟩
theorem d8_become_25 : zd b8_become 25 .ireturn 1 26 := ⟨by decide +kernel, rfl⟩
theorem d8_become_26 : zd b8_become 26 (.aload_n 3) 1 27 := ⟨by decide +kernel, rfl⟩
theorem d8_become_27 : zd b8_become 27 (.getfield 86) 3 30 := ⟨by decide +kernel, rfl⟩
theorem d8_become_30 : zd b8_become 30 (.istore 4) 2 32 := ⟨by decide +kernel, rfl⟩
theorem d8_become_32 : zd b8_become 32 (.aload_n 3) 1 33 := ⟨by decide +kernel, rfl⟩
theorem d8_become_33 : zd b8_become 33 (.iload_n 2) 1 34 := ⟨by decide +kernel, rfl⟩
theorem d8_become_34 : zd b8_become 34 (.bipush 10) 2 36 := ⟨by decide +kernel, rfl⟩
theorem d8_become_36 : zd b8_become 36 .idiv 1 37 := ⟨by decide +kernel, rfl⟩
theorem d8_become_37 : zd b8_become 37 (.putfield 86) 3 40 := ⟨by decide +kernel, rfl⟩
theorem d8_become_40 : zd b8_become 40 (.aload_n 3) 1 41 := ⟨by decide +kernel, rfl⟩
theorem d8_become_41 : zd b8_become 41 (.iload_n 2) 1 42 := ⟨by decide +kernel, rfl⟩
theorem d8_become_42 : zd b8_become 42 (.bipush 10) 2 44 := ⟨by decide +kernel, rfl⟩
theorem d8_become_44 : zd b8_become 44 .irem 1 45 := ⟨by decide +kernel, rfl⟩
theorem d8_become_45 : zd b8_become 45 (.putfield 91) 3 48 := ⟨by decide +kernel, rfl⟩
theorem d8_become_48 : zd b8_become 48 (.iload 4) 2 50 := ⟨by decide +kernel, rfl⟩
theorem d8_become_50 : zd b8_become 50 .ireturn 1 51 := ⟨by decide +kernel, rfl⟩
def f8_become (k : Nat) (x1 : Int32) (x2 : Int32) (σ : ZS) : Option (Int32 × ZS) :=
  zbd (f5_glassOf k 2 x1 σ) fun r1 s1 =>
  if r1 = 0 then (
  zbd (f8_error k (1 : Int32) s1) fun r3 s3 =>
  some (r3, s3))
  else (
  zbd (f8_isNoKm k x2 s1) fun r4 s4 =>
  if r4 = 0 then (
  if zsh r1 = 1 then (
  zput (zu s4 r1 0 (x2 / (10 : Int32))) fun s7 =>
  zput (zu s7 r1 1 (x2 % (10 : Int32))) fun s8 =>
  some ((s4 r1 0), s8)) else none)
  else (
  zbd (f8_error k (1 : Int32) s4) fun r9 s9 =>
  some (r9, s9)))
theorem c8_become (l : Launch) (g : ZG) {k : Nat} {x1 : Int32} {x2 : Int32} {σ : ZS} {r : Int32} {σr : ZS} (hf : f8_become k x1 x2 σ = some (r, σr)) : zT l g y8_become b8_become 5 (some .int) 2 81 [zr 1, zi x1, zi x2] σ (some (zi r)) σr := by
  unfold f8_become at hf
  refine zT_start (own := R8) rfl (by decide +kernel) 2 (L := [some (zr 1), some (zi x1), some (zi x2), none, none]) rfl rfl (fun x hl C => ?_)
  subst hl
  refine z_aload_n C d8_become_0 rfl ?_
  refine z_getR C d8_become_1 fl_261 kZ_1 2 rfl (zn0 kZ_2) ?_
  refine z_iload_n C d8_become_4 rfl ?_
  obtain ⟨r1, s1, h1, hf⟩ := zbx hf
  refine z_callVr C (as := [zi x1]) d8_become_5 w_334 yy5_glassOf (c5_glassOf x.2.1 g h1) yc5_glassOf kZ_2 rfl rfl (Nat.le_of_ble_eq_true rfl) ⟨Nat.le_of_ble_eq_true rfl, Nat.le_of_ble_eq_true rfl⟩ ⟨Nat.zero_le _, Nat.zero_le _⟩ ?_
  refine z_astore_n C d8_become_8 (Nat.le_of_ble_eq_true rfl) rfl (L' := [some (zr 1), some (zi x1), some (zi x2), some (zr r1), none]) rfl ?_
  refine z_aload_n C d8_become_9 rfl ?_
  refine z_ifnull C d8_become_10 (fun c2 => ?_) (fun c2 => ?_)
  · have hf := zit c2 hf
    refine z_aload_n C d8_become_20 rfl ?_
    refine z_iconst C (1 : Int32) d8_become_21 kI_1 ?_
    obtain ⟨r3, s3, h3, hf⟩ := zbx hf
    refine z_callVi C (as := [zi (1 : Int32)]) d8_become_22 w_308 yy8_error (c8_error x.2.1 g h3) yc8_error kZ_1 rfl rfl (Nat.le_of_ble_eq_true rfl) ⟨Nat.le_of_ble_eq_true rfl, Nat.le_of_ble_eq_true rfl⟩ ⟨Nat.zero_le _, Nat.zero_le _⟩ ?_
    exact z_iret C d8_become_25 hf
  · have hf := zie c2 hf
    refine z_iload_n C d8_become_13 rfl ?_
    obtain ⟨r4, s4, h4, hf⟩ := zbx hf
    refine z_callSi C (as := [zi x2]) d8_become_14 w_299 yy8_isNoKm (c8_isNoKm x.2.1 g h4) rfl rfl (Nat.le_of_ble_eq_true rfl) ⟨Nat.le_of_ble_eq_true rfl, Nat.le_of_ble_eq_true rfl⟩ ⟨Nat.zero_le _, Nat.zero_le _⟩ ?_
    refine z_if_eq C d8_become_17 (fun c5 => ?_) (fun c5 => ?_)
    · have hf := zit c5 hf
      refine z_aload_n C d8_become_26 rfl ?_
      obtain ⟨g6, hf⟩ := zgo hf
      refine z_getI C d8_become_27 fl_48 g6 ?_
      refine z_istore C d8_become_30 (Nat.le_of_ble_eq_true rfl) rfl (L' := [some (zr 1), some (zi x1), some (zi x2), some (zr r1), some (zi (s4 r1 0))]) rfl ?_
      refine z_aload_n C d8_become_32 rfl ?_
      refine z_iload_n C d8_become_33 rfl ?_
      refine z_bipush C (10 : Int32) d8_become_34 kB_10 ?_
      refine z_idiv C d8_become_36 (by decide) ?_
      obtain ⟨s7, e7, hf⟩ := zpx hf
      refine z_putI C d8_become_37 fl_48 ft_0_0 g6 e7 ?_
      refine z_aload_n C d8_become_40 rfl ?_
      refine z_iload_n C d8_become_41 rfl ?_
      refine z_bipush C (10 : Int32) d8_become_42 kB_10 ?_
      refine z_irem C d8_become_44 (by decide) ?_
      obtain ⟨s8, e8, hf⟩ := zpx hf
      refine z_putI C d8_become_45 fl_52 ft_0_1 g6 e8 ?_
      refine z_iload C d8_become_48 rfl ?_
      exact z_iret C d8_become_50 hf
    · have hf := zie c5 hf
      refine z_aload_n C d8_become_20 rfl ?_
      refine z_iconst C (1 : Int32) d8_become_21 kI_1 ?_
      obtain ⟨r9, s9, h9, hf⟩ := zbx hf
      refine z_callVi C (as := [zi (1 : Int32)]) d8_become_22 w_308 yy8_error (c8_error x.2.1 g h9) yc8_error kZ_1 rfl rfl (Nat.le_of_ble_eq_true rfl) ⟨Nat.le_of_ble_eq_true rfl, Nat.le_of_ble_eq_true rfl⟩ ⟨Nat.zero_le _, Nat.zero_le _⟩ ?_
      exact z_iret C d8_become_25 hf
theorem d7_tracedAt_0 : zd b7_tracedAt 0 (.iload_n 1) 1 1 := ⟨by decide +kernel, rfl⟩
theorem d7_tracedAt_1 : zdb b7_tracedAt 1 (.ifCond .lt 20) 20 4 21 := ⟨by decide +kernel, rfl, by decide⟩
theorem d7_tracedAt_4 : zd b7_tracedAt 4 (.iload_n 1) 1 5 := ⟨by decide +kernel, rfl⟩
theorem d7_tracedAt_5 : zd b7_tracedAt 5 (.aload_n 0) 1 6 := ⟨by decide +kernel, rfl⟩
theorem d7_tracedAt_6 : zd b7_tracedAt 6 (.getfield 29) 3 9 := ⟨by decide +kernel, rfl⟩
theorem d7_tracedAt_9 : zdb b7_tracedAt 9 (.if_icmp .ge 12) 12 12 21 := ⟨by decide +kernel, rfl, by decide⟩
theorem d7_tracedAt_12 : zd b7_tracedAt 12 (.iload_n 1) 1 13 := ⟨by decide +kernel, rfl⟩
theorem d7_tracedAt_13 : zd b7_tracedAt 13 (.aload_n 0) 1 14 := ⟨by decide +kernel, rfl⟩
theorem d7_tracedAt_14 : zd b7_tracedAt 14 (.getfield 11) 3 17 := ⟨by decide +kernel, rfl⟩
theorem d7_tracedAt_17 : zd b7_tracedAt 17 .arraylength 1 18 := ⟨by decide +kernel, rfl⟩
theorem d7_tracedAt_18 : zdb b7_tracedAt 18 (.if_icmp .lt 7) 7 21 25 := ⟨by decide +kernel, rfl, by decide⟩
theorem d7_tracedAt_21 : zd b7_tracedAt 21 (.iconst 0) 1 22 := ⟨by decide +kernel, rfl⟩
theorem d7_tracedAt_22 : zdb b7_tracedAt 22 (.goto 9) 9 25 31 := ⟨by decide +kernel, rfl, by decide⟩
theorem d7_tracedAt_25 : zd b7_tracedAt 25 (.aload_n 0) 1 26 := ⟨by decide +kernel, rfl⟩
theorem d7_tracedAt_26 : zd b7_tracedAt 26 (.getfield 11) 3 29 := ⟨by decide +kernel, rfl⟩
theorem d7_tracedAt_29 : zd b7_tracedAt 29 (.iload_n 1) 1 30 := ⟨by decide +kernel, rfl⟩
theorem d7_tracedAt_30 : zd b7_tracedAt 30 .iaload 1 31 := ⟨by decide +kernel, rfl⟩
theorem d7_tracedAt_31 : zd b7_tracedAt 31 .ireturn 1 32 := ⟨by decide +kernel, rfl⟩
def f7_tracedAt (k : Nat) (x1 : Int32) (σ : ZS) : Option (Int32 × ZS) :=
  if x1 < 0 then (
  some ((0 : Int32), σ))
  else (
  if (σ 90 1) ≤ x1 then (
  some ((0 : Int32), σ))
  else (
  if x1 < (30 : Int32) then (
  if zin x1 30 then (
  some ((σ 91 x1.toNatClampNeg), σ)) else none)
  else (
  some ((0 : Int32), σ))))
theorem c7_tracedAt (l : Launch) (g : ZG) {k : Nat} {x1 : Int32} {σ : ZS} {r : Int32} {σr : ZS} (hf : f7_tracedAt k x1 σ = some (r, σr)) : zT l g y7_tracedAt b7_tracedAt 2 (some .int) 1 60 [zr 90, zi x1] σ (some (zi r)) σr := by
  unfold f7_tracedAt at hf
  refine zT_start (own := R7) rfl (by decide +kernel) 0 (L := [some (zr 90), some (zi x1)]) rfl rfl (fun x hl C => ?_)
  subst hl
  refine z_iload_n C d7_tracedAt_0 rfl ?_
  refine z_if_lt C d7_tracedAt_1 (fun c1 => ?_) (fun c1 => ?_)
  · have hf := zit c1 hf
    refine z_iconst C (0 : Int32) d7_tracedAt_21 kI_0 ?_
    refine z_goto C d7_tracedAt_22 ?_
    exact z_iret C d7_tracedAt_31 hf
  · have hf := zie c1 hf
    refine z_iload_n C d7_tracedAt_4 rfl ?_
    refine z_aload_n C d7_tracedAt_5 rfl ?_
    refine z_getI C d7_tracedAt_6 fl_221 kZ_90 ?_
    refine z_icmp_ge C d7_tracedAt_9 (fun c2 => ?_) (fun c2 => ?_)
    · have hf := zit c2 hf
      refine z_iconst C (0 : Int32) d7_tracedAt_21 kI_0 ?_
      refine z_goto C d7_tracedAt_22 ?_
      exact z_iret C d7_tracedAt_31 hf
    · have hf := zie c2 hf
      refine z_iload_n C d7_tracedAt_12 rfl ?_
      refine z_aload_n C d7_tracedAt_13 rfl ?_
      refine z_getR C d7_tracedAt_14 fl_220 kZ_90 91 rfl (zn0 kZ_91) ?_
      refine z_alen C (30 : Int32) d7_tracedAt_17 kZ_91 kL_91 kO_30 ?_
      refine z_icmp_lt C d7_tracedAt_18 (fun c3 => ?_) (fun c3 => ?_)
      · have hf := zit c3 hf
        refine z_aload_n C d7_tracedAt_25 rfl ?_
        refine z_getR C d7_tracedAt_26 fl_220 kZ_90 91 rfl (zn0 kZ_91) ?_
        refine z_iload_n C d7_tracedAt_29 rfl ?_
        obtain ⟨g4, hf⟩ := zgo hf
        refine z_iald C d7_tracedAt_30 kZ_91 kL_91 g4 (x1.toNatClampNeg) rfl ?_
        exact z_iret C d7_tracedAt_31 hf
      · have hf := zie c3 hf
        refine z_iconst C (0 : Int32) d7_tracedAt_21 kI_0 ?_
        refine z_goto C d7_tracedAt_22 ?_
        exact z_iret C d7_tracedAt_31 hf
theorem d8_body_0 : zd b8_body 0 (.iload_n 1) 1 1 := ⟨by decide +kernel, rfl⟩
theorem d8_body_1 : zdb b8_body 1 (.ifCond .lt 14) 14 4 15 := ⟨by decide +kernel, rfl, by decide⟩
theorem d8_body_4 : zd b8_body 4 (.iload_n 1) 1 5 := ⟨by decide +kernel, rfl⟩
theorem d8_body_5 : zd b8_body 5 (.aload_n 0) 1 6 := ⟨by decide +kernel, rfl⟩
theorem d8_body_6 : zd b8_body 6 (.getfield 39) 3 9 := ⟨by decide +kernel, rfl⟩
theorem d8_body_9 : zd b8_body 9 (.getfield 251) 3 12 := ⟨by decide +kernel, rfl⟩
theorem d8_body_12 : zdb b8_body 12 (.if_icmp .lt 9) 9 15 21 := ⟨by decide +kernel, rfl, by decide⟩
theorem d8_body_15 : zd b8_body 15 (.aload_n 0) 1 16 := ⟨by decide +kernel, rfl⟩
theorem d8_body_16 : zd b8_body 16 (.iconst 2) 1 17 := ⟨by decide +kernel, rfl⟩
theorem d8_body_17 : zd b8_body 17 (.invokevirtual 67) 3 20 := ⟨by decide +kernel, rfl⟩
theorem d8_body_20 : zd b8_body 20 .ireturn 1 21 := ⟨by decide +kernel, rfl⟩
theorem d8_body_21 : zd b8_body 21 (.aload_n 0) 1 22 := ⟨by decide +kernel, rfl⟩
theorem d8_body_22 : zd b8_body 22 (.getfield 39) 3 25 := ⟨by decide +kernel, rfl⟩
theorem d8_body_25 : zd b8_body 25 (.iload_n 1) 1 26 := ⟨by decide +kernel, rfl⟩
theorem d8_body_26 : zd b8_body 26 (.invokevirtual 254) 3 29 := ⟨by decide +kernel, rfl⟩
theorem d8_body_29 : zd b8_body 29 .ireturn 1 30 := ⟨by decide +kernel, rfl⟩
def f8_body (k : Nat) (x1 : Int32) (σ : ZS) : Option (Int32 × ZS) :=
  if x1 < 0 then (
  zbd (f8_error k (2 : Int32) σ) fun r2 s2 =>
  some (r2, s2))
  else (
  if x1 < (σ 90 1) then (
  zbd (f7_tracedAt k x1 σ) fun r4 s4 =>
  some (r4, s4))
  else (
  zbd (f8_error k (2 : Int32) σ) fun r5 s5 =>
  some (r5, s5)))
theorem c8_body (l : Launch) (g : ZG) {k : Nat} {x1 : Int32} {σ : ZS} {r : Int32} {σr : ZS} (hf : f8_body k x1 σ = some (r, σr)) : zT l g y8_body b8_body 2 (some .int) 2 81 [zr 1, zi x1] σ (some (zi r)) σr := by
  unfold f8_body at hf
  refine zT_start (own := R8) rfl (by decide +kernel) 0 (L := [some (zr 1), some (zi x1)]) rfl rfl (fun x hl C => ?_)
  subst hl
  refine z_iload_n C d8_body_0 rfl ?_
  refine z_if_lt C d8_body_1 (fun c1 => ?_) (fun c1 => ?_)
  · have hf := zit c1 hf
    refine z_aload_n C d8_body_15 rfl ?_
    refine z_iconst C (2 : Int32) d8_body_16 kI_2 ?_
    obtain ⟨r2, s2, h2, hf⟩ := zbx hf
    refine z_callVi C (as := [zi (2 : Int32)]) d8_body_17 w_308 yy8_error (c8_error x.2.1 g h2) yc8_error kZ_1 rfl rfl (Nat.le_of_ble_eq_true rfl) ⟨Nat.le_of_ble_eq_true rfl, Nat.le_of_ble_eq_true rfl⟩ ⟨Nat.zero_le _, Nat.zero_le _⟩ ?_
    exact z_iret C d8_body_20 hf
  · have hf := zie c1 hf
    refine z_iload_n C d8_body_4 rfl ?_
    refine z_aload_n C d8_body_5 rfl ?_
    refine z_getR C d8_body_6 fl_266 kZ_1 90 rfl (zn0 kZ_90) ?_
    refine z_getI C d8_body_9 fl_222 kZ_90 ?_
    refine z_icmp_lt C d8_body_12 (fun c3 => ?_) (fun c3 => ?_)
    · have hf := zit c3 hf
      refine z_aload_n C d8_body_21 rfl ?_
      refine z_getR C d8_body_22 fl_266 kZ_1 90 rfl (zn0 kZ_90) ?_
      refine z_iload_n C d8_body_25 rfl ?_
      obtain ⟨r4, s4, h4, hf⟩ := zbx hf
      refine z_callVi C (as := [zi x1]) d8_body_26 w_741 yy7_tracedAt (c7_tracedAt x.2.1 g h4) yc7_tracedAt kZ_90 rfl rfl (Nat.le_of_ble_eq_true rfl) ⟨Nat.le_of_ble_eq_true rfl, Nat.le_of_ble_eq_true rfl⟩ ⟨Nat.zero_le _, Nat.zero_le _⟩ ?_
      exact z_iret C d8_body_29 hf
    · have hf := zie c3 hf
      refine z_aload_n C d8_body_15 rfl ?_
      refine z_iconst C (2 : Int32) d8_body_16 kI_2 ?_
      obtain ⟨r5, s5, h5, hf⟩ := zbx hf
      refine z_callVi C (as := [zi (2 : Int32)]) d8_body_17 w_308 yy8_error (c8_error x.2.1 g h5) yc8_error kZ_1 rfl rfl (Nat.le_of_ble_eq_true rfl) ⟨Nat.le_of_ble_eq_true rfl, Nat.le_of_ble_eq_true rfl⟩ ⟨Nat.zero_le _, Nat.zero_le _⟩ ?_
      exact z_iret C d8_body_20 hf
theorem d5_personOf_0 : zd b5_personOf 0 (.iload_n 1) 1 1 := ⟨by decide +kernel, rfl⟩
theorem d5_personOf_1 : zdb b5_personOf 1 (.ifCond .lt 20) 20 4 21 := ⟨by decide +kernel, rfl, by decide⟩
theorem d5_personOf_4 : zd b5_personOf 4 (.iload_n 1) 1 5 := ⟨by decide +kernel, rfl⟩
theorem d5_personOf_5 : zd b5_personOf 5 (.aload_n 0) 1 6 := ⟨by decide +kernel, rfl⟩
theorem d5_personOf_6 : zd b5_personOf 6 (.getfield 71) 3 9 := ⟨by decide +kernel, rfl⟩
theorem d5_personOf_9 : zdb b5_personOf 9 (.if_icmp .ge 12) 12 12 21 := ⟨by decide +kernel, rfl, by decide⟩
theorem d5_personOf_12 : zd b5_personOf 12 (.iload_n 1) 1 13 := ⟨by decide +kernel, rfl⟩
theorem d5_personOf_13 : zd b5_personOf 13 (.aload_n 0) 1 14 := ⟨by decide +kernel, rfl⟩
theorem d5_personOf_14 : zd b5_personOf 14 (.getfield 19) 3 17 := ⟨by decide +kernel, rfl⟩
theorem d5_personOf_17 : zd b5_personOf 17 .arraylength 1 18 := ⟨by decide +kernel, rfl⟩
theorem d5_personOf_18 : zdb b5_personOf 18 (.if_icmp .lt 5) 5 21 23 := ⟨by decide +kernel, rfl, by decide⟩
theorem d5_personOf_21 : zd b5_personOf 21 .aconst_null 1 22 := ⟨by decide +kernel, rfl⟩
theorem d5_personOf_22 : zd b5_personOf 22 .areturn 1 23 := ⟨by decide +kernel, rfl⟩
theorem d5_personOf_23 : zd b5_personOf 23 (.aload_n 0) 1 24 := ⟨by decide +kernel, rfl⟩
theorem d5_personOf_24 : zd b5_personOf 24 (.getfield 19) 3 27 := ⟨by decide +kernel, rfl⟩
theorem d5_personOf_27 : zd b5_personOf 27 (.iload_n 1) 1 28 := ⟨by decide +kernel, rfl⟩
theorem d5_personOf_28 : zd b5_personOf 28 .aaload 1 29 := ⟨by decide +kernel, rfl⟩
theorem d5_personOf_29 : zd b5_personOf 29 .areturn 1 30 := ⟨by decide +kernel, rfl⟩
def f5_personOf (k : Nat) (t : Nat) (x1 : Int32) (σ : ZS) : Option (Nat × ZS) :=
  if zsh t = 6 then (
  if x1 < 0 then (
  some (0, σ))
  else (
  if (σ t 7) ≤ x1 then (
  some (0, σ))
  else (
  if x1 < (6 : Int32) then (
  if zin x1 6 then (
  some ((t + 15 + x1.toNatClampNeg), σ)) else none)
  else (
  some (0, σ))))) else none
theorem c5_personOf (l : Launch) (g : ZG) {k : Nat} {t : Nat} {x1 : Int32} {σ : ZS} {r : Nat} {σr : ZS} (hf : f5_personOf k t x1 σ = some (r, σr)) : zT l g y5_personOf b5_personOf 2 (some (.object "GlassTax$Person")) 1 60 [zr t, zi x1] σ (some (zr r)) σr := by
  unfold f5_personOf at hf
  obtain ⟨ht, hf⟩ := zgo hf
  refine zT_start (own := R5) rfl (by decide +kernel) 0 (L := [some (zr t), some (zi x1)]) rfl rfl (fun x hl C => ?_)
  subst hl
  refine z_iload_n C d5_personOf_0 rfl ?_
  refine z_if_lt C d5_personOf_1 (fun c1 => ?_) (fun c1 => ?_)
  · have hf := zit c1 hf
    refine z_null C d5_personOf_21 ?_
    exact z_aret C d5_personOf_22 hf
  · have hf := zie c1 hf
    refine z_iload_n C d5_personOf_4 rfl ?_
    refine z_aload_n C d5_personOf_5 rfl ?_
    refine z_getI C d5_personOf_6 fl_127 ht ?_
    refine z_icmp_ge C d5_personOf_9 (fun c2 => ?_) (fun c2 => ?_)
    · have hf := zit c2 hf
      refine z_null C d5_personOf_21 ?_
      exact z_aret C d5_personOf_22 hf
    · have hf := zie c2 hf
      refine z_iload_n C d5_personOf_12 rfl ?_
      refine z_aload_n C d5_personOf_13 rfl ?_
      refine z_getR C d5_personOf_14 fl_119 ht (t + 2) rfl (zn0 (zD6_2 ht)) ?_
      refine z_alenR C (6 : Int32) d5_personOf_17 (zD6_2 ht) (by decide) (by decide) kO_6 ?_
      refine z_icmp_lt C d5_personOf_18 (fun c3 => ?_) (fun c3 => ?_)
      · have hf := zit c3 hf
        refine z_aload_n C d5_personOf_23 rfl ?_
        refine z_getR C d5_personOf_24 fl_119 ht (t + 2) rfl (zn0 (zD6_2 ht)) ?_
        refine z_iload_n C d5_personOf_27 rfl ?_
        obtain ⟨g4, hf⟩ := zgo hf
        refine z_aald C d5_personOf_28 (zD6_2 ht) (by decide) (by decide) g4 (t + 15 + x1.toNatClampNeg) (by show (t + 2) + 13 + 1 * x1.toNatClampNeg = (t + 15 + x1.toNatClampNeg); omega) (zn0 (zE12 ht g4)) ?_
        exact z_aret C d5_personOf_29 hf
      · have hf := zie c3 hf
        refine z_null C d5_personOf_21 ?_
        exact z_aret C d5_personOf_22 hf
theorem d5_waitingAt_0 : zd b5_waitingAt 0 (.iload_n 1) 1 1 := ⟨by decide +kernel, rfl⟩
theorem d5_waitingAt_1 : zdb b5_waitingAt 1 (.ifCond .lt 12) 12 4 13 := ⟨by decide +kernel, rfl, by decide⟩
theorem d5_waitingAt_4 : zd b5_waitingAt 4 (.iload_n 1) 1 5 := ⟨by decide +kernel, rfl⟩
theorem d5_waitingAt_5 : zd b5_waitingAt 5 (.aload_n 0) 1 6 := ⟨by decide +kernel, rfl⟩
theorem d5_waitingAt_6 : zd b5_waitingAt 6 (.getfield 36) 3 9 := ⟨by decide +kernel, rfl⟩
theorem d5_waitingAt_9 : zd b5_waitingAt 9 .arraylength 1 10 := ⟨by decide +kernel, rfl⟩
theorem d5_waitingAt_10 : zdb b5_waitingAt 10 (.if_icmp .lt 7) 7 13 17 := ⟨by decide +kernel, rfl, by decide⟩
theorem d5_waitingAt_13 : zd b5_waitingAt 13 (.iconst 0) 1 14 := ⟨by decide +kernel, rfl⟩
theorem d5_waitingAt_14 : zdb b5_waitingAt 14 (.goto 9) 9 17 23 := ⟨by decide +kernel, rfl, by decide⟩
theorem d5_waitingAt_17 : zd b5_waitingAt 17 (.aload_n 0) 1 18 := ⟨by decide +kernel, rfl⟩
theorem d5_waitingAt_18 : zd b5_waitingAt 18 (.getfield 36) 3 21 := ⟨by decide +kernel, rfl⟩
theorem d5_waitingAt_21 : zd b5_waitingAt 21 (.iload_n 1) 1 22 := ⟨by decide +kernel, rfl⟩
theorem d5_waitingAt_22 : zd b5_waitingAt 22 .iaload 1 23 := ⟨by decide +kernel, rfl⟩
theorem d5_waitingAt_23 : zd b5_waitingAt 23 .ireturn 1 24 := ⟨by decide +kernel, rfl⟩
def f5_waitingAt (k : Nat) (t : Nat) (x1 : Int32) (σ : ZS) : Option (Int32 × ZS) :=
  if zsh t = 6 then (
  if x1 < 0 then (
  some ((0 : Int32), σ))
  else (
  if x1 < (24 : Int32) then (
  if zin x1 24 then (
  some ((σ (t + 6) x1.toNatClampNeg), σ)) else none)
  else (
  some ((0 : Int32), σ)))) else none
theorem c5_waitingAt (l : Launch) (g : ZG) {k : Nat} {t : Nat} {x1 : Int32} {σ : ZS} {r : Int32} {σr : ZS} (hf : f5_waitingAt k t x1 σ = some (r, σr)) : zT l g y5_waitingAt b5_waitingAt 2 (some .int) 1 60 [zr t, zi x1] σ (some (zi r)) σr := by
  unfold f5_waitingAt at hf
  obtain ⟨ht, hf⟩ := zgo hf
  refine zT_start (own := R5) rfl (by decide +kernel) 0 (L := [some (zr t), some (zi x1)]) rfl rfl (fun x hl C => ?_)
  subst hl
  refine z_iload_n C d5_waitingAt_0 rfl ?_
  refine z_if_lt C d5_waitingAt_1 (fun c1 => ?_) (fun c1 => ?_)
  · have hf := zit c1 hf
    refine z_iconst C (0 : Int32) d5_waitingAt_13 kI_0 ?_
    refine z_goto C d5_waitingAt_14 ?_
    exact z_iret C d5_waitingAt_23 hf
  · have hf := zie c1 hf
    refine z_iload_n C d5_waitingAt_4 rfl ?_
    refine z_aload_n C d5_waitingAt_5 rfl ?_
    refine z_getR C d5_waitingAt_6 fl_124 ht (t + 6) rfl (zn0 (zD6_6 ht)) ?_
    refine z_alen C (24 : Int32) d5_waitingAt_9 (zD6_6 ht) (zN6_6 ht) kO_24 ?_
    refine z_icmp_lt C d5_waitingAt_10 (fun c2 => ?_) (fun c2 => ?_)
    · have hf := zit c2 hf
      refine z_aload_n C d5_waitingAt_17 rfl ?_
      refine z_getR C d5_waitingAt_18 fl_124 ht (t + 6) rfl (zn0 (zD6_6 ht)) ?_
      refine z_iload_n C d5_waitingAt_21 rfl ?_
      obtain ⟨g3, hf⟩ := zgo hf
      refine z_iald C d5_waitingAt_22 (zD6_6 ht) (zN6_6 ht) g3 (x1.toNatClampNeg) rfl ?_
      exact z_iret C d5_waitingAt_23 hf
    · have hf := zie c2 hf
      refine z_iconst C (0 : Int32) d5_waitingAt_13 kI_0 ?_
      refine z_goto C d5_waitingAt_14 ?_
      exact z_iret C d5_waitingAt_23 hf
theorem d8_check_0 : zd b8_check 0 (.aload_n 0) 1 1 := ⟨by decide +kernel, rfl⟩
theorem d8_check_1 : zd b8_check 1 (.getfield 10) 3 4 := ⟨by decide +kernel, rfl⟩
theorem d8_check_4 : zd b8_check 4 (.getfield 286) 3 7 := ⟨by decide +kernel, rfl⟩
theorem d8_check_7 : zd b8_check 7 (.istore_n 1) 1 8 := ⟨by decide +kernel, rfl⟩
theorem d8_check_8 : zd b8_check 8 (.aload_n 0) 1 9 := ⟨by decide +kernel, rfl⟩
theorem d8_check_9 : zd b8_check 9 (.getfield 10) 3 12 := ⟨by decide +kernel, rfl⟩
theorem d8_check_12 : zd b8_check 12 (.iconst 0) 1 13 := ⟨by decide +kernel, rfl⟩
theorem d8_check_13 : zd b8_check 13 (.putfield 286) 3 16 := ⟨by decide +kernel, rfl⟩
theorem d8_check_16 : zd b8_check 16 (.iconst 0) 1 17 := ⟨by decide +kernel, rfl⟩
theorem d8_check_17 : zd b8_check 17 (.istore_n 2) 1 18 := ⟨by decide +kernel, rfl⟩
theorem d8_check_18 : zd b8_check 18 (.iload_n 2) 1 19 := ⟨by decide +kernel, rfl⟩
theorem d8_check_19 : zd b8_check 19 (.iload_n 1) 1 20 := ⟨by decide +kernel, rfl⟩
theorem d8_check_20 : zdb b8_check 20 (.if_icmp .ge 41) 41 23 61 := ⟨by decide +kernel, rfl, by decide⟩
theorem d8_check_23 : zd b8_check 23 (.aload_n 0) 1 24 := ⟨by decide +kernel, rfl⟩
theorem d8_check_24 : zd b8_check 24 (.getfield 10) 3 27 := ⟨by decide +kernel, rfl⟩
theorem d8_check_27 : zd b8_check 27 (.iload_n 2) 1 28 := ⟨by decide +kernel, rfl⟩
theorem d8_check_28 : zd b8_check 28 (.invokevirtual 128) 3 31 := ⟨by decide +kernel, rfl⟩
theorem d8_check_31 : zd b8_check 31 (.astore_n 3) 1 32 := ⟨by decide +kernel, rfl⟩
theorem d8_check_32 : zd b8_check 32 (.aload_n 3) 1 33 := ⟨by decide +kernel, rfl⟩
theorem d8_check_33 : zdb b8_check 33 (.ifnull 18) 18 36 51 := ⟨by decide +kernel, rfl, by decide⟩
theorem d8_check_36 : zd b8_check 36 (.aload_n 3) 1 37 := ⟨by decide +kernel, rfl⟩
theorem d8_check_37 : zd b8_check 37 (.getfield 138) 3 40 := ⟨by decide +kernel, rfl⟩
theorem d8_check_40 : zd b8_check 40 (.aload_n 0) 1 41 := ⟨by decide +kernel, rfl⟩
theorem d8_check_41 : zd b8_check 41 (.getfield 10) 3 44 := ⟨by decide +kernel, rfl⟩
theorem d8_check_44 : zd b8_check 44 (.iload_n 2) 1 45 := ⟨by decide +kernel, rfl⟩
theorem d8_check_45 : zd b8_check 45 (.invokevirtual 292) 3 48 := ⟨by decide +kernel, rfl⟩
theorem d8_check_48 : zdb b8_check 48 (.if_icmp .eq 7) 7 51 55 := ⟨by decide +kernel, rfl, by decide⟩
theorem d8_check_51 : zd b8_check 51 (.iconst 1) 1 52 := ⟨by decide +kernel, rfl⟩
theorem d8_check_52 : zd b8_check 52 (.iload_n 2) 1 53 := ⟨by decide +kernel, rfl⟩
theorem d8_check_53 : zd b8_check 53 .iadd 1 54 := ⟨by decide +kernel, rfl⟩
theorem d8_check_54 : zd b8_check 54 .ireturn 1 55 := ⟨by decide +kernel, rfl⟩
theorem d8_check_55 : zd b8_check 55 (.iinc 2 1) 3 58 := ⟨by decide +kernel, rfl⟩
theorem d8_check_58 : zdb b8_check 58 (.goto (-40)) (-40) 61 18 := ⟨by decide +kernel, rfl, by decide⟩
theorem d8_check_61 : zd b8_check 61 (.iconst 0) 1 62 := ⟨by decide +kernel, rfl⟩
theorem d8_check_62 : zd b8_check 62 .ireturn 1 63 := ⟨by decide +kernel, rfl⟩
def b8_check_18 (k : Nat) (q18 : Int32 → Int32 → ZS → Option (Int32 × ZS)) (x1 : Int32) (x2 : Int32) (σ : ZS) : Option (Int32 × ZS) :=
  if x1 ≤ x2 then (
  some ((0 : Int32), σ))
  else (
  zbd (f5_personOf k 2 x2 σ) fun r2 s2 =>
  if r2 = 0 then (
  some (((1 : Int32) + x2), s2))
  else (
  if zsh r2 = 3 then (
  zbd (f5_waitingAt k 2 x2 s2) fun r5 s5 =>
  if (s2 r2 2) = r5 then (
  q18 x1 (x2 + (1 : Int32)) s5)
  else (
  some (((1 : Int32) + x2), s5))) else none))
def f8_check_18 (k : Nat) : Nat → Int32 → Int32 → ZS → Option (Int32 × ZS)
  | 0 => fun _ _ _ => none
  | n + 1 => b8_check_18 k  (f8_check_18 k  n)
theorem j8_check_18 {x : ZX} {g : ZG} (C : zC x g b8_check R8 (some .int) 4 2 81) {k : Nat} {r : Int32} {σr : ZS}  {q18 : Int32 → Int32 → ZS → Option (Int32 × ZS)} (hq18 : (∀ (x1 : Int32) (x2 : Int32) (σ : ZS), q18 x1 x2 σ = some (r, σr) → zw x g 4 0 0 (zMQ x g (some (zi r)) σr) σ 18 [some (zr 1), some (zi x1), some (zi x2), none] [])) {x1 : Int32} {x2 : Int32} {σ : ZS} (hf : b8_check_18 k q18 x1 x2 σ = some (r, σr)) : zw x g 4 0 0 (zMQ x g (some (zi r)) σr) σ 18 [some (zr 1), some (zi x1), some (zi x2), none] [] := by
  unfold b8_check_18 at hf
  refine z_iload_n C d8_check_18 rfl ?_
  refine z_iload_n C d8_check_19 rfl ?_
  refine z_icmp_ge C d8_check_20 (fun c1 => ?_) (fun c1 => ?_)
  · have hf := zit c1 hf
    refine z_iconst C (0 : Int32) d8_check_61 kI_0 ?_
    exact z_iret C d8_check_62 hf
  · have hf := zie c1 hf
    refine z_aload_n C d8_check_23 rfl ?_
    refine z_getR C d8_check_24 fl_261 kZ_1 2 rfl (zn0 kZ_2) ?_
    refine z_iload_n C d8_check_27 rfl ?_
    obtain ⟨r2, s2, h2, hf⟩ := zbx hf
    refine z_callVr C (as := [zi x2]) d8_check_28 w_396 yy5_personOf (c5_personOf x.2.1 g h2) yc5_personOf kZ_2 rfl rfl (Nat.le_of_ble_eq_true rfl) ⟨Nat.le_of_ble_eq_true rfl, Nat.le_of_ble_eq_true rfl⟩ ⟨Nat.zero_le _, Nat.zero_le _⟩ ?_
    refine z_astore_n C d8_check_31 (Nat.le_of_ble_eq_true rfl) rfl (L' := [some (zr 1), some (zi x1), some (zi x2), some (zr r2)]) rfl ?_
    refine z_aload_n C d8_check_32 rfl ?_
    refine z_ifnull C d8_check_33 (fun c3 => ?_) (fun c3 => ?_)
    · have hf := zit c3 hf
      refine z_iconst C (1 : Int32) d8_check_51 kI_1 ?_
      refine z_iload_n C d8_check_52 rfl ?_
      refine z_iadd C d8_check_53 ?_
      exact z_iret C d8_check_54 hf
    · have hf := zie c3 hf
      refine z_aload_n C d8_check_36 rfl ?_
      obtain ⟨g4, hf⟩ := zgo hf
      refine z_getI C d8_check_37 fl_88 g4 ?_
      refine z_aload_n C d8_check_40 rfl ?_
      refine z_getR C d8_check_41 fl_261 kZ_1 2 rfl (zn0 kZ_2) ?_
      refine z_iload_n C d8_check_44 rfl ?_
      obtain ⟨r5, s5, h5, hf⟩ := zbx hf
      refine z_callVi C (as := [zi x2]) d8_check_45 w_799 yy5_waitingAt (c5_waitingAt x.2.1 g h5) yc5_waitingAt kZ_2 rfl rfl (Nat.le_of_ble_eq_true rfl) ⟨Nat.le_of_ble_eq_true rfl, Nat.le_of_ble_eq_true rfl⟩ ⟨Nat.zero_le _, Nat.zero_le _⟩ ?_
      refine z_icmp_eq C d8_check_48 (fun c6 => ?_) (fun c6 => ?_)
      · have hf := zit c6 hf
        refine z_iinc C d8_check_55 rfl kI_1 (Nat.le_of_ble_eq_true rfl) rfl (L' := [some (zr 1), some (zi x1), some (zi (x2 + (1 : Int32))), some (zr r2)]) rfl ?_
        refine z_goto C d8_check_58 ?_
        refine z_drop [true, true, true, false] (L' := [some (zr 1), some (zi x1), some (zi (x2 + (1 : Int32))), none]) rfl ?_
        exact hq18 _ _ _ hf
      · have hf := zie c6 hf
        refine z_iconst C (1 : Int32) d8_check_51 kI_1 ?_
        refine z_iload_n C d8_check_52 rfl ?_
        refine z_iadd C d8_check_53 ?_
        exact z_iret C d8_check_54 hf
theorem j8_check_18l {x : ZX} {g : ZG} (C : zC x g b8_check R8 (some .int) 4 2 81) {k : Nat} {r : Int32} {σr : ZS}  : ∀ (n : Nat) (x1 : Int32) (x2 : Int32) (σ : ZS), f8_check_18 k  n x1 x2 σ = some (r, σr) → zw x g 4 0 0 (zMQ x g (some (zi r)) σr) σ 18 [some (zr 1), some (zi x1), some (zi x2), none] [] := by
  intro n
  induction n with
  | zero => intro x1 x2 σ hf; exact absurd (show none = some (r, σr) from hf) (fun z => by cases z)
  | succ n ih => intro x1 x2 σ hf; exact j8_check_18 C  ih (show b8_check_18 k  (f8_check_18 k  n) x1 x2 σ = some (r, σr) from hf)
def f8_check (k : Nat)  (σ : ZS) : Option (Int32 × ZS) :=
  zput (zu σ 2 9 (0 : Int32)) fun s1 =>
  f8_check_18 k  k (σ 2 9) (0 : Int32) s1
theorem c8_check (l : Launch) (g : ZG) {k : Nat}  {σ : ZS} {r : Int32} {σr : ZS} (hf : f8_check k  σ = some (r, σr)) : zT l g y8_check b8_check 4 (some .int) 2 81 [zr 1] σ (some (zi r)) σr := by
  unfold f8_check at hf
  refine zT_start (own := R8) rfl (by decide +kernel) 3 (L := [some (zr 1), none, none, none]) rfl rfl (fun x hl C => ?_)
  subst hl
  refine z_aload_n C d8_check_0 rfl ?_
  refine z_getR C d8_check_1 fl_261 kZ_1 2 rfl (zn0 kZ_2) ?_
  refine z_getI C d8_check_4 fl_132 kZ_2 ?_
  refine z_istore_n C d8_check_7 (Nat.le_of_ble_eq_true rfl) rfl (L' := [some (zr 1), some (zi (σ 2 9)), none, none]) rfl ?_
  refine z_aload_n C d8_check_8 rfl ?_
  refine z_getR C d8_check_9 fl_261 kZ_1 2 rfl (zn0 kZ_2) ?_
  refine z_iconst C (0 : Int32) d8_check_12 kI_0 ?_
  obtain ⟨s1, e1, hf⟩ := zpx hf
  refine z_putI C d8_check_13 fl_132 ft_5_9 kZ_2 e1 ?_
  refine z_iconst C (0 : Int32) d8_check_16 kI_0 ?_
  refine z_istore_n C d8_check_17 (Nat.le_of_ble_eq_true rfl) rfl (L' := [some (zr 1), some (zi (σ 2 9)), some (zi (0 : Int32)), none]) rfl ?_
  exact j8_check_18l C  _ _ _ _ hf
theorem d8_count_0 : zd b8_count 0 (.iload_n 1) 1 1 := ⟨by decide +kernel, rfl⟩
theorem d8_count_1 : decode b8_count 1 = .ok ((.tableswitch 99 0 6 #[43, 51, 59, 67, 75, 83, 91]), 43) := by decide +kernel
theorem d8_count_44 : zd b8_count 44 (.aload_n 0) 1 45 := ⟨by decide +kernel, rfl⟩
theorem d8_count_45 : zd b8_count 45 (.getfield 10) 3 48 := ⟨by decide +kernel, rfl⟩
theorem d8_count_48 : zd b8_count 48 (.getfield 71) 3 51 := ⟨by decide +kernel, rfl⟩
theorem d8_count_51 : zd b8_count 51 .ireturn 1 52 := ⟨by decide +kernel, rfl⟩
theorem d8_count_52 : zd b8_count 52 (.aload_n 0) 1 53 := ⟨by decide +kernel, rfl⟩
theorem d8_count_53 : zd b8_count 53 (.getfield 10) 3 56 := ⟨by decide +kernel, rfl⟩
theorem d8_count_56 : zd b8_count 56 (.getfield 121) 3 59 := ⟨by decide +kernel, rfl⟩
theorem d8_count_59 : zd b8_count 59 .ireturn 1 60 := ⟨by decide +kernel, rfl⟩
theorem d8_count_60 : zd b8_count 60 (.aload_n 0) 1 61 := ⟨by decide +kernel, rfl⟩
theorem d8_count_61 : zd b8_count 61 (.getfield 10) 3 64 := ⟨by decide +kernel, rfl⟩
theorem d8_count_64 : zd b8_count 64 (.getfield 151) 3 67 := ⟨by decide +kernel, rfl⟩
theorem d8_count_67 : zd b8_count 67 .ireturn 1 68 := ⟨by decide +kernel, rfl⟩
theorem d8_count_68 : zd b8_count 68 (.aload_n 0) 1 69 := ⟨by decide +kernel, rfl⟩
theorem d8_count_69 : zd b8_count 69 (.getfield 10) 3 72 := ⟨by decide +kernel, rfl⟩
theorem d8_count_72 : zd b8_count 72 (.getfield 154) 3 75 := ⟨by decide +kernel, rfl⟩
theorem d8_count_75 : zd b8_count 75 .ireturn 1 76 := ⟨by decide +kernel, rfl⟩
theorem d8_count_76 : zd b8_count 76 (.aload_n 0) 1 77 := ⟨by decide +kernel, rfl⟩
theorem d8_count_77 : zd b8_count 77 (.getfield 10) 3 80 := ⟨by decide +kernel, rfl⟩
theorem d8_count_80 : zd b8_count 80 (.getfield 286) 3 83 := ⟨by decide +kernel, rfl⟩
theorem d8_count_83 : zd b8_count 83 .ireturn 1 84 := ⟨by decide +kernel, rfl⟩
theorem d8_count_84 : zd b8_count 84 (.aload_n 0) 1 85 := ⟨by decide +kernel, rfl⟩
theorem d8_count_85 : zd b8_count 85 (.getfield 39) 3 88 := ⟨by decide +kernel, rfl⟩
theorem d8_count_88 : zd b8_count 88 (.getfield 251) 3 91 := ⟨by decide +kernel, rfl⟩
theorem d8_count_91 : zd b8_count 91 .ireturn 1 92 := ⟨by decide +kernel, rfl⟩
theorem d8_count_92 : zd b8_count 92 (.aload_n 0) 1 93 := ⟨by decide +kernel, rfl⟩
theorem d8_count_93 : zd b8_count 93 (.getfield 10) 3 96 := ⟨by decide +kernel, rfl⟩
theorem d8_count_96 : zd b8_count 96 (.getfield 197) 3 99 := ⟨by decide +kernel, rfl⟩
theorem d8_count_99 : zd b8_count 99 .ireturn 1 100 := ⟨by decide +kernel, rfl⟩
theorem d8_count_100 : zd b8_count 100 (.aload_n 0) 1 101 := ⟨by decide +kernel, rfl⟩
theorem d8_count_101 : zd b8_count 101 (.iconst 1) 1 102 := ⟨by decide +kernel, rfl⟩
theorem d8_count_102 : zd b8_count 102 (.invokevirtual 67) 3 105 := ⟨by decide +kernel, rfl⟩
theorem d8_count_105 : zd b8_count 105 .ireturn 1 106 := ⟨by decide +kernel, rfl⟩
def f8_count (k : Nat) (x1 : Int32) (σ : ZS) : Option (Int32 × ZS) :=
  if x1 = (0 : Int32) then (
  some ((σ 2 6), σ))
  else (
  if x1 = (1 : Int32) then (
  some ((σ 2 7), σ))
  else (
  if x1 = (2 : Int32) then (
  some ((σ 2 10), σ))
  else (
  if x1 = (3 : Int32) then (
  some ((σ 2 8), σ))
  else (
  if x1 = (4 : Int32) then (
  some ((σ 2 9), σ))
  else (
  if x1 = (5 : Int32) then (
  some ((σ 90 1), σ))
  else (
  if x1 = (6 : Int32) then (
  some ((σ 2 11), σ))
  else (
  zbd (f8_error k (1 : Int32) σ) fun r8 s8 =>
  some (r8, s8))))))))
theorem c8_count (l : Launch) (g : ZG) {k : Nat} {x1 : Int32} {σ : ZS} {r : Int32} {σr : ZS} (hf : f8_count k x1 σ = some (r, σr)) : zT l g y8_count b8_count 2 (some .int) 2 81 [zr 1, zi x1] σ (some (zi r)) σr := by
  unfold f8_count at hf
  refine zT_start (own := R8) rfl (by decide +kernel) 0 (L := [some (zr 1), some (zi x1)]) rfl rfl (fun x hl C => ?_)
  subst hl
  refine z_iload_n C d8_count_0 rfl ?_
  refine z_tsw C [((0 : Int32), 44), ((1 : Int32), 52), ((2 : Int32), 60), ((3 : Int32), 68), ((4 : Int32), 76), ((5 : Int32), 84), ((6 : Int32), 92)] (d := 100) d8_count_1 (by decide) (by decide) (by decide +kernel) ?_
  refine z_swc (fun c1 => ?_) (fun c1 => ?_)
  · have hf := zit c1 hf
    refine z_aload_n C d8_count_44 rfl ?_
    refine z_getR C d8_count_45 fl_261 kZ_1 2 rfl (zn0 kZ_2) ?_
    refine z_getI C d8_count_48 fl_125 kZ_2 ?_
    exact z_iret C d8_count_51 hf
  · have hf := zie c1 hf
    refine z_swc (fun c2 => ?_) (fun c2 => ?_)
    · have hf := zit c2 hf
      refine z_aload_n C d8_count_52 rfl ?_
      refine z_getR C d8_count_53 fl_261 kZ_1 2 rfl (zn0 kZ_2) ?_
      refine z_getI C d8_count_56 fl_128 kZ_2 ?_
      exact z_iret C d8_count_59 hf
    · have hf := zie c2 hf
      refine z_swc (fun c3 => ?_) (fun c3 => ?_)
      · have hf := zit c3 hf
        refine z_aload_n C d8_count_60 rfl ?_
        refine z_getR C d8_count_61 fl_261 kZ_1 2 rfl (zn0 kZ_2) ?_
        refine z_getI C d8_count_64 fl_134 kZ_2 ?_
        exact z_iret C d8_count_67 hf
      · have hf := zie c3 hf
        refine z_swc (fun c4 => ?_) (fun c4 => ?_)
        · have hf := zit c4 hf
          refine z_aload_n C d8_count_68 rfl ?_
          refine z_getR C d8_count_69 fl_261 kZ_1 2 rfl (zn0 kZ_2) ?_
          refine z_getI C d8_count_72 fl_130 kZ_2 ?_
          exact z_iret C d8_count_75 hf
        · have hf := zie c4 hf
          refine z_swc (fun c5 => ?_) (fun c5 => ?_)
          · have hf := zit c5 hf
            refine z_aload_n C d8_count_76 rfl ?_
            refine z_getR C d8_count_77 fl_261 kZ_1 2 rfl (zn0 kZ_2) ?_
            refine z_getI C d8_count_80 fl_132 kZ_2 ?_
            exact z_iret C d8_count_83 hf
          · have hf := zie c5 hf
            refine z_swc (fun c6 => ?_) (fun c6 => ?_)
            · have hf := zit c6 hf
              refine z_aload_n C d8_count_84 rfl ?_
              refine z_getR C d8_count_85 fl_266 kZ_1 90 rfl (zn0 kZ_90) ?_
              refine z_getI C d8_count_88 fl_222 kZ_90 ?_
              exact z_iret C d8_count_91 hf
            · have hf := zie c6 hf
              refine z_swc (fun c7 => ?_) (fun c7 => ?_)
              · have hf := zit c7 hf
                refine z_aload_n C d8_count_92 rfl ?_
                refine z_getR C d8_count_93 fl_261 kZ_1 2 rfl (zn0 kZ_2) ?_
                refine z_getI C d8_count_96 fl_136 kZ_2 ?_
                exact z_iret C d8_count_99 hf
              · have hf := zie c7 hf
                refine z_sw0 ?_
                refine z_aload_n C d8_count_100 rfl ?_
                refine z_iconst C (1 : Int32) d8_count_101 kI_1 ?_
                obtain ⟨r8, s8, h8, hf⟩ := zbx hf
                refine z_callVi C (as := [zi (1 : Int32)]) d8_count_102 w_308 yy8_error (c8_error x.2.1 g h8) yc8_error kZ_1 rfl rfl (Nat.le_of_ble_eq_true rfl) ⟨Nat.le_of_ble_eq_true rfl, Nat.le_of_ble_eq_true rfl⟩ ⟨Nat.zero_le _, Nat.zero_le _⟩ ?_
                exact z_iret C d8_count_105 hf
theorem d5_addByte_0 : zd b5_addByte 0 (.aload_n 0) 1 1 := ⟨by decide +kernel, rfl⟩
theorem d5_addByte_1 : zd b5_addByte 1 (.getfield 74) 3 4 := ⟨by decide +kernel, rfl⟩
theorem d5_addByte_4 : zdb b5_addByte 4 (.ifCond .lt 35) 35 7 39 := ⟨by decide +kernel, rfl, by decide⟩
theorem d5_addByte_7 : zd b5_addByte 7 (.aload_n 0) 1 8 := ⟨by decide +kernel, rfl⟩
theorem d5_addByte_8 : zd b5_addByte 8 (.getfield 74) 3 11 := ⟨by decide +kernel, rfl⟩
theorem d5_addByte_11 : zd b5_addByte 11 (.aload_n 0) 1 12 := ⟨by decide +kernel, rfl⟩
theorem d5_addByte_12 : zd b5_addByte 12 (.getfield 33) 3 15 := ⟨by decide +kernel, rfl⟩
theorem d5_addByte_15 : zd b5_addByte 15 .arraylength 1 16 := ⟨by decide +kernel, rfl⟩
theorem d5_addByte_16 : zdb b5_addByte 16 (.if_icmp .ge 23) 23 19 39 := ⟨by decide +kernel, rfl, by decide⟩
theorem d5_addByte_19 : zd b5_addByte 19 (.aload_n 0) 1 20 := ⟨by decide +kernel, rfl⟩
theorem d5_addByte_20 : zd b5_addByte 20 (.getfield 33) 3 23 := ⟨by decide +kernel, rfl⟩
theorem d5_addByte_23 : zd b5_addByte 23 (.aload_n 0) 1 24 := ⟨by decide +kernel, rfl⟩
theorem d5_addByte_24 : zd b5_addByte 24 (.getfield 74) 3 27 := ⟨by decide +kernel, rfl⟩
theorem d5_addByte_27 : zd b5_addByte 27 (.iload_n 1) 1 28 := ⟨by decide +kernel, rfl⟩
theorem d5_addByte_28 : zd b5_addByte 28 .iastore 1 29 := ⟨by decide +kernel, rfl⟩
theorem d5_addByte_29 : zd b5_addByte 29 (.aload_n 0) 1 30 := ⟨by decide +kernel, rfl⟩
theorem d5_addByte_30 : zd b5_addByte 30 .dup 1 31 := ⟨by decide +kernel, rfl⟩
theorem d5_addByte_31 : zd b5_addByte 31 (.getfield 74) 3 34 := ⟨by decide +kernel, rfl⟩
theorem d5_addByte_34 : zd b5_addByte 34 (.iconst 1) 1 35 := ⟨by decide +kernel, rfl⟩
theorem d5_addByte_35 : zd b5_addByte 35 .iadd 1 36 := ⟨by decide +kernel, rfl⟩
theorem d5_addByte_36 : zd b5_addByte 36 (.putfield 74) 3 39 := ⟨by decide +kernel, rfl⟩
theorem d5_addByte_39 : zd b5_addByte 39 .return_ 1 40 := ⟨by decide +kernel, rfl⟩
def f5_addByte (k : Nat) (t : Nat) (x1 : Int32) (σ : ZS) : Option (Unit × ZS) :=
  if zsh t = 6 then (
  if (σ t 8) < 0 then (
  some ((), σ))
  else (
  if (60 : Int32) ≤ (σ t 8) then (
  some ((), σ))
  else (
  if zin (σ t 8) 60 then (
  zput (zu σ (t + 5) ((σ t 8).toNatClampNeg) x1) fun s4 =>
  zput (zu s4 t 8 ((s4 t 8) + (1 : Int32))) fun s5 =>
  some ((), s5)) else none))) else none
theorem c5_addByte (l : Launch) (g : ZG) {k : Nat} {t : Nat} {x1 : Int32} {σ : ZS} {r : Unit} {σr : ZS} (hf : f5_addByte k t x1 σ = some (r, σr)) : zT l g y5_addByte b5_addByte 2 none 1 60 [zr t, zi x1] σ none σr := by
  unfold f5_addByte at hf
  obtain ⟨ht, hf⟩ := zgo hf
  refine zT_start (own := R5) rfl (by decide +kernel) 0 (L := [some (zr t), some (zi x1)]) rfl rfl (fun x hl C => ?_)
  subst hl
  refine z_aload_n C d5_addByte_0 rfl ?_
  refine z_getI C d5_addByte_1 fl_129 ht ?_
  refine z_if_lt C d5_addByte_4 (fun c1 => ?_) (fun c1 => ?_)
  · have hf := zit c1 hf
    exact z_vret C d5_addByte_39 hf
  · have hf := zie c1 hf
    refine z_aload_n C d5_addByte_7 rfl ?_
    refine z_getI C d5_addByte_8 fl_129 ht ?_
    refine z_aload_n C d5_addByte_11 rfl ?_
    refine z_getR C d5_addByte_12 fl_122 ht (t + 5) rfl (zn0 (zD6_5 ht)) ?_
    refine z_alen C (60 : Int32) d5_addByte_15 (zD6_5 ht) (zN6_5 ht) kO_60 ?_
    refine z_icmp_ge C d5_addByte_16 (fun c2 => ?_) (fun c2 => ?_)
    · have hf := zit c2 hf
      exact z_vret C d5_addByte_39 hf
    · have hf := zie c2 hf
      refine z_aload_n C d5_addByte_19 rfl ?_
      refine z_getR C d5_addByte_20 fl_122 ht (t + 5) rfl (zn0 (zD6_5 ht)) ?_
      refine z_aload_n C d5_addByte_23 rfl ?_
      refine z_getI C d5_addByte_24 fl_129 ht ?_
      refine z_iload_n C d5_addByte_27 rfl ?_
      obtain ⟨g3, hf⟩ := zgo hf
      obtain ⟨s4, e4, hf⟩ := zpx hf
      refine z_iast C d5_addByte_28 (zD6_5 ht) (zN6_5 ht) g3 rfl e4 ?_
      refine z_aload_n C d5_addByte_29 rfl ?_
      refine z_dup C d5_addByte_30 rfl ?_
      refine z_getI C d5_addByte_31 fl_129 ht ?_
      refine z_iconst C (1 : Int32) d5_addByte_34 kI_1 ?_
      refine z_iadd C d5_addByte_35 ?_
      obtain ⟨s5, e5, hf⟩ := zpx hf
      refine z_putI C d5_addByte_36 fl_129 ft_5_8 ht e5 ?_
      exact z_vret C d5_addByte_39 hf
theorem d8_feed_0 : zd b8_feed 0 (.iload_n 3) 1 1 := ⟨by decide +kernel, rfl⟩
theorem d8_feed_1 : zd b8_feed 1 (.iconst 1) 1 2 := ⟨by decide +kernel, rfl⟩
theorem d8_feed_2 : zdb b8_feed 2 (.if_icmp .lt 9) 9 5 11 := ⟨by decide +kernel, rfl, by decide⟩
theorem d8_feed_5 : zd b8_feed 5 (.iload_n 3) 1 6 := ⟨by decide +kernel, rfl⟩
theorem d8_feed_6 : zd b8_feed 6 (.bipush 8) 2 8 := ⟨by decide +kernel, rfl⟩
theorem d8_feed_8 : zdb b8_feed 8 (.if_icmp .le 9) 9 11 17 := ⟨by decide +kernel, rfl, by decide⟩
theorem d8_feed_11 : zd b8_feed 11 (.aload_n 0) 1 12 := ⟨by decide +kernel, rfl⟩
theorem d8_feed_12 : zd b8_feed 12 (.iconst 1) 1 13 := ⟨by decide +kernel, rfl⟩
theorem d8_feed_13 : zd b8_feed 13 (.invokevirtual 67) 3 16 := ⟨by decide +kernel, rfl⟩
theorem d8_feed_16 : zd b8_feed 16 .ireturn 1 17 := ⟨by decide +kernel, rfl⟩
theorem d8_feed_17 : zd b8_feed 17 (.aload_n 0) 1 18 := ⟨by decide +kernel, rfl⟩
theorem d8_feed_18 : zd b8_feed 18 (.getfield 10) 3 21 := ⟨by decide +kernel, rfl⟩
theorem d8_feed_21 : zd b8_feed 21 (.getfield 154) 3 24 := ⟨by decide +kernel, rfl⟩
theorem d8_feed_24 : zd b8_feed 24 (.iload_n 3) 1 25 := ⟨by decide +kernel, rfl⟩
theorem d8_feed_25 : zd b8_feed 25 .iadd 1 26 := ⟨by decide +kernel, rfl⟩
theorem d8_feed_26 : zd b8_feed 26 (.bipush 60) 2 28 := ⟨by decide +kernel, rfl⟩
theorem d8_feed_28 : zdb b8_feed 28 (.if_icmp .le 9) 9 31 37 := ⟨by decide +kernel, rfl, by decide⟩
theorem d8_feed_31 : zd b8_feed 31 (.aload_n 0) 1 32 := ⟨by decide +kernel, rfl⟩
theorem d8_feed_32 : zd b8_feed 32 (.iconst 4) 1 33 := ⟨by decide +kernel, rfl⟩
theorem d8_feed_33 : zd b8_feed 33 (.invokevirtual 67) 3 36 := ⟨by decide +kernel, rfl⟩
theorem d8_feed_36 : zd b8_feed 36 .ireturn 1 37 := ⟨by decide +kernel, rfl⟩
theorem d8_feed_37 : zd b8_feed 37 (.iconst 0) 1 38 := ⟨by decide +kernel, rfl⟩
theorem d8_feed_38 : zd b8_feed 38 (.istore 4) 2 40 := ⟨by decide +kernel, rfl⟩
theorem d8_feed_40 : zd b8_feed 40 (.iload 4) 2 42 := ⟨by decide +kernel, rfl⟩
theorem d8_feed_42 : zd b8_feed 42 (.iload_n 3) 1 43 := ⟨by decide +kernel, rfl⟩
theorem d8_feed_43 : zdb b8_feed 43 (.if_icmp .ge 28) 28 46 71 := ⟨by decide +kernel, rfl, by decide⟩
theorem d8_feed_46 : zd b8_feed 46 (.aload_n 0) 1 47 := ⟨by decide +kernel, rfl⟩
theorem d8_feed_47 : zd b8_feed 47 (.getfield 10) 3 50 := ⟨by decide +kernel, rfl⟩
theorem d8_feed_50 : zd b8_feed 50 (.lload_n 1) 1 51 := ⟨by decide +kernel, rfl⟩
theorem d8_feed_51 : zd b8_feed 51 (.bipush 8) 2 53 := ⟨by decide +kernel, rfl⟩
theorem d8_feed_53 : zd b8_feed 53 (.iload 4) 2 55 := ⟨by decide +kernel, rfl⟩
theorem d8_feed_55 : zd b8_feed 55 .imul 1 56 := ⟨by decide +kernel, rfl⟩
theorem d8_feed_56 : zd b8_feed 56 .lushr 1 57 := ⟨by decide +kernel, rfl⟩
theorem d8_feed_57 : zd b8_feed 57 .l2i 1 58 := ⟨by decide +kernel, rfl⟩
theorem d8_feed_58 : zd b8_feed 58 (.sipush 255) 3 61 := ⟨by decide +kernel, rfl⟩
theorem d8_feed_61 : zd b8_feed 61 .iand 1 62 := ⟨by decide +kernel, rfl⟩
theorem d8_feed_62 : zd b8_feed 62 (.invokevirtual 157) 3 65 := ⟨by decide +kernel, rfl⟩
theorem d8_feed_65 : zd b8_feed 65 (.iinc 4 1) 3 68 := ⟨by decide +kernel, rfl⟩
theorem d8_feed_68 : zdb b8_feed 68 (.goto (-28)) (-28) 71 40 := ⟨by decide +kernel, rfl, by decide⟩
theorem d8_feed_71 : zd b8_feed 71 (.aload_n 0) 1 72 := ⟨by decide +kernel, rfl⟩
theorem d8_feed_72 : zd b8_feed 72 (.getfield 10) 3 75 := ⟨by decide +kernel, rfl⟩
theorem d8_feed_75 : zd b8_feed 75 (.getfield 154) 3 78 := ⟨by decide +kernel, rfl⟩
theorem d8_feed_78 : zd b8_feed 78 .ireturn 1 79 := ⟨by decide +kernel, rfl⟩
def b8_feed_40 (k : Nat) (q40 : Int64 → Int32 → Int32 → ZS → Option (Int32 × ZS)) (x1 : Int64) (x3 : Int32) (x4 : Int32) (σ : ZS) : Option (Int32 × ZS) :=
  if x3 ≤ x4 then (
  some ((σ 2 8), σ))
  else (
  zbd (f5_addByte k 2 ((x1.toUInt64 >>> (((8 : Int32) * x4).toInt64.toUInt64 &&& Int64.toUInt64 63)).toInt64.toInt32 &&& (255 : Int32)) σ) fun _ s2 =>
  q40 x1 x3 (x4 + (1 : Int32)) s2)
def f8_feed_40 (k : Nat) : Nat → Int64 → Int32 → Int32 → ZS → Option (Int32 × ZS)
  | 0 => fun _ _ _ _ => none
  | n + 1 => b8_feed_40 k  (f8_feed_40 k  n)
theorem j8_feed_40 {x : ZX} {g : ZG} (C : zC x g b8_feed R8 (some .int) 5 2 81) {k : Nat} {r : Int32} {σr : ZS}  {q40 : Int64 → Int32 → Int32 → ZS → Option (Int32 × ZS)} (hq40 : (∀ (x1 : Int64) (x3 : Int32) (x4 : Int32) (σ : ZS), q40 x1 x3 x4 σ = some (r, σr) → zw x g 5 0 0 (zMQ x g (some (zi r)) σr) σ 40 [some (zr 1), some (zj x1), none, some (zi x3), some (zi x4)] [])) {x1 : Int64} {x3 : Int32} {x4 : Int32} {σ : ZS} (hf : b8_feed_40 k q40 x1 x3 x4 σ = some (r, σr)) : zw x g 5 0 0 (zMQ x g (some (zi r)) σr) σ 40 [some (zr 1), some (zj x1), none, some (zi x3), some (zi x4)] [] := by
  unfold b8_feed_40 at hf
  refine z_iload C d8_feed_40 rfl ?_
  refine z_iload_n C d8_feed_42 rfl ?_
  refine z_icmp_ge C d8_feed_43 (fun c1 => ?_) (fun c1 => ?_)
  · have hf := zit c1 hf
    refine z_aload_n C d8_feed_71 rfl ?_
    refine z_getR C d8_feed_72 fl_261 kZ_1 2 rfl (zn0 kZ_2) ?_
    refine z_getI C d8_feed_75 fl_130 kZ_2 ?_
    exact z_iret C d8_feed_78 hf
  · have hf := zie c1 hf
    refine z_aload_n C d8_feed_46 rfl ?_
    refine z_getR C d8_feed_47 fl_261 kZ_1 2 rfl (zn0 kZ_2) ?_
    refine z_lload_n C d8_feed_50 rfl ?_
    refine z_bipush C (8 : Int32) d8_feed_51 kB_8 ?_
    refine z_iload C d8_feed_53 rfl ?_
    refine z_imul C d8_feed_55 ?_
    refine z_lushr C d8_feed_56 ?_
    refine z_l2i C d8_feed_57 ?_
    refine z_sipush C (255 : Int32) d8_feed_58 kS_255 ?_
    refine z_iand C d8_feed_61 ?_
    obtain ⟨r2, s2, h2, hf⟩ := zbx hf
    refine z_callVv C (as := [zi ((x1.toUInt64 >>> (((8 : Int32) * x4).toInt64.toUInt64 &&& Int64.toUInt64 63)).toInt64.toInt32 &&& (255 : Int32))]) d8_feed_62 w_467 yy5_addByte (c5_addByte x.2.1 g h2) yc5_addByte kZ_2 rfl rfl (Nat.le_of_ble_eq_true rfl) ⟨Nat.le_of_ble_eq_true rfl, Nat.le_of_ble_eq_true rfl⟩ ⟨Nat.zero_le _, Nat.zero_le _⟩ ?_
    refine z_iinc C d8_feed_65 rfl kI_1 (Nat.le_of_ble_eq_true rfl) rfl (L' := [some (zr 1), some (zj x1), none, some (zi x3), some (zi (x4 + (1 : Int32)))]) rfl ?_
    refine z_goto C d8_feed_68 ?_
    exact hq40 _ _ _ _ hf
theorem j8_feed_40l {x : ZX} {g : ZG} (C : zC x g b8_feed R8 (some .int) 5 2 81) {k : Nat} {r : Int32} {σr : ZS}  : ∀ (n : Nat) (x1 : Int64) (x3 : Int32) (x4 : Int32) (σ : ZS), f8_feed_40 k  n x1 x3 x4 σ = some (r, σr) → zw x g 5 0 0 (zMQ x g (some (zi r)) σr) σ 40 [some (zr 1), some (zj x1), none, some (zi x3), some (zi x4)] [] := by
  intro n
  induction n with
  | zero => intro x1 x3 x4 σ hf; exact absurd (show none = some (r, σr) from hf) (fun z => by cases z)
  | succ n ih => intro x1 x3 x4 σ hf; exact j8_feed_40 C  ih (show b8_feed_40 k  (f8_feed_40 k  n) x1 x3 x4 σ = some (r, σr) from hf)
def f8_feed (k : Nat) (x1 : Int64) (x3 : Int32) (σ : ZS) : Option (Int32 × ZS) :=
  if x3 < (1 : Int32) then (
  zbd (f8_error k (1 : Int32) σ) fun r2 s2 =>
  some (r2, s2))
  else (
  if x3 ≤ (8 : Int32) then (
  if ((σ 2 8) + x3) ≤ (60 : Int32) then (
  f8_feed_40 k  k x1 x3 (0 : Int32) σ)
  else (
  zbd (f8_error k (4 : Int32) σ) fun r5 s5 =>
  some (r5, s5)))
  else (
  zbd (f8_error k (1 : Int32) σ) fun r6 s6 =>
  some (r6, s6)))
theorem c8_feed (l : Launch) (g : ZG) {k : Nat} {x1 : Int64} {x3 : Int32} {σ : ZS} {r : Int32} {σr : ZS} (hf : f8_feed k x1 x3 σ = some (r, σr)) : zT l g y8_feed b8_feed 5 (some .int) 2 81 [zr 1, zj x1, zi x3] σ (some (zi r)) σr := by
  unfold f8_feed at hf
  refine zT_start (own := R8) rfl (by decide +kernel) 1 (L := [some (zr 1), some (zj x1), none, some (zi x3), none]) rfl rfl (fun x hl C => ?_)
  subst hl
  refine z_iload_n C d8_feed_0 rfl ?_
  refine z_iconst C (1 : Int32) d8_feed_1 kI_1 ?_
  refine z_icmp_lt C d8_feed_2 (fun c1 => ?_) (fun c1 => ?_)
  · have hf := zit c1 hf
    refine z_aload_n C d8_feed_11 rfl ?_
    refine z_iconst C (1 : Int32) d8_feed_12 kI_1 ?_
    obtain ⟨r2, s2, h2, hf⟩ := zbx hf
    refine z_callVi C (as := [zi (1 : Int32)]) d8_feed_13 w_308 yy8_error (c8_error x.2.1 g h2) yc8_error kZ_1 rfl rfl (Nat.le_of_ble_eq_true rfl) ⟨Nat.le_of_ble_eq_true rfl, Nat.le_of_ble_eq_true rfl⟩ ⟨Nat.zero_le _, Nat.zero_le _⟩ ?_
    exact z_iret C d8_feed_16 hf
  · have hf := zie c1 hf
    refine z_iload_n C d8_feed_5 rfl ?_
    refine z_bipush C (8 : Int32) d8_feed_6 kB_8 ?_
    refine z_icmp_le C d8_feed_8 (fun c3 => ?_) (fun c3 => ?_)
    · have hf := zit c3 hf
      refine z_aload_n C d8_feed_17 rfl ?_
      refine z_getR C d8_feed_18 fl_261 kZ_1 2 rfl (zn0 kZ_2) ?_
      refine z_getI C d8_feed_21 fl_130 kZ_2 ?_
      refine z_iload_n C d8_feed_24 rfl ?_
      refine z_iadd C d8_feed_25 ?_
      refine z_bipush C (60 : Int32) d8_feed_26 kB_60 ?_
      refine z_icmp_le C d8_feed_28 (fun c4 => ?_) (fun c4 => ?_)
      · have hf := zit c4 hf
        refine z_iconst C (0 : Int32) d8_feed_37 kI_0 ?_
        refine z_istore C d8_feed_38 (Nat.le_of_ble_eq_true rfl) rfl (L' := [some (zr 1), some (zj x1), none, some (zi x3), some (zi (0 : Int32))]) rfl ?_
        exact j8_feed_40l C  _ _ _ _ _ hf
      · have hf := zie c4 hf
        refine z_aload_n C d8_feed_31 rfl ?_
        refine z_iconst C (4 : Int32) d8_feed_32 kI_4 ?_
        obtain ⟨r5, s5, h5, hf⟩ := zbx hf
        refine z_callVi C (as := [zi (4 : Int32)]) d8_feed_33 w_308 yy8_error (c8_error x.2.1 g h5) yc8_error kZ_1 rfl rfl (Nat.le_of_ble_eq_true rfl) ⟨Nat.le_of_ble_eq_true rfl, Nat.le_of_ble_eq_true rfl⟩ ⟨Nat.zero_le _, Nat.zero_le _⟩ ?_
        exact z_iret C d8_feed_36 hf
    · have hf := zie c3 hf
      refine z_aload_n C d8_feed_11 rfl ?_
      refine z_iconst C (1 : Int32) d8_feed_12 kI_1 ?_
      obtain ⟨r6, s6, h6, hf⟩ := zbx hf
      refine z_callVi C (as := [zi (1 : Int32)]) d8_feed_13 w_308 yy8_error (c8_error x.2.1 g h6) yc8_error kZ_1 rfl rfl (Nat.le_of_ble_eq_true rfl) ⟨Nat.le_of_ble_eq_true rfl, Nat.le_of_ble_eq_true rfl⟩ ⟨Nat.zero_le _, Nat.zero_le _⟩ ?_
      exact z_iret C d8_feed_16 hf
theorem d8_writeSpin_0 : zd b8_writeSpin 0 (.iload_n 1) 1 1 := ⟨by decide +kernel, rfl⟩
theorem d8_writeSpin_1 : zdb b8_writeSpin 1 (.ifCond .lt 30) 30 4 31 := ⟨by decide +kernel, rfl, by decide⟩
theorem d8_writeSpin_4 : zd b8_writeSpin 4 (.iload_n 1) 1 5 := ⟨by decide +kernel, rfl⟩
theorem d8_writeSpin_5 : zd b8_writeSpin 5 (.iconst 1) 1 6 := ⟨by decide +kernel, rfl⟩
theorem d8_writeSpin_6 : zd b8_writeSpin 6 .iadd 1 7 := ⟨by decide +kernel, rfl⟩
theorem d8_writeSpin_7 : zd b8_writeSpin 7 (.aload_n 0) 1 8 := ⟨by decide +kernel, rfl⟩
theorem d8_writeSpin_8 : zd b8_writeSpin 8 (.getfield 49) 3 11 := ⟨by decide +kernel, rfl⟩
theorem d8_writeSpin_11 : zd b8_writeSpin 11 .arraylength 1 12 := ⟨by decide +kernel, rfl⟩
theorem d8_writeSpin_12 : zdb b8_writeSpin 12 (.if_icmp .ge 19) 19 15 31 := ⟨by decide +kernel, rfl, by decide⟩
theorem d8_writeSpin_15 : zd b8_writeSpin 15 (.aload_n 0) 1 16 := ⟨by decide +kernel, rfl⟩
theorem d8_writeSpin_16 : zd b8_writeSpin 16 (.getfield 49) 3 19 := ⟨by decide +kernel, rfl⟩
theorem d8_writeSpin_19 : zd b8_writeSpin 19 (.iload_n 1) 1 20 := ⟨by decide +kernel, rfl⟩
theorem d8_writeSpin_20 : zd b8_writeSpin 20 (.iload_n 2) 1 21 := ⟨by decide +kernel, rfl⟩
theorem d8_writeSpin_21 : zd b8_writeSpin 21 .iastore 1 22 := ⟨by decide +kernel, rfl⟩
theorem d8_writeSpin_22 : zd b8_writeSpin 22 (.aload_n 0) 1 23 := ⟨by decide +kernel, rfl⟩
theorem d8_writeSpin_23 : zd b8_writeSpin 23 (.getfield 49) 3 26 := ⟨by decide +kernel, rfl⟩
theorem d8_writeSpin_26 : zd b8_writeSpin 26 (.iload_n 1) 1 27 := ⟨by decide +kernel, rfl⟩
theorem d8_writeSpin_27 : zd b8_writeSpin 27 (.iconst 1) 1 28 := ⟨by decide +kernel, rfl⟩
theorem d8_writeSpin_28 : zd b8_writeSpin 28 .iadd 1 29 := ⟨by decide +kernel, rfl⟩
theorem d8_writeSpin_29 : zd b8_writeSpin 29 (.iload_n 3) 1 30 := ⟨by decide +kernel, rfl⟩
theorem d8_writeSpin_30 : zd b8_writeSpin 30 .iastore 1 31 := ⟨by decide +kernel, rfl⟩
theorem d8_writeSpin_31 : zd b8_writeSpin 31 .return_ 1 32 := ⟨by decide +kernel, rfl⟩
def f8_writeSpin (k : Nat) (x1 : Int32) (x2 : Int32) (x3 : Int32) (σ : ZS) : Option (Unit × ZS) :=
  if x1 < 0 then (
  some ((), σ))
  else (
  if (4 : Int32) ≤ (x1 + (1 : Int32)) then (
  some ((), σ))
  else (
  if zin x1 4 then (
  zput (zu σ 93 (x1.toNatClampNeg) x2) fun s4 =>
  if zin (x1 + (1 : Int32)) 4 then (
  zput (zu s4 93 ((x1 + (1 : Int32)).toNatClampNeg) x3) fun s6 =>
  some ((), s6)) else none) else none))
theorem c8_writeSpin (l : Launch) (g : ZG) {k : Nat} {x1 : Int32} {x2 : Int32} {x3 : Int32} {σ : ZS} {r : Unit} {σr : ZS} (hf : f8_writeSpin k x1 x2 x3 σ = some (r, σr)) : zT l g y8_writeSpin b8_writeSpin 4 none 1 60 [zr 1, zi x1, zi x2, zi x3] σ none σr := by
  unfold f8_writeSpin at hf
  refine zT_start (own := R8) rfl (by decide +kernel) 0 (L := [some (zr 1), some (zi x1), some (zi x2), some (zi x3)]) rfl rfl (fun x hl C => ?_)
  subst hl
  refine z_iload_n C d8_writeSpin_0 rfl ?_
  refine z_if_lt C d8_writeSpin_1 (fun c1 => ?_) (fun c1 => ?_)
  · have hf := zit c1 hf
    exact z_vret C d8_writeSpin_31 hf
  · have hf := zie c1 hf
    refine z_iload_n C d8_writeSpin_4 rfl ?_
    refine z_iconst C (1 : Int32) d8_writeSpin_5 kI_1 ?_
    refine z_iadd C d8_writeSpin_6 ?_
    refine z_aload_n C d8_writeSpin_7 rfl ?_
    refine z_getR C d8_writeSpin_8 fl_268 kZ_1 93 rfl (zn0 kZ_93) ?_
    refine z_alen C (4 : Int32) d8_writeSpin_11 kZ_93 kL_93 kO_4 ?_
    refine z_icmp_ge C d8_writeSpin_12 (fun c2 => ?_) (fun c2 => ?_)
    · have hf := zit c2 hf
      exact z_vret C d8_writeSpin_31 hf
    · have hf := zie c2 hf
      refine z_aload_n C d8_writeSpin_15 rfl ?_
      refine z_getR C d8_writeSpin_16 fl_268 kZ_1 93 rfl (zn0 kZ_93) ?_
      refine z_iload_n C d8_writeSpin_19 rfl ?_
      refine z_iload_n C d8_writeSpin_20 rfl ?_
      obtain ⟨g3, hf⟩ := zgo hf
      obtain ⟨s4, e4, hf⟩ := zpx hf
      refine z_iast C d8_writeSpin_21 kZ_93 kL_93 g3 rfl e4 ?_
      refine z_aload_n C d8_writeSpin_22 rfl ?_
      refine z_getR C d8_writeSpin_23 fl_268 kZ_1 93 rfl (zn0 kZ_93) ?_
      refine z_iload_n C d8_writeSpin_26 rfl ?_
      refine z_iconst C (1 : Int32) d8_writeSpin_27 kI_1 ?_
      refine z_iadd C d8_writeSpin_28 ?_
      refine z_iload_n C d8_writeSpin_29 rfl ?_
      obtain ⟨g5, hf⟩ := zgo hf
      obtain ⟨s6, e6, hf⟩ := zpx hf
      refine z_iast C d8_writeSpin_30 kZ_93 kL_93 g5 rfl e6 ?_
      exact z_vret C d8_writeSpin_31 hf
theorem d1_seesCell_0 : zd b1_seesCell 0 (.iconst 0) 1 1 := ⟨by decide +kernel, rfl⟩
theorem d1_seesCell_1 : zd b1_seesCell 1 (.istore_n 2) 1 2 := ⟨by decide +kernel, rfl⟩
theorem d1_seesCell_2 : zd b1_seesCell 2 (.iload_n 2) 1 3 := ⟨by decide +kernel, rfl⟩
theorem d1_seesCell_3 : zd b1_seesCell 3 (.aload_n 0) 1 4 := ⟨by decide +kernel, rfl⟩
theorem d1_seesCell_4 : zd b1_seesCell 4 (.getfield 24) 3 7 := ⟨by decide +kernel, rfl⟩
theorem d1_seesCell_7 : zdb b1_seesCell 7 (.if_icmp .ge 30) 30 10 37 := ⟨by decide +kernel, rfl, by decide⟩
theorem d1_seesCell_10 : zd b1_seesCell 10 (.iload_n 2) 1 11 := ⟨by decide +kernel, rfl⟩
theorem d1_seesCell_11 : zd b1_seesCell 11 (.aload_n 0) 1 12 := ⟨by decide +kernel, rfl⟩
theorem d1_seesCell_12 : zd b1_seesCell 12 (.getfield 11) 3 15 := ⟨by decide +kernel, rfl⟩
theorem d1_seesCell_15 : zd b1_seesCell 15 .arraylength 1 16 := ⟨by decide +kernel, rfl⟩
theorem d1_seesCell_16 : zdb b1_seesCell 16 (.if_icmp .ge 21) 21 19 37 := ⟨by decide +kernel, rfl, by decide⟩
theorem d1_seesCell_19 : zd b1_seesCell 19 (.aload_n 0) 1 20 := ⟨by decide +kernel, rfl⟩
theorem d1_seesCell_20 : zd b1_seesCell 20 (.getfield 11) 3 23 := ⟨by decide +kernel, rfl⟩
theorem d1_seesCell_23 : zd b1_seesCell 23 (.iload_n 2) 1 24 := ⟨by decide +kernel, rfl⟩
theorem d1_seesCell_24 : zd b1_seesCell 24 .iaload 1 25 := ⟨by decide +kernel, rfl⟩
theorem d1_seesCell_25 : zd b1_seesCell 25 (.iload_n 1) 1 26 := ⟨by decide +kernel, rfl⟩
theorem d1_seesCell_26 : zdb b1_seesCell 26 (.if_icmp .ne 5) 5 29 31 := ⟨by decide +kernel, rfl, by decide⟩
theorem d1_seesCell_29 : zd b1_seesCell 29 (.iconst 1) 1 30 := ⟨by decide +kernel, rfl⟩
theorem d1_seesCell_30 : zd b1_seesCell 30 .ireturn 1 31 := ⟨by decide +kernel, rfl⟩
theorem d1_seesCell_31 : zd b1_seesCell 31 (.iinc 2 1) 3 34 := ⟨by decide +kernel, rfl⟩
theorem d1_seesCell_34 : zdb b1_seesCell 34 (.goto (-32)) (-32) 37 2 := ⟨by decide +kernel, rfl, by decide⟩
theorem d1_seesCell_37 : zd b1_seesCell 37 (.iconst 0) 1 38 := ⟨by decide +kernel, rfl⟩
theorem d1_seesCell_38 : zd b1_seesCell 38 .ireturn 1 39 := ⟨by decide +kernel, rfl⟩
def b1_seesCell_2 (k : Nat) (q2 : Int32 → Int32 → ZS → Option (Int32 × ZS)) (x1 : Int32) (x2 : Int32) (σ : ZS) : Option (Int32 × ZS) :=
  if (σ 83 2) ≤ x2 then (
  some ((0 : Int32), σ))
  else (
  if (257 : Int32) ≤ x2 then (
  some ((0 : Int32), σ))
  else (
  if zin x2 257 then (
  if (σ 84 x2.toNatClampNeg) = x1 then (
  some ((1 : Int32), σ))
  else (
  q2 x1 (x2 + (1 : Int32)) σ)) else none))
def f1_seesCell_2 (k : Nat) : Nat → Int32 → Int32 → ZS → Option (Int32 × ZS)
  | 0 => fun _ _ _ => none
  | n + 1 => b1_seesCell_2 k  (f1_seesCell_2 k  n)
theorem j1_seesCell_2 {x : ZX} {g : ZG} (C : zC x g b1_seesCell R1 (some .boolean) 3 1 60) {k : Nat} {r : Int32} {σr : ZS}  {q2 : Int32 → Int32 → ZS → Option (Int32 × ZS)} (hq2 : (∀ (x1 : Int32) (x2 : Int32) (σ : ZS), q2 x1 x2 σ = some (r, σr) → zw x g 3 0 0 (zMQ x g (some (zi r)) σr) σ 2 [some (zr 83), some (zi x1), some (zi x2)] [])) {x1 : Int32} {x2 : Int32} {σ : ZS} (hf : b1_seesCell_2 k q2 x1 x2 σ = some (r, σr)) : zw x g 3 0 0 (zMQ x g (some (zi r)) σr) σ 2 [some (zr 83), some (zi x1), some (zi x2)] [] := by
  unfold b1_seesCell_2 at hf
  refine z_iload_n C d1_seesCell_2 rfl ?_
  refine z_aload_n C d1_seesCell_3 rfl ?_
  refine z_getI C d1_seesCell_4 fl_170 kZ_83 ?_
  refine z_icmp_ge C d1_seesCell_7 (fun c1 => ?_) (fun c1 => ?_)
  · have hf := zit c1 hf
    refine z_iconst C (0 : Int32) d1_seesCell_37 kI_0 ?_
    exact z_zret C d1_seesCell_38 (Or.inl rfl) hf
  · have hf := zie c1 hf
    refine z_iload_n C d1_seesCell_10 rfl ?_
    refine z_aload_n C d1_seesCell_11 rfl ?_
    refine z_getR C d1_seesCell_12 fl_168 kZ_83 84 rfl (zn0 kZ_84) ?_
    refine z_alen C (257 : Int32) d1_seesCell_15 kZ_84 kL_84 kO_257 ?_
    refine z_icmp_ge C d1_seesCell_16 (fun c2 => ?_) (fun c2 => ?_)
    · have hf := zit c2 hf
      refine z_iconst C (0 : Int32) d1_seesCell_37 kI_0 ?_
      exact z_zret C d1_seesCell_38 (Or.inl rfl) hf
    · have hf := zie c2 hf
      refine z_aload_n C d1_seesCell_19 rfl ?_
      refine z_getR C d1_seesCell_20 fl_168 kZ_83 84 rfl (zn0 kZ_84) ?_
      refine z_iload_n C d1_seesCell_23 rfl ?_
      obtain ⟨g3, hf⟩ := zgo hf
      refine z_iald C d1_seesCell_24 kZ_84 kL_84 g3 (x2.toNatClampNeg) rfl ?_
      refine z_iload_n C d1_seesCell_25 rfl ?_
      refine z_icmp_ne C d1_seesCell_26 (fun c4 => ?_) (fun c4 => ?_)
      · have hf := zit c4 hf
        refine z_iconst C (1 : Int32) d1_seesCell_29 kI_1 ?_
        exact z_zret C d1_seesCell_30 (Or.inr rfl) hf
      · have hf := zie c4 hf
        refine z_iinc C d1_seesCell_31 rfl kI_1 (Nat.le_of_ble_eq_true rfl) rfl (L' := [some (zr 83), some (zi x1), some (zi (x2 + (1 : Int32)))]) rfl ?_
        refine z_goto C d1_seesCell_34 ?_
        exact hq2 _ _ _ hf
theorem j1_seesCell_2l {x : ZX} {g : ZG} (C : zC x g b1_seesCell R1 (some .boolean) 3 1 60) {k : Nat} {r : Int32} {σr : ZS}  : ∀ (n : Nat) (x1 : Int32) (x2 : Int32) (σ : ZS), f1_seesCell_2 k  n x1 x2 σ = some (r, σr) → zw x g 3 0 0 (zMQ x g (some (zi r)) σr) σ 2 [some (zr 83), some (zi x1), some (zi x2)] [] := by
  intro n
  induction n with
  | zero => intro x1 x2 σ hf; exact absurd (show none = some (r, σr) from hf) (fun z => by cases z)
  | succ n ih => intro x1 x2 σ hf; exact j1_seesCell_2 C  ih (show b1_seesCell_2 k  (f1_seesCell_2 k  n) x1 x2 σ = some (r, σr) from hf)
def f1_seesCell (k : Nat) (x1 : Int32) (σ : ZS) : Option (Int32 × ZS) :=
  f1_seesCell_2 k  k x1 (0 : Int32) σ
theorem c1_seesCell (l : Launch) (g : ZG) {k : Nat} {x1 : Int32} {σ : ZS} {r : Int32} {σr : ZS} (hf : f1_seesCell k x1 σ = some (r, σr)) : zT l g y1_seesCell b1_seesCell 3 (some .boolean) 1 60 [zr 83, zi x1] σ (some (zi r)) σr := by
  unfold f1_seesCell at hf
  refine zT_start (own := R1) rfl (by decide +kernel) 1 (L := [some (zr 83), some (zi x1), none]) rfl rfl (fun x hl C => ?_)
  subst hl
  refine z_iconst C (0 : Int32) d1_seesCell_0 kI_0 ?_
  refine z_istore_n C d1_seesCell_1 (Nat.le_of_ble_eq_true rfl) rfl (L' := [some (zr 83), some (zi x1), some (zi (0 : Int32))]) rfl ?_
  exact j1_seesCell_2l C  _ _ _ _ hf
end
section
/-! constructors: the cells that a walk makes, one behind the other from place n on: F j is the cell at n + j, k of them so far -/
def yu (F : Nat → va_E) (j : Nat) (e : va_E) : Nat → va_E := fun i => if i = j then e else F i
def yj (F : Nat → va_E) (m : Nat) (G : Nat → va_E) : Nat → va_E := fun i => if i < m then F i else G (i - m)
def yA (g : ZG) (n : Nat) : Nat → Prop := fun q => g.1 + n ≤ q
def yP (g : ZG) (n : Nat) (F : Nat → va_E) (k : Nat) (H : Heap) : Prop := (∀ j, j < k → va_at g.2.1 zcl (g.1 + (n + j), F j) H) ∧ H.size = g.1 + (n + k)
def yw (x : ZX) (g : ZG) (nL : Nat) (kc ks : Nat) (Q : State → Prop) (n : Nat) (F : Nat → va_E) (k : Nat) (pc : Nat) (L : List (Option ZV)) (st : List ZV) : Prop :=
  ∀ (H : Heap) (locs : List Loc) (ls : Array Slot), yP g n F k H → va_S (yA g n) x.2.2.2.2.1.heap H locs → zlh g ls nL L →
    W x.1 x.2.1 x.2.2.1 x.2.2.2.1 x.2.2.2.2.1 x.2.2.2.2.2.1 x.2.2.2.2.2.2.1 x.2.2.2.2.2.2.2.1 x.2.2.2.2.2.2.2.2.1 x.2.2.2.2.2.2.2.2.2 H locs kc ks Q (F0 x.2.2.2.2.2.1 pc ls (st.map (zval g)))
def yC (x : ZX) (g : ZG) (cc : ByteArray) (own : String) (ret : Option FieldType) (nL fr lo mc ms n : Nat) : Prop := zC x g cc own ret nL fr lo ∧ (mc ≤ x.2.2.2.1.cells ∧ ms ≤ x.2.2.2.1.slots) ∧ (0 < n ∧ n < 200)
def yQ (g : ZG) (n : Nat) (F : Nat → va_E) (k : Nat) : Array Value → State → Outcome → State → Prop := fun _ st o t => o = .returned none ∧ yP g n F k t.heap ∧ va_F (yA g n) st t
/-- a contract that makes cells -/
def yT (l : Launch) (g : ZG) (y : MethodName) (cc : ByteArray) (nL : Nat) (fr lo mc ms n : Nat) (as : List ZV) (F : Nat → va_E) (k : Nat) (F' : Nat → va_E) (k' : Nat) : Prop :=
  Met l y (.code y cc nL none :: lw_gd) { frames := fr, cells := mc, slots := ms, locals := lo } (va_Pc (as.map (zval g)) (fun U => yP g n F k U.heap ∧ zK g U)) (yQ g n F' k') mc ms (yA g n)
theorem yA_zA {g : ZG} {n q : Nat} (h0 : 0 < n) (h : yA g n q) : zA g q := by
  show g.1 < q
  have : g.1 + n ≤ q := h
  omega
theorem va_S.wide {A B : Nat → Prop} {H0 H : Heap} {locs : List Loc} (h : va_S A H0 H locs) (hAB : ∀ q, A q → B q) : va_S B H0 H locs := ⟨h.1, fun q h1 h2 => h.2.1 q h1 (fun z => h2 (hAB q z)), fun l hl => hAB _ (h.2.2 l hl)⟩
theorem zlh_start {g : ZG} {nL m : Nat} {as : List ZV} {L : List (Option ZV)} (hL : zent as ++ List.replicate m none = L) (hn : (zent as).length + m = nL) : zlh g ((lg_sl (as.map (zval g)) ++ List.replicate (nL - (lg_sl (as.map (zval g))).length) Slot.unset).toArray) nL L := by
  have hlen : ∀ as : List ZV, (lg_sl (as.map (zval g))).length = (zent as).length := by
    intro as
    induction as with
    | nil => rfl
    | cons a as ih =>
      have h2 : lg_sl ((a :: as).map (zval g)) = (if (zval g a).category = 2 then [Slot.val (zval g a), Slot.second] else [Slot.val (zval g a)]) ++ lg_sl (as.map (zval g)) := by
        simp only [lg_sl, List.map_cons, List.flatMap_cons]
      rw [h2, List.length_append, ih, zval_cat]
      rcases a with a | a | a
      · simp [zlong, zent]; omega
      · simp [zlong, zent]; omega
      · simp [zlong, zent]; omega
  have hl := lv_entry (as.map (zval g)) (n := nL) (by rw [hlen as]; omega)
  refine ⟨hl.1, hl.2.1, fun i v hi => ?_⟩
  have h1 : zat (zent as) i = some v := by
    rw [← hL] at hi
    clear hn hL hl
    generalize zent as = z at hi
    induction z generalizing i with
    | nil =>
      exfalso
      rw [List.nil_append] at hi
      induction m generalizing i with
      | zero => simp [zat] at hi
      | succ m ihm => cases i with
        | zero => simp [List.replicate, zat] at hi
        | succ i => exact ihm i (by simpa [List.replicate, zat] using hi)
    | cons a z ih => cases i with
      | zero => simpa [zat] using hi
      | succ i => exact ih i (by simpa [zat] using hi)
  have h2 := zlh_entry (g := g) as 0 i v h1
  rw [Nat.zero_add] at h2
  exact hl.2.2 (i, zval g v) h2
theorem yT_start {l : Launch} {g : ZG} {y : MethodName} {cc : ByteArray} {nL : Nat} {fr lo mc ms n : Nat} {as : List ZV} {F : Nat → va_E} {k : Nat} {F' : Nat → va_E} {k' : Nat} {own : String} (ho : y.cls = own) (hy : plainName own = true) (hn0 : 0 < n ∧ n < 200) (m : Nat) {L : List (Option ZV)} (hL : zent as ++ List.replicate m none = L) (hn : (zent as).length + m = nL)
    (K : ∀ x : ZX, x.2.1 = l → yC x g cc own none nL fr lo mc ms n → x.2.2.2.2.2.2.2.2.1.name = y.name → yw x g nL 0 0 (MQ x.2.2.2.2.2.2.2.1 (yQ g n F' k') x.2.2.2.2.2.2.1 x.2.2.2.2.1 mc ms (yA g n)) n F k 0 L []) : yT l g y cc nL fr lo mc ms n as F k F' k' := by
  subst ho
  refine Met.ofW (cc := cc) (maxL := nL) (ret := none) hy rfl ?_
  intro p e s m0 args below meth c s₁ B hml hv
  obtain ⟨rfl, hP, hK⟩ := hv
  have hts := atoms_spec (ws := .code y cc nL none :: lw_gd) B.pre
  have C : yC (p, l, e, { frames := fr, cells := mc, slots := ms, locals := lo }, s, m0, (as.map (zval g)).toArray, below, meth, c) g cc y.cls none nL fr lo mc ms n :=
    ⟨⟨B.exec, B.bytes, B.returns, hml, findClass_of_methodNamed B.named, fun w hw => hts w (List.mem_cons_of_mem _ hw), B.notSynchronized, ⟨Nat.le_refl _, Nat.le_refl _⟩, hK⟩, ⟨Nat.le_refl _, Nat.le_refl _⟩, hn0⟩
  rw [lg_entry_eq]
  exact K (p, l, e, _, s, m0, _, below, meth, c) rfl C (name_of_methodNamed B.named B.method).1 s.heap [] _ hP va_S.rf (zlh_start hL hn)
section
variable {x : ZX} {g : ZG} {cc : ByteArray} {own : String} {ret : Option FieldType} {nL fr lo mc ms kc ks : Nat} {Q : State → Prop} {n : Nat} {F : Nat → va_E} {k pc q t : Nat} {L : List (Option ZV)} {st : List ZV}
theorem yrv {j : Nat} (hn : 0 < n ∧ n < 200) (hj : j < 800) : zrv g (n + j) = .ref (g.1 + (n + j)) := by
  rw [zrv, if_neg (by omega), if_neg (by omega)]
theorem y_iconst (C : yC x g cc own ret nL fr lo mc ms n) {i : Int} (v : Int32) (hd : zd cc pc (.iconst i) 1 q) (hv : Int32.ofInt i = v) (K : yw x g nL kc ks Q n F k q L (zi v :: st)) : yw x g nL kc ks Q n F k pc L st := by
  obtain ⟨d, rfl⟩ := hd
  exact fun H locs ls hP hS hl => lv_iconst C.1.1 C.1.2.1 d hv (K H locs ls hP hS hl)
theorem y_bipush (C : yC x g cc own ret nL fr lo mc ms n) {i : Int} (v : Int32) (hd : zd cc pc (.bipush i) 2 q) (hv : (Int8.ofInt i).toInt32 = v) (K : yw x g nL kc ks Q n F k q L (zi v :: st)) : yw x g nL kc ks Q n F k pc L st := by
  obtain ⟨d, rfl⟩ := hd
  exact fun H locs ls hP hS hl => lv_bipush C.1.1 C.1.2.1 d hv (K H locs ls hP hS hl)
theorem y_sipush (C : yC x g cc own ret nL fr lo mc ms n) {i : Int} (v : Int32) (hd : zd cc pc (.sipush i) 3 q) (hv : (Int16.ofInt i).toInt32 = v) (K : yw x g nL kc ks Q n F k q L (zi v :: st)) : yw x g nL kc ks Q n F k pc L st := by
  obtain ⟨d, rfl⟩ := hd
  exact fun H locs ls hP hS hl => lv_sipush C.1.1 C.1.2.1 d hv (K H locs ls hP hS hl)
theorem y_iload_n (C : yC x g cc own ret nL fr lo mc ms n) {i : Fin 4} {v : Int32} (hd : zd cc pc (.iload_n i) 1 q) (hl : zat L i = some (zi v)) (K : yw x g nL kc ks Q n F k q L (zi v :: st)) : yw x g nL kc ks Q n F k pc L st := by
  obtain ⟨d, rfl⟩ := hd
  exact fun H locs ls hP hS h => lv_iload_n C.1.1 C.1.2.1 d rfl (h.2.2 _ _ hl) (K H locs ls hP hS h)
theorem y_aload_n (C : yC x g cc own ret nL fr lo mc ms n) {i : Fin 4} {j : Nat} (hd : zd cc pc (.aload_n i) 1 q) (hl : zat L i = some (zr (n + j))) (hj : j < 800) (K : yw x g nL kc ks Q n F k q L (zr (n + j) :: st)) : yw x g nL kc ks Q n F k pc L st := by
  obtain ⟨d, rfl⟩ := hd
  intro H locs ls hP hS h
  have h1 := h.2.2 _ _ hl
  have h2 := K H locs ls hP hS h
  change W _ _ _ _ _ _ _ _ _ _ _ _ _ _ _ (F0 _ _ _ (zrv g (n + j) :: st.map (zval g))) at h2
  change ls[_]? = some (Slot.val (zrv g (n + j))) at h1
  rw [yrv C.2.2 hj] at h1 h2
  exact lv_aload_n C.1.1 C.1.2.1 d rfl h1 h2
theorem y_istore_n (C : yC x g cc own ret nL fr lo mc ms n) {i : Fin 4} {v : Int32} {L' : List (Option ZV)} (hd : zd cc pc (.istore_n i) 1 q) (hn : (i : Nat) < nL) (hw : zlow L i = true) (hL : zset L i (zi v) = L') (K : yw x g nL kc ks Q n F k q L' st) : yw x g nL kc ks Q n F k pc L (zi v :: st) := by
  obtain ⟨d, rfl⟩ := hd
  subst hL
  exact fun H locs ls hP hS h => lv_istore_n C.1.1 C.1.2.1 d rfl h.has hn rfl fun ls' h' => K H locs ls' hP hS (zlh.stored hw h')
theorem y_iinc (C : yC x g cc own ret nL fr lo mc ms n) {i : Nat} {z : Int} {v v' : Int32} {L' : List (Option ZV)} (hd : zd cc pc (.iinc i z) 3 q) (hl : zat L i = some (zi v)) (hv : v + Int32.ofInt z = v') (hn : i < nL) (hw : zlow L i = true) (hL : zset L i (zi v') = L') (K : yw x g nL kc ks Q n F k q L' st) : yw x g nL kc ks Q n F k pc L st := by
  obtain ⟨d, rfl⟩ := hd
  subst hL; subst hv
  intro H locs ls hP hS h
  obtain ⟨j, hj⟩ := List.getElem?_of_mem (zas_mem (g := g) hl)
  exact lv_iinc C.1.1 C.1.2.1 d h.has hj rfl hn rfl fun ls' h' => K H locs ls' hP hS (zlh.stored hw h')
theorem y_dup (C : yC x g cc own ret nL fr lo mc ms n) {v : ZV} (hd : zd cc pc .dup 1 q) (hv : zlong (some v) = false) (K : yw x g nL kc ks Q n F k q L (v :: v :: st)) : yw x g nL kc ks Q n F k pc L (v :: st) := by
  obtain ⟨d, rfl⟩ := hd
  exact fun H locs ls hP hS h => lv_dup C.1.1 C.1.2.1 d (by rw [zval_cat, hv]; decide) (K H locs ls hP hS h)
theorem y_goto (C : yC x g cc own ret nL fr lo mc ms n) {off : Int} (hd : zdb cc pc (.goto off) off q t) (K : yw x g nL kc ks Q n F k t L st) : yw x g nL kc ks Q n F k pc L st :=
  fun H locs ls hP hS h => lv_goto C.1.1 C.1.2.1 hd.1 hd.2.2 (K H locs ls hP hS h)
theorem y_icmp_ge (C : yC x g cc own ret nL fr lo mc ms n) {a b : Int32} {off : Int} (hd : zdb cc pc (.if_icmp .ge off) off q t) (kt : b ≤ a → yw x g nL kc ks Q n F k t L st) (kf : ¬ b ≤ a → yw x g nL kc ks Q n F k q L st) : yw x g nL kc ks Q n F k pc L (zi b :: zi a :: st) := by
  obtain ⟨d, rfl, ht⟩ := hd
  exact fun H locs ls hP hS h => lv_icmp_ge C.1.1 C.1.2.1 d ht (fun z => kt z H locs ls hP hS h) (fun z => kf z H locs ls hP hS h)
/-- Object's constructor -/
theorem y_obj (C : yC x g cc own ret nL fr lo mc ms n) {idx j : Nat} (hd : zd cc pc (.invokespecial idx) 3 q) (hw : Cond.methodLink own idx Lib.objectInit ∈ lw_gd) (ho : Cond.instanceMethod Lib.objectInit ∈ lw_gd ∧ Cond.code Lib.objectInit ⟨#[0xb1]⟩ 1 none ∈ lw_gd) (hj : j < 800) (hst : st = []) (hR : 1 ≤ fr ∧ 20 ≤ lo) (K : yw x g nL kc ks Q n F k q L st) : yw x g nL kc ks Q n F k pc L (zr (n + j) :: st) := by
  obtain ⟨d, rfl⟩ := hd
  subst hst
  have hts := C.1.2.2.2.2.2.1
  intro H locs ls hP hS h
  show W _ _ _ _ _ _ _ _ _ _ _ _ _ _ _ (F0 _ _ _ (zrv g (n + j) :: []))
  rw [yrv C.2.2 hj]
  exact W.objInit C.1.1 C.1.2.1 C.1.2.2.2.2.1 (hts _ hw) (hts _ ho.1) (hts _ ho.2) rfl (h.1.trans C.1.2.2.2.1.symm) rfl d (Nat.le_trans hR.1 C.1.2.2.2.2.2.2.2.1.1) (Nat.le_trans (by show 2 * 0 + 0 + 12 ≤ 20; omega) (Nat.le_trans hR.2 C.1.2.2.2.2.2.2.2.1.2)) (K H locs ls hP hS h)
theorem va_S.grown {A : Nat → Prop} {H0 H H1 : Heap} {locs : List Loc} (h : va_S A H0 H locs) (hz : H.size ≤ H1.size) (ho : ∀ q, q < H.size → H1[q]? = H[q]?) : va_S A H0 H1 locs := ⟨Nat.le_trans h.1 hz, fun q h1 h2 => (ho q (Nat.lt_of_lt_of_le h1 h.1)).trans (h.2.1 q h1 h2), h.2.2⟩
/-- one more cell -/
theorem yP.push {H H1 : Heap} {e : va_E} (h : yP g n F k H) (hz : H1.size = H.size + 1) (ho : ∀ q, q < H.size → H1[q]? = H[q]?) (he : va_at g.2.1 zcl (g.1 + (n + k), e) H1) : yP g n (yu F k e) (k + 1) H1 := by
  refine ⟨fun j hj => ?_, by rw [hz, h.2]; omega⟩
  by_cases hjk : j = k
  · subst hjk
    rw [yu, if_pos rfl]
    exact he
  · rw [yu, if_neg hjk]
    refine (h.1 j (by omega)).kept (ho _ ?_)
    rw [h.2]
    show g.1 + (n + j) < _
    omega
/-- a cell that changes -/
theorem yP.put {H H1 : Heap} {e : va_E} {j0 : Nat} (h : yP g n F k H) (hz : H1.size = H.size) (ho : ∀ q, q ≠ g.1 + (n + j0) → H1[q]? = H[q]?) (he : va_at g.2.1 zcl (g.1 + (n + j0), e) H1) : yP g n (yu F j0 e) k H1 := by
  refine ⟨fun j hj => ?_, by rw [hz, h.2]⟩
  by_cases hjk : j = j0
  · subst hjk
    rw [yu, if_pos rfl]
    exact he
  · rw [yu, if_neg hjk]
    refine (h.1 j (by omega)).kept (ho _ ?_)
    show g.1 + (n + j) ≠ _
    omega
theorem y_newo (C : yC x g cc own ret nL fr lo mc ms n) {idx ci : Nat} {Cn : String} {T : u_T} {N : Nat} {fs : List Value} (hd : zd cc pc (.new idx) 3 q) (hw : Cond.classLink own idx Cn ∈ lw_gd ∧ Cond.instantiable Cn N ∈ lw_gd ∧ Cond.initialized Cn ∈ lw_gd) (hc : zcl[ci]? = some (Cn, T, N)) (ty0 : Nat → FieldType) (hty : ∀ k, k < N → parseFieldDescriptor (T k).2.2.1 = some (ty0 k)) (hfs : ∀ j, j < N → defaultValue (ty0 j) = vp_V fs j) (hR : kc + 1 ≤ mc ∧ ks + N ≤ ms) {k' : Nat} (hk : k + 1 = k')
    (K : yw x g nL (kc + 1) (ks + N) Q n (yu F k (.inr (ci, fs))) k' q L (zr (n + k) :: st)) (hk8 : k < 800) : yw x g nL kc ks Q n F k pc L st := by
  obtain ⟨d, rfl⟩ := hd
  subst hk
  have hts := C.1.2.2.2.2.2.1
  obtain ⟨u1, -, -⟩ := zhu ci _ hc
  intro H locs ls hP hS h
  have hKn := C.1.2.2.2.2.2.2.2.2.1.1 ci _ hc
  refine W.newcK C.1.1 C.1.2.1 C.1.2.2.2.2.1 (hts _ hw.1) (hts _ hw.2.1) (hts _ hw.2.2) rfl d (Nat.le_trans hR.1 C.2.1.1) (Nat.le_trans hR.2 C.2.1.2) hKn.2.1 rfl fun H1 kC hkC e1 z1 o1 => ?_
  have hz2 := hP.2
  have e2 : va_at g.2.1 zcl (g.1 + (n + k), .inr (ci, fs)) H1 := by
    rw [← hz2]
    exact ⟨_, hc, (u_born ty0 hts u1 hKn hkC e1 hty).to hfs⟩
  have h2 := K H1 locs ls (hP.push z1 o1 e2) (hS.grown (by omega) o1) h
  change W _ _ _ _ _ _ _ _ _ _ _ _ _ _ _ (F0 _ _ _ (zrv g (n + k) :: st.map (zval g))) at h2
  rw [yrv C.2.2 hk8, ← hz2] at h2
  exact h2
theorem y_newa (C : yC x g cc own ret nL fr lo mc ms n) {v : Int32} {N : Nat} (hd : zd cc pc (.newarray .int) 2 q) (hw : Cond.arrayClass .int ∈ lw_gd) (hv : v = nI N) (hN : N < 2 ^ 20) (hR : kc + 1 ≤ mc ∧ ks + N ≤ ms) {k' : Nat} (hk : k + 1 = k') (hk8 : k < 800)
    (K : yw x g nL (kc + 1) (ks + N) Q n (yu F k (.inl (g.2.2.1 0, N, .inl fun _ => 0))) k' q L (zr (n + k) :: st)) : yw x g nL kc ks Q n F k pc L (zi v :: st) := by
  obtain ⟨d, rfl⟩ := hd
  subst hk; subst hv
  have hts := C.1.2.2.2.2.2.1
  intro H locs ls hP hS h
  have hz2 := hP.2
  refine va_newaK (atype := .int) C.1.1 C.1.2.1 (hts _ hw) rfl d rfl (nI_pos (by omega)) (nI_clamp (by omega)) (by show N * 4 ≤ _; omega) (Nat.le_trans hR.1 C.2.1.1) (Nat.le_trans hR.2 C.2.1.2) hz2 fun H1 cA e1 z1 o1 hAr hNm => ?_
  have hcA : cA = g.2.2.1 0 := by
    have h2 := (C.1.2.2.2.2.2.2.2.2.1.2 0 (g.2.2.1 0, .int) rfl).2
    exact Option.some.inj (hNm.symm.trans h2)
  subst hcA
  have h2 := K H1 locs ls (hP.push (by omega) (fun q hq => o1 q (by omega)) e1) (hS.grown (by omega) (fun q hq => o1 q (by omega))) h
  change W _ _ _ _ _ _ _ _ _ _ _ _ _ _ _ (F0 _ _ _ (zrv g (n + k) :: st.map (zval g))) at h2
  rw [yrv C.2.2 hk8] at h2
  exact h2
theorem y_newq (C : yC x g cc own ret nL fr lo mc ms n) {v : Int32} {N κ idx : Nat} (hd : zd cc pc (.anewarray idx) 3 q) (h1 : 11 ≤ κ) (h2 : κ < 15) (hw : Cond.classLink own idx (zrc κ) ∈ lw_gd) (hv : v = nI N) (hN : N < 2 ^ 20) (hR : kc + 1 ≤ mc ∧ ks + N ≤ ms) {k' : Nat} (hk : k + 1 = k') (hk8 : k < 800)
    (K : yw x g nL (kc + 1) (ks + N) Q n (yu F k (.inl (g.2.2.1 (κ - 10), N, .inr (.inr (.inr (.inr fun _ => none)))))) k' q L (zr (n + k) :: st)) : yw x g nL kc ks Q n F k pc L (zi v :: st) := by
  obtain ⟨d, rfl⟩ := hd
  subst hk; subst hv
  have hts := C.1.2.2.2.2.2.1
  intro H locs ls hP hS h
  have hz2 := hP.2
  refine W.anew C.1.1 C.1.2.1 C.1.2.2.2.2.1 (hts _ hw) (va_AO.use (C.1.2.2.2.2.2.2.2.2.2.2.2.2 κ h1 h2)) rfl d rfl (nI_pos (by omega)) (by rw [nI_clamp (by omega)]; omega) (Nat.le_trans hR.1 C.2.1.1) (by rw [nI_clamp (by omega)]; exact Nat.le_trans hR.2 C.2.1.2) fun cA kA comp f1 f2 f3 f4 => ?_
  rw [nI_clamp (by omega)]
  generalize hH1 : H.push ({ cls := cA, slots := Array.replicate N .null, vm := .none } : Cell) = H1
  have z1 : H1.size = H.size + 1 := by rw [← hH1, Array.size_push]
  have e1 : H1[H.size]? = some (arrV cA N (fun _ => .null)) := by rw [← hH1, Array.getElem?_push_size, ← arrV_new]
  have o1 : ∀ q : Nat, q < H.size → H1[q]? = H[q]? := fun q hq => by rw [← hH1, Array.getElem?_push, if_neg (Nat.ne_of_lt hq)]
  have hcA : cA = g.2.2.1 (κ - 10) := by
    obtain ⟨k2, c2, r1, r2, r3, r4⟩ := (C.1.2.2.2.2.2.2.2.2.1.2 (κ - 10) _ (ztys_at g h1 h2)).2
    exact Option.some.inj (f1.symm.trans r4)
  subst hcA
  rw [hz2] at e1
  have h3 := K H1 locs ls (hP.push z1 o1 e1) (hS.grown (by omega) o1) h
  change W _ _ _ _ _ _ _ _ _ _ _ _ _ _ _ (F0 _ _ _ (zrv g (n + k) :: st.map (zval g))) at h3
  rw [yrv C.2.2 hk8, ← hz2] at h3
  exact h3
theorem y_putF (C : yC x g cc own ret nL fr lo mc ms n) {idx ci kf j0 jw : Nat} {Cn : String} {T : u_T} {N : Nat} {fs fs' : List Value} (hd : zd cc pc (.putfield idx) 3 q) (hi : x.2.2.2.2.2.2.2.2.1.name = "<init>") (hc : zcl[ci]? = some (Cn, T, N)) (hk : kf < N) (h4 : (T kf).1 = own) (hw : Cond.fieldLink own idx own (T kf).2.1 (T kf).2.2.1 ∈ lw_gd) (hf : (T kf).2.2.2 = true) {ty : FieldType} (hty : parseFieldDescriptor (T kf).2.2.1 = some ty) (hn : ∀ a, narrow ty (.ref a) = .ref a) (hfit : ∀ a, fits ty (.ref a) = true)
    (hj : j0 < k) (hjw : jw < 800) (hk8 : k < 800) (he : F j0 = .inr (ci, fs)) (hs : fs.set kf (.ref (g.1 + (n + jw))) = fs') (hl : kf < fs.length) (K : yw x g nL kc ks Q n (yu F j0 (.inr (ci, fs'))) k q L st) : yw x g nL kc ks Q n F k pc L (zr (n + jw) :: zr (n + j0) :: st) := by
  obtain ⟨d, rfl⟩ := hd
  subst hs
  have hts := C.1.2.2.2.2.2.1
  obtain ⟨u1, ⟨ty0, u2⟩, u3⟩ := zhu ci _ hc
  intro H locs ls hP hS h
  show W _ _ _ _ _ _ _ _ _ _ _ _ _ _ _ (F0 _ _ _ (zrv g (n + jw) :: zrv g (n + j0) :: st.map (zval g)))
  rw [yrv C.2.2 hjw, yrv C.2.2 (by omega)]
  have hap := va_apart (own := own) hts u1 ty0 u2 u3 C.1.2.2.2.2.2.2.2.2.1 hc
  have h0 := hP.1 j0 hj
  rw [he] at h0
  obtain ⟨r, h1, cell, q1, q2, q3, q4⟩ := h0
  have hr : r = (Cn, T, N) := Option.some.inj (h1.symm.trans hc)
  subst hr
  obtain ⟨hS1, hfc, kC, hkC, hkind⟩ := C.1.2.2.2.2.2.2.2.2.1.1 ci _ hc
  obtain ⟨cf, kf2, fi, f, hi2, hsl⟩ := hS1 kf hk
  have hlay := hts _ (u1 _ (u_in_lay hk))
  unfold u_lay at hlay
  rw [if_pos hf] at hlay
  have hst := (u_facts hfc hkC (u_lays hts u1 hk) hi2).1
  have hcf : x.2.2.2.2.2.1.cls = cf := by
    obtain ⟨_, _, c', _, _, _, -, -, hf', -, -, -, hown2, -⟩ := Cond.laysFinal_spec hlay
    have e1 : c' = cf := by have := hi2.symm.trans hf'; simp at this; exact this.1.symm
    rw [h4] at hown2
    rw [← e1]; exact Option.some.inj (C.1.2.2.2.2.1.symm.trans hown2)
  have h6 := u_fits hfc hkC hkind (Or.inr hlay) hi2 hty (hn (g.1 + (n + jw))) (hfit (g.1 + (n + jw)))
  refine W.putFinK C.1.1 C.1.2.1 C.1.2.2.2.2.1 (hts _ hw) (by rw [h4] at hi2; exact hi2) hst hcf hi (by rw [q2]; exact h6) q1 q3 (by rw [hsl]; exact k2_hasslot (q4 kf hk)) rfl rfl d fun H' e1 e2 e3 => ?_
  rw [hsl] at e1 ⊢
  refine K H' _ ls (hP.put e2 e3 ⟨_, hc, t_OB.to (V := updV (vp_V fs) kf (.ref (g.1 + (n + jw)))) ⟨_, e1, q2, q3, t_set q4 hap hk _⟩ (fun j _ => vp_updV_set hl _ j)⟩) (hS.put e2 e3 (by show g.1 + n ≤ _; omega)) h
theorem y_putN (C : yC x g cc own ret nL fr lo mc ms n) {idx ci kf j0 : Nat} {w : Int32} {Cn : String} {T : u_T} {N : Nat} {fs fs' : List Value} (hd : zd cc pc (.putfield idx) 3 q) (hc : zcl[ci]? = some (Cn, T, N)) (hk : kf < N) (h4 : (T kf).1 = own) (hw : Cond.fieldLink own idx own (T kf).2.1 (T kf).2.2.1 ∈ lw_gd) (hf : (T kf).2.2.2 = false) (hty : parseFieldDescriptor (T kf).2.2.1 = some .int)
    (hj : j0 < k) (hk8 : k < 800) (he : F j0 = .inr (ci, fs)) (hs : fs.set kf (.int w) = fs') (hl : kf < fs.length) (K : yw x g nL kc ks Q n (yu F j0 (.inr (ci, fs'))) k q L st) : yw x g nL kc ks Q n F k pc L (zi w :: zr (n + j0) :: st) := by
  obtain ⟨d, rfl⟩ := hd
  subst hs
  have hts := C.1.2.2.2.2.2.1
  obtain ⟨u1, ⟨ty0, u2⟩, u3⟩ := zhu ci _ hc
  intro H locs ls hP hS h
  show W _ _ _ _ _ _ _ _ _ _ _ _ _ _ _ (F0 _ _ _ (.int w :: zrv g (n + j0) :: st.map (zval g)))
  rw [yrv C.2.2 (by omega)]
  have hap := va_apart (own := own) hts u1 ty0 u2 u3 C.1.2.2.2.2.2.2.2.2.1 hc
  have h0 := hP.1 j0 hj
  rw [he] at h0
  obtain ⟨r, h1, cell, q1, q2, q3, q4⟩ := h0
  have hr : r = (Cn, T, N) := Option.some.inj (h1.symm.trans hc)
  subst hr
  obtain ⟨hS1, hfc, kC, hkC, hkind⟩ := C.1.2.2.2.2.2.2.2.2.1.1 ci _ hc
  obtain ⟨cf, kf2, fi, f, hi2, hsl⟩ := hS1 kf hk
  have hlay := hts _ (u1 _ (u_in_lay hk))
  unfold u_lay at hlay
  rw [if_neg (by rw [hf]; decide)] at hlay
  have hst := (u_facts hfc hkC (u_lays hts u1 hk) hi2).1
  have h6 := u_store hfc hkC hkind hlay hi2 hty (v := .int w) rfl rfl
  refine W.putK C.1.1 C.1.2.1 (f := f) ⟨C.1.2.2.2.2.1, hts _ hw, ⟨_, _, _, by rw [h4] at hi2; exact hi2⟩, hst⟩ (by rw [q2]; exact h6) q1 q3 (by rw [hsl]; exact k2_hasslot (q4 kf hk)) rfl rfl d fun H' e1 e2 e3 => ?_
  rw [hsl] at e1 ⊢
  refine K H' _ ls (hP.put e2 e3 ⟨_, hc, t_OB.to (V := updV (vp_V fs) kf (.int w)) ⟨_, e1, q2, q3, t_set q4 hap hk _⟩ (fun j _ => vp_updV_set hl _ j)⟩) (hS.put e2 e3 (by show g.1 + n ≤ _; omega)) h
theorem y_getR (C : yC x g cc own ret nL fr lo mc ms n) {idx ci kf j0 j1 : Nat} {Cn : String} {T : u_T} {N : Nat} {fs : List Value} (hd : zd cc pc (.getfield idx) 3 q) (hc : zcl[ci]? = some (Cn, T, N)) (hk : kf < N) (h4 : (T kf).1 = own) (hw : Cond.fieldLink own idx own (T kf).2.1 (T kf).2.2.1 ∈ lw_gd) (hj : j0 < k) (hk8 : k < 800) (hj1 : j1 < 800) (he : F j0 = .inr (ci, fs)) (hs : fs[kf]? = some (.ref (g.1 + (n + j1))))
    (K : yw x g nL kc ks Q n F k q L (zr (n + j1) :: st)) : yw x g nL kc ks Q n F k pc L (zr (n + j0) :: st) := by
  obtain ⟨d, rfl⟩ := hd
  have hts := C.1.2.2.2.2.2.1
  obtain ⟨u1, -, -⟩ := zhu ci _ hc
  intro H locs ls hP hS h
  show W _ _ _ _ _ _ _ _ _ _ _ _ _ _ _ (F0 _ _ _ (zrv g (n + j0) :: st.map (zval g)))
  rw [yrv C.2.2 (by omega)]
  have h0 := hP.1 j0 hj
  rw [he] at h0
  have hP1 : va_P g.2.1 zcl [(g.1 + (n + j0), .inr (ci, fs))] H := fun i q hq => by
    cases i with
    | zero => cases hq; exact h0
    | succ i => simp at hq
  have h8 := K H locs ls hP hS h
  change W _ _ _ _ _ _ _ _ _ _ _ _ _ _ _ (F0 _ _ _ (zrv g (n + j1) :: st.map (zval g))) at h8
  rw [yrv C.2.2 hj1] at h8
  exact va_get C.1.1 C.1.2.1 hts u1 C.1.2.2.2.2.1 C.1.2.2.2.2.2.2.2.2.1 hP1 0 rfl hc kf hk (hts _ hw) (fun y hy => by rw [h4] at hy; exact hy) hs d h8
theorem y_alen (C : yC x g cc own ret nL fr lo mc ms n) {j0 N t0 : Nat} {a : _} {ty : FieldType} (v : Int32) (hd : zd cc pc .arraylength 1 q) (hj : j0 < k) (hk8 : k < 800) (he : F j0 = .inl (g.2.2.1 t0, N, a)) (ht : (ztys g)[t0]? = some (g.2.2.1 t0, ty)) (hv : Int32.ofNat N = v)
    (K : yw x g nL kc ks Q n F k q L (zi v :: st)) : yw x g nL kc ks Q n F k pc L (zr (n + j0) :: st) := by
  obtain ⟨d, rfl⟩ := hd
  intro H locs ls hP hS h
  show W _ _ _ _ _ _ _ _ _ _ _ _ _ _ _ (F0 _ _ _ (zrv g (n + j0) :: st.map (zval g)))
  rw [yrv C.2.2 (by omega)]
  have h0 := hP.1 j0 hj
  rw [he] at h0
  have hP1 : va_P g.2.1 zcl [(g.1 + (n + j0), .inl (g.2.2.1 t0, N, a))] H := fun i q hq => by
    cases i with
    | zero => cases hq; exact h0
    | succ i => simp at hq
  exact va_alen C.1.1 C.1.2.1 C.1.2.2.2.2.2.2.2.2.1 hP1 0 t0 rfl ht hv d (K H locs ls hP hS h)
theorem y_astq (C : yC x g cc own ret nL fr lo mc ms n) {j0 jv N κ ci : Nat} {f : Nat → Option Nat} {r : vw_C} {vs : List Value} {i : Int32} (hd : zd cc pc .aastore 1 q) (h1 : 11 ≤ κ) (h2 : κ < 15) (hj : j0 < k) (hjv : jv < k) (hk8 : k < 800) (he : F j0 = .inl (g.2.2.1 (κ - 10), N, .inr (.inr (.inr (.inr f))))) (hv : F jv = .inr (ci, vs)) (hc : zcl[ci]? = some r) (hr : r.1 = zrc κ) (hi : zin i N) {ii : Nat} (hii : i.toNatClampNeg = ii)
    (K : yw x g nL kc ks Q n (yu F j0 (.inl (g.2.2.1 (κ - 10), N, .inr (.inr (.inr (.inr (va_up f ii (some (g.1 + (n + jv)))))))))) k q L st) : yw x g nL kc ks Q n F k pc L (zr (n + jv) :: zi i :: zr (n + j0) :: st) := by
  obtain ⟨d, rfl⟩ := hd
  subst hii
  intro H locs ls hP hS h
  show W _ _ _ _ _ _ _ _ _ _ _ _ _ _ _ (F0 _ _ _ (zrv g (n + jv) :: .int i :: zrv g (n + j0) :: st.map (zval g)))
  rw [yrv C.2.2 (by omega), yrv C.2.2 (by omega)]
  have h0 := hP.1 j0 hj
  have h0v := hP.1 jv hjv
  rw [he] at h0
  rw [hv] at h0v
  have hin := zin_vp hi
  have hlt : i.toNatClampNeg < N := Nat.not_le.mp fun q => hin (Or.inr q)
  have hi0 : ¬ i < 0 := fun q => hin (Or.inl q)
  obtain ⟨r', hr', cellV, g1, g2, g3, -⟩ := h0v
  have hK := C.1.2.2.2.2.2.2.2.2.1
  have hcls := (hK.1 ci r hc).2
  obtain ⟨kA, comp, k1, k2, k3, -⟩ := (hK.2 (κ - 10) _ (ztys_at g h1 h2)).2
  rw [← hr] at k3
  have hcomp : comp = g.2.1.1 ci := Option.some.inj (k3.symm.trans hcls.1)
  subst hcomp
  have hcls2 := hcls.2
  obtain ⟨kC, hkC, -⟩ := hcls.2
  refine W.aast C.1.1 C.1.2.1 h0 (fun q h => by cases h) (fun h => by cases h) k1 k2 rfl hkC ⟨hi0, by show _ < (arrV _ _ _).slots.size; rw [arrV_size]; exact hlt⟩ g1 (fun q h => by rw [g3] at h; cases h) (by rw [g2]; exact hkC) (by rw [g2]; exact va_assign hcls) rfl rfl d fun H1 e z oq => ?_
  refine K H1 _ ls (hP.put z oq ?_) (hS.put z oq (by show g.1 + n ≤ _; omega)) h
  show H1[g.1 + (n + j0)]? = some (vp_cell _ _)
  rw [e, vp_cell_q, vp_cell_q, arrV_store]
  congr 2
  funext q
  by_cases hq : q = i.toNatClampNeg
  · subst hq
    simp [updV, va_up, va_rf]
  · simp [updV, va_up, hq]
theorem y_iast (C : yC x g cc own ret nL fr lo mc ms n) {j0 N : Nat} {f : Nat → Int32} {i v : Int32} (hd : zd cc pc .iastore 1 q) (hj : j0 < k) (hk8 : k < 800) (he : F j0 = .inl (g.2.2.1 0, N, .inl f)) (hi : zin i N) {ii : Nat} (hii : i.toNatClampNeg = ii)
    (K : yw x g nL kc ks Q n (yu F j0 (.inl (g.2.2.1 0, N, .inl (upd f ii v)))) k q L st) : yw x g nL kc ks Q n F k pc L (zi v :: zi i :: zr (n + j0) :: st) := by
  obtain ⟨d, rfl⟩ := hd
  subst hii
  intro H locs ls hP hS h
  show W _ _ _ _ _ _ _ _ _ _ _ _ _ _ _ (F0 _ _ _ (.int v :: .int i :: zrv g (n + j0) :: st.map (zval g)))
  rw [yrv C.2.2 (by omega)]
  have h0 := hP.1 j0 hj
  rw [he] at h0
  have hin := zin_vp hi
  refine W.iast C.1.1 C.1.2.1 h0 ((C.1.2.2.2.2.2.2.2.2.1.2 0 _ rfl).1 N (fun j => .int (f j))) (fun q => by cases q) (by show ¬ (i < 0 ∨ (arrV _ _ _).slots.size ≤ _); rw [arrV_size]; exact hin) rfl rfl d fun H1 e z oq => ?_
  refine K H1 _ ls (hP.put z oq ?_) (hS.put z oq (by show g.1 + n ≤ _; omega)) h
  show H1[g.1 + (n + j0)]? = some (vp_cell _ _)
  rw [e]
  show some ((vp_cell (g.2.2.1 0) (N, .inl f)).setSlot i.toNatClampNeg (.int v)) = some (vp_cell (g.2.2.1 0) (N, .inl (upd f i.toNatClampNeg v)))
  rw [vp_cell_i, vp_cell_i, arrV_store]
  congr 2
  funext q
  by_cases hq : q = i.toNatClampNeg
  · subst hq
    simp [updV, upd]
  · simp [updV, upd, hq]
theorem y_vret (C : yC x g cc own none nL fr lo mc ms n) {F' : Nat → va_E} {k' : Nat} (hd : zd cc pc .return_ 1 q) (hk : k = k') (hF : ∀ j, j < k → F j = F' j) (hkc : kc = mc) (hks : ks = ms) : yw x g nL kc ks (MQ x.2.2.2.2.2.2.2.1 (yQ g n F' k') x.2.2.2.2.2.2.1 x.2.2.2.2.1 mc ms (yA g n)) n F k pc L [] := by
  obtain ⟨d, rfl⟩ := hd
  subst hk; subst hkc; subst hks
  exact fun H locs ls hP hS hl => W.vret C.1.1 C.1.2.1 C.1.2.2.1 (fun t ht _ => ⟨rfl, by rw [ht]; exact ⟨fun j hj => by rw [← hF j hj]; exact hP.1 j hj, hP.2⟩, hS.F ht⟩) hS.2.2 d C.1.2.2.2.2.2.2.1
/-- behind a call: the callee's cells from its own place on -/
theorem y_ran {m : Nat} {F1 : Nat → va_E} {k1 mc' ms' : Nat} {st0 : List Value} {rest : List ZV} {H : Heap} {locs : List Loc} {ls : Array Slot} {a : Array Value} (hm : m ≤ k) (hP : yP g n F k H) (hS : va_S (yA g n) x.2.2.2.2.1.heap H locs) (hl : zlh g ls nL L)
    (hr : va_Run x.1 x.2.1 x.2.2.1 x.2.2.2.1 x.2.2.2.2.1 x.2.2.2.2.2.1 x.2.2.2.2.2.2.1 x.2.2.2.2.2.2.2.1 x.2.2.2.2.2.2.2.2.1 x.2.2.2.2.2.2.2.2.2 H locs kc ks mc' ms' (F0 x.2.2.2.2.2.1 pc ls st0) (rest.map (zval g)) (yQ g (n + m) F1 k1 a) (yA g (n + m)))
    (K : yw x g nL (kc + mc') (ks + ms') Q n (yj F m F1) (m + k1) (pc + 3) L rest) : W x.1 x.2.1 x.2.2.1 x.2.2.2.1 x.2.2.2.2.1 x.2.2.2.2.2.1 x.2.2.2.2.2.2.1 x.2.2.2.2.2.2.2.1 x.2.2.2.2.2.2.2.2.1 x.2.2.2.2.2.2.2.2.2 H locs kc ks Q (F0 x.2.2.2.2.2.1 pc ls st0) := by
  intro T hT X
  obtain ⟨v', st₀, t, T', L', h0, X', hL, e1, e2, ⟨hv, hP1, hz, hk⟩, stp⟩ := hr T hT X
  cases hv
  rw [h0] at hz hk
  have wide : ∀ q, yA g (n + m) q → yA g n q := fun q h => by
    have : g.1 + (n + m) ≤ q := h
    show g.1 + n ≤ q
    omega
  have hS1 : va_S (yA g n) x.2.2.2.2.1.heap T'.heap (locs ++ L') := ⟨Nat.le_trans hS.1 (by rw [e1]; exact hz), fun q h1 h2 => by rw [e1, hk q (Nat.lt_of_lt_of_le h1 hS.1) (fun z => h2 (wide q z))]; exact hS.2.1 q h1 h2, fun q hq => by
      rcases List.mem_append.mp hq with h | h
      · exact hS.2.2 q h
      · exact wide _ (hL q h)⟩
  have hP2 : yP g n (yj F m F1) (m + k1) T'.heap := by
    rw [e1]
    refine ⟨fun j hj => ?_, by rw [hP1.2]; omega⟩
    by_cases hjm : j < m
    · rw [yj, if_pos hjm]
      refine (hP.1 j (by omega)).kept (hk _ ?_ ?_)
      · rw [hP.2]
        show g.1 + (n + j) < _
        omega
      · intro z
        have : g.1 + (n + m) ≤ g.1 + (n + j) := z
        omega
    · rw [yj, if_neg hjm]
      have h3 := hP1.1 (j - m) (by omega)
      rw [show n + m + (j - m) = n + j by omega] at h3
      exact h3
  obtain ⟨t2, a1, b1⟩ := K T'.heap (locs ++ L') ls hP2 hS1 hl T' rfl X'
  exact ⟨t2, stp t2 a1, b1⟩
theorem y_blind {as : List ZV} {m : Nat} {F1 : Nat → va_E} {k1 : Nat} : FrameBlind (va_Pc (as.map (zval g)) (fun U => yP g m F1 k1 U.heap ∧ zK g U)) := fun _ _ _ _ h => ⟨h.1, h.2.1, h.2.2.blind⟩
theorem y_callI (C : yC x g cc own ret nL fr lo mc ms n) {y : MethodName} {cc' : ByteArray} {nL' fr' lo' mc' ms' idx m : Nat} {e0 : va_E} {F1 : Nat → va_E} {k1 : Nat} (hd : zd cc pc (.invokespecial idx) 3 q) (hw : Cond.methodLink own idx y ∈ lw_gd) (hy : zY y cc' nL' none 0) (hyi : y.name = "<init>") (hin : Cond.instanceMethod y ∈ lw_gd) (hT : yT x.2.1 g y cc' nL' fr' lo' mc' ms' (n + m) [zr (n + m)] (fun _ => e0) 1 F1 k1) (hm : k = m + 1) (hk8 : k < 800) (he : F m = e0)
    (hrm : (st.map fun v => if zlong (some v) = true then 2 else 1).sum ≤ 8) (hR : fr' + 1 ≤ fr ∧ 8 + (nL' + 11) + lo' ≤ lo) (hc : kc + mc' ≤ mc ∧ ks + ms' ≤ ms) {k' : Nat} (hk' : m + k1 = k')
    (K : yw x g nL (kc + mc') (ks + ms') Q n (yj F m F1) k' q L st) : yw x g nL kc ks Q n F k pc L (zr (n + m) :: st) := by
  obtain ⟨d, rfl⟩ := hd
  subst hk'
  obtain ⟨y1, y2, y3, y4⟩ := hy
  intro H locs ls hP hS hl
  have hts := C.1.2.2.2.2.2.1
  have hSz : va_S (zA g) x.2.2.2.2.1.heap H locs := hS.wide fun q h => yA_zA C.2.2.1 h
  show W _ _ _ _ _ _ _ _ _ _ _ _ _ _ _ (F0 _ _ _ (zrv g (n + m) :: st.map (zval g)))
  rw [yrv C.2.2 (by omega)]
  have hPc : ∀ U : State, U.heap = H → x.2.2.2.2.1.WarmedH U.vm → va_Pc (([zr (n + m)] : List ZV).map (zval g)) (fun U => yP g (n + m) (fun _ => e0) 1 U.heap ∧ zK g U) (Value.ref (g.1 + (n + m)) :: []).toArray U := fun U hU hW => ⟨by
      show (Value.ref (g.1 + (n + m)) :: []).toArray = (zrv g (n + m) :: []).toArray
      rw [yrv C.2.2 (by omega)], by
      rw [hU]
      refine ⟨fun j hj => ?_, by rw [hP.2]; omega⟩
      have h3 := hP.1 m (by omega)
      rw [he] at h3
      rw [show j = 0 by omega]
      exact h3, C.1.2.2.2.2.2.2.2.2.go hSz hU hW⟩
  exact y_ran (by omega) hP hS hl (va_runI (b := g.1 + (n + m)) (As := []) (rest := st.map (zval g)) (n := 0) ⟨C.1.1, C.1.2.1, C.1.2.2.2.1, C.1.2.2.2.2.1, hts⟩ hT ⟨⟨rfl, rfl, Nat.le_trans hR.1 C.1.2.2.2.2.2.2.2.1.1, Nat.le_trans hR.2 C.1.2.2.2.2.2.2.2.1.2, pay_in hts (fun w hw => by
      rcases List.mem_cons.mp hw with rfl | h
      · exact lw_gdIn _ y1
      · exact lw_gdIn _ h), List.mem_cons_self, hts _ y1, hts _ y2, y3, zY.params ⟨y1, y2, y3, y4⟩, hts _ hw⟩, hyi, hts _ hin⟩ ⟨y_blind, hPc⟩ rfl rfl hl.1 rfl (lv_room (z_room hrm)) d ⟨Nat.le_trans hc.1 C.2.1.1, Nat.le_trans hc.2 C.2.1.2⟩) K
theorem y_callIN (C : yC x g cc own ret nL fr lo mc ms n) {y : MethodName} {host : String} {cc' : ByteArray} {nL' fr' lo' mc' ms' idx m : Nat} {e0 : va_E} {F1 : Nat → va_E} {k1 : Nat} (hd : zd cc pc (.invokespecial idx) 3 q) (hw : Cond.methodLinkNest own idx y host ∈ lw_tbl) (hy : zY y cc' nL' none 0) (hyi : y.name = "<init>") (hin : Cond.instanceMethod y ∈ lw_gd) (hT : yT x.2.1 g y cc' nL' fr' lo' mc' ms' (n + m) [zr (n + m)] (fun _ => e0) 1 F1 k1) (hm : k = m + 1) (hk8 : k < 800) (he : F m = e0)
    (hrm : (st.map fun v => if zlong (some v) = true then 2 else 1).sum ≤ 8) (hR : fr' + 1 ≤ fr ∧ 8 + (nL' + 11) + lo' ≤ lo) (hc : kc + mc' ≤ mc ∧ ks + ms' ≤ ms) {k' : Nat} (hk' : m + k1 = k')
    (K : yw x g nL (kc + mc') (ks + ms') Q n (yj F m F1) k' q L st) : yw x g nL kc ks Q n F k pc L (zr (n + m) :: st) := by
  obtain ⟨d, rfl⟩ := hd
  subst hk'
  obtain ⟨y1, y2, y3, y4⟩ := hy
  intro H locs ls hP hS hl
  have hts := C.1.2.2.2.2.2.1
  have hSz : va_S (zA g) x.2.2.2.2.1.heap H locs := hS.wide fun q h => yA_zA C.2.2.1 h
  show W _ _ _ _ _ _ _ _ _ _ _ _ _ _ _ (F0 _ _ _ (zrv g (n + m) :: st.map (zval g)))
  rw [yrv C.2.2 (by omega)]
  have hPc : ∀ U : State, U.heap = H → x.2.2.2.2.1.WarmedH U.vm → va_Pc (([zr (n + m)] : List ZV).map (zval g)) (fun U => yP g (n + m) (fun _ => e0) 1 U.heap ∧ zK g U) (Value.ref (g.1 + (n + m)) :: []).toArray U := fun U hU hW => ⟨by
      show (Value.ref (g.1 + (n + m)) :: []).toArray = (zrv g (n + m) :: []).toArray
      rw [yrv C.2.2 (by omega)], by
      rw [hU]
      refine ⟨fun j hj => ?_, by rw [hP.2]; omega⟩
      have h3 := hP.1 m (by omega)
      rw [he] at h3
      rw [show j = 0 by omega]
      exact h3, C.1.2.2.2.2.2.2.2.2.go hSz hU hW⟩
  exact y_ran (by omega) hP hS hl (va_runIN (b := g.1 + (n + m)) (As := []) (rest := st.map (zval g)) (n := 0) ⟨C.1.1, C.1.2.1, C.1.2.2.2.1, C.1.2.2.2.2.1, hts⟩ hT ⟨⟨⟨rfl, rfl, Nat.le_trans hR.1 C.1.2.2.2.2.2.2.2.1.1, Nat.le_trans hR.2 C.1.2.2.2.2.2.2.2.1.2, pay_in hts (fun w hw => by
      rcases List.mem_cons.mp hw with rfl | h
      · exact lw_gdIn _ y1
      · exact lw_gdIn _ h), List.mem_cons_self⟩, hts _ y1, hts _ y2, y3, zY.params ⟨y1, y2, y3, y4⟩, va_Nw.use rfl (C.1.2.2.2.2.2.2.2.2.2.2.1 _ hw rfl)⟩, hyi, hts _ hin⟩ ⟨y_blind, hPc⟩ rfl rfl hl.1 rfl (lv_room (z_room hrm)) d ⟨Nat.le_trans hc.1 C.2.1.1, Nat.le_trans hc.2 C.2.1.2⟩) K
/-- Arrays.fill: called with a row that lies at place m of the caller's -/
theorem y_callF (C : yC x g cc own ret nL fr lo mc ms n) {y : MethodName} {cc' : ByteArray} {nL' fr' lo' idx m : Nat} {v : Int32} {F1 : Nat → va_E} (hd : zd cc pc (.invokestatic idx) 3 q) (hw : Cond.methodLink own idx y ∈ lw_gd) (hy : zYS y cc' nL' none 2) (hT : yT x.2.1 g y cc' nL' fr' lo' 0 0 n [zr (n + m), zi v] F k F1 k) (hm : m < 800) 
    (hrm : (st.map fun v => if zlong (some v) = true then 2 else 1).sum ≤ 8) (hR : fr' + 1 ≤ fr ∧ 8 + (nL' + 11) + lo' ≤ lo) (hc : kc ≤ mc ∧ ks ≤ ms)
    (K : yw x g nL kc ks Q n F1 k q L st) : yw x g nL kc ks Q n F k pc L (zi v :: zr (n + m) :: st) := by
  obtain ⟨d, rfl⟩ := hd
  obtain ⟨⟨y1, y2, y3, y4⟩, y5⟩ := hy
  intro H locs ls hP hS hl
  have hts := C.1.2.2.2.2.2.1
  have hSz : va_S (zA g) x.2.2.2.2.1.heap H locs := hS.wide fun q h => yA_zA C.2.2.1 h
  have hF0 : yj F 0 F1 = F1 := by
    funext j
    rw [yj, if_neg (by omega), Nat.sub_zero]
  have K2 : yw x g nL (kc + 0) (ks + 0) Q n (yj F 0 F1) (0 + k) (pc + 3) L st := by
    rw [hF0, Nat.zero_add]
    exact K
  refine y_ran (m := 0) (by omega) hP hS hl (va_runS (As := [zrv g (n + m), .int v]) (rest := st.map (zval g)) (n := 2) ⟨C.1.1, C.1.2.1, C.1.2.2.2.1, C.1.2.2.2.2.1, hts⟩ hT ⟨⟨rfl, rfl, Nat.le_trans hR.1 C.1.2.2.2.2.2.2.2.1.1, Nat.le_trans hR.2 C.1.2.2.2.2.2.2.2.1.2, pay_in hts (fun w hw => by
      rcases List.mem_cons.mp hw with rfl | h
      · exact lw_gdIn _ y1
      · exact lw_gdIn _ h), List.mem_cons_self, hts _ y1, hts _ y2, y3, zY.params ⟨y1, y2, y3, y4⟩, hts _ hw⟩, hts _ y5⟩ ⟨y_blind, fun U hU hW => ⟨rfl, by rw [hU]; exact hP, C.1.2.2.2.2.2.2.2.2.go hSz hU hW⟩⟩ rfl rfl hl.1 rfl (lv_room (z_room hrm)) d ⟨Nat.le_trans hc.1 C.2.1.1, Nat.le_trans hc.2 C.2.1.2⟩) K2
end
end
section
/-! the constructors (printed by wip/whole/gen/made.py) -/
abbrev b0_init : ByteArray := prog_2_method_1_code
def y0_init : MethodName := ⟨R0, "<init>", "()V"⟩
abbrev b2_init : ByteArray := prog_4_method_1_code
def y2_init : MethodName := ⟨R2, "<init>", "()V"⟩
abbrev b6_init : ByteArray := prog_8_method_1_code
def y6_init : MethodName := ⟨R6, "<init>", "()V"⟩
abbrev b4_init : ByteArray := prog_6_method_1_code
def y4_init : MethodName := ⟨R4, "<init>", "()V"⟩
abbrev b1_init : ByteArray := prog_3_method_1_code
def y1_init : MethodName := ⟨R1, "<init>", "()V"⟩
abbrev b7_init : ByteArray := prog_9_method_1_code
def y7_init : MethodName := ⟨R7, "<init>", "()V"⟩
abbrev b3_init : ByteArray := prog_5_method_1_code
def y3_init : MethodName := ⟨R3, "<init>", "()V"⟩
abbrev b5_init : ByteArray := prog_7_method_1_code
def y5_init : MethodName := ⟨R5, "<init>", "()V"⟩
abbrev b8_init : ByteArray := prog_1_method_1_code
def y8_init : MethodName := ⟨R8, "<init>", "()V"⟩
abbrev b9_init : ByteArray := prog_11_method_1_code
def y9_init : MethodName := ⟨R9, "<init>", "()V"⟩
theorem w_100 : Cond.methodLink R6 3 Lib.objectInit ∈ lw_gd := zwc1 100 rfl rfl
theorem w_164 : Cond.methodLinkNest R8 24 y1_init "GlassTax" ∈ lw_tbl := List.mem_append_right _ (List.mem_of_getElem? (i := 164) (by decide +kernel))
theorem w_167 : Cond.methodLink R1 3 Lib.objectInit ∈ lw_gd := zwc1 167 rfl rfl
theorem w_191 : Cond.methodLinkNest R8 31 y3_init "GlassTax" ∈ lw_tbl := List.mem_append_right _ (List.mem_of_getElem? (i := 191) (by decide +kernel))
theorem w_194 : Cond.methodLink R3 3 Lib.objectInit ∈ lw_gd := zwc1 194 rfl rfl
theorem w_196 : Cond.methodLinkNest R3 11 y6_init "GlassTax" ∈ lw_tbl := List.mem_append_right _ (List.mem_of_getElem? (i := 196) (by decide +kernel))
theorem w_216 : Cond.methodLinkNest R8 38 y7_init "GlassTax" ∈ lw_tbl := List.mem_append_right _ (List.mem_of_getElem? (i := 216) (by decide +kernel))
theorem w_219 : Cond.methodLink R7 3 Lib.objectInit ∈ lw_gd := zwc1 219 rfl rfl
theorem w_23 : Cond.methodLink R8 1 Lib.objectInit ∈ lw_gd := zwc1 23 rfl rfl
theorem w_244 : Cond.methodLinkNest R8 56 y4_init "GlassTax" ∈ lw_tbl := List.mem_append_right _ (List.mem_of_getElem? (i := 244) (by decide +kernel))
theorem w_247 : Cond.methodLink R4 3 Lib.objectInit ∈ lw_gd := zwc2 7 rfl rfl
theorem w_28 : Cond.methodLink R8 9 y5_init ∈ lw_gd := zwc1 28 rfl rfl
theorem w_31 : Cond.methodLink R5 3 Lib.objectInit ∈ lw_gd := zwc1 31 rfl rfl
theorem w_38 : Cond.methodLink R5 43 yA_fill ∈ lw_gd := zwc1 38 rfl rfl
theorem w_42 : Cond.methodLinkNest R5 49 y0_init "GlassTax" ∈ lw_tbl := List.mem_append_right _ (List.mem_of_getElem? (i := 42) (by decide +kernel))
theorem w_45 : Cond.methodLink R0 3 Lib.objectInit ∈ lw_gd := zwc1 45 rfl rfl
theorem w_76 : Cond.methodLinkNest R5 50 y2_init "GlassTax" ∈ lw_tbl := List.mem_append_right _ (List.mem_of_getElem? (i := 76) (by decide +kernel))
theorem w_79 : Cond.methodLink R2 1 Lib.objectInit ∈ lw_gd := zwc1 79 rfl rfl
theorem w_816 : Cond.methodLink R9 3 Lib.objectInit ∈ lw_gd := zwc4 96 rfl rfl
theorem w_97 : Cond.methodLinkNest R5 51 y6_init "GlassTax" ∈ lw_tbl := List.mem_append_right _ (List.mem_of_getElem? (i := 97) (by decide +kernel))
theorem kB_96 : (Int8.ofInt 96).toInt32 = (96 : Int32) := by decide +kernel
theorem kN_6 : (6 : Int32).toNatClampNeg = 6 := by decide +kernel
theorem kN_7 : (7 : Int32).toNatClampNeg = 7 := by decide +kernel
theorem kA_fill (l : Launch) (g : ZG) {n : Nat} (hn : 0 < n ∧ n < 200) {F : Nat → va_E} {k m N : Nat} {f : Nat → Int32} {v : Int32} (hm : m < k) (hk : k < 800) (he : F m = .inl (g.2.2.1 0, N, .inl f)) (hN : N < 2 ^ 20) : yT l g yA_fill bA_fill 4 1 60 0 0 n [zr (n + m), zi v] F k (yu F m (.inl (g.2.2.1 0, N, .inl (fun j => if j < N then v else f j)))) k := by
  refine yT_start (own := RJA) rfl (by decide +kernel) hn 2 (L := [some (zr (n + m)), some (zi v), none, none]) rfl rfl (fun x hl C hi => ?_)
  subst hl
  have E : ∀ (i : Nat) (Fi : Nat → va_E), (∀ j, Fi j = yu F m (.inl (g.2.2.1 0, N, .inl (fun j => if j < i then v else f j))) j) → Fi m = .inl (g.2.2.1 0, N, .inl (fun j => if j < i then v else f j)) := fun i Fi h => by rw [h m, yu, if_pos rfl]
  have loop : ∀ (d i : Nat), i + d = N → ∀ Fi : Nat → va_E, (∀ j, Fi j = yu F m (.inl (g.2.2.1 0, N, .inl (fun j => if j < i then v else f j))) j) →
      yw x g 4 0 0 (MQ x.2.2.2.2.2.2.2.1 (yQ g n (yu F m (.inl (g.2.2.1 0, N, .inl (fun j => if j < N then v else f j)))) k) x.2.2.2.2.2.2.1 x.2.2.2.2.1 0 0 (yA g n)) n Fi k 5 [some (zr (n + m)), some (zi v), some (zi (nI i)), some (zi (nI N))] [] := by
    intro d
    induction d with
    | zero =>
      intro i hid Fi hFi
      have hiN : i = N := by omega
      subst hiN
      refine y_iload_n C dA_fill_5 rfl ?_
      refine y_iload_n C dA_fill_6 rfl ?_
      refine y_icmp_ge C dA_fill_7 (fun _ => ?_) (fun c => absurd (Int32.le_refl _) c)
      exact y_vret C dA_fill_20 rfl (fun j _ => hFi j) rfl rfl
    | succ d ih =>
      intro i hid Fi hFi
      refine y_iload_n C dA_fill_5 rfl ?_
      refine y_iload_n C dA_fill_6 rfl ?_
      refine y_icmp_ge C dA_fill_7 (fun c => absurd c (nI_ge (by omega) (by omega))) (fun _ => ?_)
      refine y_aload_n C dA_fill_10 (j := m) rfl (by omega) ?_
      refine y_iload_n C dA_fill_11 rfl ?_
      refine y_iload_n C dA_fill_12 rfl ?_
      refine y_iast C dA_fill_13 hm hk (E i Fi hFi) ⟨by rw [nI_toInt (by omega)]; omega, by rw [nI_toInt (by omega)]; omega⟩ (nI_clamp (by omega)) ?_
      refine y_iinc C dA_fill_14 rfl (v' := nI (i + 1)) (nI_1 i) (Nat.le_of_ble_eq_true rfl) rfl (L' := [some (zr (n + m)), some (zi v), some (zi (nI (i + 1))), some (zi (nI N))]) rfl ?_
      refine y_goto C dA_fill_17 ?_
      refine ih (i + 1) (by omega) _ (fun j => ?_)
      by_cases hj : j = m
      · rw [yu, if_pos hj, yu, if_pos hj]
        refine congrArg (fun z => (Sum.inl (g.2.2.1 0, N, .inl z) : va_E)) (funext fun q => ?_)
        show (if q = i then v else if q < i then v else f q) = if q < i + 1 then v else f q
        by_cases h1 : q = i
        · rw [if_pos h1, if_pos (by omega)]
        · rw [if_neg h1]
          by_cases h2 : q < i
          · rw [if_pos h2, if_pos (by omega)]
          · rw [if_neg h2, if_neg (by omega)]
      · rw [yu, if_neg hj, hFi j, yu, if_neg hj, yu, if_neg hj]
  refine y_iconst C (0 : Int32) dA_fill_0 kI_0 ?_
  refine y_istore_n C dA_fill_1 (Nat.le_of_ble_eq_true rfl) rfl (L' := [some (zr (n + m)), some (zi v), some (zi 0), none]) rfl ?_
  refine y_aload_n C dA_fill_2 (j := m) rfl (by omega) ?_
  refine y_alen C (t0 := 0) (nI N) dA_fill_3 hm hk he rfl rfl ?_
  refine y_istore_n C dA_fill_4 (Nat.le_of_ble_eq_true rfl) rfl (L' := [some (zr (n + m)), some (zi v), some (zi 0), some (zi (nI N))]) rfl ?_
  refine loop N 0 (by omega) F (fun j => ?_)
  by_cases hj : j = m
  · rw [yu, if_pos hj, hj, he]
    exact congrArg (fun z => (Sum.inl (g.2.2.1 0, N, .inl z) : va_E)) (funext fun q => by rw [if_neg (by omega)])
  · rw [yu, if_neg hj]
theorem yfs0 : ∀ j, j < 5 → defaultValue (ty0 j) = vp_V [.int 0, .int 0, .int 0, .int 0, .int 0] j := fun j hj => by
  match j, hj with
  | 0, _ => rfl
  | 1, _ => rfl
  | 2, _ => rfl
  | 3, _ => rfl
  | 4, _ => rfl
  | j + 5, h => exact absurd h (by omega)
theorem yfs1 : ∀ j, j < 5 → defaultValue (ty1 j) = vp_V [.null, .null, .int 0, .int 0, .int 0] j := fun j hj => by
  match j, hj with
  | 0, _ => rfl
  | 1, _ => rfl
  | 2, _ => rfl
  | 3, _ => rfl
  | 4, _ => rfl
  | j + 5, h => exact absurd h (by omega)
theorem yfs2 : ∀ j, j < 3 → defaultValue (ty2 j) = vp_V [.int 0, .int 0, .int 0] j := fun j hj => by
  match j, hj with
  | 0, _ => rfl
  | 1, _ => rfl
  | 2, _ => rfl
  | j + 3, h => exact absurd h (by omega)
theorem yfs3 : ∀ j, j < 5 → defaultValue (ty3 j) = vp_V [.null, .null, .int 0, .int 0, .int 0] j := fun j hj => by
  match j, hj with
  | 0, _ => rfl
  | 1, _ => rfl
  | 2, _ => rfl
  | 3, _ => rfl
  | 4, _ => rfl
  | j + 5, h => exact absurd h (by omega)
theorem yfs4 : ∀ j, j < 3 → defaultValue (ty4 j) = vp_V [.null, .int 0, .int 0] j := fun j hj => by
  match j, hj with
  | 0, _ => rfl
  | 1, _ => rfl
  | 2, _ => rfl
  | j + 3, h => exact absurd h (by omega)
theorem yfs5 : ∀ j, j < 12 → defaultValue (ty5 j) = vp_V [.null, .null, .null, .null, .null, .null, .int 0, .int 0, .int 0, .int 0, .int 0, .int 0] j := fun j hj => by
  match j, hj with
  | 0, _ => rfl
  | 1, _ => rfl
  | 2, _ => rfl
  | 3, _ => rfl
  | 4, _ => rfl
  | 5, _ => rfl
  | 6, _ => rfl
  | 7, _ => rfl
  | 8, _ => rfl
  | 9, _ => rfl
  | 10, _ => rfl
  | 11, _ => rfl
  | j + 12, h => exact absurd h (by omega)
theorem yfs6 : ∀ j, j < 4 → defaultValue (ty6 j) = vp_V [.null, .null, .int 0, .int 0] j := fun j hj => by
  match j, hj with
  | 0, _ => rfl
  | 1, _ => rfl
  | 2, _ => rfl
  | 3, _ => rfl
  | j + 4, h => exact absurd h (by omega)
theorem yfs7 : ∀ j, j < 6 → defaultValue (ty7 j) = vp_V [.null, .int 0, .int 0, .int 0, .int 0, .int 0] j := fun j hj => by
  match j, hj with
  | 0, _ => rfl
  | 1, _ => rfl
  | 2, _ => rfl
  | 3, _ => rfl
  | 4, _ => rfl
  | 5, _ => rfl
  | j + 6, h => exact absurd h (by omega)
theorem yfs8 : ∀ j, j < 11 → defaultValue (ty8 j) = vp_V [.null, .null, .null, .null, .null, .null, .null, .null, .null, .int 0, .int 0] j := fun j hj => by
  match j, hj with
  | 0, _ => rfl
  | 1, _ => rfl
  | 2, _ => rfl
  | 3, _ => rfl
  | 4, _ => rfl
  | 5, _ => rfl
  | 6, _ => rfl
  | 7, _ => rfl
  | 8, _ => rfl
  | 9, _ => rfl
  | 10, _ => rfl
  | j + 11, h => exact absurd h (by omega)
theorem yfs9 : ∀ j, j < 27 → defaultValue (ty9 j) = vp_V [.null, .null, .null, .int 0, .null, .null, .null, .null, .null, .int 0, .int 0, .null, .int 0, .int 0, .null, .null, .null, .null, .int 0, .int 0, .int 0, .int 0, .int 0, .null, .null, .int 0, .int 0] j := fun j hj => by
  match j, hj with
  | 0, _ => rfl
  | 1, _ => rfl
  | 2, _ => rfl
  | 3, _ => rfl
  | 4, _ => rfl
  | 5, _ => rfl
  | 6, _ => rfl
  | 7, _ => rfl
  | 8, _ => rfl
  | 9, _ => rfl
  | 10, _ => rfl
  | 11, _ => rfl
  | 12, _ => rfl
  | 13, _ => rfl
  | 14, _ => rfl
  | 15, _ => rfl
  | 16, _ => rfl
  | 17, _ => rfl
  | 18, _ => rfl
  | 19, _ => rfl
  | 20, _ => rfl
  | 21, _ => rfl
  | 22, _ => rfl
  | 23, _ => rfl
  | 24, _ => rfl
  | 25, _ => rfl
  | 26, _ => rfl
  | j + 27, h => exact absurd h (by omega)
theorem yobw : Cond.instanceMethod Lib.objectInit ∈ lw_gd ∧ Cond.code Lib.objectInit ⟨#[0xb1]⟩ 1 none ∈ lw_gd := ⟨zwc1 24 rfl rfl, zwc1 25 rfl rfl⟩
theorem yaiw : Cond.arrayClass .int ∈ lw_gd := zwc1 74 rfl rfl
theorem yz0_init : zY y0_init b0_init 1 none 0 := ⟨zwc1 44 rfl rfl, zwc1 4 rfl rfl, ⟨by decide +kernel, by decide +kernel⟩, by decide +kernel⟩
theorem yi0_init : Cond.instanceMethod y0_init ∈ lw_gd := zwc1 43 rfl rfl
theorem d0_init_0 : zd b0_init 0 (.aload_n 0) 1 1 := ⟨by decide +kernel, rfl⟩
theorem d0_init_1 : zd b0_init 1 (.invokespecial 3) 3 4 := ⟨by decide +kernel, rfl⟩
theorem d0_init_4 : zd b0_init 4 .return_ 1 5 := ⟨by decide +kernel, rfl⟩
def yF0 (g : ZG) (n : Nat) : Nat → va_E := fun j => match j with
  | _ => .inr (0, [.int 0, .int 0, .int 0, .int 0, .int 0])
theorem k0_init (l : Launch) (g : ZG) (n : Nat) (hn : 0 < n ∧ n < 199) : yT l g y0_init b0_init 1 1 60 0 0 n [zr (n + 0)] (fun _ => .inr (0, [.int 0, .int 0, .int 0, .int 0, .int 0])) 1 (yF0 g n) 1 := by
  refine yT_start (own := R0) rfl (by decide +kernel) ⟨by omega, by omega⟩ 0 (L := [some (zr (n + 0))]) rfl rfl (fun x hl C hi => ?_)
  subst hl
  refine y_aload_n C d0_init_0 (j := 0) rfl (by decide) ?_
  refine y_obj C (j := 0) d0_init_1 w_45 yobw (by decide) rfl ⟨Nat.le_of_ble_eq_true rfl, Nat.le_of_ble_eq_true rfl⟩ ?_
  exact y_vret C d0_init_4 rfl (fun j hj => by
    match j, hj with
    | 0, _ => rfl
    | j + 1, h => exact absurd h (by omega)) rfl rfl
theorem yz2_init : zY y2_init b2_init 1 none 0 := ⟨zwc1 78 rfl rfl, zwc1 5 rfl rfl, ⟨by decide +kernel, by decide +kernel⟩, by decide +kernel⟩
theorem yi2_init : Cond.instanceMethod y2_init ∈ lw_gd := zwc1 77 rfl rfl
theorem d2_init_0 : zd b2_init 0 (.aload_n 0) 1 1 := ⟨by decide +kernel, rfl⟩
theorem d2_init_1 : zd b2_init 1 (.invokespecial 1) 3 4 := ⟨by decide +kernel, rfl⟩
theorem d2_init_4 : zd b2_init 4 .return_ 1 5 := ⟨by decide +kernel, rfl⟩
def yF2 (g : ZG) (n : Nat) : Nat → va_E := fun j => match j with
  | _ => .inr (2, [.int 0, .int 0, .int 0])
theorem k2_init (l : Launch) (g : ZG) (n : Nat) (hn : 0 < n ∧ n < 199) : yT l g y2_init b2_init 1 1 60 0 0 n [zr (n + 0)] (fun _ => .inr (2, [.int 0, .int 0, .int 0])) 1 (yF2 g n) 1 := by
  refine yT_start (own := R2) rfl (by decide +kernel) ⟨by omega, by omega⟩ 0 (L := [some (zr (n + 0))]) rfl rfl (fun x hl C hi => ?_)
  subst hl
  refine y_aload_n C d2_init_0 (j := 0) rfl (by decide) ?_
  refine y_obj C (j := 0) d2_init_1 w_79 yobw (by decide) rfl ⟨Nat.le_of_ble_eq_true rfl, Nat.le_of_ble_eq_true rfl⟩ ?_
  exact y_vret C d2_init_4 rfl (fun j hj => by
    match j, hj with
    | 0, _ => rfl
    | j + 1, h => exact absurd h (by omega)) rfl rfl
theorem yz6_init : zY y6_init b6_init 1 none 0 := ⟨zwc1 99 rfl rfl, zwc1 6 rfl rfl, ⟨by decide +kernel, by decide +kernel⟩, by decide +kernel⟩
theorem yi6_init : Cond.instanceMethod y6_init ∈ lw_gd := zwc1 98 rfl rfl
theorem d6_init_0 : zd b6_init 0 (.aload_n 0) 1 1 := ⟨by decide +kernel, rfl⟩
theorem d6_init_1 : zd b6_init 1 (.invokespecial 3) 3 4 := ⟨by decide +kernel, rfl⟩
theorem d6_init_4 : zd b6_init 4 (.aload_n 0) 1 5 := ⟨by decide +kernel, rfl⟩
theorem d6_init_5 : zd b6_init 5 (.bipush 60) 2 7 := ⟨by decide +kernel, rfl⟩
theorem d6_init_7 : zd b6_init 7 (.newarray .int) 2 9 := ⟨by decide +kernel, rfl⟩
theorem d6_init_9 : zd b6_init 9 (.putfield 9) 3 12 := ⟨by decide +kernel, rfl⟩
theorem d6_init_12 : zd b6_init 12 (.aload_n 0) 1 13 := ⟨by decide +kernel, rfl⟩
theorem d6_init_13 : zd b6_init 13 (.bipush 60) 2 15 := ⟨by decide +kernel, rfl⟩
theorem d6_init_15 : zd b6_init 15 (.newarray .int) 2 17 := ⟨by decide +kernel, rfl⟩
theorem d6_init_17 : zd b6_init 17 (.putfield 15) 3 20 := ⟨by decide +kernel, rfl⟩
theorem d6_init_20 : zd b6_init 20 .return_ 1 21 := ⟨by decide +kernel, rfl⟩
def yF6 (g : ZG) (n : Nat) : Nat → va_E := fun j => match j with
  | 0 => .inr (6, [.ref (g.1 + (n + 1)), .ref (g.1 + (n + 2)), .int 0, .int 0])
  | 1 => .inl (g.2.2.1 0, 60, .inl (fun _ => 0))
  | _ => .inl (g.2.2.1 0, 60, .inl (fun _ => 0))
theorem k6_init (l : Launch) (g : ZG) (n : Nat) (hn : 0 < n ∧ n < 199) : yT l g y6_init b6_init 1 1 60 2 120 n [zr (n + 0)] (fun _ => .inr (6, [.null, .null, .int 0, .int 0])) 1 (yF6 g n) 3 := by
  refine yT_start (own := R6) rfl (by decide +kernel) ⟨by omega, by omega⟩ 0 (L := [some (zr (n + 0))]) rfl rfl (fun x hl C hi => ?_)
  subst hl
  refine y_aload_n C d6_init_0 (j := 0) rfl (by decide) ?_
  refine y_obj C (j := 0) d6_init_1 w_100 yobw (by decide) rfl ⟨Nat.le_of_ble_eq_true rfl, Nat.le_of_ble_eq_true rfl⟩ ?_
  refine y_aload_n C d6_init_4 (j := 0) rfl (by decide) ?_
  refine y_bipush C (60 : Int32) d6_init_5 kB_60 ?_
  refine y_newa C (N := 60) d6_init_7 yaiw (by decide) (by decide) ⟨Nat.le_of_ble_eq_true rfl, Nat.le_of_ble_eq_true rfl⟩ (k' := 2) rfl (by decide) ?_
  refine y_putF C (kf := 0) (jw := 1) d6_init_9 hi rfl (by decide) rfl (zwc1 101 rfl rfl) rfl (ty6_ok 0 (by decide)) (fun _ => rfl) (fun _ => rfl) (by decide) (by decide) (by decide) rfl (fs' := [.ref (g.1 + (n + 1)), .null, .int 0, .int 0]) rfl (Nat.le_of_ble_eq_true rfl) ?_
  refine y_aload_n C d6_init_12 (j := 0) rfl (by decide) ?_
  refine y_bipush C (60 : Int32) d6_init_13 kB_60 ?_
  refine y_newa C (N := 60) d6_init_15 yaiw (by decide) (by decide) ⟨Nat.le_of_ble_eq_true rfl, Nat.le_of_ble_eq_true rfl⟩ (k' := 3) rfl (by decide) ?_
  refine y_putF C (kf := 1) (jw := 2) d6_init_17 hi rfl (by decide) rfl (zwc1 102 rfl rfl) rfl (ty6_ok 1 (by decide)) (fun _ => rfl) (fun _ => rfl) (by decide) (by decide) (by decide) rfl (fs' := [.ref (g.1 + (n + 1)), .ref (g.1 + (n + 2)), .int 0, .int 0]) rfl (Nat.le_of_ble_eq_true rfl) ?_
  exact y_vret C d6_init_20 rfl (fun j hj => by
    match j, hj with
    | 0, _ => rfl
    | 1, _ => rfl
    | 2, _ => rfl
    | j + 3, h => exact absurd h (by omega)) rfl rfl
theorem yz4_init : zY y4_init b4_init 1 none 0 := ⟨zwc2 6 rfl rfl, zwc1 10 rfl rfl, ⟨by decide +kernel, by decide +kernel⟩, by decide +kernel⟩
theorem yi4_init : Cond.instanceMethod y4_init ∈ lw_gd := zwc2 5 rfl rfl
theorem d4_init_0 : zd b4_init 0 (.aload_n 0) 1 1 := ⟨by decide +kernel, rfl⟩
theorem d4_init_1 : zd b4_init 1 (.invokespecial 3) 3 4 := ⟨by decide +kernel, rfl⟩
theorem d4_init_4 : zd b4_init 4 (.aload_n 0) 1 5 := ⟨by decide +kernel, rfl⟩
theorem d4_init_5 : zd b4_init 5 (.bipush 24) 2 7 := ⟨by decide +kernel, rfl⟩
theorem d4_init_7 : zd b4_init 7 (.newarray .int) 2 9 := ⟨by decide +kernel, rfl⟩
theorem d4_init_9 : zd b4_init 9 (.putfield 9) 3 12 := ⟨by decide +kernel, rfl⟩
theorem d4_init_12 : zd b4_init 12 .return_ 1 13 := ⟨by decide +kernel, rfl⟩
def yF4 (g : ZG) (n : Nat) : Nat → va_E := fun j => match j with
  | 0 => .inr (4, [.ref (g.1 + (n + 1)), .int 0, .int 0])
  | _ => .inl (g.2.2.1 0, 24, .inl (fun _ => 0))
theorem k4_init (l : Launch) (g : ZG) (n : Nat) (hn : 0 < n ∧ n < 190) : yT l g y4_init b4_init 1 1 60 1 24 n [zr (n + 0)] (fun _ => .inr (4, [.null, .int 0, .int 0])) 1 (yF4 g n) 2 := by
  refine yT_start (own := R4) rfl (by decide +kernel) ⟨by omega, by omega⟩ 0 (L := [some (zr (n + 0))]) rfl rfl (fun x hl C hi => ?_)
  subst hl
  refine y_aload_n C d4_init_0 (j := 0) rfl (by decide) ?_
  refine y_obj C (j := 0) d4_init_1 w_247 yobw (by decide) rfl ⟨Nat.le_of_ble_eq_true rfl, Nat.le_of_ble_eq_true rfl⟩ ?_
  refine y_aload_n C d4_init_4 (j := 0) rfl (by decide) ?_
  refine y_bipush C (24 : Int32) d4_init_5 kB_24 ?_
  refine y_newa C (N := 24) d4_init_7 yaiw (by decide) (by decide) ⟨Nat.le_of_ble_eq_true rfl, Nat.le_of_ble_eq_true rfl⟩ (k' := 2) rfl (by decide) ?_
  refine y_putF C (kf := 0) (jw := 1) d4_init_9 hi rfl (by decide) rfl (zwc2 8 rfl rfl) rfl (ty4_ok 0 (by decide)) (fun _ => rfl) (fun _ => rfl) (by decide) (by decide) (by decide) rfl (fs' := [.ref (g.1 + (n + 1)), .int 0, .int 0]) rfl (Nat.le_of_ble_eq_true rfl) ?_
  exact y_vret C d4_init_12 rfl (fun j hj => by
    match j, hj with
    | 0, _ => rfl
    | 1, _ => rfl
    | j + 2, h => exact absurd h (by omega)) rfl rfl
theorem yz1_init : zY y1_init b1_init 1 none 0 := ⟨zwc1 166 rfl rfl, zwc1 7 rfl rfl, ⟨by decide +kernel, by decide +kernel⟩, by decide +kernel⟩
theorem yi1_init : Cond.instanceMethod y1_init ∈ lw_gd := zwc1 165 rfl rfl
theorem d1_init_0 : zd b1_init 0 (.aload_n 0) 1 1 := ⟨by decide +kernel, rfl⟩
theorem d1_init_1 : zd b1_init 1 (.invokespecial 3) 3 4 := ⟨by decide +kernel, rfl⟩
theorem d1_init_4 : zd b1_init 4 (.aload_n 0) 1 5 := ⟨by decide +kernel, rfl⟩
theorem d1_init_5 : zd b1_init 5 (.sipush 257) 3 8 := ⟨by decide +kernel, rfl⟩
theorem d1_init_8 : zd b1_init 8 (.newarray .int) 2 10 := ⟨by decide +kernel, rfl⟩
theorem d1_init_10 : zd b1_init 10 (.putfield 11) 3 13 := ⟨by decide +kernel, rfl⟩
theorem d1_init_13 : zd b1_init 13 (.aload_n 0) 1 14 := ⟨by decide +kernel, rfl⟩
theorem d1_init_14 : zd b1_init 14 (.sipush 257) 3 17 := ⟨by decide +kernel, rfl⟩
theorem d1_init_17 : zd b1_init 17 (.newarray .int) 2 19 := ⟨by decide +kernel, rfl⟩
theorem d1_init_19 : zd b1_init 19 (.putfield 15) 3 22 := ⟨by decide +kernel, rfl⟩
theorem d1_init_22 : zd b1_init 22 .return_ 1 23 := ⟨by decide +kernel, rfl⟩
def yF1 (g : ZG) (n : Nat) : Nat → va_E := fun j => match j with
  | 0 => .inr (1, [.ref (g.1 + (n + 1)), .ref (g.1 + (n + 2)), .int 0, .int 0, .int 0])
  | 1 => .inl (g.2.2.1 0, 257, .inl (fun _ => 0))
  | _ => .inl (g.2.2.1 0, 257, .inl (fun _ => 0))
theorem k1_init (l : Launch) (g : ZG) (n : Nat) (hn : 0 < n ∧ n < 180) : yT l g y1_init b1_init 1 1 60 2 514 n [zr (n + 0)] (fun _ => .inr (1, [.null, .null, .int 0, .int 0, .int 0])) 1 (yF1 g n) 3 := by
  refine yT_start (own := R1) rfl (by decide +kernel) ⟨by omega, by omega⟩ 0 (L := [some (zr (n + 0))]) rfl rfl (fun x hl C hi => ?_)
  subst hl
  refine y_aload_n C d1_init_0 (j := 0) rfl (by decide) ?_
  refine y_obj C (j := 0) d1_init_1 w_167 yobw (by decide) rfl ⟨Nat.le_of_ble_eq_true rfl, Nat.le_of_ble_eq_true rfl⟩ ?_
  refine y_aload_n C d1_init_4 (j := 0) rfl (by decide) ?_
  refine y_sipush C (257 : Int32) d1_init_5 kS_257 ?_
  refine y_newa C (N := 257) d1_init_8 yaiw (by decide) (by decide) ⟨Nat.le_of_ble_eq_true rfl, Nat.le_of_ble_eq_true rfl⟩ (k' := 2) rfl (by decide) ?_
  refine y_putF C (kf := 0) (jw := 1) d1_init_10 hi rfl (by decide) rfl (zwc1 168 rfl rfl) rfl (ty1_ok 0 (by decide)) (fun _ => rfl) (fun _ => rfl) (by decide) (by decide) (by decide) rfl (fs' := [.ref (g.1 + (n + 1)), .null, .int 0, .int 0, .int 0]) rfl (Nat.le_of_ble_eq_true rfl) ?_
  refine y_aload_n C d1_init_13 (j := 0) rfl (by decide) ?_
  refine y_sipush C (257 : Int32) d1_init_14 kS_257 ?_
  refine y_newa C (N := 257) d1_init_17 yaiw (by decide) (by decide) ⟨Nat.le_of_ble_eq_true rfl, Nat.le_of_ble_eq_true rfl⟩ (k' := 3) rfl (by decide) ?_
  refine y_putF C (kf := 1) (jw := 2) d1_init_19 hi rfl (by decide) rfl (zwc1 169 rfl rfl) rfl (ty1_ok 1 (by decide)) (fun _ => rfl) (fun _ => rfl) (by decide) (by decide) (by decide) rfl (fs' := [.ref (g.1 + (n + 1)), .ref (g.1 + (n + 2)), .int 0, .int 0, .int 0]) rfl (Nat.le_of_ble_eq_true rfl) ?_
  exact y_vret C d1_init_22 rfl (fun j hj => by
    match j, hj with
    | 0, _ => rfl
    | 1, _ => rfl
    | 2, _ => rfl
    | j + 3, h => exact absurd h (by omega)) rfl rfl
theorem yz7_init : zY y7_init b7_init 1 none 0 := ⟨zwc1 218 rfl rfl, zwc1 9 rfl rfl, ⟨by decide +kernel, by decide +kernel⟩, by decide +kernel⟩
theorem yi7_init : Cond.instanceMethod y7_init ∈ lw_gd := zwc1 217 rfl rfl
theorem d7_init_0 : zd b7_init 0 (.aload_n 0) 1 1 := ⟨by decide +kernel, rfl⟩
theorem d7_init_1 : zd b7_init 1 (.invokespecial 3) 3 4 := ⟨by decide +kernel, rfl⟩
theorem d7_init_4 : zd b7_init 4 (.aload_n 0) 1 5 := ⟨by decide +kernel, rfl⟩
theorem d7_init_5 : zd b7_init 5 (.bipush 30) 2 7 := ⟨by decide +kernel, rfl⟩
theorem d7_init_7 : zd b7_init 7 (.newarray .int) 2 9 := ⟨by decide +kernel, rfl⟩
theorem d7_init_9 : zd b7_init 9 (.putfield 11) 3 12 := ⟨by decide +kernel, rfl⟩
theorem d7_init_12 : zd b7_init 12 .return_ 1 13 := ⟨by decide +kernel, rfl⟩
def yF7 (g : ZG) (n : Nat) : Nat → va_E := fun j => match j with
  | 0 => .inr (7, [.ref (g.1 + (n + 1)), .int 0, .int 0, .int 0, .int 0, .int 0])
  | _ => .inl (g.2.2.1 0, 30, .inl (fun _ => 0))
theorem k7_init (l : Launch) (g : ZG) (n : Nat) (hn : 0 < n ∧ n < 180) : yT l g y7_init b7_init 1 1 60 1 30 n [zr (n + 0)] (fun _ => .inr (7, [.null, .int 0, .int 0, .int 0, .int 0, .int 0])) 1 (yF7 g n) 2 := by
  refine yT_start (own := R7) rfl (by decide +kernel) ⟨by omega, by omega⟩ 0 (L := [some (zr (n + 0))]) rfl rfl (fun x hl C hi => ?_)
  subst hl
  refine y_aload_n C d7_init_0 (j := 0) rfl (by decide) ?_
  refine y_obj C (j := 0) d7_init_1 w_219 yobw (by decide) rfl ⟨Nat.le_of_ble_eq_true rfl, Nat.le_of_ble_eq_true rfl⟩ ?_
  refine y_aload_n C d7_init_4 (j := 0) rfl (by decide) ?_
  refine y_bipush C (30 : Int32) d7_init_5 kB_30 ?_
  refine y_newa C (N := 30) d7_init_7 yaiw (by decide) (by decide) ⟨Nat.le_of_ble_eq_true rfl, Nat.le_of_ble_eq_true rfl⟩ (k' := 2) rfl (by decide) ?_
  refine y_putF C (kf := 0) (jw := 1) d7_init_9 hi rfl (by decide) rfl (zwc1 220 rfl rfl) rfl (ty7_ok 0 (by decide)) (fun _ => rfl) (fun _ => rfl) (by decide) (by decide) (by decide) rfl (fs' := [.ref (g.1 + (n + 1)), .int 0, .int 0, .int 0, .int 0, .int 0]) rfl (Nat.le_of_ble_eq_true rfl) ?_
  exact y_vret C d7_init_12 rfl (fun j hj => by
    match j, hj with
    | 0, _ => rfl
    | 1, _ => rfl
    | j + 2, h => exact absurd h (by omega)) rfl rfl
theorem yz3_init : zY y3_init b3_init 1 none 0 := ⟨zwc1 193 rfl rfl, zwc1 8 rfl rfl, ⟨by decide +kernel, by decide +kernel⟩, by decide +kernel⟩
theorem yi3_init : Cond.instanceMethod y3_init ∈ lw_gd := zwc1 192 rfl rfl
theorem d3_init_0 : zd b3_init 0 (.aload_n 0) 1 1 := ⟨by decide +kernel, rfl⟩
theorem d3_init_1 : zd b3_init 1 (.invokespecial 3) 3 4 := ⟨by decide +kernel, rfl⟩
theorem d3_init_4 : zd b3_init 4 (.aload_n 0) 1 5 := ⟨by decide +kernel, rfl⟩
theorem d3_init_5 : zd b3_init 5 (.new 9) 3 8 := ⟨by decide +kernel, rfl⟩
theorem d3_init_8 : zd b3_init 8 .dup 1 9 := ⟨by decide +kernel, rfl⟩
theorem d3_init_9 : zd b3_init 9 (.invokespecial 11) 3 12 := ⟨by decide +kernel, rfl⟩
theorem d3_init_12 : zd b3_init 12 (.putfield 12) 3 15 := ⟨by decide +kernel, rfl⟩
theorem d3_init_15 : zd b3_init 15 .return_ 1 16 := ⟨by decide +kernel, rfl⟩
def yF3 (g : ZG) (n : Nat) : Nat → va_E := fun j => match j with
  | 0 => .inr (3, [.ref (g.1 + (n + 1)), .null, .int 0, .int 0, .int 0])
  | 1 => .inr (6, [.ref (g.1 + (n + 1 + 1)), .ref (g.1 + (n + 1 + 2)), .int 0, .int 0])
  | 2 => .inl (g.2.2.1 0, 60, .inl (fun _ => 0))
  | _ => .inl (g.2.2.1 0, 60, .inl (fun _ => 0))
theorem k3_init (l : Launch) (g : ZG) (n : Nat) (hn : 0 < n ∧ n < 150) : yT l g y3_init b3_init 1 2 80 3 124 n [zr (n + 0)] (fun _ => .inr (3, [.null, .null, .int 0, .int 0, .int 0])) 1 (yF3 g n) 4 := by
  refine yT_start (own := R3) rfl (by decide +kernel) ⟨by omega, by omega⟩ 0 (L := [some (zr (n + 0))]) rfl rfl (fun x hl C hi => ?_)
  subst hl
  refine y_aload_n C d3_init_0 (j := 0) rfl (by decide) ?_
  refine y_obj C (j := 0) d3_init_1 w_194 yobw (by decide) rfl ⟨Nat.le_of_ble_eq_true rfl, Nat.le_of_ble_eq_true rfl⟩ ?_
  refine y_aload_n C d3_init_4 (j := 0) rfl (by decide) ?_
  refine y_newo C (ci := 6) d3_init_5 ⟨zwc1 195 rfl rfl, zwc1 96 rfl rfl, zwc1 6 rfl rfl⟩ rfl ty6 ty6_ok (fs := [.null, .null, .int 0, .int 0]) yfs6 ⟨Nat.le_of_ble_eq_true rfl, Nat.le_of_ble_eq_true rfl⟩ (k' := 2) rfl ?_ (by decide)
  refine y_dup C d3_init_8 rfl ?_
  refine y_callIN C (m := 1) d3_init_9 w_196 yz6_init rfl yi6_init (k6_init x.2.1 g (n + 1) ⟨by omega, by omega⟩) rfl (by decide) rfl (Nat.le_of_ble_eq_true rfl) ⟨Nat.le_of_ble_eq_true rfl, Nat.le_of_ble_eq_true rfl⟩ ⟨Nat.le_of_ble_eq_true rfl, Nat.le_of_ble_eq_true rfl⟩ (k' := 4) rfl ?_
  refine y_putF C (kf := 0) (jw := 1) d3_init_12 hi rfl (by decide) rfl (zwc1 197 rfl rfl) rfl (ty3_ok 0 (by decide)) (fun _ => rfl) (fun _ => rfl) (by decide) (by decide) (by decide) rfl (fs' := [.ref (g.1 + (n + 1)), .null, .int 0, .int 0, .int 0]) rfl (Nat.le_of_ble_eq_true rfl) ?_
  exact y_vret C d3_init_15 rfl (fun j hj => by
    match j, hj with
    | 0, _ => rfl
    | 1, _ => rfl
    | 2, _ => rfl
    | 3, _ => rfl
    | j + 4, h => exact absurd h (by omega)) rfl rfl
theorem yz5_init : zY y5_init b5_init 2 none 0 := ⟨zwc1 30 rfl rfl, zwc1 2 rfl rfl, ⟨by decide +kernel, by decide +kernel⟩, by decide +kernel⟩
theorem yi5_init : Cond.instanceMethod y5_init ∈ lw_gd := zwc1 29 rfl rfl
theorem d5_init_0 : zd b5_init 0 (.aload_n 0) 1 1 := ⟨by decide +kernel, rfl⟩
theorem d5_init_1 : zd b5_init 1 (.invokespecial 3) 3 4 := ⟨by decide +kernel, rfl⟩
theorem d5_init_4 : zd b5_init 4 (.aload_n 0) 1 5 := ⟨by decide +kernel, rfl⟩
theorem d5_init_5 : zd b5_init 5 (.bipush 8) 2 7 := ⟨by decide +kernel, rfl⟩
theorem d5_init_7 : zd b5_init 7 (.anewarray 9) 3 10 := ⟨by decide +kernel, rfl⟩
theorem d5_init_10 : zd b5_init 10 (.putfield 11) 3 13 := ⟨by decide +kernel, rfl⟩
theorem d5_init_13 : zd b5_init 13 (.aload_n 0) 1 14 := ⟨by decide +kernel, rfl⟩
theorem d5_init_14 : zd b5_init 14 (.bipush 6) 2 16 := ⟨by decide +kernel, rfl⟩
theorem d5_init_16 : zd b5_init 16 (.anewarray 17) 3 19 := ⟨by decide +kernel, rfl⟩
theorem d5_init_19 : zd b5_init 19 (.putfield 19) 3 22 := ⟨by decide +kernel, rfl⟩
theorem d5_init_22 : zd b5_init 22 (.aload_n 0) 1 23 := ⟨by decide +kernel, rfl⟩
theorem d5_init_23 : zd b5_init 23 (.iconst 2) 1 24 := ⟨by decide +kernel, rfl⟩
theorem d5_init_24 : zd b5_init 24 (.anewarray 23) 3 27 := ⟨by decide +kernel, rfl⟩
theorem d5_init_27 : zd b5_init 27 (.putfield 25) 3 30 := ⟨by decide +kernel, rfl⟩
theorem d5_init_30 : zd b5_init 30 (.aload_n 0) 1 31 := ⟨by decide +kernel, rfl⟩
theorem d5_init_31 : zd b5_init 31 (.bipush 64) 2 33 := ⟨by decide +kernel, rfl⟩
theorem d5_init_33 : zd b5_init 33 (.newarray .int) 2 35 := ⟨by decide +kernel, rfl⟩
theorem d5_init_35 : zd b5_init 35 (.putfield 29) 3 38 := ⟨by decide +kernel, rfl⟩
theorem d5_init_38 : zd b5_init 38 (.aload_n 0) 1 39 := ⟨by decide +kernel, rfl⟩
theorem d5_init_39 : zd b5_init 39 (.bipush 60) 2 41 := ⟨by decide +kernel, rfl⟩
theorem d5_init_41 : zd b5_init 41 (.newarray .int) 2 43 := ⟨by decide +kernel, rfl⟩
theorem d5_init_43 : zd b5_init 43 (.putfield 33) 3 46 := ⟨by decide +kernel, rfl⟩
theorem d5_init_46 : zd b5_init 46 (.aload_n 0) 1 47 := ⟨by decide +kernel, rfl⟩
theorem d5_init_47 : zd b5_init 47 (.bipush 24) 2 49 := ⟨by decide +kernel, rfl⟩
theorem d5_init_49 : zd b5_init 49 (.newarray .int) 2 51 := ⟨by decide +kernel, rfl⟩
theorem d5_init_51 : zd b5_init 51 (.putfield 36) 3 54 := ⟨by decide +kernel, rfl⟩
theorem d5_init_54 : zd b5_init 54 (.aload_n 0) 1 55 := ⟨by decide +kernel, rfl⟩
theorem d5_init_55 : zd b5_init 55 (.iconst 1) 1 56 := ⟨by decide +kernel, rfl⟩
theorem d5_init_56 : zd b5_init 56 (.putfield 39) 3 59 := ⟨by decide +kernel, rfl⟩
theorem d5_init_59 : zd b5_init 59 (.aload_n 0) 1 60 := ⟨by decide +kernel, rfl⟩
theorem d5_init_60 : zd b5_init 60 (.getfield 29) 3 63 := ⟨by decide +kernel, rfl⟩
theorem d5_init_63 : zd b5_init 63 (.iconst (-1)) 1 64 := ⟨by decide +kernel, rfl⟩
theorem d5_init_64 : zd b5_init 64 (.invokestatic 43) 3 67 := ⟨by decide +kernel, rfl⟩
theorem d5_init_67 : zd b5_init 67 (.iconst 0) 1 68 := ⟨by decide +kernel, rfl⟩
theorem d5_init_68 : zd b5_init 68 (.istore_n 1) 1 69 := ⟨by decide +kernel, rfl⟩
theorem d5_init_69 : zd b5_init 69 (.iload_n 1) 1 70 := ⟨by decide +kernel, rfl⟩
theorem d5_init_70 : zd b5_init 70 (.aload_n 0) 1 71 := ⟨by decide +kernel, rfl⟩
theorem d5_init_71 : zd b5_init 71 (.getfield 11) 3 74 := ⟨by decide +kernel, rfl⟩
theorem d5_init_74 : zd b5_init 74 .arraylength 1 75 := ⟨by decide +kernel, rfl⟩
theorem d5_init_75 : zdb b5_init 75 (.if_icmp .ge 22) 22 78 97 := ⟨by decide +kernel, rfl, by decide⟩
theorem d5_init_78 : zd b5_init 78 (.aload_n 0) 1 79 := ⟨by decide +kernel, rfl⟩
theorem d5_init_79 : zd b5_init 79 (.getfield 11) 3 82 := ⟨by decide +kernel, rfl⟩
theorem d5_init_82 : zd b5_init 82 (.iload_n 1) 1 83 := ⟨by decide +kernel, rfl⟩
theorem d5_init_83 : zd b5_init 83 (.new 9) 3 86 := ⟨by decide +kernel, rfl⟩
theorem d5_init_86 : zd b5_init 86 .dup 1 87 := ⟨by decide +kernel, rfl⟩
theorem d5_init_87 : zd b5_init 87 (.invokespecial 49) 3 90 := ⟨by decide +kernel, rfl⟩
theorem d5_init_90 : zd b5_init 90 .aastore 1 91 := ⟨by decide +kernel, rfl⟩
theorem d5_init_91 : zd b5_init 91 (.iinc 1 1) 3 94 := ⟨by decide +kernel, rfl⟩
theorem d5_init_94 : zdb b5_init 94 (.goto (-25)) (-25) 97 69 := ⟨by decide +kernel, rfl, by decide⟩
theorem d5_init_97 : zd b5_init 97 (.iconst 0) 1 98 := ⟨by decide +kernel, rfl⟩
theorem d5_init_98 : zd b5_init 98 (.istore_n 1) 1 99 := ⟨by decide +kernel, rfl⟩
theorem d5_init_99 : zd b5_init 99 (.iload_n 1) 1 100 := ⟨by decide +kernel, rfl⟩
theorem d5_init_100 : zd b5_init 100 (.aload_n 0) 1 101 := ⟨by decide +kernel, rfl⟩
theorem d5_init_101 : zd b5_init 101 (.getfield 19) 3 104 := ⟨by decide +kernel, rfl⟩
theorem d5_init_104 : zd b5_init 104 .arraylength 1 105 := ⟨by decide +kernel, rfl⟩
theorem d5_init_105 : zdb b5_init 105 (.if_icmp .ge 22) 22 108 127 := ⟨by decide +kernel, rfl, by decide⟩
theorem d5_init_108 : zd b5_init 108 (.aload_n 0) 1 109 := ⟨by decide +kernel, rfl⟩
theorem d5_init_109 : zd b5_init 109 (.getfield 19) 3 112 := ⟨by decide +kernel, rfl⟩
theorem d5_init_112 : zd b5_init 112 (.iload_n 1) 1 113 := ⟨by decide +kernel, rfl⟩
theorem d5_init_113 : zd b5_init 113 (.new 17) 3 116 := ⟨by decide +kernel, rfl⟩
theorem d5_init_116 : zd b5_init 116 .dup 1 117 := ⟨by decide +kernel, rfl⟩
theorem d5_init_117 : zd b5_init 117 (.invokespecial 50) 3 120 := ⟨by decide +kernel, rfl⟩
theorem d5_init_120 : zd b5_init 120 .aastore 1 121 := ⟨by decide +kernel, rfl⟩
theorem d5_init_121 : zd b5_init 121 (.iinc 1 1) 3 124 := ⟨by decide +kernel, rfl⟩
theorem d5_init_124 : zdb b5_init 124 (.goto (-25)) (-25) 127 99 := ⟨by decide +kernel, rfl, by decide⟩
theorem d5_init_127 : zd b5_init 127 (.iconst 0) 1 128 := ⟨by decide +kernel, rfl⟩
theorem d5_init_128 : zd b5_init 128 (.istore_n 1) 1 129 := ⟨by decide +kernel, rfl⟩
theorem d5_init_129 : zd b5_init 129 (.iload_n 1) 1 130 := ⟨by decide +kernel, rfl⟩
theorem d5_init_130 : zd b5_init 130 (.aload_n 0) 1 131 := ⟨by decide +kernel, rfl⟩
theorem d5_init_131 : zd b5_init 131 (.getfield 25) 3 134 := ⟨by decide +kernel, rfl⟩
theorem d5_init_134 : zd b5_init 134 .arraylength 1 135 := ⟨by decide +kernel, rfl⟩
theorem d5_init_135 : zdb b5_init 135 (.if_icmp .ge 22) 22 138 157 := ⟨by decide +kernel, rfl, by decide⟩
theorem d5_init_138 : zd b5_init 138 (.aload_n 0) 1 139 := ⟨by decide +kernel, rfl⟩
theorem d5_init_139 : zd b5_init 139 (.getfield 25) 3 142 := ⟨by decide +kernel, rfl⟩
theorem d5_init_142 : zd b5_init 142 (.iload_n 1) 1 143 := ⟨by decide +kernel, rfl⟩
theorem d5_init_143 : zd b5_init 143 (.new 23) 3 146 := ⟨by decide +kernel, rfl⟩
theorem d5_init_146 : zd b5_init 146 .dup 1 147 := ⟨by decide +kernel, rfl⟩
theorem d5_init_147 : zd b5_init 147 (.invokespecial 51) 3 150 := ⟨by decide +kernel, rfl⟩
theorem d5_init_150 : zd b5_init 150 .aastore 1 151 := ⟨by decide +kernel, rfl⟩
theorem d5_init_151 : zd b5_init 151 (.iinc 1 1) 3 154 := ⟨by decide +kernel, rfl⟩
theorem d5_init_154 : zdb b5_init 154 (.goto (-25)) (-25) 157 129 := ⟨by decide +kernel, rfl, by decide⟩
theorem d5_init_157 : zd b5_init 157 .return_ 1 158 := ⟨by decide +kernel, rfl⟩
def yF5 (g : ZG) (n : Nat) : Nat → va_E := fun j => match j with
  | 0 => .inr (5, [.ref (g.1 + (n + 1)), .ref (g.1 + (n + 2)), .ref (g.1 + (n + 3)), .ref (g.1 + (n + 4)), .ref (g.1 + (n + 5)), .ref (g.1 + (n + 6)), .int 0, .int 0, .int 0, .int 0, .int 0, .int 1])
  | 1 => .inl (g.2.2.1 1, 8, .inr (.inr (.inr (.inr (va_up (va_up (va_up (va_up (va_up (va_up (va_up (va_up (fun _ => none) 0 (some (g.1 + (n + 7)))) 1 (some (g.1 + (n + 8)))) 2 (some (g.1 + (n + 9)))) 3 (some (g.1 + (n + 10)))) 4 (some (g.1 + (n + 11)))) 5 (some (g.1 + (n + 12)))) 6 (some (g.1 + (n + 13)))) 7 (some (g.1 + (n + 14))))))))
  | 2 => .inl (g.2.2.1 2, 6, .inr (.inr (.inr (.inr (va_up (va_up (va_up (va_up (va_up (va_up (fun _ => none) 0 (some (g.1 + (n + 15)))) 1 (some (g.1 + (n + 16)))) 2 (some (g.1 + (n + 17)))) 3 (some (g.1 + (n + 18)))) 4 (some (g.1 + (n + 19)))) 5 (some (g.1 + (n + 20))))))))
  | 3 => .inl (g.2.2.1 3, 2, .inr (.inr (.inr (.inr (va_up (va_up (fun _ => none) 0 (some (g.1 + (n + 21)))) 1 (some (g.1 + (n + 24))))))))
  | 4 => .inl (g.2.2.1 0, 64, .inl (fun j => if j < 64 then (-1 : Int32) else (fun _ => 0) j))
  | 5 => .inl (g.2.2.1 0, 60, .inl (fun _ => 0))
  | 6 => .inl (g.2.2.1 0, 24, .inl (fun _ => 0))
  | 7 => .inr (0, [.int 0, .int 0, .int 0, .int 0, .int 0])
  | 8 => .inr (0, [.int 0, .int 0, .int 0, .int 0, .int 0])
  | 9 => .inr (0, [.int 0, .int 0, .int 0, .int 0, .int 0])
  | 10 => .inr (0, [.int 0, .int 0, .int 0, .int 0, .int 0])
  | 11 => .inr (0, [.int 0, .int 0, .int 0, .int 0, .int 0])
  | 12 => .inr (0, [.int 0, .int 0, .int 0, .int 0, .int 0])
  | 13 => .inr (0, [.int 0, .int 0, .int 0, .int 0, .int 0])
  | 14 => .inr (0, [.int 0, .int 0, .int 0, .int 0, .int 0])
  | 15 => .inr (2, [.int 0, .int 0, .int 0])
  | 16 => .inr (2, [.int 0, .int 0, .int 0])
  | 17 => .inr (2, [.int 0, .int 0, .int 0])
  | 18 => .inr (2, [.int 0, .int 0, .int 0])
  | 19 => .inr (2, [.int 0, .int 0, .int 0])
  | 20 => .inr (2, [.int 0, .int 0, .int 0])
  | 21 => .inr (6, [.ref (g.1 + (n + 21 + 1)), .ref (g.1 + (n + 21 + 2)), .int 0, .int 0])
  | 22 => .inl (g.2.2.1 0, 60, .inl (fun _ => 0))
  | 23 => .inl (g.2.2.1 0, 60, .inl (fun _ => 0))
  | 24 => .inr (6, [.ref (g.1 + (n + 24 + 1)), .ref (g.1 + (n + 24 + 2)), .int 0, .int 0])
  | 25 => .inl (g.2.2.1 0, 60, .inl (fun _ => 0))
  | _ => .inl (g.2.2.1 0, 60, .inl (fun _ => 0))
theorem k5_init (l : Launch) (g : ZG) (n : Nat) (hn : 0 < n ∧ n < 120) : yT l g y5_init b5_init 2 2 83 26 470 n [zr (n + 0)] (fun _ => .inr (5, [.null, .null, .null, .null, .null, .null, .int 0, .int 0, .int 0, .int 0, .int 0, .int 0])) 1 (yF5 g n) 27 := by
  refine yT_start (own := R5) rfl (by decide +kernel) ⟨by omega, by omega⟩ 1 (L := [some (zr (n + 0)), none]) rfl rfl (fun x hl C hi => ?_)
  subst hl
  refine y_aload_n C d5_init_0 (j := 0) rfl (by decide) ?_
  refine y_obj C (j := 0) d5_init_1 w_31 yobw (by decide) rfl ⟨Nat.le_of_ble_eq_true rfl, Nat.le_of_ble_eq_true rfl⟩ ?_
  refine y_aload_n C d5_init_4 (j := 0) rfl (by decide) ?_
  refine y_bipush C (8 : Int32) d5_init_5 kB_8 ?_
  refine y_newq C (N := 8) (κ := 11) d5_init_7 (by decide) (by decide) (zwc1 32 rfl rfl) (by decide) (by decide) ⟨Nat.le_of_ble_eq_true rfl, Nat.le_of_ble_eq_true rfl⟩ (k' := 2) rfl (by decide) ?_
  refine y_putF C (kf := 0) (jw := 1) d5_init_10 hi rfl (by decide) rfl (zwc1 118 rfl rfl) rfl (ty5_ok 0 (by decide)) (fun _ => rfl) (fun _ => rfl) (by decide) (by decide) (by decide) rfl (fs' := [.ref (g.1 + (n + 1)), .null, .null, .null, .null, .null, .int 0, .int 0, .int 0, .int 0, .int 0, .int 0]) rfl (Nat.le_of_ble_eq_true rfl) ?_
  refine y_aload_n C d5_init_13 (j := 0) rfl (by decide) ?_
  refine y_bipush C (6 : Int32) d5_init_14 kB_6 ?_
  refine y_newq C (N := 6) (κ := 12) d5_init_16 (by decide) (by decide) (zwc1 34 rfl rfl) (by decide) (by decide) ⟨Nat.le_of_ble_eq_true rfl, Nat.le_of_ble_eq_true rfl⟩ (k' := 3) rfl (by decide) ?_
  refine y_putF C (kf := 1) (jw := 2) d5_init_19 hi rfl (by decide) rfl (zwc1 119 rfl rfl) rfl (ty5_ok 1 (by decide)) (fun _ => rfl) (fun _ => rfl) (by decide) (by decide) (by decide) rfl (fs' := [.ref (g.1 + (n + 1)), .ref (g.1 + (n + 2)), .null, .null, .null, .null, .int 0, .int 0, .int 0, .int 0, .int 0, .int 0]) rfl (Nat.le_of_ble_eq_true rfl) ?_
  refine y_aload_n C d5_init_22 (j := 0) rfl (by decide) ?_
  refine y_iconst C (2 : Int32) d5_init_23 kI_2 ?_
  refine y_newq C (N := 2) (κ := 13) d5_init_24 (by decide) (by decide) (zwc1 36 rfl rfl) (by decide) (by decide) ⟨Nat.le_of_ble_eq_true rfl, Nat.le_of_ble_eq_true rfl⟩ (k' := 4) rfl (by decide) ?_
  refine y_putF C (kf := 2) (jw := 3) d5_init_27 hi rfl (by decide) rfl (zwc1 120 rfl rfl) rfl (ty5_ok 2 (by decide)) (fun _ => rfl) (fun _ => rfl) (by decide) (by decide) (by decide) rfl (fs' := [.ref (g.1 + (n + 1)), .ref (g.1 + (n + 2)), .ref (g.1 + (n + 3)), .null, .null, .null, .int 0, .int 0, .int 0, .int 0, .int 0, .int 0]) rfl (Nat.le_of_ble_eq_true rfl) ?_
  refine y_aload_n C d5_init_30 (j := 0) rfl (by decide) ?_
  refine y_bipush C (64 : Int32) d5_init_31 kB_64 ?_
  refine y_newa C (N := 64) d5_init_33 yaiw (by decide) (by decide) ⟨Nat.le_of_ble_eq_true rfl, Nat.le_of_ble_eq_true rfl⟩ (k' := 5) rfl (by decide) ?_
  refine y_putF C (kf := 3) (jw := 4) d5_init_35 hi rfl (by decide) rfl (zwc1 121 rfl rfl) rfl (ty5_ok 3 (by decide)) (fun _ => rfl) (fun _ => rfl) (by decide) (by decide) (by decide) rfl (fs' := [.ref (g.1 + (n + 1)), .ref (g.1 + (n + 2)), .ref (g.1 + (n + 3)), .ref (g.1 + (n + 4)), .null, .null, .int 0, .int 0, .int 0, .int 0, .int 0, .int 0]) rfl (Nat.le_of_ble_eq_true rfl) ?_
  refine y_aload_n C d5_init_38 (j := 0) rfl (by decide) ?_
  refine y_bipush C (60 : Int32) d5_init_39 kB_60 ?_
  refine y_newa C (N := 60) d5_init_41 yaiw (by decide) (by decide) ⟨Nat.le_of_ble_eq_true rfl, Nat.le_of_ble_eq_true rfl⟩ (k' := 6) rfl (by decide) ?_
  refine y_putF C (kf := 4) (jw := 5) d5_init_43 hi rfl (by decide) rfl (zwc1 122 rfl rfl) rfl (ty5_ok 4 (by decide)) (fun _ => rfl) (fun _ => rfl) (by decide) (by decide) (by decide) rfl (fs' := [.ref (g.1 + (n + 1)), .ref (g.1 + (n + 2)), .ref (g.1 + (n + 3)), .ref (g.1 + (n + 4)), .ref (g.1 + (n + 5)), .null, .int 0, .int 0, .int 0, .int 0, .int 0, .int 0]) rfl (Nat.le_of_ble_eq_true rfl) ?_
  refine y_aload_n C d5_init_46 (j := 0) rfl (by decide) ?_
  refine y_bipush C (24 : Int32) d5_init_47 kB_24 ?_
  refine y_newa C (N := 24) d5_init_49 yaiw (by decide) (by decide) ⟨Nat.le_of_ble_eq_true rfl, Nat.le_of_ble_eq_true rfl⟩ (k' := 7) rfl (by decide) ?_
  refine y_putF C (kf := 5) (jw := 6) d5_init_51 hi rfl (by decide) rfl (zwc1 124 rfl rfl) rfl (ty5_ok 5 (by decide)) (fun _ => rfl) (fun _ => rfl) (by decide) (by decide) (by decide) rfl (fs' := [.ref (g.1 + (n + 1)), .ref (g.1 + (n + 2)), .ref (g.1 + (n + 3)), .ref (g.1 + (n + 4)), .ref (g.1 + (n + 5)), .ref (g.1 + (n + 6)), .int 0, .int 0, .int 0, .int 0, .int 0, .int 0]) rfl (Nat.le_of_ble_eq_true rfl) ?_
  refine y_aload_n C d5_init_54 (j := 0) rfl (by decide) ?_
  refine y_iconst C (1 : Int32) d5_init_55 kI_1 ?_
  refine y_putN C (kf := 11) d5_init_56 rfl (by decide) rfl (zwc1 135 rfl rfl) rfl (ty5_ok 11 (by decide)) (by decide) (by decide) rfl (fs' := [.ref (g.1 + (n + 1)), .ref (g.1 + (n + 2)), .ref (g.1 + (n + 3)), .ref (g.1 + (n + 4)), .ref (g.1 + (n + 5)), .ref (g.1 + (n + 6)), .int 0, .int 0, .int 0, .int 0, .int 0, .int 1]) rfl (Nat.le_of_ble_eq_true rfl) ?_
  refine y_aload_n C d5_init_59 (j := 0) rfl (by decide) ?_
  refine y_getR C (kf := 3) (j1 := 4) d5_init_60 rfl (by decide) rfl (zwc1 121 rfl rfl) (by decide) (by decide) (by decide) rfl rfl ?_
  refine y_iconst C (-1 : Int32) d5_init_63 kI_m1 ?_
  refine y_callF C (m := 4) d5_init_64 w_38 yyA_fill (kA_fill x.2.1 g ⟨by omega, by omega⟩ (N := 64) (by decide) (by decide) rfl (by decide)) (by decide) (Nat.le_of_ble_eq_true rfl) ⟨Nat.le_of_ble_eq_true rfl, Nat.le_of_ble_eq_true rfl⟩ ⟨Nat.le_of_ble_eq_true rfl, Nat.le_of_ble_eq_true rfl⟩ ?_
  refine y_iconst C (0 : Int32) d5_init_67 kI_0 ?_
  refine y_istore_n C d5_init_68 (Nat.le_of_ble_eq_true rfl) rfl (L' := [some (zr (n + 0)), some (zi (0 : Int32))]) rfl ?_
  refine y_iload_n C d5_init_69 rfl ?_
  refine y_aload_n C d5_init_70 (j := 0) rfl (by decide) ?_
  refine y_getR C (kf := 0) (j1 := 1) d5_init_71 rfl (by decide) rfl (zwc1 118 rfl rfl) (by decide) (by decide) (by decide) rfl rfl ?_
  refine y_alen C (t0 := 1) (8 : Int32) d5_init_74 (by decide) (by decide) rfl rfl kO_8 ?_
  refine y_icmp_ge C d5_init_75 (fun c => absurd c (by decide)) (fun _ => ?_)
  refine y_aload_n C d5_init_78 (j := 0) rfl (by decide) ?_
  refine y_getR C (kf := 0) (j1 := 1) d5_init_79 rfl (by decide) rfl (zwc1 118 rfl rfl) (by decide) (by decide) (by decide) rfl rfl ?_
  refine y_iload_n C d5_init_82 rfl ?_
  refine y_newo C (ci := 0) d5_init_83 ⟨zwc1 32 rfl rfl, zwc1 41 rfl rfl, zwc1 4 rfl rfl⟩ rfl ty0 ty0_ok (fs := [.int 0, .int 0, .int 0, .int 0, .int 0]) yfs0 ⟨Nat.le_of_ble_eq_true rfl, Nat.le_of_ble_eq_true rfl⟩ (k' := 8) rfl ?_ (by decide)
  refine y_dup C d5_init_86 rfl ?_
  refine y_callIN C (m := 7) d5_init_87 w_42 yz0_init rfl yi0_init (k0_init x.2.1 g (n + 7) ⟨by omega, by omega⟩) rfl (by decide) rfl (Nat.le_of_ble_eq_true rfl) ⟨Nat.le_of_ble_eq_true rfl, Nat.le_of_ble_eq_true rfl⟩ ⟨Nat.le_of_ble_eq_true rfl, Nat.le_of_ble_eq_true rfl⟩ (k' := 8) rfl ?_
  refine y_astq C (κ := 11) d5_init_90 (by decide) (by decide) (by decide) (by decide) (by decide) rfl rfl rfl rfl ⟨by decide, by decide⟩ kN_0 ?_
  refine y_iinc C d5_init_91 rfl (v' := (1 : Int32)) (by decide) (Nat.le_of_ble_eq_true rfl) rfl (L' := [some (zr (n + 0)), some (zi (1 : Int32))]) rfl ?_
  refine y_goto C d5_init_94 ?_
  refine y_iload_n C d5_init_69 rfl ?_
  refine y_aload_n C d5_init_70 (j := 0) rfl (by decide) ?_
  refine y_getR C (kf := 0) (j1 := 1) d5_init_71 rfl (by decide) rfl (zwc1 118 rfl rfl) (by decide) (by decide) (by decide) rfl rfl ?_
  refine y_alen C (t0 := 1) (8 : Int32) d5_init_74 (by decide) (by decide) rfl rfl kO_8 ?_
  refine y_icmp_ge C d5_init_75 (fun c => absurd c (by decide)) (fun _ => ?_)
  refine y_aload_n C d5_init_78 (j := 0) rfl (by decide) ?_
  refine y_getR C (kf := 0) (j1 := 1) d5_init_79 rfl (by decide) rfl (zwc1 118 rfl rfl) (by decide) (by decide) (by decide) rfl rfl ?_
  refine y_iload_n C d5_init_82 rfl ?_
  refine y_newo C (ci := 0) d5_init_83 ⟨zwc1 32 rfl rfl, zwc1 41 rfl rfl, zwc1 4 rfl rfl⟩ rfl ty0 ty0_ok (fs := [.int 0, .int 0, .int 0, .int 0, .int 0]) yfs0 ⟨Nat.le_of_ble_eq_true rfl, Nat.le_of_ble_eq_true rfl⟩ (k' := 9) rfl ?_ (by decide)
  refine y_dup C d5_init_86 rfl ?_
  refine y_callIN C (m := 8) d5_init_87 w_42 yz0_init rfl yi0_init (k0_init x.2.1 g (n + 8) ⟨by omega, by omega⟩) rfl (by decide) rfl (Nat.le_of_ble_eq_true rfl) ⟨Nat.le_of_ble_eq_true rfl, Nat.le_of_ble_eq_true rfl⟩ ⟨Nat.le_of_ble_eq_true rfl, Nat.le_of_ble_eq_true rfl⟩ (k' := 9) rfl ?_
  refine y_astq C (κ := 11) d5_init_90 (by decide) (by decide) (by decide) (by decide) (by decide) rfl rfl rfl rfl ⟨by decide, by decide⟩ kN_1 ?_
  refine y_iinc C d5_init_91 rfl (v' := (2 : Int32)) (by decide) (Nat.le_of_ble_eq_true rfl) rfl (L' := [some (zr (n + 0)), some (zi (2 : Int32))]) rfl ?_
  refine y_goto C d5_init_94 ?_
  refine y_iload_n C d5_init_69 rfl ?_
  refine y_aload_n C d5_init_70 (j := 0) rfl (by decide) ?_
  refine y_getR C (kf := 0) (j1 := 1) d5_init_71 rfl (by decide) rfl (zwc1 118 rfl rfl) (by decide) (by decide) (by decide) rfl rfl ?_
  refine y_alen C (t0 := 1) (8 : Int32) d5_init_74 (by decide) (by decide) rfl rfl kO_8 ?_
  refine y_icmp_ge C d5_init_75 (fun c => absurd c (by decide)) (fun _ => ?_)
  refine y_aload_n C d5_init_78 (j := 0) rfl (by decide) ?_
  refine y_getR C (kf := 0) (j1 := 1) d5_init_79 rfl (by decide) rfl (zwc1 118 rfl rfl) (by decide) (by decide) (by decide) rfl rfl ?_
  refine y_iload_n C d5_init_82 rfl ?_
  refine y_newo C (ci := 0) d5_init_83 ⟨zwc1 32 rfl rfl, zwc1 41 rfl rfl, zwc1 4 rfl rfl⟩ rfl ty0 ty0_ok (fs := [.int 0, .int 0, .int 0, .int 0, .int 0]) yfs0 ⟨Nat.le_of_ble_eq_true rfl, Nat.le_of_ble_eq_true rfl⟩ (k' := 10) rfl ?_ (by decide)
  refine y_dup C d5_init_86 rfl ?_
  refine y_callIN C (m := 9) d5_init_87 w_42 yz0_init rfl yi0_init (k0_init x.2.1 g (n + 9) ⟨by omega, by omega⟩) rfl (by decide) rfl (Nat.le_of_ble_eq_true rfl) ⟨Nat.le_of_ble_eq_true rfl, Nat.le_of_ble_eq_true rfl⟩ ⟨Nat.le_of_ble_eq_true rfl, Nat.le_of_ble_eq_true rfl⟩ (k' := 10) rfl ?_
  refine y_astq C (κ := 11) d5_init_90 (by decide) (by decide) (by decide) (by decide) (by decide) rfl rfl rfl rfl ⟨by decide, by decide⟩ kN_2 ?_
  refine y_iinc C d5_init_91 rfl (v' := (3 : Int32)) (by decide) (Nat.le_of_ble_eq_true rfl) rfl (L' := [some (zr (n + 0)), some (zi (3 : Int32))]) rfl ?_
  refine y_goto C d5_init_94 ?_
  refine y_iload_n C d5_init_69 rfl ?_
  refine y_aload_n C d5_init_70 (j := 0) rfl (by decide) ?_
  refine y_getR C (kf := 0) (j1 := 1) d5_init_71 rfl (by decide) rfl (zwc1 118 rfl rfl) (by decide) (by decide) (by decide) rfl rfl ?_
  refine y_alen C (t0 := 1) (8 : Int32) d5_init_74 (by decide) (by decide) rfl rfl kO_8 ?_
  refine y_icmp_ge C d5_init_75 (fun c => absurd c (by decide)) (fun _ => ?_)
  refine y_aload_n C d5_init_78 (j := 0) rfl (by decide) ?_
  refine y_getR C (kf := 0) (j1 := 1) d5_init_79 rfl (by decide) rfl (zwc1 118 rfl rfl) (by decide) (by decide) (by decide) rfl rfl ?_
  refine y_iload_n C d5_init_82 rfl ?_
  refine y_newo C (ci := 0) d5_init_83 ⟨zwc1 32 rfl rfl, zwc1 41 rfl rfl, zwc1 4 rfl rfl⟩ rfl ty0 ty0_ok (fs := [.int 0, .int 0, .int 0, .int 0, .int 0]) yfs0 ⟨Nat.le_of_ble_eq_true rfl, Nat.le_of_ble_eq_true rfl⟩ (k' := 11) rfl ?_ (by decide)
  refine y_dup C d5_init_86 rfl ?_
  refine y_callIN C (m := 10) d5_init_87 w_42 yz0_init rfl yi0_init (k0_init x.2.1 g (n + 10) ⟨by omega, by omega⟩) rfl (by decide) rfl (Nat.le_of_ble_eq_true rfl) ⟨Nat.le_of_ble_eq_true rfl, Nat.le_of_ble_eq_true rfl⟩ ⟨Nat.le_of_ble_eq_true rfl, Nat.le_of_ble_eq_true rfl⟩ (k' := 11) rfl ?_
  refine y_astq C (κ := 11) d5_init_90 (by decide) (by decide) (by decide) (by decide) (by decide) rfl rfl rfl rfl ⟨by decide, by decide⟩ kN_3 ?_
  refine y_iinc C d5_init_91 rfl (v' := (4 : Int32)) (by decide) (Nat.le_of_ble_eq_true rfl) rfl (L' := [some (zr (n + 0)), some (zi (4 : Int32))]) rfl ?_
  refine y_goto C d5_init_94 ?_
  refine y_iload_n C d5_init_69 rfl ?_
  refine y_aload_n C d5_init_70 (j := 0) rfl (by decide) ?_
  refine y_getR C (kf := 0) (j1 := 1) d5_init_71 rfl (by decide) rfl (zwc1 118 rfl rfl) (by decide) (by decide) (by decide) rfl rfl ?_
  refine y_alen C (t0 := 1) (8 : Int32) d5_init_74 (by decide) (by decide) rfl rfl kO_8 ?_
  refine y_icmp_ge C d5_init_75 (fun c => absurd c (by decide)) (fun _ => ?_)
  refine y_aload_n C d5_init_78 (j := 0) rfl (by decide) ?_
  refine y_getR C (kf := 0) (j1 := 1) d5_init_79 rfl (by decide) rfl (zwc1 118 rfl rfl) (by decide) (by decide) (by decide) rfl rfl ?_
  refine y_iload_n C d5_init_82 rfl ?_
  refine y_newo C (ci := 0) d5_init_83 ⟨zwc1 32 rfl rfl, zwc1 41 rfl rfl, zwc1 4 rfl rfl⟩ rfl ty0 ty0_ok (fs := [.int 0, .int 0, .int 0, .int 0, .int 0]) yfs0 ⟨Nat.le_of_ble_eq_true rfl, Nat.le_of_ble_eq_true rfl⟩ (k' := 12) rfl ?_ (by decide)
  refine y_dup C d5_init_86 rfl ?_
  refine y_callIN C (m := 11) d5_init_87 w_42 yz0_init rfl yi0_init (k0_init x.2.1 g (n + 11) ⟨by omega, by omega⟩) rfl (by decide) rfl (Nat.le_of_ble_eq_true rfl) ⟨Nat.le_of_ble_eq_true rfl, Nat.le_of_ble_eq_true rfl⟩ ⟨Nat.le_of_ble_eq_true rfl, Nat.le_of_ble_eq_true rfl⟩ (k' := 12) rfl ?_
  refine y_astq C (κ := 11) d5_init_90 (by decide) (by decide) (by decide) (by decide) (by decide) rfl rfl rfl rfl ⟨by decide, by decide⟩ kN_4 ?_
  refine y_iinc C d5_init_91 rfl (v' := (5 : Int32)) (by decide) (Nat.le_of_ble_eq_true rfl) rfl (L' := [some (zr (n + 0)), some (zi (5 : Int32))]) rfl ?_
  refine y_goto C d5_init_94 ?_
  refine y_iload_n C d5_init_69 rfl ?_
  refine y_aload_n C d5_init_70 (j := 0) rfl (by decide) ?_
  refine y_getR C (kf := 0) (j1 := 1) d5_init_71 rfl (by decide) rfl (zwc1 118 rfl rfl) (by decide) (by decide) (by decide) rfl rfl ?_
  refine y_alen C (t0 := 1) (8 : Int32) d5_init_74 (by decide) (by decide) rfl rfl kO_8 ?_
  refine y_icmp_ge C d5_init_75 (fun c => absurd c (by decide)) (fun _ => ?_)
  refine y_aload_n C d5_init_78 (j := 0) rfl (by decide) ?_
  refine y_getR C (kf := 0) (j1 := 1) d5_init_79 rfl (by decide) rfl (zwc1 118 rfl rfl) (by decide) (by decide) (by decide) rfl rfl ?_
  refine y_iload_n C d5_init_82 rfl ?_
  refine y_newo C (ci := 0) d5_init_83 ⟨zwc1 32 rfl rfl, zwc1 41 rfl rfl, zwc1 4 rfl rfl⟩ rfl ty0 ty0_ok (fs := [.int 0, .int 0, .int 0, .int 0, .int 0]) yfs0 ⟨Nat.le_of_ble_eq_true rfl, Nat.le_of_ble_eq_true rfl⟩ (k' := 13) rfl ?_ (by decide)
  refine y_dup C d5_init_86 rfl ?_
  refine y_callIN C (m := 12) d5_init_87 w_42 yz0_init rfl yi0_init (k0_init x.2.1 g (n + 12) ⟨by omega, by omega⟩) rfl (by decide) rfl (Nat.le_of_ble_eq_true rfl) ⟨Nat.le_of_ble_eq_true rfl, Nat.le_of_ble_eq_true rfl⟩ ⟨Nat.le_of_ble_eq_true rfl, Nat.le_of_ble_eq_true rfl⟩ (k' := 13) rfl ?_
  refine y_astq C (κ := 11) d5_init_90 (by decide) (by decide) (by decide) (by decide) (by decide) rfl rfl rfl rfl ⟨by decide, by decide⟩ kN_5 ?_
  refine y_iinc C d5_init_91 rfl (v' := (6 : Int32)) (by decide) (Nat.le_of_ble_eq_true rfl) rfl (L' := [some (zr (n + 0)), some (zi (6 : Int32))]) rfl ?_
  refine y_goto C d5_init_94 ?_
  refine y_iload_n C d5_init_69 rfl ?_
  refine y_aload_n C d5_init_70 (j := 0) rfl (by decide) ?_
  refine y_getR C (kf := 0) (j1 := 1) d5_init_71 rfl (by decide) rfl (zwc1 118 rfl rfl) (by decide) (by decide) (by decide) rfl rfl ?_
  refine y_alen C (t0 := 1) (8 : Int32) d5_init_74 (by decide) (by decide) rfl rfl kO_8 ?_
  refine y_icmp_ge C d5_init_75 (fun c => absurd c (by decide)) (fun _ => ?_)
  refine y_aload_n C d5_init_78 (j := 0) rfl (by decide) ?_
  refine y_getR C (kf := 0) (j1 := 1) d5_init_79 rfl (by decide) rfl (zwc1 118 rfl rfl) (by decide) (by decide) (by decide) rfl rfl ?_
  refine y_iload_n C d5_init_82 rfl ?_
  refine y_newo C (ci := 0) d5_init_83 ⟨zwc1 32 rfl rfl, zwc1 41 rfl rfl, zwc1 4 rfl rfl⟩ rfl ty0 ty0_ok (fs := [.int 0, .int 0, .int 0, .int 0, .int 0]) yfs0 ⟨Nat.le_of_ble_eq_true rfl, Nat.le_of_ble_eq_true rfl⟩ (k' := 14) rfl ?_ (by decide)
  refine y_dup C d5_init_86 rfl ?_
  refine y_callIN C (m := 13) d5_init_87 w_42 yz0_init rfl yi0_init (k0_init x.2.1 g (n + 13) ⟨by omega, by omega⟩) rfl (by decide) rfl (Nat.le_of_ble_eq_true rfl) ⟨Nat.le_of_ble_eq_true rfl, Nat.le_of_ble_eq_true rfl⟩ ⟨Nat.le_of_ble_eq_true rfl, Nat.le_of_ble_eq_true rfl⟩ (k' := 14) rfl ?_
  refine y_astq C (κ := 11) d5_init_90 (by decide) (by decide) (by decide) (by decide) (by decide) rfl rfl rfl rfl ⟨by decide, by decide⟩ kN_6 ?_
  refine y_iinc C d5_init_91 rfl (v' := (7 : Int32)) (by decide) (Nat.le_of_ble_eq_true rfl) rfl (L' := [some (zr (n + 0)), some (zi (7 : Int32))]) rfl ?_
  refine y_goto C d5_init_94 ?_
  refine y_iload_n C d5_init_69 rfl ?_
  refine y_aload_n C d5_init_70 (j := 0) rfl (by decide) ?_
  refine y_getR C (kf := 0) (j1 := 1) d5_init_71 rfl (by decide) rfl (zwc1 118 rfl rfl) (by decide) (by decide) (by decide) rfl rfl ?_
  refine y_alen C (t0 := 1) (8 : Int32) d5_init_74 (by decide) (by decide) rfl rfl kO_8 ?_
  refine y_icmp_ge C d5_init_75 (fun c => absurd c (by decide)) (fun _ => ?_)
  refine y_aload_n C d5_init_78 (j := 0) rfl (by decide) ?_
  refine y_getR C (kf := 0) (j1 := 1) d5_init_79 rfl (by decide) rfl (zwc1 118 rfl rfl) (by decide) (by decide) (by decide) rfl rfl ?_
  refine y_iload_n C d5_init_82 rfl ?_
  refine y_newo C (ci := 0) d5_init_83 ⟨zwc1 32 rfl rfl, zwc1 41 rfl rfl, zwc1 4 rfl rfl⟩ rfl ty0 ty0_ok (fs := [.int 0, .int 0, .int 0, .int 0, .int 0]) yfs0 ⟨Nat.le_of_ble_eq_true rfl, Nat.le_of_ble_eq_true rfl⟩ (k' := 15) rfl ?_ (by decide)
  refine y_dup C d5_init_86 rfl ?_
  refine y_callIN C (m := 14) d5_init_87 w_42 yz0_init rfl yi0_init (k0_init x.2.1 g (n + 14) ⟨by omega, by omega⟩) rfl (by decide) rfl (Nat.le_of_ble_eq_true rfl) ⟨Nat.le_of_ble_eq_true rfl, Nat.le_of_ble_eq_true rfl⟩ ⟨Nat.le_of_ble_eq_true rfl, Nat.le_of_ble_eq_true rfl⟩ (k' := 15) rfl ?_
  refine y_astq C (κ := 11) d5_init_90 (by decide) (by decide) (by decide) (by decide) (by decide) rfl rfl rfl rfl ⟨by decide, by decide⟩ kN_7 ?_
  refine y_iinc C d5_init_91 rfl (v' := (8 : Int32)) (by decide) (Nat.le_of_ble_eq_true rfl) rfl (L' := [some (zr (n + 0)), some (zi (8 : Int32))]) rfl ?_
  refine y_goto C d5_init_94 ?_
  refine y_iload_n C d5_init_69 rfl ?_
  refine y_aload_n C d5_init_70 (j := 0) rfl (by decide) ?_
  refine y_getR C (kf := 0) (j1 := 1) d5_init_71 rfl (by decide) rfl (zwc1 118 rfl rfl) (by decide) (by decide) (by decide) rfl rfl ?_
  refine y_alen C (t0 := 1) (8 : Int32) d5_init_74 (by decide) (by decide) rfl rfl kO_8 ?_
  refine y_icmp_ge C d5_init_75 (fun _ => ?_) (fun c => absurd (by decide) c)
  refine y_iconst C (0 : Int32) d5_init_97 kI_0 ?_
  refine y_istore_n C d5_init_98 (Nat.le_of_ble_eq_true rfl) rfl (L' := [some (zr (n + 0)), some (zi (0 : Int32))]) rfl ?_
  refine y_iload_n C d5_init_99 rfl ?_
  refine y_aload_n C d5_init_100 (j := 0) rfl (by decide) ?_
  refine y_getR C (kf := 1) (j1 := 2) d5_init_101 rfl (by decide) rfl (zwc1 119 rfl rfl) (by decide) (by decide) (by decide) rfl rfl ?_
  refine y_alen C (t0 := 2) (6 : Int32) d5_init_104 (by decide) (by decide) rfl rfl kO_6 ?_
  refine y_icmp_ge C d5_init_105 (fun c => absurd c (by decide)) (fun _ => ?_)
  refine y_aload_n C d5_init_108 (j := 0) rfl (by decide) ?_
  refine y_getR C (kf := 1) (j1 := 2) d5_init_109 rfl (by decide) rfl (zwc1 119 rfl rfl) (by decide) (by decide) (by decide) rfl rfl ?_
  refine y_iload_n C d5_init_112 rfl ?_
  refine y_newo C (ci := 2) d5_init_113 ⟨zwc1 34 rfl rfl, zwc1 75 rfl rfl, zwc1 5 rfl rfl⟩ rfl ty2 ty2_ok (fs := [.int 0, .int 0, .int 0]) yfs2 ⟨Nat.le_of_ble_eq_true rfl, Nat.le_of_ble_eq_true rfl⟩ (k' := 16) rfl ?_ (by decide)
  refine y_dup C d5_init_116 rfl ?_
  refine y_callIN C (m := 15) d5_init_117 w_76 yz2_init rfl yi2_init (k2_init x.2.1 g (n + 15) ⟨by omega, by omega⟩) rfl (by decide) rfl (Nat.le_of_ble_eq_true rfl) ⟨Nat.le_of_ble_eq_true rfl, Nat.le_of_ble_eq_true rfl⟩ ⟨Nat.le_of_ble_eq_true rfl, Nat.le_of_ble_eq_true rfl⟩ (k' := 16) rfl ?_
  refine y_astq C (κ := 12) d5_init_120 (by decide) (by decide) (by decide) (by decide) (by decide) rfl rfl rfl rfl ⟨by decide, by decide⟩ kN_0 ?_
  refine y_iinc C d5_init_121 rfl (v' := (1 : Int32)) (by decide) (Nat.le_of_ble_eq_true rfl) rfl (L' := [some (zr (n + 0)), some (zi (1 : Int32))]) rfl ?_
  refine y_goto C d5_init_124 ?_
  refine y_iload_n C d5_init_99 rfl ?_
  refine y_aload_n C d5_init_100 (j := 0) rfl (by decide) ?_
  refine y_getR C (kf := 1) (j1 := 2) d5_init_101 rfl (by decide) rfl (zwc1 119 rfl rfl) (by decide) (by decide) (by decide) rfl rfl ?_
  refine y_alen C (t0 := 2) (6 : Int32) d5_init_104 (by decide) (by decide) rfl rfl kO_6 ?_
  refine y_icmp_ge C d5_init_105 (fun c => absurd c (by decide)) (fun _ => ?_)
  refine y_aload_n C d5_init_108 (j := 0) rfl (by decide) ?_
  refine y_getR C (kf := 1) (j1 := 2) d5_init_109 rfl (by decide) rfl (zwc1 119 rfl rfl) (by decide) (by decide) (by decide) rfl rfl ?_
  refine y_iload_n C d5_init_112 rfl ?_
  refine y_newo C (ci := 2) d5_init_113 ⟨zwc1 34 rfl rfl, zwc1 75 rfl rfl, zwc1 5 rfl rfl⟩ rfl ty2 ty2_ok (fs := [.int 0, .int 0, .int 0]) yfs2 ⟨Nat.le_of_ble_eq_true rfl, Nat.le_of_ble_eq_true rfl⟩ (k' := 17) rfl ?_ (by decide)
  refine y_dup C d5_init_116 rfl ?_
  refine y_callIN C (m := 16) d5_init_117 w_76 yz2_init rfl yi2_init (k2_init x.2.1 g (n + 16) ⟨by omega, by omega⟩) rfl (by decide) rfl (Nat.le_of_ble_eq_true rfl) ⟨Nat.le_of_ble_eq_true rfl, Nat.le_of_ble_eq_true rfl⟩ ⟨Nat.le_of_ble_eq_true rfl, Nat.le_of_ble_eq_true rfl⟩ (k' := 17) rfl ?_
  refine y_astq C (κ := 12) d5_init_120 (by decide) (by decide) (by decide) (by decide) (by decide) rfl rfl rfl rfl ⟨by decide, by decide⟩ kN_1 ?_
  refine y_iinc C d5_init_121 rfl (v' := (2 : Int32)) (by decide) (Nat.le_of_ble_eq_true rfl) rfl (L' := [some (zr (n + 0)), some (zi (2 : Int32))]) rfl ?_
  refine y_goto C d5_init_124 ?_
  refine y_iload_n C d5_init_99 rfl ?_
  refine y_aload_n C d5_init_100 (j := 0) rfl (by decide) ?_
  refine y_getR C (kf := 1) (j1 := 2) d5_init_101 rfl (by decide) rfl (zwc1 119 rfl rfl) (by decide) (by decide) (by decide) rfl rfl ?_
  refine y_alen C (t0 := 2) (6 : Int32) d5_init_104 (by decide) (by decide) rfl rfl kO_6 ?_
  refine y_icmp_ge C d5_init_105 (fun c => absurd c (by decide)) (fun _ => ?_)
  refine y_aload_n C d5_init_108 (j := 0) rfl (by decide) ?_
  refine y_getR C (kf := 1) (j1 := 2) d5_init_109 rfl (by decide) rfl (zwc1 119 rfl rfl) (by decide) (by decide) (by decide) rfl rfl ?_
  refine y_iload_n C d5_init_112 rfl ?_
  refine y_newo C (ci := 2) d5_init_113 ⟨zwc1 34 rfl rfl, zwc1 75 rfl rfl, zwc1 5 rfl rfl⟩ rfl ty2 ty2_ok (fs := [.int 0, .int 0, .int 0]) yfs2 ⟨Nat.le_of_ble_eq_true rfl, Nat.le_of_ble_eq_true rfl⟩ (k' := 18) rfl ?_ (by decide)
  refine y_dup C d5_init_116 rfl ?_
  refine y_callIN C (m := 17) d5_init_117 w_76 yz2_init rfl yi2_init (k2_init x.2.1 g (n + 17) ⟨by omega, by omega⟩) rfl (by decide) rfl (Nat.le_of_ble_eq_true rfl) ⟨Nat.le_of_ble_eq_true rfl, Nat.le_of_ble_eq_true rfl⟩ ⟨Nat.le_of_ble_eq_true rfl, Nat.le_of_ble_eq_true rfl⟩ (k' := 18) rfl ?_
  refine y_astq C (κ := 12) d5_init_120 (by decide) (by decide) (by decide) (by decide) (by decide) rfl rfl rfl rfl ⟨by decide, by decide⟩ kN_2 ?_
  refine y_iinc C d5_init_121 rfl (v' := (3 : Int32)) (by decide) (Nat.le_of_ble_eq_true rfl) rfl (L' := [some (zr (n + 0)), some (zi (3 : Int32))]) rfl ?_
  refine y_goto C d5_init_124 ?_
  refine y_iload_n C d5_init_99 rfl ?_
  refine y_aload_n C d5_init_100 (j := 0) rfl (by decide) ?_
  refine y_getR C (kf := 1) (j1 := 2) d5_init_101 rfl (by decide) rfl (zwc1 119 rfl rfl) (by decide) (by decide) (by decide) rfl rfl ?_
  refine y_alen C (t0 := 2) (6 : Int32) d5_init_104 (by decide) (by decide) rfl rfl kO_6 ?_
  refine y_icmp_ge C d5_init_105 (fun c => absurd c (by decide)) (fun _ => ?_)
  refine y_aload_n C d5_init_108 (j := 0) rfl (by decide) ?_
  refine y_getR C (kf := 1) (j1 := 2) d5_init_109 rfl (by decide) rfl (zwc1 119 rfl rfl) (by decide) (by decide) (by decide) rfl rfl ?_
  refine y_iload_n C d5_init_112 rfl ?_
  refine y_newo C (ci := 2) d5_init_113 ⟨zwc1 34 rfl rfl, zwc1 75 rfl rfl, zwc1 5 rfl rfl⟩ rfl ty2 ty2_ok (fs := [.int 0, .int 0, .int 0]) yfs2 ⟨Nat.le_of_ble_eq_true rfl, Nat.le_of_ble_eq_true rfl⟩ (k' := 19) rfl ?_ (by decide)
  refine y_dup C d5_init_116 rfl ?_
  refine y_callIN C (m := 18) d5_init_117 w_76 yz2_init rfl yi2_init (k2_init x.2.1 g (n + 18) ⟨by omega, by omega⟩) rfl (by decide) rfl (Nat.le_of_ble_eq_true rfl) ⟨Nat.le_of_ble_eq_true rfl, Nat.le_of_ble_eq_true rfl⟩ ⟨Nat.le_of_ble_eq_true rfl, Nat.le_of_ble_eq_true rfl⟩ (k' := 19) rfl ?_
  refine y_astq C (κ := 12) d5_init_120 (by decide) (by decide) (by decide) (by decide) (by decide) rfl rfl rfl rfl ⟨by decide, by decide⟩ kN_3 ?_
  refine y_iinc C d5_init_121 rfl (v' := (4 : Int32)) (by decide) (Nat.le_of_ble_eq_true rfl) rfl (L' := [some (zr (n + 0)), some (zi (4 : Int32))]) rfl ?_
  refine y_goto C d5_init_124 ?_
  refine y_iload_n C d5_init_99 rfl ?_
  refine y_aload_n C d5_init_100 (j := 0) rfl (by decide) ?_
  refine y_getR C (kf := 1) (j1 := 2) d5_init_101 rfl (by decide) rfl (zwc1 119 rfl rfl) (by decide) (by decide) (by decide) rfl rfl ?_
  refine y_alen C (t0 := 2) (6 : Int32) d5_init_104 (by decide) (by decide) rfl rfl kO_6 ?_
  refine y_icmp_ge C d5_init_105 (fun c => absurd c (by decide)) (fun _ => ?_)
  refine y_aload_n C d5_init_108 (j := 0) rfl (by decide) ?_
  refine y_getR C (kf := 1) (j1 := 2) d5_init_109 rfl (by decide) rfl (zwc1 119 rfl rfl) (by decide) (by decide) (by decide) rfl rfl ?_
  refine y_iload_n C d5_init_112 rfl ?_
  refine y_newo C (ci := 2) d5_init_113 ⟨zwc1 34 rfl rfl, zwc1 75 rfl rfl, zwc1 5 rfl rfl⟩ rfl ty2 ty2_ok (fs := [.int 0, .int 0, .int 0]) yfs2 ⟨Nat.le_of_ble_eq_true rfl, Nat.le_of_ble_eq_true rfl⟩ (k' := 20) rfl ?_ (by decide)
  refine y_dup C d5_init_116 rfl ?_
  refine y_callIN C (m := 19) d5_init_117 w_76 yz2_init rfl yi2_init (k2_init x.2.1 g (n + 19) ⟨by omega, by omega⟩) rfl (by decide) rfl (Nat.le_of_ble_eq_true rfl) ⟨Nat.le_of_ble_eq_true rfl, Nat.le_of_ble_eq_true rfl⟩ ⟨Nat.le_of_ble_eq_true rfl, Nat.le_of_ble_eq_true rfl⟩ (k' := 20) rfl ?_
  refine y_astq C (κ := 12) d5_init_120 (by decide) (by decide) (by decide) (by decide) (by decide) rfl rfl rfl rfl ⟨by decide, by decide⟩ kN_4 ?_
  refine y_iinc C d5_init_121 rfl (v' := (5 : Int32)) (by decide) (Nat.le_of_ble_eq_true rfl) rfl (L' := [some (zr (n + 0)), some (zi (5 : Int32))]) rfl ?_
  refine y_goto C d5_init_124 ?_
  refine y_iload_n C d5_init_99 rfl ?_
  refine y_aload_n C d5_init_100 (j := 0) rfl (by decide) ?_
  refine y_getR C (kf := 1) (j1 := 2) d5_init_101 rfl (by decide) rfl (zwc1 119 rfl rfl) (by decide) (by decide) (by decide) rfl rfl ?_
  refine y_alen C (t0 := 2) (6 : Int32) d5_init_104 (by decide) (by decide) rfl rfl kO_6 ?_
  refine y_icmp_ge C d5_init_105 (fun c => absurd c (by decide)) (fun _ => ?_)
  refine y_aload_n C d5_init_108 (j := 0) rfl (by decide) ?_
  refine y_getR C (kf := 1) (j1 := 2) d5_init_109 rfl (by decide) rfl (zwc1 119 rfl rfl) (by decide) (by decide) (by decide) rfl rfl ?_
  refine y_iload_n C d5_init_112 rfl ?_
  refine y_newo C (ci := 2) d5_init_113 ⟨zwc1 34 rfl rfl, zwc1 75 rfl rfl, zwc1 5 rfl rfl⟩ rfl ty2 ty2_ok (fs := [.int 0, .int 0, .int 0]) yfs2 ⟨Nat.le_of_ble_eq_true rfl, Nat.le_of_ble_eq_true rfl⟩ (k' := 21) rfl ?_ (by decide)
  refine y_dup C d5_init_116 rfl ?_
  refine y_callIN C (m := 20) d5_init_117 w_76 yz2_init rfl yi2_init (k2_init x.2.1 g (n + 20) ⟨by omega, by omega⟩) rfl (by decide) rfl (Nat.le_of_ble_eq_true rfl) ⟨Nat.le_of_ble_eq_true rfl, Nat.le_of_ble_eq_true rfl⟩ ⟨Nat.le_of_ble_eq_true rfl, Nat.le_of_ble_eq_true rfl⟩ (k' := 21) rfl ?_
  refine y_astq C (κ := 12) d5_init_120 (by decide) (by decide) (by decide) (by decide) (by decide) rfl rfl rfl rfl ⟨by decide, by decide⟩ kN_5 ?_
  refine y_iinc C d5_init_121 rfl (v' := (6 : Int32)) (by decide) (Nat.le_of_ble_eq_true rfl) rfl (L' := [some (zr (n + 0)), some (zi (6 : Int32))]) rfl ?_
  refine y_goto C d5_init_124 ?_
  refine y_iload_n C d5_init_99 rfl ?_
  refine y_aload_n C d5_init_100 (j := 0) rfl (by decide) ?_
  refine y_getR C (kf := 1) (j1 := 2) d5_init_101 rfl (by decide) rfl (zwc1 119 rfl rfl) (by decide) (by decide) (by decide) rfl rfl ?_
  refine y_alen C (t0 := 2) (6 : Int32) d5_init_104 (by decide) (by decide) rfl rfl kO_6 ?_
  refine y_icmp_ge C d5_init_105 (fun _ => ?_) (fun c => absurd (by decide) c)
  refine y_iconst C (0 : Int32) d5_init_127 kI_0 ?_
  refine y_istore_n C d5_init_128 (Nat.le_of_ble_eq_true rfl) rfl (L' := [some (zr (n + 0)), some (zi (0 : Int32))]) rfl ?_
  refine y_iload_n C d5_init_129 rfl ?_
  refine y_aload_n C d5_init_130 (j := 0) rfl (by decide) ?_
  refine y_getR C (kf := 2) (j1 := 3) d5_init_131 rfl (by decide) rfl (zwc1 120 rfl rfl) (by decide) (by decide) (by decide) rfl rfl ?_
  refine y_alen C (t0 := 3) (2 : Int32) d5_init_134 (by decide) (by decide) rfl rfl kO_2 ?_
  refine y_icmp_ge C d5_init_135 (fun c => absurd c (by decide)) (fun _ => ?_)
  refine y_aload_n C d5_init_138 (j := 0) rfl (by decide) ?_
  refine y_getR C (kf := 2) (j1 := 3) d5_init_139 rfl (by decide) rfl (zwc1 120 rfl rfl) (by decide) (by decide) (by decide) rfl rfl ?_
  refine y_iload_n C d5_init_142 rfl ?_
  refine y_newo C (ci := 6) d5_init_143 ⟨zwc1 36 rfl rfl, zwc1 96 rfl rfl, zwc1 6 rfl rfl⟩ rfl ty6 ty6_ok (fs := [.null, .null, .int 0, .int 0]) yfs6 ⟨Nat.le_of_ble_eq_true rfl, Nat.le_of_ble_eq_true rfl⟩ (k' := 22) rfl ?_ (by decide)
  refine y_dup C d5_init_146 rfl ?_
  refine y_callIN C (m := 21) d5_init_147 w_97 yz6_init rfl yi6_init (k6_init x.2.1 g (n + 21) ⟨by omega, by omega⟩) rfl (by decide) rfl (Nat.le_of_ble_eq_true rfl) ⟨Nat.le_of_ble_eq_true rfl, Nat.le_of_ble_eq_true rfl⟩ ⟨Nat.le_of_ble_eq_true rfl, Nat.le_of_ble_eq_true rfl⟩ (k' := 24) rfl ?_
  refine y_astq C (κ := 13) d5_init_150 (by decide) (by decide) (by decide) (by decide) (by decide) rfl rfl rfl rfl ⟨by decide, by decide⟩ kN_0 ?_
  refine y_iinc C d5_init_151 rfl (v' := (1 : Int32)) (by decide) (Nat.le_of_ble_eq_true rfl) rfl (L' := [some (zr (n + 0)), some (zi (1 : Int32))]) rfl ?_
  refine y_goto C d5_init_154 ?_
  refine y_iload_n C d5_init_129 rfl ?_
  refine y_aload_n C d5_init_130 (j := 0) rfl (by decide) ?_
  refine y_getR C (kf := 2) (j1 := 3) d5_init_131 rfl (by decide) rfl (zwc1 120 rfl rfl) (by decide) (by decide) (by decide) rfl rfl ?_
  refine y_alen C (t0 := 3) (2 : Int32) d5_init_134 (by decide) (by decide) rfl rfl kO_2 ?_
  refine y_icmp_ge C d5_init_135 (fun c => absurd c (by decide)) (fun _ => ?_)
  refine y_aload_n C d5_init_138 (j := 0) rfl (by decide) ?_
  refine y_getR C (kf := 2) (j1 := 3) d5_init_139 rfl (by decide) rfl (zwc1 120 rfl rfl) (by decide) (by decide) (by decide) rfl rfl ?_
  refine y_iload_n C d5_init_142 rfl ?_
  refine y_newo C (ci := 6) d5_init_143 ⟨zwc1 36 rfl rfl, zwc1 96 rfl rfl, zwc1 6 rfl rfl⟩ rfl ty6 ty6_ok (fs := [.null, .null, .int 0, .int 0]) yfs6 ⟨Nat.le_of_ble_eq_true rfl, Nat.le_of_ble_eq_true rfl⟩ (k' := 25) rfl ?_ (by decide)
  refine y_dup C d5_init_146 rfl ?_
  refine y_callIN C (m := 24) d5_init_147 w_97 yz6_init rfl yi6_init (k6_init x.2.1 g (n + 24) ⟨by omega, by omega⟩) rfl (by decide) rfl (Nat.le_of_ble_eq_true rfl) ⟨Nat.le_of_ble_eq_true rfl, Nat.le_of_ble_eq_true rfl⟩ ⟨Nat.le_of_ble_eq_true rfl, Nat.le_of_ble_eq_true rfl⟩ (k' := 27) rfl ?_
  refine y_astq C (κ := 13) d5_init_150 (by decide) (by decide) (by decide) (by decide) (by decide) rfl rfl rfl rfl ⟨by decide, by decide⟩ kN_1 ?_
  refine y_iinc C d5_init_151 rfl (v' := (2 : Int32)) (by decide) (Nat.le_of_ble_eq_true rfl) rfl (L' := [some (zr (n + 0)), some (zi (2 : Int32))]) rfl ?_
  refine y_goto C d5_init_154 ?_
  refine y_iload_n C d5_init_129 rfl ?_
  refine y_aload_n C d5_init_130 (j := 0) rfl (by decide) ?_
  refine y_getR C (kf := 2) (j1 := 3) d5_init_131 rfl (by decide) rfl (zwc1 120 rfl rfl) (by decide) (by decide) (by decide) rfl rfl ?_
  refine y_alen C (t0 := 3) (2 : Int32) d5_init_134 (by decide) (by decide) rfl rfl kO_2 ?_
  refine y_icmp_ge C d5_init_135 (fun _ => ?_) (fun c => absurd (by decide) c)
  exact y_vret C d5_init_157 rfl (fun j hj => by
    match j, hj with
    | 0, _ => rfl
    | 1, _ => rfl
    | 2, _ => rfl
    | 3, _ => rfl
    | 4, _ => rfl
    | 5, _ => rfl
    | 6, _ => rfl
    | 7, _ => rfl
    | 8, _ => rfl
    | 9, _ => rfl
    | 10, _ => rfl
    | 11, _ => rfl
    | 12, _ => rfl
    | 13, _ => rfl
    | 14, _ => rfl
    | 15, _ => rfl
    | 16, _ => rfl
    | 17, _ => rfl
    | 18, _ => rfl
    | 19, _ => rfl
    | 20, _ => rfl
    | 21, _ => rfl
    | 22, _ => rfl
    | 23, _ => rfl
    | 24, _ => rfl
    | 25, _ => rfl
    | 26, _ => rfl
    | j + 27, h => exact absurd h (by omega)) rfl rfl
theorem yz8_init : zY y8_init b8_init 2 none 0 := ⟨zwc1 22 rfl rfl, zwc1 1 rfl rfl, ⟨by decide +kernel, by decide +kernel⟩, by decide +kernel⟩
theorem yi8_init : Cond.instanceMethod y8_init ∈ lw_gd := zwc1 21 rfl rfl
theorem d8_init_0 : zd b8_init 0 (.aload_n 0) 1 1 := ⟨by decide +kernel, rfl⟩
theorem d8_init_1 : zd b8_init 1 (.invokespecial 1) 3 4 := ⟨by decide +kernel, rfl⟩
theorem d8_init_4 : zd b8_init 4 (.aload_n 0) 1 5 := ⟨by decide +kernel, rfl⟩
theorem d8_init_5 : zd b8_init 5 (.new 7) 3 8 := ⟨by decide +kernel, rfl⟩
theorem d8_init_8 : zd b8_init 8 .dup 1 9 := ⟨by decide +kernel, rfl⟩
theorem d8_init_9 : zd b8_init 9 (.invokespecial 9) 3 12 := ⟨by decide +kernel, rfl⟩
theorem d8_init_12 : zd b8_init 12 (.putfield 10) 3 15 := ⟨by decide +kernel, rfl⟩
theorem d8_init_15 : zd b8_init 15 (.aload_n 0) 1 16 := ⟨by decide +kernel, rfl⟩
theorem d8_init_16 : zd b8_init 16 (.new 7) 3 19 := ⟨by decide +kernel, rfl⟩
theorem d8_init_19 : zd b8_init 19 .dup 1 20 := ⟨by decide +kernel, rfl⟩
theorem d8_init_20 : zd b8_init 20 (.invokespecial 9) 3 23 := ⟨by decide +kernel, rfl⟩
theorem d8_init_23 : zd b8_init 23 (.putfield 16) 3 26 := ⟨by decide +kernel, rfl⟩
theorem d8_init_26 : zd b8_init 26 (.aload_n 0) 1 27 := ⟨by decide +kernel, rfl⟩
theorem d8_init_27 : zd b8_init 27 (.new 7) 3 30 := ⟨by decide +kernel, rfl⟩
theorem d8_init_30 : zd b8_init 30 .dup 1 31 := ⟨by decide +kernel, rfl⟩
theorem d8_init_31 : zd b8_init 31 (.invokespecial 9) 3 34 := ⟨by decide +kernel, rfl⟩
theorem d8_init_34 : zd b8_init 34 (.putfield 19) 3 37 := ⟨by decide +kernel, rfl⟩
theorem d8_init_37 : zd b8_init 37 (.aload_n 0) 1 38 := ⟨by decide +kernel, rfl⟩
theorem d8_init_38 : zd b8_init 38 (.new 22) 3 41 := ⟨by decide +kernel, rfl⟩
theorem d8_init_41 : zd b8_init 41 .dup 1 42 := ⟨by decide +kernel, rfl⟩
theorem d8_init_42 : zd b8_init 42 (.invokespecial 24) 3 45 := ⟨by decide +kernel, rfl⟩
theorem d8_init_45 : zd b8_init 45 (.putfield 25) 3 48 := ⟨by decide +kernel, rfl⟩
theorem d8_init_48 : zd b8_init 48 (.aload_n 0) 1 49 := ⟨by decide +kernel, rfl⟩
theorem d8_init_49 : zd b8_init 49 (.new 29) 3 52 := ⟨by decide +kernel, rfl⟩
theorem d8_init_52 : zd b8_init 52 .dup 1 53 := ⟨by decide +kernel, rfl⟩
theorem d8_init_53 : zd b8_init 53 (.invokespecial 31) 3 56 := ⟨by decide +kernel, rfl⟩
theorem d8_init_56 : zd b8_init 56 (.putfield 32) 3 59 := ⟨by decide +kernel, rfl⟩
theorem d8_init_59 : zd b8_init 59 (.aload_n 0) 1 60 := ⟨by decide +kernel, rfl⟩
theorem d8_init_60 : zd b8_init 60 (.new 36) 3 63 := ⟨by decide +kernel, rfl⟩
theorem d8_init_63 : zd b8_init 63 .dup 1 64 := ⟨by decide +kernel, rfl⟩
theorem d8_init_64 : zd b8_init 64 (.invokespecial 38) 3 67 := ⟨by decide +kernel, rfl⟩
theorem d8_init_67 : zd b8_init 67 (.putfield 39) 3 70 := ⟨by decide +kernel, rfl⟩
theorem d8_init_70 : zd b8_init 70 (.aload_n 0) 1 71 := ⟨by decide +kernel, rfl⟩
theorem d8_init_71 : zd b8_init 71 (.iconst 4) 1 72 := ⟨by decide +kernel, rfl⟩
theorem d8_init_72 : zd b8_init 72 (.anewarray 43) 3 75 := ⟨by decide +kernel, rfl⟩
theorem d8_init_75 : zd b8_init 75 (.putfield 45) 3 78 := ⟨by decide +kernel, rfl⟩
theorem d8_init_78 : zd b8_init 78 (.aload_n 0) 1 79 := ⟨by decide +kernel, rfl⟩
theorem d8_init_79 : zd b8_init 79 (.iconst 4) 1 80 := ⟨by decide +kernel, rfl⟩
theorem d8_init_80 : zd b8_init 80 (.newarray .int) 2 82 := ⟨by decide +kernel, rfl⟩
theorem d8_init_82 : zd b8_init 82 (.putfield 49) 3 85 := ⟨by decide +kernel, rfl⟩
theorem d8_init_85 : zd b8_init 85 (.aload_n 0) 1 86 := ⟨by decide +kernel, rfl⟩
theorem d8_init_86 : zd b8_init 86 (.bipush 7) 2 88 := ⟨by decide +kernel, rfl⟩
theorem d8_init_88 : zd b8_init 88 (.newarray .int) 2 90 := ⟨by decide +kernel, rfl⟩
theorem d8_init_90 : zd b8_init 90 (.putfield 53) 3 93 := ⟨by decide +kernel, rfl⟩
theorem d8_init_93 : zd b8_init 93 (.iconst 0) 1 94 := ⟨by decide +kernel, rfl⟩
theorem d8_init_94 : zd b8_init 94 (.istore_n 1) 1 95 := ⟨by decide +kernel, rfl⟩
theorem d8_init_95 : zd b8_init 95 (.iload_n 1) 1 96 := ⟨by decide +kernel, rfl⟩
theorem d8_init_96 : zd b8_init 96 (.iconst 4) 1 97 := ⟨by decide +kernel, rfl⟩
theorem d8_init_97 : zdb b8_init 97 (.if_icmp .ge 22) 22 100 119 := ⟨by decide +kernel, rfl, by decide⟩
theorem d8_init_100 : zd b8_init 100 (.aload_n 0) 1 101 := ⟨by decide +kernel, rfl⟩
theorem d8_init_101 : zd b8_init 101 (.getfield 45) 3 104 := ⟨by decide +kernel, rfl⟩
theorem d8_init_104 : zd b8_init 104 (.iload_n 1) 1 105 := ⟨by decide +kernel, rfl⟩
theorem d8_init_105 : zd b8_init 105 (.new 43) 3 108 := ⟨by decide +kernel, rfl⟩
theorem d8_init_108 : zd b8_init 108 .dup 1 109 := ⟨by decide +kernel, rfl⟩
theorem d8_init_109 : zd b8_init 109 (.invokespecial 56) 3 112 := ⟨by decide +kernel, rfl⟩
theorem d8_init_112 : zd b8_init 112 .aastore 1 113 := ⟨by decide +kernel, rfl⟩
theorem d8_init_113 : zd b8_init 113 (.iinc 1 1) 3 116 := ⟨by decide +kernel, rfl⟩
theorem d8_init_116 : zdb b8_init 116 (.goto (-21)) (-21) 119 95 := ⟨by decide +kernel, rfl, by decide⟩
theorem d8_init_119 : zd b8_init 119 .return_ 1 120 := ⟨by decide +kernel, rfl⟩
def yF8 (g : ZG) (n : Nat) : Nat → va_E := (yu (yj (yu (yu (yj (yu (yu (yj (yu (yu (yj (yu (yu (yu (yu (yu (yu (yu (yu (yj (yu (yu (yj (yu (yu (yj (yu (yu (yj (yu (yu (yj (yu (yu (yj (yu (fun _ => .inr (8, [.null, .null, .null, .null, .null, .null, .null, .null, .null, .int 0, .int 0])) 1 (.inr (5, [.null, .null, .null, .null, .null, .null, .int 0, .int 0, .int 0, .int 0, .int 0, .int 0]))) 1 (yF5 g (n + 1))) 0 (.inr (8, [.ref (g.1 + (n + 1)), .null, .null, .null, .null, .null, .null, .null, .null, .int 0, .int 0]))) 28 (.inr (5, [.null, .null, .null, .null, .null, .null, .int 0, .int 0, .int 0, .int 0, .int 0, .int 0]))) 28 (yF5 g (n + 28))) 0 (.inr (8, [.ref (g.1 + (n + 1)), .ref (g.1 + (n + 28)), .null, .null, .null, .null, .null, .null, .null, .int 0, .int 0]))) 55 (.inr (5, [.null, .null, .null, .null, .null, .null, .int 0, .int 0, .int 0, .int 0, .int 0, .int 0]))) 55 (yF5 g (n + 55))) 0 (.inr (8, [.ref (g.1 + (n + 1)), .ref (g.1 + (n + 28)), .ref (g.1 + (n + 55)), .null, .null, .null, .null, .null, .null, .int 0, .int 0]))) 82 (.inr (1, [.null, .null, .int 0, .int 0, .int 0]))) 82 (yF1 g (n + 82))) 0 (.inr (8, [.ref (g.1 + (n + 1)), .ref (g.1 + (n + 28)), .ref (g.1 + (n + 55)), .ref (g.1 + (n + 82)), .null, .null, .null, .null, .null, .int 0, .int 0]))) 85 (.inr (3, [.null, .null, .int 0, .int 0, .int 0]))) 85 (yF3 g (n + 85))) 0 (.inr (8, [.ref (g.1 + (n + 1)), .ref (g.1 + (n + 28)), .ref (g.1 + (n + 55)), .ref (g.1 + (n + 82)), .ref (g.1 + (n + 85)), .null, .null, .null, .null, .int 0, .int 0]))) 89 (.inr (7, [.null, .int 0, .int 0, .int 0, .int 0, .int 0]))) 89 (yF7 g (n + 89))) 0 (.inr (8, [.ref (g.1 + (n + 1)), .ref (g.1 + (n + 28)), .ref (g.1 + (n + 55)), .ref (g.1 + (n + 82)), .ref (g.1 + (n + 85)), .ref (g.1 + (n + 89)), .null, .null, .null, .int 0, .int 0]))) 91 (.inl (g.2.2.1 4, 4, .inr (.inr (.inr (.inr (fun _ => none))))))) 0 (.inr (8, [.ref (g.1 + (n + 1)), .ref (g.1 + (n + 28)), .ref (g.1 + (n + 55)), .ref (g.1 + (n + 82)), .ref (g.1 + (n + 85)), .ref (g.1 + (n + 89)), .ref (g.1 + (n + 91)), .null, .null, .int 0, .int 0]))) 92 (.inl (g.2.2.1 0, 4, .inl (fun _ => 0)))) 0 (.inr (8, [.ref (g.1 + (n + 1)), .ref (g.1 + (n + 28)), .ref (g.1 + (n + 55)), .ref (g.1 + (n + 82)), .ref (g.1 + (n + 85)), .ref (g.1 + (n + 89)), .ref (g.1 + (n + 91)), .ref (g.1 + (n + 92)), .null, .int 0, .int 0]))) 93 (.inl (g.2.2.1 0, 7, .inl (fun _ => 0)))) 0 (.inr (8, [.ref (g.1 + (n + 1)), .ref (g.1 + (n + 28)), .ref (g.1 + (n + 55)), .ref (g.1 + (n + 82)), .ref (g.1 + (n + 85)), .ref (g.1 + (n + 89)), .ref (g.1 + (n + 91)), .ref (g.1 + (n + 92)), .ref (g.1 + (n + 93)), .int 0, .int 0]))) 94 (.inr (4, [.null, .int 0, .int 0]))) 94 (yF4 g (n + 94))) 91 (.inl (g.2.2.1 4, 4, .inr (.inr (.inr (.inr (va_up (fun _ => none) 0 (some (g.1 + (n + 94)))))))))) 96 (.inr (4, [.null, .int 0, .int 0]))) 96 (yF4 g (n + 96))) 91 (.inl (g.2.2.1 4, 4, .inr (.inr (.inr (.inr (va_up (va_up (fun _ => none) 0 (some (g.1 + (n + 94)))) 1 (some (g.1 + (n + 96)))))))))) 98 (.inr (4, [.null, .int 0, .int 0]))) 98 (yF4 g (n + 98))) 91 (.inl (g.2.2.1 4, 4, .inr (.inr (.inr (.inr (va_up (va_up (va_up (fun _ => none) 0 (some (g.1 + (n + 94)))) 1 (some (g.1 + (n + 96)))) 2 (some (g.1 + (n + 98)))))))))) 100 (.inr (4, [.null, .int 0, .int 0]))) 100 (yF4 g (n + 100))) 91 (.inl (g.2.2.1 4, 4, .inr (.inr (.inr (.inr (va_up (va_up (va_up (va_up (fun _ => none) 0 (some (g.1 + (n + 94)))) 1 (some (g.1 + (n + 96)))) 2 (some (g.1 + (n + 98)))) 3 (some (g.1 + (n + 100))))))))))
theorem k8_init (l : Launch) (g : ZG) (n : Nat) (hn : 0 < n ∧ n < 4) : yT l g y8_init b8_init 2 3 104 101 2253 n [zr (n + 0)] (fun _ => .inr (8, [.null, .null, .null, .null, .null, .null, .null, .null, .null, .int 0, .int 0])) 1 (yF8 g n) 102 := by
  refine yT_start (own := R8) rfl (by decide +kernel) ⟨by omega, by omega⟩ 1 (L := [some (zr (n + 0)), none]) rfl rfl (fun x hl C hi => ?_)
  subst hl
  refine y_aload_n C d8_init_0 (j := 0) rfl (by decide) ?_
  refine y_obj C (j := 0) d8_init_1 w_23 yobw (by decide) rfl ⟨Nat.le_of_ble_eq_true rfl, Nat.le_of_ble_eq_true rfl⟩ ?_
  refine y_aload_n C d8_init_4 (j := 0) rfl (by decide) ?_
  refine y_newo C (ci := 5) d8_init_5 ⟨zwc1 26 rfl rfl, zwc1 27 rfl rfl, zwc1 2 rfl rfl⟩ rfl ty5 ty5_ok (fs := [.null, .null, .null, .null, .null, .null, .int 0, .int 0, .int 0, .int 0, .int 0, .int 0]) yfs5 ⟨Nat.le_of_ble_eq_true rfl, Nat.le_of_ble_eq_true rfl⟩ (k' := 2) rfl ?_ (by decide)
  refine y_dup C d8_init_8 rfl ?_
  refine y_callI C (m := 1) d8_init_9 w_28 yz5_init rfl yi5_init (k5_init x.2.1 g (n + 1) ⟨by omega, by omega⟩) rfl (by decide) rfl (Nat.le_of_ble_eq_true rfl) ⟨Nat.le_of_ble_eq_true rfl, Nat.le_of_ble_eq_true rfl⟩ ⟨Nat.le_of_ble_eq_true rfl, Nat.le_of_ble_eq_true rfl⟩ (k' := 28) rfl ?_
  refine y_putF C (kf := 0) (jw := 1) d8_init_12 hi rfl (by decide) rfl (zwc2 21 rfl rfl) rfl (ty8_ok 0 (by decide)) (fun _ => rfl) (fun _ => rfl) (by decide) (by decide) (by decide) rfl (fs' := [.ref (g.1 + (n + 1)), .null, .null, .null, .null, .null, .null, .null, .null, .int 0, .int 0]) rfl (Nat.le_of_ble_eq_true rfl) ?_
  refine y_aload_n C d8_init_15 (j := 0) rfl (by decide) ?_
  refine y_newo C (ci := 5) d8_init_16 ⟨zwc1 26 rfl rfl, zwc1 27 rfl rfl, zwc1 2 rfl rfl⟩ rfl ty5 ty5_ok (fs := [.null, .null, .null, .null, .null, .null, .int 0, .int 0, .int 0, .int 0, .int 0, .int 0]) yfs5 ⟨Nat.le_of_ble_eq_true rfl, Nat.le_of_ble_eq_true rfl⟩ (k' := 29) rfl ?_ (by decide)
  refine y_dup C d8_init_19 rfl ?_
  refine y_callI C (m := 28) d8_init_20 w_28 yz5_init rfl yi5_init (k5_init x.2.1 g (n + 28) ⟨by omega, by omega⟩) rfl (by decide) rfl (Nat.le_of_ble_eq_true rfl) ⟨Nat.le_of_ble_eq_true rfl, Nat.le_of_ble_eq_true rfl⟩ ⟨Nat.le_of_ble_eq_true rfl, Nat.le_of_ble_eq_true rfl⟩ (k' := 55) rfl ?_
  refine y_putF C (kf := 1) (jw := 28) d8_init_23 hi rfl (by decide) rfl (zwc2 22 rfl rfl) rfl (ty8_ok 1 (by decide)) (fun _ => rfl) (fun _ => rfl) (by decide) (by decide) (by decide) rfl (fs' := [.ref (g.1 + (n + 1)), .ref (g.1 + (n + 28)), .null, .null, .null, .null, .null, .null, .null, .int 0, .int 0]) rfl (Nat.le_of_ble_eq_true rfl) ?_
  refine y_aload_n C d8_init_26 (j := 0) rfl (by decide) ?_
  refine y_newo C (ci := 5) d8_init_27 ⟨zwc1 26 rfl rfl, zwc1 27 rfl rfl, zwc1 2 rfl rfl⟩ rfl ty5 ty5_ok (fs := [.null, .null, .null, .null, .null, .null, .int 0, .int 0, .int 0, .int 0, .int 0, .int 0]) yfs5 ⟨Nat.le_of_ble_eq_true rfl, Nat.le_of_ble_eq_true rfl⟩ (k' := 56) rfl ?_ (by decide)
  refine y_dup C d8_init_30 rfl ?_
  refine y_callI C (m := 55) d8_init_31 w_28 yz5_init rfl yi5_init (k5_init x.2.1 g (n + 55) ⟨by omega, by omega⟩) rfl (by decide) rfl (Nat.le_of_ble_eq_true rfl) ⟨Nat.le_of_ble_eq_true rfl, Nat.le_of_ble_eq_true rfl⟩ ⟨Nat.le_of_ble_eq_true rfl, Nat.le_of_ble_eq_true rfl⟩ (k' := 82) rfl ?_
  refine y_putF C (kf := 2) (jw := 55) d8_init_34 hi rfl (by decide) rfl (zwc2 23 rfl rfl) rfl (ty8_ok 2 (by decide)) (fun _ => rfl) (fun _ => rfl) (by decide) (by decide) (by decide) rfl (fs' := [.ref (g.1 + (n + 1)), .ref (g.1 + (n + 28)), .ref (g.1 + (n + 55)), .null, .null, .null, .null, .null, .null, .int 0, .int 0]) rfl (Nat.le_of_ble_eq_true rfl) ?_
  refine y_aload_n C d8_init_37 (j := 0) rfl (by decide) ?_
  refine y_newo C (ci := 1) d8_init_38 ⟨zwc1 162 rfl rfl, zwc1 163 rfl rfl, zwc1 7 rfl rfl⟩ rfl ty1 ty1_ok (fs := [.null, .null, .int 0, .int 0, .int 0]) yfs1 ⟨Nat.le_of_ble_eq_true rfl, Nat.le_of_ble_eq_true rfl⟩ (k' := 83) rfl ?_ (by decide)
  refine y_dup C d8_init_41 rfl ?_
  refine y_callIN C (m := 82) d8_init_42 w_164 yz1_init rfl yi1_init (k1_init x.2.1 g (n + 82) ⟨by omega, by omega⟩) rfl (by decide) rfl (Nat.le_of_ble_eq_true rfl) ⟨Nat.le_of_ble_eq_true rfl, Nat.le_of_ble_eq_true rfl⟩ ⟨Nat.le_of_ble_eq_true rfl, Nat.le_of_ble_eq_true rfl⟩ (k' := 85) rfl ?_
  refine y_putF C (kf := 3) (jw := 82) d8_init_45 hi rfl (by decide) rfl (zwc2 24 rfl rfl) rfl (ty8_ok 3 (by decide)) (fun _ => rfl) (fun _ => rfl) (by decide) (by decide) (by decide) rfl (fs' := [.ref (g.1 + (n + 1)), .ref (g.1 + (n + 28)), .ref (g.1 + (n + 55)), .ref (g.1 + (n + 82)), .null, .null, .null, .null, .null, .int 0, .int 0]) rfl (Nat.le_of_ble_eq_true rfl) ?_
  refine y_aload_n C d8_init_48 (j := 0) rfl (by decide) ?_
  refine y_newo C (ci := 3) d8_init_49 ⟨zwc1 189 rfl rfl, zwc1 190 rfl rfl, zwc1 8 rfl rfl⟩ rfl ty3 ty3_ok (fs := [.null, .null, .int 0, .int 0, .int 0]) yfs3 ⟨Nat.le_of_ble_eq_true rfl, Nat.le_of_ble_eq_true rfl⟩ (k' := 86) rfl ?_ (by decide)
  refine y_dup C d8_init_52 rfl ?_
  refine y_callIN C (m := 85) d8_init_53 w_191 yz3_init rfl yi3_init (k3_init x.2.1 g (n + 85) ⟨by omega, by omega⟩) rfl (by decide) rfl (Nat.le_of_ble_eq_true rfl) ⟨Nat.le_of_ble_eq_true rfl, Nat.le_of_ble_eq_true rfl⟩ ⟨Nat.le_of_ble_eq_true rfl, Nat.le_of_ble_eq_true rfl⟩ (k' := 89) rfl ?_
  refine y_putF C (kf := 4) (jw := 85) d8_init_56 hi rfl (by decide) rfl (zwc2 25 rfl rfl) rfl (ty8_ok 4 (by decide)) (fun _ => rfl) (fun _ => rfl) (by decide) (by decide) (by decide) rfl (fs' := [.ref (g.1 + (n + 1)), .ref (g.1 + (n + 28)), .ref (g.1 + (n + 55)), .ref (g.1 + (n + 82)), .ref (g.1 + (n + 85)), .null, .null, .null, .null, .int 0, .int 0]) rfl (Nat.le_of_ble_eq_true rfl) ?_
  refine y_aload_n C d8_init_59 (j := 0) rfl (by decide) ?_
  refine y_newo C (ci := 7) d8_init_60 ⟨zwc1 214 rfl rfl, zwc1 215 rfl rfl, zwc1 9 rfl rfl⟩ rfl ty7 ty7_ok (fs := [.null, .int 0, .int 0, .int 0, .int 0, .int 0]) yfs7 ⟨Nat.le_of_ble_eq_true rfl, Nat.le_of_ble_eq_true rfl⟩ (k' := 90) rfl ?_ (by decide)
  refine y_dup C d8_init_63 rfl ?_
  refine y_callIN C (m := 89) d8_init_64 w_216 yz7_init rfl yi7_init (k7_init x.2.1 g (n + 89) ⟨by omega, by omega⟩) rfl (by decide) rfl (Nat.le_of_ble_eq_true rfl) ⟨Nat.le_of_ble_eq_true rfl, Nat.le_of_ble_eq_true rfl⟩ ⟨Nat.le_of_ble_eq_true rfl, Nat.le_of_ble_eq_true rfl⟩ (k' := 91) rfl ?_
  refine y_putF C (kf := 5) (jw := 89) d8_init_67 hi rfl (by decide) rfl (zwc2 26 rfl rfl) rfl (ty8_ok 5 (by decide)) (fun _ => rfl) (fun _ => rfl) (by decide) (by decide) (by decide) rfl (fs' := [.ref (g.1 + (n + 1)), .ref (g.1 + (n + 28)), .ref (g.1 + (n + 55)), .ref (g.1 + (n + 82)), .ref (g.1 + (n + 85)), .ref (g.1 + (n + 89)), .null, .null, .null, .int 0, .int 0]) rfl (Nat.le_of_ble_eq_true rfl) ?_
  refine y_aload_n C d8_init_70 (j := 0) rfl (by decide) ?_
  refine y_iconst C (4 : Int32) d8_init_71 kI_4 ?_
  refine y_newq C (N := 4) (κ := 14) d8_init_72 (by decide) (by decide) (zwc2 1 rfl rfl) (by decide) (by decide) ⟨Nat.le_of_ble_eq_true rfl, Nat.le_of_ble_eq_true rfl⟩ (k' := 92) rfl (by decide) ?_
  refine y_putF C (kf := 6) (jw := 91) d8_init_75 hi rfl (by decide) rfl (zwc2 27 rfl rfl) rfl (ty8_ok 6 (by decide)) (fun _ => rfl) (fun _ => rfl) (by decide) (by decide) (by decide) rfl (fs' := [.ref (g.1 + (n + 1)), .ref (g.1 + (n + 28)), .ref (g.1 + (n + 55)), .ref (g.1 + (n + 82)), .ref (g.1 + (n + 85)), .ref (g.1 + (n + 89)), .ref (g.1 + (n + 91)), .null, .null, .int 0, .int 0]) rfl (Nat.le_of_ble_eq_true rfl) ?_
  refine y_aload_n C d8_init_78 (j := 0) rfl (by decide) ?_
  refine y_iconst C (4 : Int32) d8_init_79 kI_4 ?_
  refine y_newa C (N := 4) d8_init_80 yaiw (by decide) (by decide) ⟨Nat.le_of_ble_eq_true rfl, Nat.le_of_ble_eq_true rfl⟩ (k' := 93) rfl (by decide) ?_
  refine y_putF C (kf := 7) (jw := 92) d8_init_82 hi rfl (by decide) rfl (zwc2 28 rfl rfl) rfl (ty8_ok 7 (by decide)) (fun _ => rfl) (fun _ => rfl) (by decide) (by decide) (by decide) rfl (fs' := [.ref (g.1 + (n + 1)), .ref (g.1 + (n + 28)), .ref (g.1 + (n + 55)), .ref (g.1 + (n + 82)), .ref (g.1 + (n + 85)), .ref (g.1 + (n + 89)), .ref (g.1 + (n + 91)), .ref (g.1 + (n + 92)), .null, .int 0, .int 0]) rfl (Nat.le_of_ble_eq_true rfl) ?_
  refine y_aload_n C d8_init_85 (j := 0) rfl (by decide) ?_
  refine y_bipush C (7 : Int32) d8_init_86 kB_7 ?_
  refine y_newa C (N := 7) d8_init_88 yaiw (by decide) (by decide) ⟨Nat.le_of_ble_eq_true rfl, Nat.le_of_ble_eq_true rfl⟩ (k' := 94) rfl (by decide) ?_
  refine y_putF C (kf := 8) (jw := 93) d8_init_90 hi rfl (by decide) rfl (zwc2 29 rfl rfl) rfl (ty8_ok 8 (by decide)) (fun _ => rfl) (fun _ => rfl) (by decide) (by decide) (by decide) rfl (fs' := [.ref (g.1 + (n + 1)), .ref (g.1 + (n + 28)), .ref (g.1 + (n + 55)), .ref (g.1 + (n + 82)), .ref (g.1 + (n + 85)), .ref (g.1 + (n + 89)), .ref (g.1 + (n + 91)), .ref (g.1 + (n + 92)), .ref (g.1 + (n + 93)), .int 0, .int 0]) rfl (Nat.le_of_ble_eq_true rfl) ?_
  refine y_iconst C (0 : Int32) d8_init_93 kI_0 ?_
  refine y_istore_n C d8_init_94 (Nat.le_of_ble_eq_true rfl) rfl (L' := [some (zr (n + 0)), some (zi (0 : Int32))]) rfl ?_
  refine y_iload_n C d8_init_95 rfl ?_
  refine y_iconst C (4 : Int32) d8_init_96 kI_4 ?_
  refine y_icmp_ge C d8_init_97 (fun c => absurd c (by decide)) (fun _ => ?_)
  refine y_aload_n C d8_init_100 (j := 0) rfl (by decide) ?_
  refine y_getR C (kf := 6) (j1 := 91) d8_init_101 rfl (by decide) rfl (zwc2 27 rfl rfl) (by decide) (by decide) (by decide) rfl rfl ?_
  refine y_iload_n C d8_init_104 rfl ?_
  refine y_newo C (ci := 4) d8_init_105 ⟨zwc2 1 rfl rfl, zwc2 3 rfl rfl, zwc1 10 rfl rfl⟩ rfl ty4 ty4_ok (fs := [.null, .int 0, .int 0]) yfs4 ⟨Nat.le_of_ble_eq_true rfl, Nat.le_of_ble_eq_true rfl⟩ (k' := 95) rfl ?_ (by decide)
  refine y_dup C d8_init_108 rfl ?_
  refine y_callIN C (m := 94) d8_init_109 w_244 yz4_init rfl yi4_init (k4_init x.2.1 g (n + 94) ⟨by omega, by omega⟩) rfl (by decide) rfl (Nat.le_of_ble_eq_true rfl) ⟨Nat.le_of_ble_eq_true rfl, Nat.le_of_ble_eq_true rfl⟩ ⟨Nat.le_of_ble_eq_true rfl, Nat.le_of_ble_eq_true rfl⟩ (k' := 96) rfl ?_
  refine y_astq C (κ := 14) d8_init_112 (by decide) (by decide) (by decide) (by decide) (by decide) rfl rfl rfl rfl ⟨by decide, by decide⟩ kN_0 ?_
  refine y_iinc C d8_init_113 rfl (v' := (1 : Int32)) (by decide) (Nat.le_of_ble_eq_true rfl) rfl (L' := [some (zr (n + 0)), some (zi (1 : Int32))]) rfl ?_
  refine y_goto C d8_init_116 ?_
  refine y_iload_n C d8_init_95 rfl ?_
  refine y_iconst C (4 : Int32) d8_init_96 kI_4 ?_
  refine y_icmp_ge C d8_init_97 (fun c => absurd c (by decide)) (fun _ => ?_)
  refine y_aload_n C d8_init_100 (j := 0) rfl (by decide) ?_
  refine y_getR C (kf := 6) (j1 := 91) d8_init_101 rfl (by decide) rfl (zwc2 27 rfl rfl) (by decide) (by decide) (by decide) rfl rfl ?_
  refine y_iload_n C d8_init_104 rfl ?_
  refine y_newo C (ci := 4) d8_init_105 ⟨zwc2 1 rfl rfl, zwc2 3 rfl rfl, zwc1 10 rfl rfl⟩ rfl ty4 ty4_ok (fs := [.null, .int 0, .int 0]) yfs4 ⟨Nat.le_of_ble_eq_true rfl, Nat.le_of_ble_eq_true rfl⟩ (k' := 97) rfl ?_ (by decide)
  refine y_dup C d8_init_108 rfl ?_
  refine y_callIN C (m := 96) d8_init_109 w_244 yz4_init rfl yi4_init (k4_init x.2.1 g (n + 96) ⟨by omega, by omega⟩) rfl (by decide) rfl (Nat.le_of_ble_eq_true rfl) ⟨Nat.le_of_ble_eq_true rfl, Nat.le_of_ble_eq_true rfl⟩ ⟨Nat.le_of_ble_eq_true rfl, Nat.le_of_ble_eq_true rfl⟩ (k' := 98) rfl ?_
  refine y_astq C (κ := 14) d8_init_112 (by decide) (by decide) (by decide) (by decide) (by decide) rfl rfl rfl rfl ⟨by decide, by decide⟩ kN_1 ?_
  refine y_iinc C d8_init_113 rfl (v' := (2 : Int32)) (by decide) (Nat.le_of_ble_eq_true rfl) rfl (L' := [some (zr (n + 0)), some (zi (2 : Int32))]) rfl ?_
  refine y_goto C d8_init_116 ?_
  refine y_iload_n C d8_init_95 rfl ?_
  refine y_iconst C (4 : Int32) d8_init_96 kI_4 ?_
  refine y_icmp_ge C d8_init_97 (fun c => absurd c (by decide)) (fun _ => ?_)
  refine y_aload_n C d8_init_100 (j := 0) rfl (by decide) ?_
  refine y_getR C (kf := 6) (j1 := 91) d8_init_101 rfl (by decide) rfl (zwc2 27 rfl rfl) (by decide) (by decide) (by decide) rfl rfl ?_
  refine y_iload_n C d8_init_104 rfl ?_
  refine y_newo C (ci := 4) d8_init_105 ⟨zwc2 1 rfl rfl, zwc2 3 rfl rfl, zwc1 10 rfl rfl⟩ rfl ty4 ty4_ok (fs := [.null, .int 0, .int 0]) yfs4 ⟨Nat.le_of_ble_eq_true rfl, Nat.le_of_ble_eq_true rfl⟩ (k' := 99) rfl ?_ (by decide)
  refine y_dup C d8_init_108 rfl ?_
  refine y_callIN C (m := 98) d8_init_109 w_244 yz4_init rfl yi4_init (k4_init x.2.1 g (n + 98) ⟨by omega, by omega⟩) rfl (by decide) rfl (Nat.le_of_ble_eq_true rfl) ⟨Nat.le_of_ble_eq_true rfl, Nat.le_of_ble_eq_true rfl⟩ ⟨Nat.le_of_ble_eq_true rfl, Nat.le_of_ble_eq_true rfl⟩ (k' := 100) rfl ?_
  refine y_astq C (κ := 14) d8_init_112 (by decide) (by decide) (by decide) (by decide) (by decide) rfl rfl rfl rfl ⟨by decide, by decide⟩ kN_2 ?_
  refine y_iinc C d8_init_113 rfl (v' := (3 : Int32)) (by decide) (Nat.le_of_ble_eq_true rfl) rfl (L' := [some (zr (n + 0)), some (zi (3 : Int32))]) rfl ?_
  refine y_goto C d8_init_116 ?_
  refine y_iload_n C d8_init_95 rfl ?_
  refine y_iconst C (4 : Int32) d8_init_96 kI_4 ?_
  refine y_icmp_ge C d8_init_97 (fun c => absurd c (by decide)) (fun _ => ?_)
  refine y_aload_n C d8_init_100 (j := 0) rfl (by decide) ?_
  refine y_getR C (kf := 6) (j1 := 91) d8_init_101 rfl (by decide) rfl (zwc2 27 rfl rfl) (by decide) (by decide) (by decide) rfl rfl ?_
  refine y_iload_n C d8_init_104 rfl ?_
  refine y_newo C (ci := 4) d8_init_105 ⟨zwc2 1 rfl rfl, zwc2 3 rfl rfl, zwc1 10 rfl rfl⟩ rfl ty4 ty4_ok (fs := [.null, .int 0, .int 0]) yfs4 ⟨Nat.le_of_ble_eq_true rfl, Nat.le_of_ble_eq_true rfl⟩ (k' := 101) rfl ?_ (by decide)
  refine y_dup C d8_init_108 rfl ?_
  refine y_callIN C (m := 100) d8_init_109 w_244 yz4_init rfl yi4_init (k4_init x.2.1 g (n + 100) ⟨by omega, by omega⟩) rfl (by decide) rfl (Nat.le_of_ble_eq_true rfl) ⟨Nat.le_of_ble_eq_true rfl, Nat.le_of_ble_eq_true rfl⟩ ⟨Nat.le_of_ble_eq_true rfl, Nat.le_of_ble_eq_true rfl⟩ (k' := 102) rfl ?_
  refine y_astq C (κ := 14) d8_init_112 (by decide) (by decide) (by decide) (by decide) (by decide) rfl rfl rfl rfl ⟨by decide, by decide⟩ kN_3 ?_
  refine y_iinc C d8_init_113 rfl (v' := (4 : Int32)) (by decide) (Nat.le_of_ble_eq_true rfl) rfl (L' := [some (zr (n + 0)), some (zi (4 : Int32))]) rfl ?_
  refine y_goto C d8_init_116 ?_
  refine y_iload_n C d8_init_95 rfl ?_
  refine y_iconst C (4 : Int32) d8_init_96 kI_4 ?_
  refine y_icmp_ge C d8_init_97 (fun _ => ?_) (fun c => absurd (by decide) c)
  exact y_vret C d8_init_119 rfl (fun _ _ => rfl) rfl rfl
theorem yz9_init : zY y9_init b9_init 1 none 0 := ⟨zwc4 95 rfl rfl, zwc1 11 rfl rfl, ⟨by decide +kernel, by decide +kernel⟩, by decide +kernel⟩
theorem yi9_init : Cond.instanceMethod y9_init ∈ lw_gd := zwc4 94 rfl rfl
theorem d9_init_0 : zd b9_init 0 (.aload_n 0) 1 1 := ⟨by decide +kernel, rfl⟩
theorem d9_init_1 : zd b9_init 1 (.invokespecial 3) 3 4 := ⟨by decide +kernel, rfl⟩
theorem d9_init_4 : zd b9_init 4 (.aload_n 0) 1 5 := ⟨by decide +kernel, rfl⟩
theorem d9_init_5 : zd b9_init 5 (.sipush 390) 3 8 := ⟨by decide +kernel, rfl⟩
theorem d9_init_8 : zd b9_init 8 (.newarray .int) 2 10 := ⟨by decide +kernel, rfl⟩
theorem d9_init_10 : zd b9_init 10 (.putfield 9) 3 13 := ⟨by decide +kernel, rfl⟩
theorem d9_init_13 : zd b9_init 13 (.aload_n 0) 1 14 := ⟨by decide +kernel, rfl⟩
theorem d9_init_14 : zd b9_init 14 (.sipush 390) 3 17 := ⟨by decide +kernel, rfl⟩
theorem d9_init_17 : zd b9_init 17 (.newarray .int) 2 19 := ⟨by decide +kernel, rfl⟩
theorem d9_init_19 : zd b9_init 19 (.putfield 13) 3 22 := ⟨by decide +kernel, rfl⟩
theorem d9_init_22 : zd b9_init 22 (.aload_n 0) 1 23 := ⟨by decide +kernel, rfl⟩
theorem d9_init_23 : zd b9_init 23 (.sipush 390) 3 26 := ⟨by decide +kernel, rfl⟩
theorem d9_init_26 : zd b9_init 26 (.newarray .int) 2 28 := ⟨by decide +kernel, rfl⟩
theorem d9_init_28 : zd b9_init 28 (.putfield 16) 3 31 := ⟨by decide +kernel, rfl⟩
theorem d9_init_31 : zd b9_init 31 (.aload_n 0) 1 32 := ⟨by decide +kernel, rfl⟩
theorem d9_init_32 : zd b9_init 32 (.bipush 7) 2 34 := ⟨by decide +kernel, rfl⟩
theorem d9_init_34 : zd b9_init 34 (.newarray .int) 2 36 := ⟨by decide +kernel, rfl⟩
theorem d9_init_36 : zd b9_init 36 (.putfield 19) 3 39 := ⟨by decide +kernel, rfl⟩
theorem d9_init_39 : zd b9_init 39 (.aload_n 0) 1 40 := ⟨by decide +kernel, rfl⟩
theorem d9_init_40 : zd b9_init 40 (.iconst 4) 1 41 := ⟨by decide +kernel, rfl⟩
theorem d9_init_41 : zd b9_init 41 (.newarray .int) 2 43 := ⟨by decide +kernel, rfl⟩
theorem d9_init_43 : zd b9_init 43 (.putfield 22) 3 46 := ⟨by decide +kernel, rfl⟩
theorem d9_init_46 : zd b9_init 46 (.aload_n 0) 1 47 := ⟨by decide +kernel, rfl⟩
theorem d9_init_47 : zd b9_init 47 (.iconst 4) 1 48 := ⟨by decide +kernel, rfl⟩
theorem d9_init_48 : zd b9_init 48 (.newarray .int) 2 50 := ⟨by decide +kernel, rfl⟩
theorem d9_init_50 : zd b9_init 50 (.putfield 25) 3 53 := ⟨by decide +kernel, rfl⟩
theorem d9_init_53 : zd b9_init 53 (.aload_n 0) 1 54 := ⟨by decide +kernel, rfl⟩
theorem d9_init_54 : zd b9_init 54 (.bipush 96) 2 56 := ⟨by decide +kernel, rfl⟩
theorem d9_init_56 : zd b9_init 56 (.newarray .int) 2 58 := ⟨by decide +kernel, rfl⟩
theorem d9_init_58 : zd b9_init 58 (.putfield 28) 3 61 := ⟨by decide +kernel, rfl⟩
theorem d9_init_61 : zd b9_init 61 (.aload_n 0) 1 62 := ⟨by decide +kernel, rfl⟩
theorem d9_init_62 : zd b9_init 62 (.sipush 257) 3 65 := ⟨by decide +kernel, rfl⟩
theorem d9_init_65 : zd b9_init 65 (.newarray .int) 2 67 := ⟨by decide +kernel, rfl⟩
theorem d9_init_67 : zd b9_init 67 (.putfield 31) 3 70 := ⟨by decide +kernel, rfl⟩
theorem d9_init_70 : zd b9_init 70 (.aload_n 0) 1 71 := ⟨by decide +kernel, rfl⟩
theorem d9_init_71 : zd b9_init 71 (.bipush 8) 2 73 := ⟨by decide +kernel, rfl⟩
theorem d9_init_73 : zd b9_init 73 (.newarray .int) 2 75 := ⟨by decide +kernel, rfl⟩
theorem d9_init_75 : zd b9_init 75 (.putfield 34) 3 78 := ⟨by decide +kernel, rfl⟩
theorem d9_init_78 : zd b9_init 78 (.aload_n 0) 1 79 := ⟨by decide +kernel, rfl⟩
theorem d9_init_79 : zd b9_init 79 (.bipush 60) 2 81 := ⟨by decide +kernel, rfl⟩
theorem d9_init_81 : zd b9_init 81 (.newarray .int) 2 83 := ⟨by decide +kernel, rfl⟩
theorem d9_init_83 : zd b9_init 83 (.putfield 37) 3 86 := ⟨by decide +kernel, rfl⟩
theorem d9_init_86 : zd b9_init 86 (.aload_n 0) 1 87 := ⟨by decide +kernel, rfl⟩
theorem d9_init_87 : zd b9_init 87 (.bipush 60) 2 89 := ⟨by decide +kernel, rfl⟩
theorem d9_init_89 : zd b9_init 89 (.newarray .int) 2 91 := ⟨by decide +kernel, rfl⟩
theorem d9_init_91 : zd b9_init 91 (.putfield 40) 3 94 := ⟨by decide +kernel, rfl⟩
theorem d9_init_94 : zd b9_init 94 (.aload_n 0) 1 95 := ⟨by decide +kernel, rfl⟩
theorem d9_init_95 : zd b9_init 95 (.iconst 3) 1 96 := ⟨by decide +kernel, rfl⟩
theorem d9_init_96 : zd b9_init 96 (.newarray .int) 2 98 := ⟨by decide +kernel, rfl⟩
theorem d9_init_98 : zd b9_init 98 (.putfield 43) 3 101 := ⟨by decide +kernel, rfl⟩
theorem d9_init_101 : zd b9_init 101 (.aload_n 0) 1 102 := ⟨by decide +kernel, rfl⟩
theorem d9_init_102 : zd b9_init 102 (.bipush 60) 2 104 := ⟨by decide +kernel, rfl⟩
theorem d9_init_104 : zd b9_init 104 (.newarray .int) 2 106 := ⟨by decide +kernel, rfl⟩
theorem d9_init_106 : zd b9_init 106 (.putfield 46) 3 109 := ⟨by decide +kernel, rfl⟩
theorem d9_init_109 : zd b9_init 109 (.aload_n 0) 1 110 := ⟨by decide +kernel, rfl⟩
theorem d9_init_110 : zd b9_init 110 (.iconst 4) 1 111 := ⟨by decide +kernel, rfl⟩
theorem d9_init_111 : zd b9_init 111 (.newarray .int) 2 113 := ⟨by decide +kernel, rfl⟩
theorem d9_init_113 : zd b9_init 113 (.putfield 49) 3 116 := ⟨by decide +kernel, rfl⟩
theorem d9_init_116 : zd b9_init 116 (.aload_n 0) 1 117 := ⟨by decide +kernel, rfl⟩
theorem d9_init_117 : zd b9_init 117 (.bipush 30) 2 119 := ⟨by decide +kernel, rfl⟩
theorem d9_init_119 : zd b9_init 119 (.newarray .int) 2 121 := ⟨by decide +kernel, rfl⟩
theorem d9_init_121 : zd b9_init 121 (.putfield 52) 3 124 := ⟨by decide +kernel, rfl⟩
theorem d9_init_124 : zd b9_init 124 (.aload_n 0) 1 125 := ⟨by decide +kernel, rfl⟩
theorem d9_init_125 : zd b9_init 125 (.getfield 9) 3 128 := ⟨by decide +kernel, rfl⟩
theorem d9_init_128 : zd b9_init 128 (.iconst 1) 1 129 := ⟨by decide +kernel, rfl⟩
theorem d9_init_129 : zd b9_init 129 (.iconst 1) 1 130 := ⟨by decide +kernel, rfl⟩
theorem d9_init_130 : zd b9_init 130 .iastore 1 131 := ⟨by decide +kernel, rfl⟩
theorem d9_init_131 : zd b9_init 131 .return_ 1 132 := ⟨by decide +kernel, rfl⟩
def yF9 (g : ZG) (n : Nat) : Nat → va_E := fun j => match j with
  | 0 => .inr (9, [.ref (g.1 + (n + 1)), .ref (g.1 + (n + 2)), .ref (g.1 + (n + 3)), .int 0, .ref (g.1 + (n + 4)), .ref (g.1 + (n + 5)), .ref (g.1 + (n + 6)), .ref (g.1 + (n + 7)), .ref (g.1 + (n + 8)), .int 0, .int 0, .ref (g.1 + (n + 9)), .int 0, .int 0, .ref (g.1 + (n + 10)), .ref (g.1 + (n + 11)), .ref (g.1 + (n + 12)), .ref (g.1 + (n + 13)), .int 0, .int 0, .int 0, .int 0, .int 0, .ref (g.1 + (n + 14)), .ref (g.1 + (n + 15)), .int 0, .int 0])
  | 1 => .inl (g.2.2.1 0, 390, .inl (upd (fun _ => 0) 1 1))
  | 2 => .inl (g.2.2.1 0, 390, .inl (fun _ => 0))
  | 3 => .inl (g.2.2.1 0, 390, .inl (fun _ => 0))
  | 4 => .inl (g.2.2.1 0, 7, .inl (fun _ => 0))
  | 5 => .inl (g.2.2.1 0, 4, .inl (fun _ => 0))
  | 6 => .inl (g.2.2.1 0, 4, .inl (fun _ => 0))
  | 7 => .inl (g.2.2.1 0, 96, .inl (fun _ => 0))
  | 8 => .inl (g.2.2.1 0, 257, .inl (fun _ => 0))
  | 9 => .inl (g.2.2.1 0, 8, .inl (fun _ => 0))
  | 10 => .inl (g.2.2.1 0, 60, .inl (fun _ => 0))
  | 11 => .inl (g.2.2.1 0, 60, .inl (fun _ => 0))
  | 12 => .inl (g.2.2.1 0, 3, .inl (fun _ => 0))
  | 13 => .inl (g.2.2.1 0, 60, .inl (fun _ => 0))
  | 14 => .inl (g.2.2.1 0, 4, .inl (fun _ => 0))
  | _ => .inl (g.2.2.1 0, 30, .inl (fun _ => 0))
theorem k9_init (l : Launch) (g : ZG) (n : Nat) (hn : 0 < n ∧ n < 120) : yT l g y9_init b9_init 1 1 60 15 1763 n [zr (n + 0)] (fun _ => .inr (9, [.null, .null, .null, .int 0, .null, .null, .null, .null, .null, .int 0, .int 0, .null, .int 0, .int 0, .null, .null, .null, .null, .int 0, .int 0, .int 0, .int 0, .int 0, .null, .null, .int 0, .int 0])) 1 (yF9 g n) 16 := by
  refine yT_start (own := R9) rfl (by decide +kernel) ⟨by omega, by omega⟩ 0 (L := [some (zr (n + 0))]) rfl rfl (fun x hl C hi => ?_)
  subst hl
  refine y_aload_n C d9_init_0 (j := 0) rfl (by decide) ?_
  refine y_obj C (j := 0) d9_init_1 w_816 yobw (by decide) rfl ⟨Nat.le_of_ble_eq_true rfl, Nat.le_of_ble_eq_true rfl⟩ ?_
  refine y_aload_n C d9_init_4 (j := 0) rfl (by decide) ?_
  refine y_sipush C (390 : Int32) d9_init_5 kS_390 ?_
  refine y_newa C (N := 390) d9_init_8 yaiw (by decide) (by decide) ⟨Nat.le_of_ble_eq_true rfl, Nat.le_of_ble_eq_true rfl⟩ (k' := 2) rfl (by decide) ?_
  refine y_putF C (kf := 0) (jw := 1) d9_init_10 hi rfl (by decide) rfl (zwc4 97 rfl rfl) rfl (ty9_ok 0 (by decide)) (fun _ => rfl) (fun _ => rfl) (by decide) (by decide) (by decide) rfl (fs' := [.ref (g.1 + (n + 1)), .null, .null, .int 0, .null, .null, .null, .null, .null, .int 0, .int 0, .null, .int 0, .int 0, .null, .null, .null, .null, .int 0, .int 0, .int 0, .int 0, .int 0, .null, .null, .int 0, .int 0]) rfl (Nat.le_of_ble_eq_true rfl) ?_
  refine y_aload_n C d9_init_13 (j := 0) rfl (by decide) ?_
  refine y_sipush C (390 : Int32) d9_init_14 kS_390 ?_
  refine y_newa C (N := 390) d9_init_17 yaiw (by decide) (by decide) ⟨Nat.le_of_ble_eq_true rfl, Nat.le_of_ble_eq_true rfl⟩ (k' := 3) rfl (by decide) ?_
  refine y_putF C (kf := 1) (jw := 2) d9_init_19 hi rfl (by decide) rfl (zwc4 98 rfl rfl) rfl (ty9_ok 1 (by decide)) (fun _ => rfl) (fun _ => rfl) (by decide) (by decide) (by decide) rfl (fs' := [.ref (g.1 + (n + 1)), .ref (g.1 + (n + 2)), .null, .int 0, .null, .null, .null, .null, .null, .int 0, .int 0, .null, .int 0, .int 0, .null, .null, .null, .null, .int 0, .int 0, .int 0, .int 0, .int 0, .null, .null, .int 0, .int 0]) rfl (Nat.le_of_ble_eq_true rfl) ?_
  refine y_aload_n C d9_init_22 (j := 0) rfl (by decide) ?_
  refine y_sipush C (390 : Int32) d9_init_23 kS_390 ?_
  refine y_newa C (N := 390) d9_init_26 yaiw (by decide) (by decide) ⟨Nat.le_of_ble_eq_true rfl, Nat.le_of_ble_eq_true rfl⟩ (k' := 4) rfl (by decide) ?_
  refine y_putF C (kf := 2) (jw := 3) d9_init_28 hi rfl (by decide) rfl (zwc4 99 rfl rfl) rfl (ty9_ok 2 (by decide)) (fun _ => rfl) (fun _ => rfl) (by decide) (by decide) (by decide) rfl (fs' := [.ref (g.1 + (n + 1)), .ref (g.1 + (n + 2)), .ref (g.1 + (n + 3)), .int 0, .null, .null, .null, .null, .null, .int 0, .int 0, .null, .int 0, .int 0, .null, .null, .null, .null, .int 0, .int 0, .int 0, .int 0, .int 0, .null, .null, .int 0, .int 0]) rfl (Nat.le_of_ble_eq_true rfl) ?_
  refine y_aload_n C d9_init_31 (j := 0) rfl (by decide) ?_
  refine y_bipush C (7 : Int32) d9_init_32 kB_7 ?_
  refine y_newa C (N := 7) d9_init_34 yaiw (by decide) (by decide) ⟨Nat.le_of_ble_eq_true rfl, Nat.le_of_ble_eq_true rfl⟩ (k' := 5) rfl (by decide) ?_
  refine y_putF C (kf := 4) (jw := 4) d9_init_36 hi rfl (by decide) rfl (zwc4 101 rfl rfl) rfl (ty9_ok 4 (by decide)) (fun _ => rfl) (fun _ => rfl) (by decide) (by decide) (by decide) rfl (fs' := [.ref (g.1 + (n + 1)), .ref (g.1 + (n + 2)), .ref (g.1 + (n + 3)), .int 0, .ref (g.1 + (n + 4)), .null, .null, .null, .null, .int 0, .int 0, .null, .int 0, .int 0, .null, .null, .null, .null, .int 0, .int 0, .int 0, .int 0, .int 0, .null, .null, .int 0, .int 0]) rfl (Nat.le_of_ble_eq_true rfl) ?_
  refine y_aload_n C d9_init_39 (j := 0) rfl (by decide) ?_
  refine y_iconst C (4 : Int32) d9_init_40 kI_4 ?_
  refine y_newa C (N := 4) d9_init_41 yaiw (by decide) (by decide) ⟨Nat.le_of_ble_eq_true rfl, Nat.le_of_ble_eq_true rfl⟩ (k' := 6) rfl (by decide) ?_
  refine y_putF C (kf := 5) (jw := 5) d9_init_43 hi rfl (by decide) rfl (zwc4 102 rfl rfl) rfl (ty9_ok 5 (by decide)) (fun _ => rfl) (fun _ => rfl) (by decide) (by decide) (by decide) rfl (fs' := [.ref (g.1 + (n + 1)), .ref (g.1 + (n + 2)), .ref (g.1 + (n + 3)), .int 0, .ref (g.1 + (n + 4)), .ref (g.1 + (n + 5)), .null, .null, .null, .int 0, .int 0, .null, .int 0, .int 0, .null, .null, .null, .null, .int 0, .int 0, .int 0, .int 0, .int 0, .null, .null, .int 0, .int 0]) rfl (Nat.le_of_ble_eq_true rfl) ?_
  refine y_aload_n C d9_init_46 (j := 0) rfl (by decide) ?_
  refine y_iconst C (4 : Int32) d9_init_47 kI_4 ?_
  refine y_newa C (N := 4) d9_init_48 yaiw (by decide) (by decide) ⟨Nat.le_of_ble_eq_true rfl, Nat.le_of_ble_eq_true rfl⟩ (k' := 7) rfl (by decide) ?_
  refine y_putF C (kf := 6) (jw := 6) d9_init_50 hi rfl (by decide) rfl (zwc4 103 rfl rfl) rfl (ty9_ok 6 (by decide)) (fun _ => rfl) (fun _ => rfl) (by decide) (by decide) (by decide) rfl (fs' := [.ref (g.1 + (n + 1)), .ref (g.1 + (n + 2)), .ref (g.1 + (n + 3)), .int 0, .ref (g.1 + (n + 4)), .ref (g.1 + (n + 5)), .ref (g.1 + (n + 6)), .null, .null, .int 0, .int 0, .null, .int 0, .int 0, .null, .null, .null, .null, .int 0, .int 0, .int 0, .int 0, .int 0, .null, .null, .int 0, .int 0]) rfl (Nat.le_of_ble_eq_true rfl) ?_
  refine y_aload_n C d9_init_53 (j := 0) rfl (by decide) ?_
  refine y_bipush C (96 : Int32) d9_init_54 kB_96 ?_
  refine y_newa C (N := 96) d9_init_56 yaiw (by decide) (by decide) ⟨Nat.le_of_ble_eq_true rfl, Nat.le_of_ble_eq_true rfl⟩ (k' := 8) rfl (by decide) ?_
  refine y_putF C (kf := 7) (jw := 7) d9_init_58 hi rfl (by decide) rfl (zwc4 104 rfl rfl) rfl (ty9_ok 7 (by decide)) (fun _ => rfl) (fun _ => rfl) (by decide) (by decide) (by decide) rfl (fs' := [.ref (g.1 + (n + 1)), .ref (g.1 + (n + 2)), .ref (g.1 + (n + 3)), .int 0, .ref (g.1 + (n + 4)), .ref (g.1 + (n + 5)), .ref (g.1 + (n + 6)), .ref (g.1 + (n + 7)), .null, .int 0, .int 0, .null, .int 0, .int 0, .null, .null, .null, .null, .int 0, .int 0, .int 0, .int 0, .int 0, .null, .null, .int 0, .int 0]) rfl (Nat.le_of_ble_eq_true rfl) ?_
  refine y_aload_n C d9_init_61 (j := 0) rfl (by decide) ?_
  refine y_sipush C (257 : Int32) d9_init_62 kS_257 ?_
  refine y_newa C (N := 257) d9_init_65 yaiw (by decide) (by decide) ⟨Nat.le_of_ble_eq_true rfl, Nat.le_of_ble_eq_true rfl⟩ (k' := 9) rfl (by decide) ?_
  refine y_putF C (kf := 8) (jw := 8) d9_init_67 hi rfl (by decide) rfl (zwc4 105 rfl rfl) rfl (ty9_ok 8 (by decide)) (fun _ => rfl) (fun _ => rfl) (by decide) (by decide) (by decide) rfl (fs' := [.ref (g.1 + (n + 1)), .ref (g.1 + (n + 2)), .ref (g.1 + (n + 3)), .int 0, .ref (g.1 + (n + 4)), .ref (g.1 + (n + 5)), .ref (g.1 + (n + 6)), .ref (g.1 + (n + 7)), .ref (g.1 + (n + 8)), .int 0, .int 0, .null, .int 0, .int 0, .null, .null, .null, .null, .int 0, .int 0, .int 0, .int 0, .int 0, .null, .null, .int 0, .int 0]) rfl (Nat.le_of_ble_eq_true rfl) ?_
  refine y_aload_n C d9_init_70 (j := 0) rfl (by decide) ?_
  refine y_bipush C (8 : Int32) d9_init_71 kB_8 ?_
  refine y_newa C (N := 8) d9_init_73 yaiw (by decide) (by decide) ⟨Nat.le_of_ble_eq_true rfl, Nat.le_of_ble_eq_true rfl⟩ (k' := 10) rfl (by decide) ?_
  refine y_putF C (kf := 11) (jw := 9) d9_init_75 hi rfl (by decide) rfl (zwc4 108 rfl rfl) rfl (ty9_ok 11 (by decide)) (fun _ => rfl) (fun _ => rfl) (by decide) (by decide) (by decide) rfl (fs' := [.ref (g.1 + (n + 1)), .ref (g.1 + (n + 2)), .ref (g.1 + (n + 3)), .int 0, .ref (g.1 + (n + 4)), .ref (g.1 + (n + 5)), .ref (g.1 + (n + 6)), .ref (g.1 + (n + 7)), .ref (g.1 + (n + 8)), .int 0, .int 0, .ref (g.1 + (n + 9)), .int 0, .int 0, .null, .null, .null, .null, .int 0, .int 0, .int 0, .int 0, .int 0, .null, .null, .int 0, .int 0]) rfl (Nat.le_of_ble_eq_true rfl) ?_
  refine y_aload_n C d9_init_78 (j := 0) rfl (by decide) ?_
  refine y_bipush C (60 : Int32) d9_init_79 kB_60 ?_
  refine y_newa C (N := 60) d9_init_81 yaiw (by decide) (by decide) ⟨Nat.le_of_ble_eq_true rfl, Nat.le_of_ble_eq_true rfl⟩ (k' := 11) rfl (by decide) ?_
  refine y_putF C (kf := 14) (jw := 10) d9_init_83 hi rfl (by decide) rfl (zwc4 111 rfl rfl) rfl (ty9_ok 14 (by decide)) (fun _ => rfl) (fun _ => rfl) (by decide) (by decide) (by decide) rfl (fs' := [.ref (g.1 + (n + 1)), .ref (g.1 + (n + 2)), .ref (g.1 + (n + 3)), .int 0, .ref (g.1 + (n + 4)), .ref (g.1 + (n + 5)), .ref (g.1 + (n + 6)), .ref (g.1 + (n + 7)), .ref (g.1 + (n + 8)), .int 0, .int 0, .ref (g.1 + (n + 9)), .int 0, .int 0, .ref (g.1 + (n + 10)), .null, .null, .null, .int 0, .int 0, .int 0, .int 0, .int 0, .null, .null, .int 0, .int 0]) rfl (Nat.le_of_ble_eq_true rfl) ?_
  refine y_aload_n C d9_init_86 (j := 0) rfl (by decide) ?_
  refine y_bipush C (60 : Int32) d9_init_87 kB_60 ?_
  refine y_newa C (N := 60) d9_init_89 yaiw (by decide) (by decide) ⟨Nat.le_of_ble_eq_true rfl, Nat.le_of_ble_eq_true rfl⟩ (k' := 12) rfl (by decide) ?_
  refine y_putF C (kf := 15) (jw := 11) d9_init_91 hi rfl (by decide) rfl (zwc4 112 rfl rfl) rfl (ty9_ok 15 (by decide)) (fun _ => rfl) (fun _ => rfl) (by decide) (by decide) (by decide) rfl (fs' := [.ref (g.1 + (n + 1)), .ref (g.1 + (n + 2)), .ref (g.1 + (n + 3)), .int 0, .ref (g.1 + (n + 4)), .ref (g.1 + (n + 5)), .ref (g.1 + (n + 6)), .ref (g.1 + (n + 7)), .ref (g.1 + (n + 8)), .int 0, .int 0, .ref (g.1 + (n + 9)), .int 0, .int 0, .ref (g.1 + (n + 10)), .ref (g.1 + (n + 11)), .null, .null, .int 0, .int 0, .int 0, .int 0, .int 0, .null, .null, .int 0, .int 0]) rfl (Nat.le_of_ble_eq_true rfl) ?_
  refine y_aload_n C d9_init_94 (j := 0) rfl (by decide) ?_
  refine y_iconst C (3 : Int32) d9_init_95 kI_3 ?_
  refine y_newa C (N := 3) d9_init_96 yaiw (by decide) (by decide) ⟨Nat.le_of_ble_eq_true rfl, Nat.le_of_ble_eq_true rfl⟩ (k' := 13) rfl (by decide) ?_
  refine y_putF C (kf := 16) (jw := 12) d9_init_98 hi rfl (by decide) rfl (zwc4 113 rfl rfl) rfl (ty9_ok 16 (by decide)) (fun _ => rfl) (fun _ => rfl) (by decide) (by decide) (by decide) rfl (fs' := [.ref (g.1 + (n + 1)), .ref (g.1 + (n + 2)), .ref (g.1 + (n + 3)), .int 0, .ref (g.1 + (n + 4)), .ref (g.1 + (n + 5)), .ref (g.1 + (n + 6)), .ref (g.1 + (n + 7)), .ref (g.1 + (n + 8)), .int 0, .int 0, .ref (g.1 + (n + 9)), .int 0, .int 0, .ref (g.1 + (n + 10)), .ref (g.1 + (n + 11)), .ref (g.1 + (n + 12)), .null, .int 0, .int 0, .int 0, .int 0, .int 0, .null, .null, .int 0, .int 0]) rfl (Nat.le_of_ble_eq_true rfl) ?_
  refine y_aload_n C d9_init_101 (j := 0) rfl (by decide) ?_
  refine y_bipush C (60 : Int32) d9_init_102 kB_60 ?_
  refine y_newa C (N := 60) d9_init_104 yaiw (by decide) (by decide) ⟨Nat.le_of_ble_eq_true rfl, Nat.le_of_ble_eq_true rfl⟩ (k' := 14) rfl (by decide) ?_
  refine y_putF C (kf := 17) (jw := 13) d9_init_106 hi rfl (by decide) rfl (zwc4 114 rfl rfl) rfl (ty9_ok 17 (by decide)) (fun _ => rfl) (fun _ => rfl) (by decide) (by decide) (by decide) rfl (fs' := [.ref (g.1 + (n + 1)), .ref (g.1 + (n + 2)), .ref (g.1 + (n + 3)), .int 0, .ref (g.1 + (n + 4)), .ref (g.1 + (n + 5)), .ref (g.1 + (n + 6)), .ref (g.1 + (n + 7)), .ref (g.1 + (n + 8)), .int 0, .int 0, .ref (g.1 + (n + 9)), .int 0, .int 0, .ref (g.1 + (n + 10)), .ref (g.1 + (n + 11)), .ref (g.1 + (n + 12)), .ref (g.1 + (n + 13)), .int 0, .int 0, .int 0, .int 0, .int 0, .null, .null, .int 0, .int 0]) rfl (Nat.le_of_ble_eq_true rfl) ?_
  refine y_aload_n C d9_init_109 (j := 0) rfl (by decide) ?_
  refine y_iconst C (4 : Int32) d9_init_110 kI_4 ?_
  refine y_newa C (N := 4) d9_init_111 yaiw (by decide) (by decide) ⟨Nat.le_of_ble_eq_true rfl, Nat.le_of_ble_eq_true rfl⟩ (k' := 15) rfl (by decide) ?_
  refine y_putF C (kf := 23) (jw := 14) d9_init_113 hi rfl (by decide) rfl (zwc4 120 rfl rfl) rfl (ty9_ok 23 (by decide)) (fun _ => rfl) (fun _ => rfl) (by decide) (by decide) (by decide) rfl (fs' := [.ref (g.1 + (n + 1)), .ref (g.1 + (n + 2)), .ref (g.1 + (n + 3)), .int 0, .ref (g.1 + (n + 4)), .ref (g.1 + (n + 5)), .ref (g.1 + (n + 6)), .ref (g.1 + (n + 7)), .ref (g.1 + (n + 8)), .int 0, .int 0, .ref (g.1 + (n + 9)), .int 0, .int 0, .ref (g.1 + (n + 10)), .ref (g.1 + (n + 11)), .ref (g.1 + (n + 12)), .ref (g.1 + (n + 13)), .int 0, .int 0, .int 0, .int 0, .int 0, .ref (g.1 + (n + 14)), .null, .int 0, .int 0]) rfl (Nat.le_of_ble_eq_true rfl) ?_
  refine y_aload_n C d9_init_116 (j := 0) rfl (by decide) ?_
  refine y_bipush C (30 : Int32) d9_init_117 kB_30 ?_
  refine y_newa C (N := 30) d9_init_119 yaiw (by decide) (by decide) ⟨Nat.le_of_ble_eq_true rfl, Nat.le_of_ble_eq_true rfl⟩ (k' := 16) rfl (by decide) ?_
  refine y_putF C (kf := 24) (jw := 15) d9_init_121 hi rfl (by decide) rfl (zwc4 121 rfl rfl) rfl (ty9_ok 24 (by decide)) (fun _ => rfl) (fun _ => rfl) (by decide) (by decide) (by decide) rfl (fs' := [.ref (g.1 + (n + 1)), .ref (g.1 + (n + 2)), .ref (g.1 + (n + 3)), .int 0, .ref (g.1 + (n + 4)), .ref (g.1 + (n + 5)), .ref (g.1 + (n + 6)), .ref (g.1 + (n + 7)), .ref (g.1 + (n + 8)), .int 0, .int 0, .ref (g.1 + (n + 9)), .int 0, .int 0, .ref (g.1 + (n + 10)), .ref (g.1 + (n + 11)), .ref (g.1 + (n + 12)), .ref (g.1 + (n + 13)), .int 0, .int 0, .int 0, .int 0, .int 0, .ref (g.1 + (n + 14)), .ref (g.1 + (n + 15)), .int 0, .int 0]) rfl (Nat.le_of_ble_eq_true rfl) ?_
  refine y_aload_n C d9_init_124 (j := 0) rfl (by decide) ?_
  refine y_getR C (kf := 0) (j1 := 1) d9_init_125 rfl (by decide) rfl (zwc4 97 rfl rfl) (by decide) (by decide) (by decide) rfl rfl ?_
  refine y_iconst C (1 : Int32) d9_init_128 kI_1 ?_
  refine y_iconst C (1 : Int32) d9_init_129 kI_1 ?_
  refine y_iast C d9_init_130 (by decide) (by decide) rfl ⟨by decide, by decide⟩ kN_1 ?_
  exact y_vret C d9_init_131 rfl (fun j hj => by
    match j, hj with
    | 0, _ => rfl
    | 1, _ => rfl
    | 2, _ => rfl
    | 3, _ => rfl
    | 4, _ => rfl
    | 5, _ => rfl
    | 6, _ => rfl
    | 7, _ => rfl
    | 8, _ => rfl
    | 9, _ => rfl
    | 10, _ => rfl
    | 11, _ => rfl
    | 12, _ => rfl
    | 13, _ => rfl
    | 14, _ => rfl
    | 15, _ => rfl
    | j + 16, h => exact absurd h (by omega)) rfl rfl
end
section
theorem i_vc : Claimed_1_1 ∧ Claimed_1_2 := sorry
end
