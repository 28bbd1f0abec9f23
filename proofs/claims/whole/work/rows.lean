section
-- ===== PART A: goes FIRST, ahead of the names: the tables' words, and 'selects' of the private methods out of them =====
/-- a private method of a class that the tables say can be made, by its rows of tables_1 -/
def lw_okq (q : MethodName × Nat) : Prop := (q.1.cls ≠ "java/lang/invoke/MethodHandle" ∧ q.1.cls ≠ "java/lang/invoke/VarHandle") ∧ Cond.instantiable q.1.cls q.2 ∈ tables_1 ∧ Cond.privateMethod q.1 ∈ tables_1 ∧ Cond.instanceMethod q.1 ∈ tables_1
theorem lw_p0 : lw_okq (⟨"GlassTax", "error", "(I)I"⟩, 11) := ⟨⟨by decide +kernel, by decide +kernel⟩, List.mem_of_getElem? (i := 19) (by decide +kernel), List.mem_of_getElem? (i := 309) (by decide +kernel), List.mem_of_getElem? (i := 310) (by decide +kernel)⟩
theorem lw_p1 : lw_okq (⟨"GlassTax$Glass", "byTurn", "(I)I"⟩, 5) := ⟨⟨by decide +kernel, by decide +kernel⟩, List.mem_of_getElem? (i := 41) (by decide +kernel), List.mem_of_getElem? (i := 351) (by decide +kernel), List.mem_of_getElem? (i := 352) (by decide +kernel)⟩
theorem lw_p2 : lw_okq (⟨"GlassTax$Look", "enter", "(I)V"⟩, 5) := ⟨⟨by decide +kernel, by decide +kernel⟩, List.mem_of_getElem? (i := 163) (by decide +kernel), List.mem_of_getElem? (i := 407) (by decide +kernel), List.mem_of_getElem? (i := 408) (by decide +kernel)⟩
theorem lw_p3 : lw_okq (⟨"GlassTax$Look", "meet", "(I)V"⟩, 5) := ⟨⟨by decide +kernel, by decide +kernel⟩, List.mem_of_getElem? (i := 163) (by decide +kernel), List.mem_of_getElem? (i := 417) (by decide +kernel), List.mem_of_getElem? (i := 418) (by decide +kernel)⟩
theorem lw_p4 : lw_okq (⟨"GlassTax$Reader", "readPart", "(II)Z"⟩, 5) := ⟨⟨by decide +kernel, by decide +kernel⟩, List.mem_of_getElem? (i := 190) (by decide +kernel), List.mem_of_getElem? (i := 481) (by decide +kernel), List.mem_of_getElem? (i := 482) (by decide +kernel)⟩
theorem lw_p5 : lw_okq (⟨"GlassTax$Reader", "readUnit", "(I)Z"⟩, 5) := ⟨⟨by decide +kernel, by decide +kernel⟩, List.mem_of_getElem? (i := 190) (by decide +kernel), List.mem_of_getElem? (i := 485) (by decide +kernel), List.mem_of_getElem? (i := 486) (by decide +kernel)⟩
theorem lw_p6 : lw_okq (⟨"GlassTax$Reader", "signHere", "()I"⟩, 5) := ⟨⟨by decide +kernel, by decide +kernel⟩, List.mem_of_getElem? (i := 190) (by decide +kernel), List.mem_of_getElem? (i := 489) (by decide +kernel), List.mem_of_getElem? (i := 490) (by decide +kernel)⟩
theorem lw_p7 : lw_okq (⟨"GlassTax$Reader", "readNumber", "()V"⟩, 5) := ⟨⟨by decide +kernel, by decide +kernel⟩, List.mem_of_getElem? (i := 190) (by decide +kernel), List.mem_of_getElem? (i := 496) (by decide +kernel), List.mem_of_getElem? (i := 497) (by decide +kernel)⟩
theorem lw_p8 : lw_okq (⟨"GlassTax$Reader", "readOpen", "(II)Z"⟩, 5) := ⟨⟨by decide +kernel, by decide +kernel⟩, List.mem_of_getElem? (i := 190) (by decide +kernel), List.mem_of_getElem? (i := 504) (by decide +kernel), List.mem_of_getElem? (i := 505) (by decide +kernel)⟩
theorem lw_p9 : lw_okq (⟨"GlassTax$Reader", "readLevel", "(II)Z"⟩, 5) := ⟨⟨by decide +kernel, by decide +kernel⟩, List.mem_of_getElem? (i := 190) (by decide +kernel), List.mem_of_getElem? (i := 557) (by decide +kernel), List.mem_of_getElem? (i := 558) (by decide +kernel)⟩
theorem lw_p10 : lw_okq (⟨"GlassTax$Street", "countMeetings", "(LGlassTax$Look;)V"⟩, 12) := ⟨⟨by decide +kernel, by decide +kernel⟩, List.mem_of_getElem? (i := 27) (by decide +kernel), List.mem_of_getElem? (i := 591) (by decide +kernel), List.mem_of_getElem? (i := 592) (by decide +kernel)⟩
theorem lw_p11 : lw_okq (⟨"GlassTax$Street", "draw", "()I"⟩, 12) := ⟨⟨by decide +kernel, by decide +kernel⟩, List.mem_of_getElem? (i := 27) (by decide +kernel), List.mem_of_getElem? (i := 603) (by decide +kernel), List.mem_of_getElem? (i := 604) (by decide +kernel)⟩
theorem lw_p12 : lw_okq (⟨"GlassTax", "manyOrLeast", "(III)I"⟩, 11) := ⟨⟨by decide +kernel, by decide +kernel⟩, List.mem_of_getElem? (i := 19) (by decide +kernel), List.mem_of_getElem? (i := 656) (by decide +kernel), List.mem_of_getElem? (i := 657) (by decide +kernel)⟩
theorem lw_p13 : lw_okq (⟨"GlassTax", "fewestSpins", "(LGlassTax$Person;I)I"⟩, 11) := ⟨⟨by decide +kernel, by decide +kernel⟩, List.mem_of_getElem? (i := 19) (by decide +kernel), List.mem_of_getElem? (i := 664) (by decide +kernel), List.mem_of_getElem? (i := 665) (by decide +kernel)⟩
theorem lw_p14 : lw_okq (⟨"GlassTax", "isSeenByOneSpin", "(LGlassTax$Person;III)Z"⟩, 11) := ⟨⟨by decide +kernel, by decide +kernel⟩, List.mem_of_getElem? (i := 19) (by decide +kernel), List.mem_of_getElem? (i := 668) (by decide +kernel), List.mem_of_getElem? (i := 669) (by decide +kernel)⟩
theorem lw_p15 : lw_okq (⟨"GlassTax", "writeSpin", "(III)V"⟩, 11) := ⟨⟨by decide +kernel, by decide +kernel⟩, List.mem_of_getElem? (i := 19) (by decide +kernel), List.mem_of_getElem? (i := 672) (by decide +kernel), List.mem_of_getElem? (i := 673) (by decide +kernel)⟩
def lw_privs_1 : List (MethodName × Nat) := [(⟨"GlassTax", "error", "(I)I"⟩, 11), (⟨"GlassTax$Glass", "byTurn", "(I)I"⟩, 5), (⟨"GlassTax$Look", "enter", "(I)V"⟩, 5), (⟨"GlassTax$Look", "meet", "(I)V"⟩, 5), (⟨"GlassTax$Reader", "readPart", "(II)Z"⟩, 5), (⟨"GlassTax$Reader", "readUnit", "(I)Z"⟩, 5), (⟨"GlassTax$Reader", "signHere", "()I"⟩, 5), (⟨"GlassTax$Reader", "readNumber", "()V"⟩, 5), (⟨"GlassTax$Reader", "readOpen", "(II)Z"⟩, 5), (⟨"GlassTax$Reader", "readLevel", "(II)Z"⟩, 5), (⟨"GlassTax$Street", "countMeetings", "(LGlassTax$Look;)V"⟩, 12), (⟨"GlassTax$Street", "draw", "()I"⟩, 12), (⟨"GlassTax", "manyOrLeast", "(III)I"⟩, 11), (⟨"GlassTax", "fewestSpins", "(LGlassTax$Person;I)I"⟩, 11), (⟨"GlassTax", "isSeenByOneSpin", "(LGlassTax$Person;III)Z"⟩, 11), (⟨"GlassTax", "writeSpin", "(III)V"⟩, 11)]
theorem lw_r1 : ∀ q ∈ lw_privs_1, lw_okq q := List.forall_mem_cons.mpr ⟨lw_p0, List.forall_mem_cons.mpr ⟨lw_p1, List.forall_mem_cons.mpr ⟨lw_p2, List.forall_mem_cons.mpr ⟨lw_p3, List.forall_mem_cons.mpr ⟨lw_p4, List.forall_mem_cons.mpr ⟨lw_p5, List.forall_mem_cons.mpr ⟨lw_p6, List.forall_mem_cons.mpr ⟨lw_p7, List.forall_mem_cons.mpr ⟨lw_p8, List.forall_mem_cons.mpr ⟨lw_p9, List.forall_mem_cons.mpr ⟨lw_p10, List.forall_mem_cons.mpr ⟨lw_p11, List.forall_mem_cons.mpr ⟨lw_p12, List.forall_mem_cons.mpr ⟨lw_p13, List.forall_mem_cons.mpr ⟨lw_p14, List.forall_mem_cons.mpr ⟨lw_p15, fun _ h => absurd h List.not_mem_nil⟩⟩⟩⟩⟩⟩⟩⟩⟩⟩⟩⟩⟩⟩⟩⟩
theorem lw_p16 : lw_okq (⟨"GlassTax", "isSeenByTwoSpins", "(LGlassTax$Person;I)Z"⟩, 11) := ⟨⟨by decide +kernel, by decide +kernel⟩, List.mem_of_getElem? (i := 19) (by decide +kernel), List.mem_of_getElem? (i := 676) (by decide +kernel), List.mem_of_getElem? (i := 677) (by decide +kernel)⟩
theorem lw_p17 : lw_okq (⟨"GlassTax", "sheetOf", "(I)LGlassTax$Sheet;"⟩, 11) := ⟨⟨by decide +kernel, by decide +kernel⟩, List.mem_of_getElem? (i := 19) (by decide +kernel), List.mem_of_getElem? (i := 688) (by decide +kernel), List.mem_of_getElem? (i := 689) (by decide +kernel)⟩
theorem lw_p18 : lw_okq (⟨"GlassTax", "isLook", "(LGlassTax$Sheet;)Z"⟩, 11) := ⟨⟨by decide +kernel, by decide +kernel⟩, List.mem_of_getElem? (i := 19) (by decide +kernel), List.mem_of_getElem? (i := 692) (by decide +kernel), List.mem_of_getElem? (i := 693) (by decide +kernel)⟩
theorem lw_p19 : lw_okq (⟨"GlassTax$Voices", "say", "(IIII)I"⟩, 6) := ⟨⟨by decide +kernel, by decide +kernel⟩, List.mem_of_getElem? (i := 215) (by decide +kernel), List.mem_of_getElem? (i := 708) (by decide +kernel), List.mem_of_getElem? (i := 709) (by decide +kernel)⟩
theorem lw_p20 : lw_okq (⟨"GlassTax$Voices", "sayGlass", "(III)I"⟩, 6) := ⟨⟨by decide +kernel, by decide +kernel⟩, List.mem_of_getElem? (i := 215) (by decide +kernel), List.mem_of_getElem? (i := 718) (by decide +kernel), List.mem_of_getElem? (i := 719) (by decide +kernel)⟩
theorem lw_p21 : lw_okq (⟨"GlassTax$Voices", "saySpoon", "(III)I"⟩, 6) := ⟨⟨by decide +kernel, by decide +kernel⟩, List.mem_of_getElem? (i := 215) (by decide +kernel), List.mem_of_getElem? (i := 722) (by decide +kernel), List.mem_of_getElem? (i := 723) (by decide +kernel)⟩
theorem lw_p22 : lw_okq (⟨"GlassTax$Voices", "sayBowl", "(III)I"⟩, 6) := ⟨⟨by decide +kernel, by decide +kernel⟩, List.mem_of_getElem? (i := 215) (by decide +kernel), List.mem_of_getElem? (i := 726) (by decide +kernel), List.mem_of_getElem? (i := 727) (by decide +kernel)⟩
theorem lw_p23 : lw_okq (⟨"GlassTax$Voices", "saySilvered", "(III)I"⟩, 6) := ⟨⟨by decide +kernel, by decide +kernel⟩, List.mem_of_getElem? (i := 215) (by decide +kernel), List.mem_of_getElem? (i := 730) (by decide +kernel), List.mem_of_getElem? (i := 731) (by decide +kernel)⟩
theorem lw_p24 : lw_okq (⟨"GlassTax$Voices", "sayOnly", "(III)I"⟩, 6) := ⟨⟨by decide +kernel, by decide +kernel⟩, List.mem_of_getElem? (i := 215) (by decide +kernel), List.mem_of_getElem? (i := 734) (by decide +kernel), List.mem_of_getElem? (i := 735) (by decide +kernel)⟩
theorem lw_p25 : lw_okq (⟨"GlassTaxModel", "error", "(I)I"⟩, 27) := ⟨⟨by decide +kernel, by decide +kernel⟩, List.mem_of_getElem? (i := 812) (by decide +kernel), List.mem_of_getElem? (i := 917) (by decide +kernel), List.mem_of_getElem? (i := 918) (by decide +kernel)⟩
theorem lw_p26 : lw_okq (⟨"GlassTaxModel", "glassAt", "(I)I"⟩, 27) := ⟨⟨by decide +kernel, by decide +kernel⟩, List.mem_of_getElem? (i := 812) (by decide +kernel), List.mem_of_getElem? (i := 923) (by decide +kernel), List.mem_of_getElem? (i := 924) (by decide +kernel)⟩
theorem lw_p27 : lw_okq (⟨"GlassTaxModel", "of", "(II)I"⟩, 27) := ⟨⟨by decide +kernel, by decide +kernel⟩, List.mem_of_getElem? (i := 812) (by decide +kernel), List.mem_of_getElem? (i := 927) (by decide +kernel), List.mem_of_getElem? (i := 928) (by decide +kernel)⟩
theorem lw_p28 : lw_okq (⟨"GlassTaxModel", "isGlass", "(I)Z"⟩, 27) := ⟨⟨by decide +kernel, by decide +kernel⟩, List.mem_of_getElem? (i := 812) (by decide +kernel), List.mem_of_getElem? (i := 936) (by decide +kernel), List.mem_of_getElem? (i := 937) (by decide +kernel)⟩
theorem lw_p29 : lw_okq (⟨"GlassTaxModel", "onward", "(II)I"⟩, 27) := ⟨⟨by decide +kernel, by decide +kernel⟩, List.mem_of_getElem? (i := 812) (by decide +kernel), List.mem_of_getElem? (i := 944) (by decide +kernel), List.mem_of_getElem? (i := 945) (by decide +kernel)⟩
theorem lw_p30 : lw_okq (⟨"GlassTaxModel", "isNight", "()Z"⟩, 27) := ⟨⟨by decide +kernel, by decide +kernel⟩, List.mem_of_getElem? (i := 812) (by decide +kernel), List.mem_of_getElem? (i := 954) (by decide +kernel), List.mem_of_getElem? (i := 955) (by decide +kernel)⟩
theorem lw_p31 : lw_okq (⟨"GlassTaxModel", "becomes", "(II)I"⟩, 27) := ⟨⟨by decide +kernel, by decide +kernel⟩, List.mem_of_getElem? (i := 812) (by decide +kernel), List.mem_of_getElem? (i := 962) (by decide +kernel), List.mem_of_getElem? (i := 963) (by decide +kernel)⟩
def lw_privs_2 : List (MethodName × Nat) := [(⟨"GlassTax", "isSeenByTwoSpins", "(LGlassTax$Person;I)Z"⟩, 11), (⟨"GlassTax", "sheetOf", "(I)LGlassTax$Sheet;"⟩, 11), (⟨"GlassTax", "isLook", "(LGlassTax$Sheet;)Z"⟩, 11), (⟨"GlassTax$Voices", "say", "(IIII)I"⟩, 6), (⟨"GlassTax$Voices", "sayGlass", "(III)I"⟩, 6), (⟨"GlassTax$Voices", "saySpoon", "(III)I"⟩, 6), (⟨"GlassTax$Voices", "sayBowl", "(III)I"⟩, 6), (⟨"GlassTax$Voices", "saySilvered", "(III)I"⟩, 6), (⟨"GlassTax$Voices", "sayOnly", "(III)I"⟩, 6), (⟨"GlassTaxModel", "error", "(I)I"⟩, 27), (⟨"GlassTaxModel", "glassAt", "(I)I"⟩, 27), (⟨"GlassTaxModel", "of", "(II)I"⟩, 27), (⟨"GlassTaxModel", "isGlass", "(I)Z"⟩, 27), (⟨"GlassTaxModel", "onward", "(II)I"⟩, 27), (⟨"GlassTaxModel", "isNight", "()Z"⟩, 27), (⟨"GlassTaxModel", "becomes", "(II)I"⟩, 27)]
theorem lw_r2 : ∀ q ∈ lw_privs_2, lw_okq q := List.forall_mem_cons.mpr ⟨lw_p16, List.forall_mem_cons.mpr ⟨lw_p17, List.forall_mem_cons.mpr ⟨lw_p18, List.forall_mem_cons.mpr ⟨lw_p19, List.forall_mem_cons.mpr ⟨lw_p20, List.forall_mem_cons.mpr ⟨lw_p21, List.forall_mem_cons.mpr ⟨lw_p22, List.forall_mem_cons.mpr ⟨lw_p23, List.forall_mem_cons.mpr ⟨lw_p24, List.forall_mem_cons.mpr ⟨lw_p25, List.forall_mem_cons.mpr ⟨lw_p26, List.forall_mem_cons.mpr ⟨lw_p27, List.forall_mem_cons.mpr ⟨lw_p28, List.forall_mem_cons.mpr ⟨lw_p29, List.forall_mem_cons.mpr ⟨lw_p30, List.forall_mem_cons.mpr ⟨lw_p31, fun _ h => absurd h List.not_mem_nil⟩⟩⟩⟩⟩⟩⟩⟩⟩⟩⟩⟩⟩⟩⟩⟩
theorem lw_p32 : lw_okq (⟨"GlassTaxModel", "isPerson", "(I)Z"⟩, 27) := ⟨⟨by decide +kernel, by decide +kernel⟩, List.mem_of_getElem? (i := 812) (by decide +kernel), List.mem_of_getElem? (i := 987) (by decide +kernel), List.mem_of_getElem? (i := 988) (by decide +kernel)⟩
theorem lw_p33 : lw_okq (⟨"GlassTaxModel", "about", "(II)I"⟩, 27) := ⟨⟨by decide +kernel, by decide +kernel⟩, List.mem_of_getElem? (i := 812) (by decide +kernel), List.mem_of_getElem? (i := 991) (by decide +kernel), List.mem_of_getElem? (i := 992) (by decide +kernel)⟩
theorem lw_p34 : lw_okq (⟨"GlassTaxModel", "dueOf", "(I)I"⟩, 27) := ⟨⟨by decide +kernel, by decide +kernel⟩, List.mem_of_getElem? (i := 812) (by decide +kernel), List.mem_of_getElem? (i := 995) (by decide +kernel), List.mem_of_getElem? (i := 996) (by decide +kernel)⟩
theorem lw_p35 : lw_okq (⟨"GlassTaxModel", "looksOf", "(I)V"⟩, 27) := ⟨⟨by decide +kernel, by decide +kernel⟩, List.mem_of_getElem? (i := 812) (by decide +kernel), List.mem_of_getElem? (i := 999) (by decide +kernel), List.mem_of_getElem? (i := 1000) (by decide +kernel)⟩
theorem lw_p36 : lw_okq (⟨"GlassTaxModel", "looks", "(II)V"⟩, 27) := ⟨⟨by decide +kernel, by decide +kernel⟩, List.mem_of_getElem? (i := 812) (by decide +kernel), List.mem_of_getElem? (i := 1003) (by decide +kernel), List.mem_of_getElem? (i := 1004) (by decide +kernel)⟩
theorem lw_p37 : lw_okq (⟨"GlassTaxModel", "meet", "(II)I"⟩, 27) := ⟨⟨by decide +kernel, by decide +kernel⟩, List.mem_of_getElem? (i := 812) (by decide +kernel), List.mem_of_getElem? (i := 1010) (by decide +kernel), List.mem_of_getElem? (i := 1011) (by decide +kernel)⟩
theorem lw_p38 : lw_okq (⟨"GlassTaxModel", "gives", "(IIII)I"⟩, 27) := ⟨⟨by decide +kernel, by decide +kernel⟩, List.mem_of_getElem? (i := 812) (by decide +kernel), List.mem_of_getElem? (i := 1014) (by decide +kernel), List.mem_of_getElem? (i := 1015) (by decide +kernel)⟩
theorem lw_p39 : lw_okq (⟨"GlassTaxModel", "works", "(I)I"⟩, 27) := ⟨⟨by decide +kernel, by decide +kernel⟩, List.mem_of_getElem? (i := 812) (by decide +kernel), List.mem_of_getElem? (i := 1018) (by decide +kernel), List.mem_of_getElem? (i := 1019) (by decide +kernel)⟩
theorem lw_p40 : lw_okq (⟨"GlassTaxModel", "stands", "(III)I"⟩, 27) := ⟨⟨by decide +kernel, by decide +kernel⟩, List.mem_of_getElem? (i := 812) (by decide +kernel), List.mem_of_getElem? (i := 1032) (by decide +kernel), List.mem_of_getElem? (i := 1033) (by decide +kernel)⟩
theorem lw_p41 : lw_okq (⟨"GlassTaxModel", "any", "()V"⟩, 27) := ⟨⟨by decide +kernel, by decide +kernel⟩, List.mem_of_getElem? (i := 812) (by decide +kernel), List.mem_of_getElem? (i := 1054) (by decide +kernel), List.mem_of_getElem? (i := 1055) (by decide +kernel)⟩
theorem lw_p42 : lw_okq (⟨"GlassTaxModel", "all", "()V"⟩, 27) := ⟨⟨by decide +kernel, by decide +kernel⟩, List.mem_of_getElem? (i := 812) (by decide +kernel), List.mem_of_getElem? (i := 1058) (by decide +kernel), List.mem_of_getElem? (i := 1059) (by decide +kernel)⟩
theorem lw_p43 : lw_okq (⟨"GlassTaxModel", "compares", "()V"⟩, 27) := ⟨⟨by decide +kernel, by decide +kernel⟩, List.mem_of_getElem? (i := 812) (by decide +kernel), List.mem_of_getElem? (i := 1062) (by decide +kernel), List.mem_of_getElem? (i := 1063) (by decide +kernel)⟩
theorem lw_p44 : lw_okq (⟨"GlassTaxModel", "sum", "()V"⟩, 27) := ⟨⟨by decide +kernel, by decide +kernel⟩, List.mem_of_getElem? (i := 812) (by decide +kernel), List.mem_of_getElem? (i := 1066) (by decide +kernel), List.mem_of_getElem? (i := 1067) (by decide +kernel)⟩
theorem lw_p45 : lw_okq (⟨"GlassTaxModel", "times", "()V"⟩, 27) := ⟨⟨by decide +kernel, by decide +kernel⟩, List.mem_of_getElem? (i := 812) (by decide +kernel), List.mem_of_getElem? (i := 1070) (by decide +kernel), List.mem_of_getElem? (i := 1071) (by decide +kernel)⟩
theorem lw_p46 : lw_okq (⟨"GlassTaxModel", "one", "()V"⟩, 27) := ⟨⟨by decide +kernel, by decide +kernel⟩, List.mem_of_getElem? (i := 812) (by decide +kernel), List.mem_of_getElem? (i := 1074) (by decide +kernel), List.mem_of_getElem? (i := 1075) (by decide +kernel)⟩
theorem lw_p47 : lw_okq (⟨"GlassTaxModel", "byteHere", "()I"⟩, 27) := ⟨⟨by decide +kernel, by decide +kernel⟩, List.mem_of_getElem? (i := 812) (by decide +kernel), List.mem_of_getElem? (i := 1078) (by decide +kernel), List.mem_of_getElem? (i := 1079) (by decide +kernel)⟩
def lw_privs_3 : List (MethodName × Nat) := [(⟨"GlassTaxModel", "isPerson", "(I)Z"⟩, 27), (⟨"GlassTaxModel", "about", "(II)I"⟩, 27), (⟨"GlassTaxModel", "dueOf", "(I)I"⟩, 27), (⟨"GlassTaxModel", "looksOf", "(I)V"⟩, 27), (⟨"GlassTaxModel", "looks", "(II)V"⟩, 27), (⟨"GlassTaxModel", "meet", "(II)I"⟩, 27), (⟨"GlassTaxModel", "gives", "(IIII)I"⟩, 27), (⟨"GlassTaxModel", "works", "(I)I"⟩, 27), (⟨"GlassTaxModel", "stands", "(III)I"⟩, 27), (⟨"GlassTaxModel", "any", "()V"⟩, 27), (⟨"GlassTaxModel", "all", "()V"⟩, 27), (⟨"GlassTaxModel", "compares", "()V"⟩, 27), (⟨"GlassTaxModel", "sum", "()V"⟩, 27), (⟨"GlassTaxModel", "times", "()V"⟩, 27), (⟨"GlassTaxModel", "one", "()V"⟩, 27), (⟨"GlassTaxModel", "byteHere", "()I"⟩, 27)]
theorem lw_r3 : ∀ q ∈ lw_privs_3, lw_okq q := List.forall_mem_cons.mpr ⟨lw_p32, List.forall_mem_cons.mpr ⟨lw_p33, List.forall_mem_cons.mpr ⟨lw_p34, List.forall_mem_cons.mpr ⟨lw_p35, List.forall_mem_cons.mpr ⟨lw_p36, List.forall_mem_cons.mpr ⟨lw_p37, List.forall_mem_cons.mpr ⟨lw_p38, List.forall_mem_cons.mpr ⟨lw_p39, List.forall_mem_cons.mpr ⟨lw_p40, List.forall_mem_cons.mpr ⟨lw_p41, List.forall_mem_cons.mpr ⟨lw_p42, List.forall_mem_cons.mpr ⟨lw_p43, List.forall_mem_cons.mpr ⟨lw_p44, List.forall_mem_cons.mpr ⟨lw_p45, List.forall_mem_cons.mpr ⟨lw_p46, List.forall_mem_cons.mpr ⟨lw_p47, fun _ h => absurd h List.not_mem_nil⟩⟩⟩⟩⟩⟩⟩⟩⟩⟩⟩⟩⟩⟩⟩⟩
theorem lw_p48 : lw_okq (⟨"GlassTaxModel", "nameOf", "(I)I"⟩, 27) := ⟨⟨by decide +kernel, by decide +kernel⟩, List.mem_of_getElem? (i := 812) (by decide +kernel), List.mem_of_getElem? (i := 1082) (by decide +kernel), List.mem_of_getElem? (i := 1083) (by decide +kernel)⟩
theorem lw_p49 : lw_okq (⟨"GlassTaxModel", "step", "(II)V"⟩, 27) := ⟨⟨by decide +kernel, by decide +kernel⟩, List.mem_of_getElem? (i := 812) (by decide +kernel), List.mem_of_getElem? (i := 1086) (by decide +kernel), List.mem_of_getElem? (i := 1087) (by decide +kernel)⟩
theorem lw_p50 : lw_okq (⟨"GlassTaxModel", "opens", "(I)V"⟩, 27) := ⟨⟨by decide +kernel, by decide +kernel⟩, List.mem_of_getElem? (i := 812) (by decide +kernel), List.mem_of_getElem? (i := 1090) (by decide +kernel), List.mem_of_getElem? (i := 1091) (by decide +kernel)⟩
theorem lw_p51 : lw_okq (⟨"GlassTaxModel", "number", "()V"⟩, 27) := ⟨⟨by decide +kernel, by decide +kernel⟩, List.mem_of_getElem? (i := 812) (by decide +kernel), List.mem_of_getElem? (i := 1094) (by decide +kernel), List.mem_of_getElem? (i := 1095) (by decide +kernel)⟩
theorem lw_p52 : lw_okq (⟨"GlassTaxModel", "goes", "()V"⟩, 27) := ⟨⟨by decide +kernel, by decide +kernel⟩, List.mem_of_getElem? (i := 812) (by decide +kernel), List.mem_of_getElem? (i := 1110) (by decide +kernel), List.mem_of_getElem? (i := 1111) (by decide +kernel)⟩
theorem lw_p53 : lw_okq (⟨"GlassTaxModel", "drawn", "()V"⟩, 27) := ⟨⟨by decide +kernel, by decide +kernel⟩, List.mem_of_getElem? (i := 812) (by decide +kernel), List.mem_of_getElem? (i := 1118) (by decide +kernel), List.mem_of_getElem? (i := 1119) (by decide +kernel)⟩
theorem lw_p54 : lw_okq (⟨"GlassTaxModel", "draw", "()I"⟩, 27) := ⟨⟨by decide +kernel, by decide +kernel⟩, List.mem_of_getElem? (i := 812) (by decide +kernel), List.mem_of_getElem? (i := 1122) (by decide +kernel), List.mem_of_getElem? (i := 1123) (by decide +kernel)⟩
theorem lw_p55 : lw_okq (⟨"GlassTaxModel", "isSeen", "(I)Z"⟩, 27) := ⟨⟨by decide +kernel, by decide +kernel⟩, List.mem_of_getElem? (i := 812) (by decide +kernel), List.mem_of_getElem? (i := 1144) (by decide +kernel), List.mem_of_getElem? (i := 1145) (by decide +kernel)⟩
theorem lw_p56 : lw_okq (⟨"GlassTaxModel", "thinks", "()V"⟩, 27) := ⟨⟨by decide +kernel, by decide +kernel⟩, List.mem_of_getElem? (i := 812) (by decide +kernel), List.mem_of_getElem? (i := 1152) (by decide +kernel), List.mem_of_getElem? (i := 1153) (by decide +kernel)⟩
theorem lw_p57 : lw_okq (⟨"GlassTaxModel", "putsBack", "()V"⟩, 27) := ⟨⟨by decide +kernel, by decide +kernel⟩, List.mem_of_getElem? (i := 812) (by decide +kernel), List.mem_of_getElem? (i := 1159) (by decide +kernel), List.mem_of_getElem? (i := 1160) (by decide +kernel)⟩
theorem lw_p58 : lw_okq (⟨"GlassTaxModel", "canSee", "(IIII)Z"⟩, 27) := ⟨⟨by decide +kernel, by decide +kernel⟩, List.mem_of_getElem? (i := 812) (by decide +kernel), List.mem_of_getElem? (i := 1171) (by decide +kernel), List.mem_of_getElem? (i := 1172) (by decide +kernel)⟩
theorem lw_p59 : lw_okq (⟨"GlassTaxModel", "doesSee", "(II)Z"⟩, 27) := ⟨⟨by decide +kernel, by decide +kernel⟩, List.mem_of_getElem? (i := 812) (by decide +kernel), List.mem_of_getElem? (i := 1175) (by decide +kernel), List.mem_of_getElem? (i := 1176) (by decide +kernel)⟩
theorem lw_p60 : lw_okq (⟨"GlassTaxModel", "isSo", "(I)Z"⟩, 27) := ⟨⟨by decide +kernel, by decide +kernel⟩, List.mem_of_getElem? (i := 812) (by decide +kernel), List.mem_of_getElem? (i := 1190) (by decide +kernel), List.mem_of_getElem? (i := 1191) (by decide +kernel)⟩
theorem lw_p61 : lw_okq (⟨"GlassTaxModel", "gleams", "(II)I"⟩, 27) := ⟨⟨by decide +kernel, by decide +kernel⟩, List.mem_of_getElem? (i := 812) (by decide +kernel), List.mem_of_getElem? (i := 1198) (by decide +kernel), List.mem_of_getElem? (i := 1199) (by decide +kernel)⟩
theorem lw_p62 : lw_okq (⟨"GlassTaxModel", "spoonGleams", "(II)I"⟩, 27) := ⟨⟨by decide +kernel, by decide +kernel⟩, List.mem_of_getElem? (i := 812) (by decide +kernel), List.mem_of_getElem? (i := 1202) (by decide +kernel), List.mem_of_getElem? (i := 1203) (by decide +kernel)⟩
theorem lw_p63 : lw_okq (⟨"GlassTaxModel", "begins", "(I)V"⟩, 27) := ⟨⟨by decide +kernel, by decide +kernel⟩, List.mem_of_getElem? (i := 812) (by decide +kernel), List.mem_of_getElem? (i := 1206) (by decide +kernel), List.mem_of_getElem? (i := 1207) (by decide +kernel)⟩
def lw_privs_4 : List (MethodName × Nat) := [(⟨"GlassTaxModel", "nameOf", "(I)I"⟩, 27), (⟨"GlassTaxModel", "step", "(II)V"⟩, 27), (⟨"GlassTaxModel", "opens", "(I)V"⟩, 27), (⟨"GlassTaxModel", "number", "()V"⟩, 27), (⟨"GlassTaxModel", "goes", "()V"⟩, 27), (⟨"GlassTaxModel", "drawn", "()V"⟩, 27), (⟨"GlassTaxModel", "draw", "()I"⟩, 27), (⟨"GlassTaxModel", "isSeen", "(I)Z"⟩, 27), (⟨"GlassTaxModel", "thinks", "()V"⟩, 27), (⟨"GlassTaxModel", "putsBack", "()V"⟩, 27), (⟨"GlassTaxModel", "canSee", "(IIII)Z"⟩, 27), (⟨"GlassTaxModel", "doesSee", "(II)Z"⟩, 27), (⟨"GlassTaxModel", "isSo", "(I)Z"⟩, 27), (⟨"GlassTaxModel", "gleams", "(II)I"⟩, 27), (⟨"GlassTaxModel", "spoonGleams", "(II)I"⟩, 27), (⟨"GlassTaxModel", "begins", "(I)V"⟩, 27)]
theorem lw_r4 : ∀ q ∈ lw_privs_4, lw_okq q := List.forall_mem_cons.mpr ⟨lw_p48, List.forall_mem_cons.mpr ⟨lw_p49, List.forall_mem_cons.mpr ⟨lw_p50, List.forall_mem_cons.mpr ⟨lw_p51, List.forall_mem_cons.mpr ⟨lw_p52, List.forall_mem_cons.mpr ⟨lw_p53, List.forall_mem_cons.mpr ⟨lw_p54, List.forall_mem_cons.mpr ⟨lw_p55, List.forall_mem_cons.mpr ⟨lw_p56, List.forall_mem_cons.mpr ⟨lw_p57, List.forall_mem_cons.mpr ⟨lw_p58, List.forall_mem_cons.mpr ⟨lw_p59, List.forall_mem_cons.mpr ⟨lw_p60, List.forall_mem_cons.mpr ⟨lw_p61, List.forall_mem_cons.mpr ⟨lw_p62, List.forall_mem_cons.mpr ⟨lw_p63, fun _ h => absurd h List.not_mem_nil⟩⟩⟩⟩⟩⟩⟩⟩⟩⟩⟩⟩⟩⟩⟩⟩
theorem lw_p64 : lw_okq (⟨"GlassTaxModel", "plainGleams", "(II)I"⟩, 27) := ⟨⟨by decide +kernel, by decide +kernel⟩, List.mem_of_getElem? (i := 812) (by decide +kernel), List.mem_of_getElem? (i := 1210) (by decide +kernel), List.mem_of_getElem? (i := 1211) (by decide +kernel)⟩
theorem lw_p65 : lw_okq (⟨"GlassTaxModel", "glints", "(II)I"⟩, 27) := ⟨⟨by decide +kernel, by decide +kernel⟩, List.mem_of_getElem? (i := 812) (by decide +kernel), List.mem_of_getElem? (i := 1214) (by decide +kernel), List.mem_of_getElem? (i := 1215) (by decide +kernel)⟩
theorem lw_p66 : lw_okq (⟨"GlassTaxModel", "paneGlints", "(II)I"⟩, 27) := ⟨⟨by decide +kernel, by decide +kernel⟩, List.mem_of_getElem? (i := 812) (by decide +kernel), List.mem_of_getElem? (i := 1218) (by decide +kernel), List.mem_of_getElem? (i := 1219) (by decide +kernel)⟩
theorem lw_p67 : lw_okq (⟨"GlassTaxModel", "plainGlints", "(II)I"⟩, 27) := ⟨⟨by decide +kernel, by decide +kernel⟩, List.mem_of_getElem? (i := 812) (by decide +kernel), List.mem_of_getElem? (i := 1222) (by decide +kernel), List.mem_of_getElem? (i := 1223) (by decide +kernel)⟩
theorem lw_p68 : lw_okq (⟨"GlassTaxModel", "fades", "(II)I"⟩, 27) := ⟨⟨by decide +kernel, by decide +kernel⟩, List.mem_of_getElem? (i := 812) (by decide +kernel), List.mem_of_getElem? (i := 1226) (by decide +kernel), List.mem_of_getElem? (i := 1227) (by decide +kernel)⟩
theorem lw_p69 : lw_okq (⟨"GlassTaxModel", "plainFades", "(II)I"⟩, 27) := ⟨⟨by decide +kernel, by decide +kernel⟩, List.mem_of_getElem? (i := 812) (by decide +kernel), List.mem_of_getElem? (i := 1230) (by decide +kernel), List.mem_of_getElem? (i := 1231) (by decide +kernel)⟩
theorem lw_p70 : lw_okq (⟨"GlassTaxModel", "parts", "(II)I"⟩, 27) := ⟨⟨by decide +kernel, by decide +kernel⟩, List.mem_of_getElem? (i := 812) (by decide +kernel), List.mem_of_getElem? (i := 1234) (by decide +kernel), List.mem_of_getElem? (i := 1235) (by decide +kernel)⟩
theorem lw_p71 : lw_okq (⟨"GlassTaxModel", "plainParts", "(II)I"⟩, 27) := ⟨⟨by decide +kernel, by decide +kernel⟩, List.mem_of_getElem? (i := 812) (by decide +kernel), List.mem_of_getElem? (i := 1238) (by decide +kernel), List.mem_of_getElem? (i := 1239) (by decide +kernel)⟩
theorem lw_p72 : lw_okq (⟨"GlassTaxModel", "notThere", "(I)I"⟩, 27) := ⟨⟨by decide +kernel, by decide +kernel⟩, List.mem_of_getElem? (i := 812) (by decide +kernel), List.mem_of_getElem? (i := 1255) (by decide +kernel), List.mem_of_getElem? (i := 1256) (by decide +kernel)⟩
theorem lw_p73 : lw_okq (⟨"GlassTaxModel", "notMoved", "(IIIII)I"⟩, 27) := ⟨⟨by decide +kernel, by decide +kernel⟩, List.mem_of_getElem? (i := 812) (by decide +kernel), List.mem_of_getElem? (i := 1263) (by decide +kernel), List.mem_of_getElem? (i := 1264) (by decide +kernel)⟩
def lw_privs_5 : List (MethodName × Nat) := [(⟨"GlassTaxModel", "plainGleams", "(II)I"⟩, 27), (⟨"GlassTaxModel", "glints", "(II)I"⟩, 27), (⟨"GlassTaxModel", "paneGlints", "(II)I"⟩, 27), (⟨"GlassTaxModel", "plainGlints", "(II)I"⟩, 27), (⟨"GlassTaxModel", "fades", "(II)I"⟩, 27), (⟨"GlassTaxModel", "plainFades", "(II)I"⟩, 27), (⟨"GlassTaxModel", "parts", "(II)I"⟩, 27), (⟨"GlassTaxModel", "plainParts", "(II)I"⟩, 27), (⟨"GlassTaxModel", "notThere", "(I)I"⟩, 27), (⟨"GlassTaxModel", "notMoved", "(IIIII)I"⟩, 27)]
theorem lw_r5 : ∀ q ∈ lw_privs_5, lw_okq q := List.forall_mem_cons.mpr ⟨lw_p64, List.forall_mem_cons.mpr ⟨lw_p65, List.forall_mem_cons.mpr ⟨lw_p66, List.forall_mem_cons.mpr ⟨lw_p67, List.forall_mem_cons.mpr ⟨lw_p68, List.forall_mem_cons.mpr ⟨lw_p69, List.forall_mem_cons.mpr ⟨lw_p70, List.forall_mem_cons.mpr ⟨lw_p71, List.forall_mem_cons.mpr ⟨lw_p72, List.forall_mem_cons.mpr ⟨lw_p73, fun _ h => absurd h List.not_mem_nil⟩⟩⟩⟩⟩⟩⟩⟩⟩⟩
def lw_privs : List (MethodName × Nat) := lw_privs_1 ++ (lw_privs_2 ++ (lw_privs_3 ++ (lw_privs_4 ++ (lw_privs_5))))
def lw_tbl : List Cond := k2_sels lw_privs ++ tables_1
theorem lw_privs_ok : ∀ q ∈ lw_privs, lw_okq q := by
  show ∀ q ∈ lw_privs_1 ++ (lw_privs_2 ++ (lw_privs_3 ++ (lw_privs_4 ++ (lw_privs_5)))), lw_okq q
  exact List.forall_mem_append.mpr ⟨lw_r1, List.forall_mem_append.mpr ⟨lw_r2, List.forall_mem_append.mpr ⟨lw_r3, List.forall_mem_append.mpr ⟨lw_r4, lw_r5⟩⟩⟩⟩
-- ===== end of PART A; then your names; then what follows =====
end
section
def lw_gd : List Cond := lw_tbl.filter goodWord
theorem zwd {w : Cond} (i : Nat) (h : tables_1[i]? = some w) (hg : goodWord w = true) : w ∈ lw_gd := List.mem_filter.mpr ⟨List.mem_append_right _ (List.mem_of_getElem? h), hg⟩
theorem zws {w : Cond} (i : Nat) (h : (k2_sels lw_privs)[i]? = some w) (hg : goodWord w = true) : w ∈ lw_gd := List.mem_filter.mpr ⟨List.mem_append_left _ (List.mem_of_getElem? h), hg⟩
theorem lw_gdIn : GoodIn lw_gd lw_gd := fun w hw => ⟨hw, good_of_word (List.mem_filter.mp hw).2⟩
/-! names: classes, fields, methods (printed by wip/whole/gen/emit_names.py out of the Statement) -/
def R0 : String := "GlassTax$Glass"
def T0 : u_T := fun k => match k with
  | 0 => ("GlassTax$Glass", "kind", "I", false)
  | 1 => ("GlassTax$Glass", "m", "I", false)
  | 2 => ("GlassTax$Glass", "cell", "I", false)
  | 3 => ("GlassTax$Glass", "turn", "I", false)
  | _ => ("GlassTax$Glass", "seen", "I", false)
def ty0 : Nat → FieldType := fun k => match k with
  | 0 => .int
  | 1 => .int
  | 2 => .int
  | 3 => .int
  | _ => .int
theorem nm0 : ∀ a, a < 5 → ∀ b, b < 5 → a ≠ b → (T0 a).2.1 ≠ (T0 b).2.1 := by decide +kernel
theorem ty0_ok : ∀ k, k < 5 → parseFieldDescriptor (T0 k).2.2.1 = some (ty0 k) := by decide +kernel
theorem hu0_0 : u_lay R0 T0 0 ∈ lw_gd := zwd 63 (by decide +kernel) (by decide +kernel)
theorem hu0_1 : u_lay R0 T0 1 ∈ lw_gd := zwd 65 (by decide +kernel) (by decide +kernel)
theorem hu0_2 : u_lay R0 T0 2 ∈ lw_gd := zwd 67 (by decide +kernel) (by decide +kernel)
theorem hu0_3 : u_lay R0 T0 3 ∈ lw_gd := zwd 69 (by decide +kernel) (by decide +kernel)
theorem hu0_4 : u_lay R0 T0 4 ∈ lw_gd := zwd 71 (by decide +kernel) (by decide +kernel)
theorem hu0 : ∀ w ∈ u_ws R0 T0 5, w ∈ lw_gd := by
  intro w hw
  obtain ⟨k, hk, rfl⟩ := List.mem_map.mp hw
  have hk := List.mem_range.mp hk
  match k, hk with
  | 0, _ => exact hu0_0
  | 1, _ => exact hu0_1
  | 2, _ => exact hu0_2
  | 3, _ => exact hu0_3
  | 4, _ => exact hu0_4
  | k + 5, h => exact absurd h (by omega)
def R1 : String := "GlassTax$Look"
def T1 : u_T := fun k => match k with
  | 0 => ("GlassTax$Look", "cells", "[I", true)
  | 1 => ("GlassTax$Look", "met", "[I", true)
  | 2 => ("GlassTax$Look", "length", "I", false)
  | 3 => ("GlassTax$Look", "meetings", "I", false)
  | _ => ("GlassTax$Look", "isEver", "Z", false)
def ty1 : Nat → FieldType := fun k => match k with
  | 0 => .array .int
  | 1 => .array .int
  | 2 => .int
  | 3 => .int
  | _ => .boolean
theorem nm1 : ∀ a, a < 5 → ∀ b, b < 5 → a ≠ b → (T1 a).2.1 ≠ (T1 b).2.1 := by decide +kernel
theorem ty1_ok : ∀ k, k < 5 → parseFieldDescriptor (T1 k).2.2.1 = some (ty1 k) := by decide +kernel
theorem hu1_0 : u_lay R1 T1 0 ∈ lw_gd := zwd 178 (by decide +kernel) (by decide +kernel)
theorem hu1_1 : u_lay R1 T1 1 ∈ lw_gd := zwd 180 (by decide +kernel) (by decide +kernel)
theorem hu1_2 : u_lay R1 T1 2 ∈ lw_gd := zwd 182 (by decide +kernel) (by decide +kernel)
theorem hu1_3 : u_lay R1 T1 3 ∈ lw_gd := zwd 184 (by decide +kernel) (by decide +kernel)
theorem hu1_4 : u_lay R1 T1 4 ∈ lw_gd := zwd 186 (by decide +kernel) (by decide +kernel)
theorem hu1 : ∀ w ∈ u_ws R1 T1 5, w ∈ lw_gd := by
  intro w hw
  obtain ⟨k, hk, rfl⟩ := List.mem_map.mp hw
  have hk := List.mem_range.mp hk
  match k, hk with
  | 0, _ => exact hu1_0
  | 1, _ => exact hu1_1
  | 2, _ => exact hu1_2
  | 3, _ => exact hu1_3
  | 4, _ => exact hu1_4
  | k + 5, h => exact absurd h (by omega)
def R2 : String := "GlassTax$Person"
def T2 : u_T := fun k => match k with
  | 0 => ("GlassTax$Person", "cell", "I", false)
  | 1 => ("GlassTax$Person", "way", "I", false)
  | _ => ("GlassTax$Person", "owes", "I", false)
def ty2 : Nat → FieldType := fun k => match k with
  | 0 => .int
  | 1 => .int
  | _ => .int
theorem nm2 : ∀ a, a < 3 → ∀ b, b < 3 → a ≠ b → (T2 a).2.1 ≠ (T2 b).2.1 := by decide +kernel
theorem ty2_ok : ∀ k, k < 3 → parseFieldDescriptor (T2 k).2.2.1 = some (ty2 k) := by decide +kernel
theorem hu2_0 : u_lay R2 T2 0 ∈ lw_gd := zwd 89 (by decide +kernel) (by decide +kernel)
theorem hu2_1 : u_lay R2 T2 1 ∈ lw_gd := zwd 91 (by decide +kernel) (by decide +kernel)
theorem hu2_2 : u_lay R2 T2 2 ∈ lw_gd := zwd 93 (by decide +kernel) (by decide +kernel)
theorem hu2 : ∀ w ∈ u_ws R2 T2 3, w ∈ lw_gd := by
  intro w hw
  obtain ⟨k, hk, rfl⟩ := List.mem_map.mp hw
  have hk := List.mem_range.mp hk
  match k, hk with
  | 0, _ => exact hu2_0
  | 1, _ => exact hu2_1
  | 2, _ => exact hu2_2
  | k + 3, h => exact absurd h (by omega)
def R3 : String := "GlassTax$Reader"
def T3 : u_T := fun k => match k with
  | 0 => ("GlassTax$Reader", "draft", "LGlassTax$Text;", true)
  | 1 => ("GlassTax$Reader", "tape", "[I", false)
  | 2 => ("GlassTax$Reader", "length", "I", false)
  | 3 => ("GlassTax$Reader", "place", "I", false)
  | _ => ("GlassTax$Reader", "use", "I", false)
def ty3 : Nat → FieldType := fun k => match k with
  | 0 => .object "GlassTax$Text"
  | 1 => .array .int
  | 2 => .int
  | 3 => .int
  | _ => .int
theorem nm3 : ∀ a, a < 5 → ∀ b, b < 5 → a ≠ b → (T3 a).2.1 ≠ (T3 b).2.1 := by decide +kernel
theorem ty3_ok : ∀ k, k < 5 → parseFieldDescriptor (T3 k).2.2.1 = some (ty3 k) := by decide +kernel
theorem hu3_0 : u_lay R3 T3 0 ∈ lw_gd := zwd 203 (by decide +kernel) (by decide +kernel)
theorem hu3_1 : u_lay R3 T3 1 ∈ lw_gd := zwd 205 (by decide +kernel) (by decide +kernel)
theorem hu3_2 : u_lay R3 T3 2 ∈ lw_gd := zwd 207 (by decide +kernel) (by decide +kernel)
theorem hu3_3 : u_lay R3 T3 3 ∈ lw_gd := zwd 209 (by decide +kernel) (by decide +kernel)
theorem hu3_4 : u_lay R3 T3 4 ∈ lw_gd := zwd 211 (by decide +kernel) (by decide +kernel)
theorem hu3 : ∀ w ∈ u_ws R3 T3 5, w ∈ lw_gd := by
  intro w hw
  obtain ⟨k, hk, rfl⟩ := List.mem_map.mp hw
  have hk := List.mem_range.mp hk
  match k, hk with
  | 0, _ => exact hu3_0
  | 1, _ => exact hu3_1
  | 2, _ => exact hu3_2
  | 3, _ => exact hu3_3
  | 4, _ => exact hu3_4
  | k + 5, h => exact absurd h (by omega)
def R4 : String := "GlassTax$Sheet"
def T4 : u_T := fun k => match k with
  | 0 => ("GlassTax$Sheet", "numbers", "[I", true)
  | 1 => ("GlassTax$Sheet", "bits", "I", false)
  | _ => ("GlassTax$Sheet", "length", "I", false)
def ty4 : Nat → FieldType := fun k => match k with
  | 0 => .array .int
  | 1 => .int
  | _ => .int
theorem nm4 : ∀ a, a < 3 → ∀ b, b < 3 → a ≠ b → (T4 a).2.1 ≠ (T4 b).2.1 := by decide +kernel
theorem ty4_ok : ∀ k, k < 3 → parseFieldDescriptor (T4 k).2.2.1 = some (ty4 k) := by decide +kernel
theorem hu4_0 : u_lay R4 T4 0 ∈ lw_gd := zwd 254 (by decide +kernel) (by decide +kernel)
theorem hu4_1 : u_lay R4 T4 1 ∈ lw_gd := zwd 256 (by decide +kernel) (by decide +kernel)
theorem hu4_2 : u_lay R4 T4 2 ∈ lw_gd := zwd 258 (by decide +kernel) (by decide +kernel)
theorem hu4 : ∀ w ∈ u_ws R4 T4 3, w ∈ lw_gd := by
  intro w hw
  obtain ⟨k, hk, rfl⟩ := List.mem_map.mp hw
  have hk := List.mem_range.mp hk
  match k, hk with
  | 0, _ => exact hu4_0
  | 1, _ => exact hu4_1
  | 2, _ => exact hu4_2
  | k + 3, h => exact absurd h (by omega)
def R5 : String := "GlassTax$Street"
def T5 : u_T := fun k => match k with
  | 0 => ("GlassTax$Street", "glasses", "[LGlassTax$Glass;", true)
  | 1 => ("GlassTax$Street", "people", "[LGlassTax$Person;", true)
  | 2 => ("GlassTax$Street", "texts", "[LGlassTax$Text;", true)
  | 3 => ("GlassTax$Street", "glassIn", "[I", true)
  | 4 => ("GlassTax$Street", "tape", "[I", true)
  | 5 => ("GlassTax$Street", "waiting", "[I", true)
  | 6 => ("GlassTax$Street", "glassCount", "I", false)
  | 7 => ("GlassTax$Street", "peopleCount", "I", false)
  | 8 => ("GlassTax$Street", "taped", "I", false)
  | 9 => ("GlassTax$Street", "waits", "I", false)
  | 10 => ("GlassTax$Street", "hour", "I", false)
  | _ => ("GlassTax$Street", "z", "I", false)
def ty5 : Nat → FieldType := fun k => match k with
  | 0 => .array (.object "GlassTax$Glass")
  | 1 => .array (.object "GlassTax$Person")
  | 2 => .array (.object "GlassTax$Text")
  | 3 => .array .int
  | 4 => .array .int
  | 5 => .array .int
  | 6 => .int
  | 7 => .int
  | 8 => .int
  | 9 => .int
  | 10 => .int
  | _ => .int
theorem nm5 : ∀ a, a < 12 → ∀ b, b < 12 → a ≠ b → (T5 a).2.1 ≠ (T5 b).2.1 := by decide +kernel
theorem ty5_ok : ∀ k, k < 12 → parseFieldDescriptor (T5 k).2.2.1 = some (ty5 k) := by decide +kernel
theorem hu5_0 : u_lay R5 T5 0 ∈ lw_gd := zwd 137 (by decide +kernel) (by decide +kernel)
theorem hu5_1 : u_lay R5 T5 1 ∈ lw_gd := zwd 139 (by decide +kernel) (by decide +kernel)
theorem hu5_2 : u_lay R5 T5 2 ∈ lw_gd := zwd 141 (by decide +kernel) (by decide +kernel)
theorem hu5_3 : u_lay R5 T5 3 ∈ lw_gd := zwd 143 (by decide +kernel) (by decide +kernel)
theorem hu5_4 : u_lay R5 T5 4 ∈ lw_gd := zwd 145 (by decide +kernel) (by decide +kernel)
theorem hu5_5 : u_lay R5 T5 5 ∈ lw_gd := zwd 147 (by decide +kernel) (by decide +kernel)
theorem hu5_6 : u_lay R5 T5 6 ∈ lw_gd := zwd 149 (by decide +kernel) (by decide +kernel)
theorem hu5_7 : u_lay R5 T5 7 ∈ lw_gd := zwd 151 (by decide +kernel) (by decide +kernel)
theorem hu5_8 : u_lay R5 T5 8 ∈ lw_gd := zwd 153 (by decide +kernel) (by decide +kernel)
theorem hu5_9 : u_lay R5 T5 9 ∈ lw_gd := zwd 155 (by decide +kernel) (by decide +kernel)
theorem hu5_10 : u_lay R5 T5 10 ∈ lw_gd := zwd 157 (by decide +kernel) (by decide +kernel)
theorem hu5_11 : u_lay R5 T5 11 ∈ lw_gd := zwd 159 (by decide +kernel) (by decide +kernel)
theorem hu5 : ∀ w ∈ u_ws R5 T5 12, w ∈ lw_gd := by
  intro w hw
  obtain ⟨k, hk, rfl⟩ := List.mem_map.mp hw
  have hk := List.mem_range.mp hk
  match k, hk with
  | 0, _ => exact hu5_0
  | 1, _ => exact hu5_1
  | 2, _ => exact hu5_2
  | 3, _ => exact hu5_3
  | 4, _ => exact hu5_4
  | 5, _ => exact hu5_5
  | 6, _ => exact hu5_6
  | 7, _ => exact hu5_7
  | 8, _ => exact hu5_8
  | 9, _ => exact hu5_9
  | 10, _ => exact hu5_10
  | 11, _ => exact hu5_11
  | k + 12, h => exact absurd h (by omega)
def R6 : String := "GlassTax$Text"
def T6 : u_T := fun k => match k with
  | 0 => ("GlassTax$Text", "steps", "[I", true)
  | 1 => ("GlassTax$Text", "stack", "[I", true)
  | 2 => ("GlassTax$Text", "length", "I", false)
  | _ => ("GlassTax$Text", "isThere", "Z", false)
def ty6 : Nat → FieldType := fun k => match k with
  | 0 => .array .int
  | 1 => .array .int
  | 2 => .int
  | _ => .boolean
theorem nm6 : ∀ a, a < 4 → ∀ b, b < 4 → a ≠ b → (T6 a).2.1 ≠ (T6 b).2.1 := by decide +kernel
theorem ty6_ok : ∀ k, k < 4 → parseFieldDescriptor (T6 k).2.2.1 = some (ty6 k) := by decide +kernel
theorem hu6_0 : u_lay R6 T6 0 ∈ lw_gd := zwd 109 (by decide +kernel) (by decide +kernel)
theorem hu6_1 : u_lay R6 T6 1 ∈ lw_gd := zwd 111 (by decide +kernel) (by decide +kernel)
theorem hu6_2 : u_lay R6 T6 2 ∈ lw_gd := zwd 113 (by decide +kernel) (by decide +kernel)
theorem hu6_3 : u_lay R6 T6 3 ∈ lw_gd := zwd 115 (by decide +kernel) (by decide +kernel)
theorem hu6 : ∀ w ∈ u_ws R6 T6 4, w ∈ lw_gd := by
  intro w hw
  obtain ⟨k, hk, rfl⟩ := List.mem_map.mp hw
  have hk := List.mem_range.mp hk
  match k, hk with
  | 0, _ => exact hu6_0
  | 1, _ => exact hu6_1
  | 2, _ => exact hu6_2
  | 3, _ => exact hu6_3
  | k + 4, h => exact absurd h (by omega)
def R7 : String := "GlassTax$Voices"
def T7 : u_T := fun k => match k with
  | 0 => ("GlassTax$Voices", "trace", "[I", true)
  | 1 => ("GlassTax$Voices", "traced", "I", false)
  | 2 => ("GlassTax$Voices", "isParted", "Z", false)
  | 3 => ("GlassTax$Voices", "kind", "I", false)
  | 4 => ("GlassTax$Voices", "number", "I", false)
  | _ => ("GlassTax$Voices", "m", "I", false)
def ty7 : Nat → FieldType := fun k => match k with
  | 0 => .array .int
  | 1 => .int
  | 2 => .boolean
  | 3 => .int
  | 4 => .int
  | _ => .int
theorem nm7 : ∀ a, a < 6 → ∀ b, b < 6 → a ≠ b → (T7 a).2.1 ≠ (T7 b).2.1 := by decide +kernel
theorem ty7_ok : ∀ k, k < 6 → parseFieldDescriptor (T7 k).2.2.1 = some (ty7 k) := by decide +kernel
theorem hu7_0 : u_lay R7 T7 0 ∈ lw_gd := zwd 228 (by decide +kernel) (by decide +kernel)
theorem hu7_1 : u_lay R7 T7 1 ∈ lw_gd := zwd 230 (by decide +kernel) (by decide +kernel)
theorem hu7_2 : u_lay R7 T7 2 ∈ lw_gd := zwd 232 (by decide +kernel) (by decide +kernel)
theorem hu7_3 : u_lay R7 T7 3 ∈ lw_gd := zwd 234 (by decide +kernel) (by decide +kernel)
theorem hu7_4 : u_lay R7 T7 4 ∈ lw_gd := zwd 236 (by decide +kernel) (by decide +kernel)
theorem hu7_5 : u_lay R7 T7 5 ∈ lw_gd := zwd 238 (by decide +kernel) (by decide +kernel)
theorem hu7 : ∀ w ∈ u_ws R7 T7 6, w ∈ lw_gd := by
  intro w hw
  obtain ⟨k, hk, rfl⟩ := List.mem_map.mp hw
  have hk := List.mem_range.mp hk
  match k, hk with
  | 0, _ => exact hu7_0
  | 1, _ => exact hu7_1
  | 2, _ => exact hu7_2
  | 3, _ => exact hu7_3
  | 4, _ => exact hu7_4
  | 5, _ => exact hu7_5
  | k + 6, h => exact absurd h (by omega)
def R8 : String := "GlassTax"
def T8 : u_T := fun k => match k with
  | 0 => ("GlassTax", "now", "LGlassTax$Street;", true)
  | 1 => ("GlassTax", "kept", "LGlassTax$Street;", true)
  | 2 => ("GlassTax", "thought", "LGlassTax$Street;", true)
  | 3 => ("GlassTax", "gaze", "LGlassTax$Look;", true)
  | 4 => ("GlassTax", "reader", "LGlassTax$Reader;", true)
  | 5 => ("GlassTax", "voices", "LGlassTax$Voices;", true)
  | 6 => ("GlassTax", "sheets", "[LGlassTax$Sheet;", true)
  | 7 => ("GlassTax", "spinRow", "[I", true)
  | 8 => ("GlassTax", "errors", "[I", true)
  | 9 => ("GlassTax", "hasImage", "Z", false)
  | _ => ("GlassTax", "images", "I", false)
def ty8 : Nat → FieldType := fun k => match k with
  | 0 => .object "GlassTax$Street"
  | 1 => .object "GlassTax$Street"
  | 2 => .object "GlassTax$Street"
  | 3 => .object "GlassTax$Look"
  | 4 => .object "GlassTax$Reader"
  | 5 => .object "GlassTax$Voices"
  | 6 => .array (.object "GlassTax$Sheet")
  | 7 => .array .int
  | 8 => .array .int
  | 9 => .boolean
  | _ => .int
theorem nm8 : ∀ a, a < 11 → ∀ b, b < 11 → a ≠ b → (T8 a).2.1 ≠ (T8 b).2.1 := by decide +kernel
theorem ty8_ok : ∀ k, k < 11 → parseFieldDescriptor (T8 k).2.2.1 = some (ty8 k) := by decide +kernel
theorem hu8_0 : u_lay R8 T8 0 ∈ lw_gd := zwd 272 (by decide +kernel) (by decide +kernel)
theorem hu8_1 : u_lay R8 T8 1 ∈ lw_gd := zwd 274 (by decide +kernel) (by decide +kernel)
theorem hu8_2 : u_lay R8 T8 2 ∈ lw_gd := zwd 276 (by decide +kernel) (by decide +kernel)
theorem hu8_3 : u_lay R8 T8 3 ∈ lw_gd := zwd 278 (by decide +kernel) (by decide +kernel)
theorem hu8_4 : u_lay R8 T8 4 ∈ lw_gd := zwd 280 (by decide +kernel) (by decide +kernel)
theorem hu8_5 : u_lay R8 T8 5 ∈ lw_gd := zwd 282 (by decide +kernel) (by decide +kernel)
theorem hu8_6 : u_lay R8 T8 6 ∈ lw_gd := zwd 284 (by decide +kernel) (by decide +kernel)
theorem hu8_7 : u_lay R8 T8 7 ∈ lw_gd := zwd 286 (by decide +kernel) (by decide +kernel)
theorem hu8_8 : u_lay R8 T8 8 ∈ lw_gd := zwd 288 (by decide +kernel) (by decide +kernel)
theorem hu8_9 : u_lay R8 T8 9 ∈ lw_gd := zwd 290 (by decide +kernel) (by decide +kernel)
theorem hu8_10 : u_lay R8 T8 10 ∈ lw_gd := zwd 292 (by decide +kernel) (by decide +kernel)
theorem hu8 : ∀ w ∈ u_ws R8 T8 11, w ∈ lw_gd := by
  intro w hw
  obtain ⟨k, hk, rfl⟩ := List.mem_map.mp hw
  have hk := List.mem_range.mp hk
  match k, hk with
  | 0, _ => exact hu8_0
  | 1, _ => exact hu8_1
  | 2, _ => exact hu8_2
  | 3, _ => exact hu8_3
  | 4, _ => exact hu8_4
  | 5, _ => exact hu8_5
  | 6, _ => exact hu8_6
  | 7, _ => exact hu8_7
  | 8, _ => exact hu8_8
  | 9, _ => exact hu8_9
  | 10, _ => exact hu8_10
  | k + 11, h => exact absurd h (by omega)
def R9 : String := "GlassTaxModel"
def T9 : u_T := fun k => match k with
  | 0 => ("GlassTaxModel", "row", "[I", true)
  | 1 => ("GlassTaxModel", "kept", "[I", true)
  | 2 => ("GlassTaxModel", "before", "[I", true)
  | 3 => ("GlassTaxModel", "images", "I", false)
  | 4 => ("GlassTaxModel", "errors", "[I", true)
  | 5 => ("GlassTaxModel", "bitsOf", "[I", true)
  | 6 => ("GlassTaxModel", "sizeOf", "[I", true)
  | 7 => ("GlassTaxModel", "cells", "[I", true)
  | 8 => ("GlassTaxModel", "path", "[I", true)
  | 9 => ("GlassTaxModel", "many", "I", false)
  | 10 => ("GlassTaxModel", "meets", "I", false)
  | 11 => ("GlassTaxModel", "met", "[I", true)
  | 12 => ("GlassTaxModel", "tax", "I", false)
  | 13 => ("GlassTaxModel", "isEver", "Z", false)
  | 14 => ("GlassTaxModel", "act", "[I", true)
  | 15 => ("GlassTaxModel", "with", "[I", true)
  | 16 => ("GlassTaxModel", "facts", "[I", true)
  | 17 => ("GlassTaxModel", "pile", "[I", true)
  | 18 => ("GlassTaxModel", "laid", "I", false)
  | 19 => ("GlassTaxModel", "here", "I", false)
  | 20 => ("GlassTaxModel", "opened", "I", false)
  | 21 => ("GlassTaxModel", "bad", "Z", false)
  | 22 => ("GlassTaxModel", "using", "I", false)
  | 23 => ("GlassTaxModel", "spun", "[I", true)
  | 24 => ("GlassTaxModel", "trace", "[I", true)
  | 25 => ("GlassTaxModel", "traced", "I", false)
  | _ => ("GlassTaxModel", "isParted", "Z", false)
def ty9 : Nat → FieldType := fun k => match k with
  | 0 => .array .int
  | 1 => .array .int
  | 2 => .array .int
  | 3 => .int
  | 4 => .array .int
  | 5 => .array .int
  | 6 => .array .int
  | 7 => .array .int
  | 8 => .array .int
  | 9 => .int
  | 10 => .int
  | 11 => .array .int
  | 12 => .int
  | 13 => .boolean
  | 14 => .array .int
  | 15 => .array .int
  | 16 => .array .int
  | 17 => .array .int
  | 18 => .int
  | 19 => .int
  | 20 => .int
  | 21 => .boolean
  | 22 => .int
  | 23 => .array .int
  | 24 => .array .int
  | 25 => .int
  | _ => .boolean
theorem nm9 : ∀ a, a < 27 → ∀ b, b < 27 → a ≠ b → (T9 a).2.1 ≠ (T9 b).2.1 := by decide +kernel
theorem ty9_ok : ∀ k, k < 27 → parseFieldDescriptor (T9 k).2.2.1 = some (ty9 k) := by decide +kernel
theorem hu9_0 : u_lay R9 T9 0 ∈ lw_gd := zwd 844 (by decide +kernel) (by decide +kernel)
theorem hu9_1 : u_lay R9 T9 1 ∈ lw_gd := zwd 846 (by decide +kernel) (by decide +kernel)
theorem hu9_2 : u_lay R9 T9 2 ∈ lw_gd := zwd 848 (by decide +kernel) (by decide +kernel)
theorem hu9_3 : u_lay R9 T9 3 ∈ lw_gd := zwd 850 (by decide +kernel) (by decide +kernel)
theorem hu9_4 : u_lay R9 T9 4 ∈ lw_gd := zwd 852 (by decide +kernel) (by decide +kernel)
theorem hu9_5 : u_lay R9 T9 5 ∈ lw_gd := zwd 854 (by decide +kernel) (by decide +kernel)
theorem hu9_6 : u_lay R9 T9 6 ∈ lw_gd := zwd 856 (by decide +kernel) (by decide +kernel)
theorem hu9_7 : u_lay R9 T9 7 ∈ lw_gd := zwd 858 (by decide +kernel) (by decide +kernel)
theorem hu9_8 : u_lay R9 T9 8 ∈ lw_gd := zwd 860 (by decide +kernel) (by decide +kernel)
theorem hu9_9 : u_lay R9 T9 9 ∈ lw_gd := zwd 862 (by decide +kernel) (by decide +kernel)
theorem hu9_10 : u_lay R9 T9 10 ∈ lw_gd := zwd 864 (by decide +kernel) (by decide +kernel)
theorem hu9_11 : u_lay R9 T9 11 ∈ lw_gd := zwd 866 (by decide +kernel) (by decide +kernel)
theorem hu9_12 : u_lay R9 T9 12 ∈ lw_gd := zwd 868 (by decide +kernel) (by decide +kernel)
theorem hu9_13 : u_lay R9 T9 13 ∈ lw_gd := zwd 870 (by decide +kernel) (by decide +kernel)
theorem hu9_14 : u_lay R9 T9 14 ∈ lw_gd := zwd 872 (by decide +kernel) (by decide +kernel)
theorem hu9_15 : u_lay R9 T9 15 ∈ lw_gd := zwd 874 (by decide +kernel) (by decide +kernel)
theorem hu9_16 : u_lay R9 T9 16 ∈ lw_gd := zwd 876 (by decide +kernel) (by decide +kernel)
theorem hu9_17 : u_lay R9 T9 17 ∈ lw_gd := zwd 878 (by decide +kernel) (by decide +kernel)
theorem hu9_18 : u_lay R9 T9 18 ∈ lw_gd := zwd 880 (by decide +kernel) (by decide +kernel)
theorem hu9_19 : u_lay R9 T9 19 ∈ lw_gd := zwd 882 (by decide +kernel) (by decide +kernel)
theorem hu9_20 : u_lay R9 T9 20 ∈ lw_gd := zwd 884 (by decide +kernel) (by decide +kernel)
theorem hu9_21 : u_lay R9 T9 21 ∈ lw_gd := zwd 886 (by decide +kernel) (by decide +kernel)
theorem hu9_22 : u_lay R9 T9 22 ∈ lw_gd := zwd 888 (by decide +kernel) (by decide +kernel)
theorem hu9_23 : u_lay R9 T9 23 ∈ lw_gd := zwd 890 (by decide +kernel) (by decide +kernel)
theorem hu9_24 : u_lay R9 T9 24 ∈ lw_gd := zwd 892 (by decide +kernel) (by decide +kernel)
theorem hu9_25 : u_lay R9 T9 25 ∈ lw_gd := zwd 894 (by decide +kernel) (by decide +kernel)
theorem hu9_26 : u_lay R9 T9 26 ∈ lw_gd := zwd 896 (by decide +kernel) (by decide +kernel)
theorem hu9 : ∀ w ∈ u_ws R9 T9 27, w ∈ lw_gd := by
  intro w hw
  obtain ⟨k, hk, rfl⟩ := List.mem_map.mp hw
  have hk := List.mem_range.mp hk
  match k, hk with
  | 0, _ => exact hu9_0
  | 1, _ => exact hu9_1
  | 2, _ => exact hu9_2
  | 3, _ => exact hu9_3
  | 4, _ => exact hu9_4
  | 5, _ => exact hu9_5
  | 6, _ => exact hu9_6
  | 7, _ => exact hu9_7
  | 8, _ => exact hu9_8
  | 9, _ => exact hu9_9
  | 10, _ => exact hu9_10
  | 11, _ => exact hu9_11
  | 12, _ => exact hu9_12
  | 13, _ => exact hu9_13
  | 14, _ => exact hu9_14
  | 15, _ => exact hu9_15
  | 16, _ => exact hu9_16
  | 17, _ => exact hu9_17
  | 18, _ => exact hu9_18
  | 19, _ => exact hu9_19
  | 20, _ => exact hu9_20
  | 21, _ => exact hu9_21
  | 22, _ => exact hu9_22
  | 23, _ => exact hu9_23
  | 24, _ => exact hu9_24
  | 25, _ => exact hu9_25
  | 26, _ => exact hu9_26
  | k + 27, h => exact absurd h (by omega)
abbrev zcl : List vw_C := [(R0, T0, 5), (R1, T1, 5), (R2, T2, 3), (R3, T3, 5), (R4, T4, 3), (R5, T5, 12), (R6, T6, 4), (R7, T7, 6), (R8, T8, 11), (R9, T9, 27)]
def zshL : List Nat := [0, 9, 6, 11, 12, 13, 15, 15, 15, 1, 1, 1, 1, 1, 1, 1, 1, 3, 3, 3, 3, 3, 3, 7, 15, 15, 7, 15, 15, 6, 11, 12, 13, 15, 15, 15, 1, 1, 1, 1, 1, 1, 1, 1, 3, 3, 3, 3, 3, 3, 7, 15, 15, 7, 15, 15, 6, 11, 12, 13, 15, 15, 15, 1, 1, 1, 1, 1, 1, 1, 1, 3, 3, 3, 3, 3, 3, 7, 15, 15, 7, 15, 15, 2, 15, 15, 4, 7, 15, 15, 8, 15, 14, 15, 15, 5, 15, 5, 15, 5, 15, 5, 15, 10, 15, 15, 15, 15, 15, 15, 15, 15, 15, 15, 15, 15, 15, 15, 15]
def zlnL : List Nat := [0, 0, 0, 8, 6, 2, 64, 60, 24, 0, 0, 0, 0, 0, 0, 0, 0, 0, 0, 0, 0, 0, 0, 0, 60, 60, 0, 60, 60, 0, 8, 6, 2, 64, 60, 24, 0, 0, 0, 0, 0, 0, 0, 0, 0, 0, 0, 0, 0, 0, 0, 60, 60, 0, 60, 60, 0, 8, 6, 2, 64, 60, 24, 0, 0, 0, 0, 0, 0, 0, 0, 0, 0, 0, 0, 0, 0, 0, 60, 60, 0, 60, 60, 0, 257, 257, 0, 0, 60, 60, 0, 30, 4, 4, 7, 0, 24, 0, 24, 0, 24, 0, 24, 0, 390, 390, 390, 7, 4, 4, 96, 257, 8, 60, 60, 3, 60, 4, 30]
def zfsL : List (List (Option Nat)) := [[], 
  [none, none, none, none, none],
  [some 1, some 2, none, none, none],
  [none, none, none],
  [some 1, some 0, none, none, none],
  [some 1, none, none],
  [some 1, some 2, some 3, some 4, some 5, some 6, none, none, none, none, none, none],
  [some 1, some 2, none, none],
  [some 1, none, none, none, none, none],
  [some 1, some 28, some 55, some 82, some 85, some 89, some 91, some 92, some 93, none, none],
  [some 1, some 2, some 3, none, some 4, some 5, some 6, some 7, some 8, none, none, some 9, none, none, some 10, some 11, some 12, some 13, none, none, none, none, none, some 14, some 15, none, none]]
end
section
/-! the one store: every cell of the law's from its first on, by its place; what a place is never changes; all numbers in σ -/
abbrev ZS : Type := Nat → Nat → Int32
abbrev ZG : Type := Nat × va_G × (Nat → ClassId) × (Nat → Nat)
abbrev ZV : Type := Int32 ⊕ Nat ⊕ Int64
abbrev ZX : Type := Program × Launch × Env × Room × State × MethodId × Array Value × List Frame × Method × Code
abbrev zi (v : Int32) : ZV := .inl v
abbrev zr (o : Nat) : ZV := .inr (.inl o)
abbrev zj (v : Int64) : ZV := .inr (.inr v)
def zsh (o : Nat) : Nat := zshL.getD o 0
def zln (o : Nat) : Nat := zlnL.getD o 0
def zfs (κ : Nat) : List (Option Nat) := zfsL.getD κ []
/-- rows of references: how many, the first one's place behind the row's, from one to the next -/
def zrn (κ : Nat) : Nat := [8, 6, 2, 4].getD (κ - 11) 0
def zrd (κ : Nat) : Nat := [6, 13, 18, 3].getD (κ - 11) 0
def zrs (κ : Nat) : Nat := [1, 1, 3, 2].getD (κ - 11) 0
def zrc (κ : Nat) : String := ["GlassTax$Glass", "GlassTax$Person", "GlassTax$Text", "GlassTax$Sheet"].getD (κ - 11) ""
def zurow (σ : ZS) (o : Nat) (f : Nat → Int32) : ZS := fun a => if a = o then f else σ a
def zu (σ : ZS) (o k : Nat) (v : Int32) : ZS := zurow σ o (upd (σ o) k v)
def zrv (g : ZG) (o : Nat) : Value := if o = 0 then .null else if 1000 ≤ o then .ref (g.2.2.2 (o - 1000)) else .ref (g.1 + o)
def zval (g : ZG) : ZV → Value
  | .inl v => .int v
  | .inr (.inl o) => zrv g o
  | .inr (.inr v) => .long v
def zfv (g : ZG) (f : Nat → Int32) (o k : Nat) : Option Nat → Value
  | none => .int (f k)
  | some 0 => zrv g (f k).toNatClampNeg
  | some (d + 1) => .ref (g.1 + (o + (d + 1)))
def zob (g : ZG) (f : Nat → Int32) (o : Nat) : List (Option Nat) → Nat → List Value
  | [], _ => []
  | d :: l, k => zfv g f o k d :: zob g f o l (k + 1)
def zen1 (g : ZG) (o : Nat) (f : Nat → Int32) : va_E :=
  if zsh o = 15 then .inl (g.2.2.1 0, zln o, .inl f)
  else if 11 ≤ zsh o then .inl (g.2.2.1 (zsh o - 10), zrn (zsh o), .inr (.inr (.inr (.inr fun i => some (g.1 + (o + zrd (zsh o) + zrs (zsh o) * i))))))
  else .inr (zsh o - 1, zob g f o (zfs (zsh o)) 0)
def zen (g : ZG) (σ : ZS) (o : Nat) : va_E := zen1 g o (σ o)
def zL (g : ZG) : List Nat := (List.range 118).map fun i => g.1 + (i + 1)
def zf (g : ZG) (σ : ZS) : Nat → va_E := fun a => zen g σ (a - g.1)
def zA (g : ZG) : Nat → Prop := fun q => g.1 < q
def zP (g : ZG) (σ : ZS) (H : Heap) : Prop := va_P g.2.1 zcl (va_pl (zL g) (zf g σ)) H
def ztys (g : ZG) : List (ClassId × FieldType) := [(g.2.2.1 0, .int), (g.2.2.1 1, .object "GlassTax$Glass"), (g.2.2.1 2, .object "GlassTax$Person"), (g.2.2.1 3, .object "GlassTax$Text"), (g.2.2.1 4, .object "GlassTax$Sheet")]
def zKA : List Int32 := [0, 0, 0, 0, 1, 2, 0]
def zBO : List Int32 := [10, 11, 12, 13, 20, 0, 0, 21, 0, 30, 0, 0, 0, 0, 40, 0, 50, 0, 51, 0, 0, 60, 0, 0, 70, 71, 0, 0]
def zBy : List (List Int32) := [[110, 107, 109, 116, 104, 112]]
def zNest : Cond → Bool
  | .methodLinkNest .. => true
  | .fieldLinkNest .. => true
  | _ => false
def zZ (g : ZG) (U : State) (H : Heap) : Prop :=
  (va_Z "GlassTax" "KIND_ABOVE" "[I" (.ref (g.2.2.2 0)) (zA g) U H ∧ va_T .int (g.2.2.2 0) 7 (fun j => .int (zKA.getD j 0)) (zA g) U H) ∧
  (va_Z "GlassTax$Voices" "BODIES" "[I" (.ref (g.2.2.2 1)) (zA g) U H ∧ va_T .int (g.2.2.2 1) 28 (fun j => .int (zBO.getD j 0)) (zA g) U H) ∧
  (vk_S 1 [6] zBy (fun _ => g.2.2.2 2) (fun _ => g.2.2.2 3) (zA g) U H ∧ va_Z "java/lang/String" "COMPACT_STRINGS" "Z" (.int 1) (zA g) U H ∧ va_Z "jdk/internal/util/Preconditions" "SIOOBE_FORMATTER" "Ljava/util/function/BiFunction;" (zrv g (g.2.2.2 5)) (zA g) U H)
def zK (g : ZG) (U : State) : Prop := va_K g.2.1 zcl (ztys g) U ∧ zZ g U U.heap ∧ (∀ w ∈ lw_tbl, zNest w = true → va_Nw w U) ∧ vk_R "GlassTax$Reader" 69 "nkmthp" (g.2.2.2 2) U
theorem zZ.moved {g : ZG} {u U : State} {H : Heap} (hvm : u.vm.Alike U.vm) (h : zZ g u H) : zZ g U H := ⟨⟨h.1.1.moved hvm, h.1.2.moved hvm⟩, ⟨h.2.1.1.moved hvm, h.2.1.2.moved hvm⟩, ⟨h.2.2.1.moved hvm, h.2.2.2.1.moved hvm, h.2.2.2.2.moved hvm⟩⟩
theorem zZ.kept {g : ZG} {U : State} {H H1 : Heap} (h : zZ g U H) (hq : ∀ a : Nat, a < H.size → ¬ zA g a → H1[a]? = H[a]?) : zZ g U H1 := ⟨⟨h.1.1.kept hq, h.1.2.kept hq⟩, ⟨h.2.1.1.kept hq, h.2.1.2.kept hq⟩, ⟨h.2.2.1.kept hq, h.2.2.2.1.kept hq, h.2.2.2.2.kept hq⟩⟩
theorem zK.blind {g : ZG} {U : State} {f : JFrame} {mk : MethodId} {a : Array Value} (h : zK g U) : zK g (U.calling f mk a) :=
  ⟨va_K.moved (Vm.Alike.refl U.vm) h.1, h.2.1.moved (u := U) (U := U.calling f mk a) (Vm.Alike.refl U.vm), fun w hw hn => va_Nw.same (by cases w <;> simp_all [zNest, Cond.onTables]) (u := U) (U := U.calling f mk a) rfl (h.2.2.1 w hw hn), vk_R.same (u := U) rfl h.2.2.2⟩
theorem zK.go {g : ZG} {s U : State} {H : Heap} {locs : List Loc} (h : zK g s) (hS : va_S (zA g) s.heap H locs) (hU : U.heap = H) (hW : s.WarmedH U.vm) : zK g U := by
  refine ⟨va_K.moved hW.alike h.1, ?_, fun w hw hn => ?_, vk_R.warm hW h.2.2.2⟩
  · rw [hU]
    exact (h.2.1.kept hS.2.1).moved hW.alike
  · have h1 := h.2.2.1 w hw hn
    cases w with
    | methodLinkNest => exact va_Nw.warmM hW h1
    | fieldLinkNest => exact va_Nw.warmF hW h1
    | _ => simp [zNest] at hn
theorem zsh_lt {o : Nat} (h : zsh o ≠ 0) : 0 < o ∧ o < 119 := by
  by_cases h1 : o < 119
  · refine ⟨?_, h1⟩
    rcases Nat.eq_zero_or_pos o with z | z
    · subst z
      exact absurd rfl h
    · exact z
  · exfalso
    apply h
    unfold zsh
    rw [List.getD_eq_getElem?_getD, List.getElem?_eq_none (show zshL.length ≤ o from by rw [show zshL.length = 119 from rfl]; omega)]
    rfl
theorem zrv_of {g : ZG} {o : Nat} (h : zsh o ≠ 0) : zrv g o = .ref (g.1 + o) := by
  obtain ⟨h1, h2⟩ := zsh_lt h
  rw [zrv, if_neg (by omega), if_neg (by omega)]
theorem zrv_0 {g : ZG} : zrv g 0 = .null := rfl
theorem zrv_ref {g : ZG} {o : Nat} (h : o ≠ 0) : ∃ a, zrv g o = .ref a := by
  unfold zrv
  rw [if_neg h]
  by_cases h1 : 1000 ≤ o
  · rw [if_pos h1]; exact ⟨_, rfl⟩
  · rw [if_neg h1]; exact ⟨_, rfl⟩
theorem zrv_cat {g : ZG} {o : Nat} : (zrv g o).category = 1 := by
  by_cases h : o = 0
  · subst h; rfl
  · obtain ⟨a, ha⟩ := zrv_ref (g := g) h
    rw [ha]; rfl
theorem zL_mem {g : ZG} {o : Nat} (h : zsh o ≠ 0) : g.1 + o ∈ zL g := by
  obtain ⟨h1, h2⟩ := zsh_lt h
  exact List.mem_map.mpr ⟨o - 1, List.mem_range.mpr (by omega), by omega⟩
theorem zP_at {g : ZG} {σ : ZS} {o : Nat} (h : zsh o ≠ 0) : ∃ k : Nat, (va_pl (zL g) (zf g σ))[k]? = some (g.1 + o, zen g σ o) := by
  obtain ⟨k, hk⟩ := va_pl_get (X := []) (f := zf g σ) (zL_mem (g := g) h)
  refine ⟨k, ?_⟩
  have e : zf g σ (g.1 + o) = zen g σ o := by
    show zen g σ (g.1 + o - g.1) = _
    rw [Nat.add_sub_cancel_left]
  rw [← e]
  exact hk
theorem zD {g : ZG} (f : Nat → va_E) : va_D (zA g) (va_pl (zL g) f) := by
  have key : ∀ (k : Nat) (q : Nat × va_E), (va_pl (zL g) f)[k]? = some q → q.1 = g.1 + (k + 1) := by
    intro k q hq
    unfold va_pl zL at hq
    rw [List.map_map, List.getElem?_map] at hq
    cases hr : (List.range 118)[k]? with
    | none => rw [hr] at hq; cases hq
    | some i =>
      rw [hr] at hq
      have hi : i = k := by
        have h2 := List.getElem?_range (n := 118) (i := k) (by have := (List.getElem?_eq_some_iff.mp hr).1; simpa using this)
        rw [hr] at h2
        exact Option.some.inj h2
      cases hq
      subst hi
      rfl
  refine ⟨fun i j p q hi hj hpq => ?_, fun k q hk => ?_⟩
  · have h1 := key i p hi
    have h2 := key j q hj
    omega
  · have h1 := key k q hk
    show g.1 < q.1
    omega
theorem zP_set {g : ZG} {σ σ' : ZS} {H : Heap} {o k : Nat} {e : va_E} (ho : zsh o ≠ 0) (hk : (va_pl (zL g) (zf g σ))[k]? = some (g.1 + o, zen g σ o)) (he : zen g σ' o = e) (hσ : ∀ a, a ≠ o → σ' a = σ a) (h : va_P g.2.1 zcl ((va_pl (zL g) (zf g σ)).set k (g.1 + o, e)) H) : zP g σ' H := by
  have e0 : zf g σ (g.1 + o) = zen g σ o := by
    show zen g σ (g.1 + o - g.1) = _
    rw [Nat.add_sub_cancel_left]
  have h1 := va_pl_set (X := []) (e := e) (zD (g := g) (zf g σ)) (zL_mem ho) (by rw [e0]; exact hk)
  have h2 : (va_pl (zL g) (zf g σ)).set k (g.1 + o, e) = va_pl (zL g) (va_up (zf g σ) (g.1 + o) e) := h1
  rw [h2] at h
  have h3 : va_pl (zL g) (va_up (zf g σ) (g.1 + o) e) = va_pl (zL g) (zf g σ') := by
    refine va_pl_congr fun a => ?_
    show (if a = g.1 + o then e else zf g σ a) = zf g σ' a
    obtain ⟨o1, -⟩ := zsh_lt ho
    by_cases ha : a = g.1 + o
    · rw [if_pos ha, ha]
      show e = zen g σ' (g.1 + o - g.1)
      rw [Nat.add_sub_cancel_left, he]
    · rw [if_neg ha]
      show zen1 g (a - g.1) (σ (a - g.1)) = zen1 g (a - g.1) (σ' (a - g.1))
      rw [hσ (a - g.1) (by omega)]
  rw [h3] at h
  exact h
theorem zu_row {σ : ZS} {o : Nat} {f : Nat → Int32} : zurow σ o f o = f := if_pos rfl
theorem zu_ne {σ : ZS} {o a : Nat} {f : Nat → Int32} (h : a ≠ o) : zurow σ o f a = σ a := if_neg h
theorem zen_arr {g : ZG} {σ : ZS} {o n : Nat} (h : zsh o = 15) (hn : zln o = n) : zen g σ o = .inl (g.2.2.1 0, n, .inl (σ o)) := by
  unfold zen zen1
  rw [if_pos h, hn]
theorem zen_ref {g : ZG} {σ : ZS} {o κ : Nat} (h : zsh o = κ) (h1 : 11 ≤ κ) (h2 : κ < 15) : zen g σ o = .inl (g.2.2.1 (κ - 10), zrn κ, .inr (.inr (.inr (.inr fun i => some (g.1 + (o + zrd κ + zrs κ * i)))))) := by
  unfold zen zen1
  rw [if_neg (by omega), if_pos (by omega), h]
theorem zen_obj {g : ZG} {σ : ZS} {o ci : Nat} (h : zsh o = ci + 1) (h1 : ci < 10) : zen g σ o = .inr (ci, zob g (σ o) o (zfs (ci + 1)) 0) := by
  unfold zen zen1
  rw [if_neg (by omega), if_neg (by omega), h]
  rfl
theorem zob_get {g : ZG} {f : Nat → Int32} {o : Nat} : ∀ (l : List (Option Nat)) (j k : Nat) (d : Option Nat), l[k]? = some d → (zob g f o l j)[k]? = some (zfv g f o (j + k) d)
  | [], _, _, _, h => by simp at h
  | a :: l, j, 0, d, h => by
    simp only [List.getElem?_cons_zero, Option.some.injEq] at h
    subst h
    simp [zob]
  | a :: l, j, k + 1, d, h => by
    simp only [List.getElem?_cons_succ] at h
    have := zob_get (g := g) (f := f) (o := o) l (j + 1) k d h
    simp only [zob, List.getElem?_cons_succ, this]
    rw [show j + 1 + k = j + (k + 1) by omega]
theorem zob_len {g : ZG} {f : Nat → Int32} {o : Nat} : ∀ (l : List (Option Nat)) (j : Nat), (zob g f o l j).length = l.length
  | [], _ => rfl
  | a :: l, j => by simp [zob, zob_len l (j + 1)]
theorem zfv_ne {g : ZG} {f : Nat → Int32} {o k j : Nat} {v : Int32} {d : Option Nat} (h : j ≠ k) : zfv g (upd f k v) o j d = zfv g f o j d := by
  have e : upd f k v j = f j := if_neg h
  unfold zfv
  cases d with
  | none => rw [e]
  | some d => cases d with
    | zero => rw [e]
    | succ d => rfl
theorem zob_set {g : ZG} {f : Nat → Int32} {o k : Nat} {v : Int32} {l : List (Option Nat)} {d : Option Nat} (h : l[k]? = some d) : (zob g f o l 0).set k (zfv g (upd f k v) o k d) = zob g (upd f k v) o l 0 := by
  refine List.ext_getElem? fun j => ?_
  by_cases hj : j < l.length
  · obtain ⟨d', hd'⟩ : ∃ d', l[j]? = some d' := ⟨_, List.getElem?_eq_getElem hj⟩
    have h2 := zob_get (g := g) (f := upd f k v) (o := o) l 0 j d' hd'
    rw [Nat.zero_add] at h2
    rw [h2]
    by_cases hjk : j = k
    · subst hjk
      rw [hd'] at h
      cases h
      rw [List.getElem?_set_self (by rw [zob_len]; exact hj)]
    · rw [List.getElem?_set_ne (Ne.symm hjk)]
      have h3 := zob_get (g := g) (f := f) (o := o) l 0 j d' hd'
      rw [Nat.zero_add] at h3
      rw [h3, zfv_ne hjk]
  · rw [List.getElem?_eq_none (by rw [List.length_set, zob_len]; omega), List.getElem?_eq_none (by rw [zob_len]; omega)]
/-! locals by their places -/
def zat : List (Option ZV) → Nat → Option ZV
  | [], _ => none
  | a :: _, 0 => a
  | _ :: l, n + 1 => zat l n
def zset : List (Option ZV) → Nat → ZV → List (Option ZV)
  | [], _, _ => []
  | _ :: l, 0, v => some v :: l
  | a :: l, n + 1, v => a :: zset l n v
def zdrop : List (Option ZV) → List Bool → List (Option ZV)
  | [], _ => []
  | l, [] => l
  | a :: l, true :: m => a :: zdrop l m
  | _ :: l, false :: m => none :: zdrop l m
def zlong : Option ZV → Bool
  | some (.inr (.inr _)) => true
  | _ => false
def zlow (L : List (Option ZV)) : Nat → Bool
  | 0 => true
  | i + 1 => !zlong (zat L i)
def zent : List ZV → List (Option ZV)
  | [] => []
  | .inr (.inr v) :: l => some (.inr (.inr v)) :: none :: zent l
  | v :: l => some v :: zent l
def zlh (g : ZG) (ls : Array Slot) (nL : Nat) (L : List (Option ZV)) : Prop := ls.size = nL ∧ lv_wf ls ∧ ∀ i v, zat L i = some v → ls[i]? = some (.val (zval g v))
theorem zat_set : ∀ (L : List (Option ZV)) (i j : Nat) (v w : ZV), zat (zset L i v) j = some w → (j = i ∧ w = v) ∨ (j ≠ i ∧ zat L j = some w)
  | [], _, _, _, _, h => by simp [zset, zat] at h
  | a :: l, 0, 0, v, w, h => by simp only [zset, zat, Option.some.injEq] at h; exact Or.inl ⟨rfl, h.symm⟩
  | a :: l, 0, j + 1, v, w, h => by simp only [zset, zat] at h; exact Or.inr ⟨by omega, h⟩
  | a :: l, i + 1, 0, v, w, h => by simp only [zset, zat] at h; exact Or.inr ⟨by omega, h⟩
  | a :: l, i + 1, j + 1, v, w, h => by
    simp only [zset, zat] at h
    rcases zat_set l i j v w h with ⟨h1, h2⟩ | ⟨h1, h2⟩
    · exact Or.inl ⟨by omega, h2⟩
    · exact Or.inr ⟨by omega, h2⟩
theorem zat_drop : ∀ (L : List (Option ZV)) (m : List Bool) (j : Nat) (w : ZV), zat (zdrop L m) j = some w → zat L j = some w
  | [], _, _, _, h => by simp [zdrop, zat] at h
  | a :: l, [], _, _, h => by simpa [zdrop] using h
  | a :: l, true :: m, 0, w, h => by simpa [zdrop, zat] using h
  | a :: l, true :: m, j + 1, w, h => by simp only [zdrop, zat] at h ⊢; exact zat_drop l m j w h
  | a :: l, false :: m, 0, w, h => by simp [zdrop, zat] at h
  | a :: l, false :: m, j + 1, w, h => by simp only [zdrop, zat] at h ⊢; exact zat_drop l m j w h
theorem zlh.drop {g : ZG} {ls : Array Slot} {nL : Nat} {L : List (Option ZV)} (h : zlh g ls nL L) (m : List Bool) : zlh g ls nL (zdrop L m) := ⟨h.1, h.2.1, fun i v hi => h.2.2 i v (zat_drop L m i v hi)⟩
theorem zval_cat {g : ZG} (v : ZV) : (zval g v).category = if zlong (some v) = true then 2 else 1 := by
  rcases v with v | v | v
  · rfl
  · exact zrv_cat
  · rfl
/-- the listed locals, as the kit wants them -/
def zas (g : ZG) (L : List (Option ZV)) : List (Nat × Value) := (List.range L.length).filterMap fun i => (zat L i).map fun v => (i, zval g v)
theorem zat_lt : ∀ (L : List (Option ZV)) (i : Nat) (v : ZV), zat L i = some v → i < L.length
  | [], _, _, h => by simp [zat] at h
  | a :: l, 0, _, _ => by simp
  | a :: l, i + 1, v, h => by
    have := zat_lt l i v h
    simp only [List.length_cons]
    omega
theorem zas_mem {g : ZG} {L : List (Option ZV)} {i : Nat} {v : ZV} (h : zat L i = some v) : (i, zval g v) ∈ zas g L :=
  List.mem_filterMap.mpr ⟨i, List.mem_range.mpr (zat_lt L i v h), by rw [h]; rfl⟩
theorem zlh.has {g : ZG} {ls : Array Slot} {nL : Nat} {L : List (Option ZV)} (h : zlh g ls nL L) : lv_has ls nL (zas g L) := by
  refine ⟨h.1, h.2.1, fun q hq => ?_⟩
  obtain ⟨i, -, hi⟩ := List.mem_filterMap.mp hq
  cases hv : zat L i with
  | none => rw [hv] at hi; cases hi
  | some v =>
    rw [hv] at hi
    cases hi
    exact h.2.2 i v hv
theorem zlh.stored {g : ZG} {ls : Array Slot} {nL i : Nat} {L : List (Option ZV)} {v : ZV} (hw : zlow L i = true) (h : lv_has ls nL ((i, zval g v) :: (zas g L).filter (fun q => !(q.1 == i) && !(q.1 + 1 == i && q.2.category == 2)))) : zlh g ls nL (zset L i v) := by
  refine ⟨h.1, h.2.1, fun j w hj => ?_⟩
  rcases zat_set L i j v w hj with ⟨h1, h2⟩ | ⟨h1, h2⟩
  · subst h1; subst h2
    exact h.2.2 (j, zval g w) List.mem_cons_self
  · refine h.2.2 (j, zval g w) (List.mem_cons_of_mem _ (List.mem_filter.mpr ⟨zas_mem h2, ?_⟩))
    simp only [Bool.and_eq_true, Bool.not_eq_true', beq_eq_false_iff_ne, ne_eq, Bool.and_eq_false_iff]
    refine ⟨h1, ?_⟩
    by_cases hji : j + 1 = i
    · right
      subst hji
      have hz : zlong (zat L j) = false := by
        simp only [zlow, Bool.not_eq_true'] at hw
        exact hw
      rw [h2] at hz
      rw [zval_cat, hz]
      decide
    · exact Or.inl hji
theorem zlh_entry {g : ZG} : ∀ (as : List ZV) (k i : Nat) (v : ZV), zat (zent as) i = some v → (k + i, zval g v) ∈ lv_args k (as.map (zval g))
  | [], _, _, _, h => by simp [zent, zat] at h
  | .inl a :: l, k, 0, v, h => by simp only [zent, zat, Option.some.injEq] at h; subst h; exact List.mem_cons_self
  | .inr (.inl a) :: l, k, 0, v, h => by simp only [zent, zat, Option.some.injEq] at h; subst h; exact List.mem_cons_self
  | .inr (.inr a) :: l, k, 0, v, h => by simp only [zent, zat, Option.some.injEq] at h; subst h; exact List.mem_cons_self
  | .inr (.inr a) :: l, k, 1, v, h => by simp [zent, zat] at h
  | .inl a :: l, k, i + 1, v, h => by
    have := zlh_entry (g := g) l (k + 1) i v h
    rw [show k + 1 + i = k + (i + 1) by omega] at this
    exact List.mem_cons_of_mem _ this
  | .inr (.inl a) :: l, k, i + 1, v, h => by
    have := zlh_entry (g := g) l (k + 1) i v h
    rw [show k + 1 + i = k + (i + 1) by omega] at this
    refine List.mem_cons_of_mem _ ?_
    rw [if_neg (by rw [show zval g (.inr (.inl a)) = zrv g a from rfl, zrv_cat]; decide)]
    exact this
  | .inr (.inr a) :: l, k, i + 2, v, h => by
    have := zlh_entry (g := g) l (k + 2) i v h
    rw [show k + 2 + i = k + (i + 2) by omega] at this
    exact List.mem_cons_of_mem _ this
end
section
/-! the walk over the one store: zw, a method's standing facts zC, a method's contract zT; an instruction, a row -/
def zw (x : ZX) (g : ZG) (nL : Nat) (kc ks : Nat) (Q : State → Prop) (σ : ZS) (pc : Nat) (L : List (Option ZV)) (st : List ZV) : Prop :=
  ∀ (H : Heap) (locs : List Loc) (ls : Array Slot), zP g σ H → va_S (zA g) x.2.2.2.2.1.heap H locs → zlh g ls nL L →
    W x.1 x.2.1 x.2.2.1 x.2.2.2.1 x.2.2.2.2.1 x.2.2.2.2.2.1 x.2.2.2.2.2.2.1 x.2.2.2.2.2.2.2.1 x.2.2.2.2.2.2.2.2.1 x.2.2.2.2.2.2.2.2.2 H locs kc ks Q (F0 x.2.2.2.2.2.1 pc ls (st.map (zval g)))
def zC (x : ZX) (g : ZG) (cc : ByteArray) (own : String) (ret : Option FieldType) (nL fr lo : Nat) : Prop :=
  x.1.tables.exec = Jvm.exec ∧ x.2.2.2.2.2.2.2.2.2.code = cc ∧ x.2.2.2.2.2.2.2.2.1.sig.returnType = ret ∧ x.2.2.2.2.2.2.2.2.2.maxLocals = nL ∧ x.2.2.2.2.1.vm.findClass own = some x.2.2.2.2.2.1.cls ∧ (∀ w ∈ lw_gd, w.before x.2.2.2.2.2.2.1 x.2.2.2.2.1 = true) ∧
  x.2.2.2.2.2.2.2.2.1.locks = false ∧ (fr ≤ x.2.2.2.1.frames ∧ lo ≤ x.2.2.2.1.locals) ∧ zK g x.2.2.2.2.1
def zQ (g : ZG) (v : Option ZV) (σ : ZS) : Array Value → State → Outcome → State → Prop := fun _ st o t => o = .returned (v.map (zval g)) ∧ zP g σ t.heap ∧ va_F (zA g) st t
def zMQ (x : ZX) (g : ZG) (v : Option ZV) (σ : ZS) : State → Prop := MQ x.2.2.2.2.2.2.2.1 (zQ g v σ) x.2.2.2.2.2.2.1 x.2.2.2.2.1 0 0 (zA g)
def zT (l : Launch) (g : ZG) (y : MethodName) (cc : ByteArray) (nL : Nat) (ret : Option FieldType) (fr lo : Nat) (as : List ZV) (σ : ZS) (v : Option ZV) (σ' : ZS) : Prop :=
  Met l y (.code y cc nL ret :: lw_gd) { frames := fr, cells := 0, slots := 0, locals := lo } (va_Pc (as.map (zval g)) (fun U => zP g σ U.heap ∧ zK g U)) (zQ g v σ') 0 0 (zA g)
def zd (cc : ByteArray) (pc : Nat) (i : Instr) (n q : Nat) : Prop := decode cc pc = .ok (i, n) ∧ pc + n = q
def zdb (cc : ByteArray) (pc : Nat) (i : Instr) (off : Int) (q t : Nat) : Prop := decode cc pc = .ok (i, 3) ∧ pc + 3 = q ∧ (pc : Int) + off = (t : Int)
theorem zT_start {l : Launch} {g : ZG} {y : MethodName} {cc : ByteArray} {nL : Nat} {ret : Option FieldType} {fr lo : Nat} {as : List ZV} {σ : ZS} {v : Option ZV} {σ' : ZS} {own : String} (ho : y.cls = own) (hy : plainName own = true) (m : Nat) {L : List (Option ZV)} (hL : zent as ++ List.replicate m none = L) (hn : (zent as).length + m = nL)
    (K : ∀ x : ZX, x.2.1 = l → zC x g cc own ret nL fr lo → zw x g nL 0 0 (zMQ x g v σ') σ 0 L []) : zT l g y cc nL ret fr lo as σ v σ' := by
  subst ho
  refine Met.ofW (cc := cc) (maxL := nL) (ret := ret) hy rfl ?_
  intro p e s m0 args below meth c s₁ B hml hv
  obtain ⟨rfl, hP, hK⟩ := hv
  have hts := atoms_spec (ws := .code y cc nL ret :: lw_gd) B.pre
  have C : zC (p, l, e, { frames := fr, cells := 0, slots := 0, locals := lo }, s, m0, (as.map (zval g)).toArray, below, meth, c) g cc y.cls ret nL fr lo :=
    ⟨B.exec, B.bytes, B.returns, hml, findClass_of_methodNamed B.named, fun w hw => hts w (List.mem_cons_of_mem _ hw), B.notSynchronized, ⟨Nat.le_refl _, Nat.le_refl _⟩, hK⟩
  have hlen : ∀ as : List ZV, (lg_sl (as.map (zval g))).length = (zent as).length := by
    intro as
    induction as with
    | nil => rfl
    | cons a as ih =>
      have h2 : lg_sl ((a :: as).map (zval g)) = (if (zval g a).category = 2 then [Slot.val (zval g a), Slot.second] else [Slot.val (zval g a)]) ++ lg_sl (as.map (zval g)) := by
        simp only [lg_sl, List.map_cons, List.flatMap_cons]
      rw [h2, List.length_append, ih, zval_cat]
      rcases a with a | a | a
      · simp [zlong, zent]; omega
      · simp [zlong, zent]; omega
      · simp [zlong, zent]; omega
  have hl := lv_entry (as.map (zval g)) (n := nL) (by rw [hlen as]; omega)
  have hl2 : zlh g ((lg_sl (as.map (zval g)) ++ List.replicate (nL - (lg_sl (as.map (zval g))).length) Slot.unset).toArray) nL L := by
    refine ⟨hl.1, hl.2.1, fun i v hi => ?_⟩
    have h1 : zat (zent as) i = some v := by
      rw [← hL] at hi
      clear hn hL hl C
      generalize zent as = z at hi
      induction z generalizing i with
      | nil =>
        exfalso
        rw [List.nil_append] at hi
        induction m generalizing i with
        | zero => simp [zat] at hi
        | succ m ihm => cases i with
          | zero => simp [List.replicate, zat] at hi
          | succ i => exact ihm i (by simpa [List.replicate, zat] using hi)
      | cons a z ih => cases i with
        | zero => simpa [zat] using hi
        | succ i => exact ih i (by simpa [zat] using hi)
    have h2 := zlh_entry (g := g) as 0 i v h1
    rw [Nat.zero_add] at h2
    exact hl.2.2 (i, zval g v) h2
  rw [lg_entry_eq]
  exact K (p, l, e, _, s, m0, _, below, meth, c) rfl C s.heap [] _ hP va_S.rf hl2
section
variable {x : ZX} {g : ZG} {cc : ByteArray} {own : String} {ret : Option FieldType} {nL fr lo kc ks : Nat} {Q : State → Prop} {σ : ZS} {pc q t : Nat} {L : List (Option ZV)} {st : List ZV}
theorem z_drop (m : List Bool) {L' : List (Option ZV)} (h : zdrop L m = L') (K : zw x g nL kc ks Q σ pc L' st) : zw x g nL kc ks Q σ pc L st := by
  subst h
  exact fun H locs ls hP hS hl => K H locs ls hP hS (hl.drop m)
theorem z_iconst (C : zC x g cc own ret nL fr lo) {n : Int} (v : Int32) (hd : zd cc pc (.iconst n) 1 q) (hv : Int32.ofInt n = v) (K : zw x g nL kc ks Q σ q L (zi v :: st)) : zw x g nL kc ks Q σ pc L st := by
  obtain ⟨d, rfl⟩ := hd
  exact fun H locs ls hP hS hl => lv_iconst C.1 C.2.1 d hv (K H locs ls hP hS hl)
theorem z_bipush (C : zC x g cc own ret nL fr lo) {n : Int} (v : Int32) (hd : zd cc pc (.bipush n) 2 q) (hv : (Int8.ofInt n).toInt32 = v) (K : zw x g nL kc ks Q σ q L (zi v :: st)) : zw x g nL kc ks Q σ pc L st := by
  obtain ⟨d, rfl⟩ := hd
  exact fun H locs ls hP hS hl => lv_bipush C.1 C.2.1 d hv (K H locs ls hP hS hl)
theorem z_sipush (C : zC x g cc own ret nL fr lo) {n : Int} (v : Int32) (hd : zd cc pc (.sipush n) 3 q) (hv : (Int16.ofInt n).toInt32 = v) (K : zw x g nL kc ks Q σ q L (zi v :: st)) : zw x g nL kc ks Q σ pc L st := by
  obtain ⟨d, rfl⟩ := hd
  exact fun H locs ls hP hS hl => lv_sipush C.1 C.2.1 d hv (K H locs ls hP hS hl)
theorem z_ldc (C : zC x g cc own ret nL fr lo) {i : Nat} (v : Int32) (hd : zd cc pc (.ldc i) 2 q) (hw : Cond.constant own i v ∈ lw_gd) (K : zw x g nL kc ks Q σ q L (zi v :: st)) : zw x g nL kc ks Q σ pc L st := by
  obtain ⟨d, rfl⟩ := hd
  exact fun H locs ls hP hS hl => lv_ldc C.1 C.2.1 C.2.2.2.2.1 (C.2.2.2.2.2.1 _ hw) d (K H locs ls hP hS hl)
theorem z_ldcw (C : zC x g cc own ret nL fr lo) {i : Nat} (v : Int32) (hd : zd cc pc (.ldc_w i) 3 q) (hw : Cond.constant own i v ∈ lw_gd) (K : zw x g nL kc ks Q σ q L (zi v :: st)) : zw x g nL kc ks Q σ pc L st := by
  obtain ⟨d, rfl⟩ := hd
  exact fun H locs ls hP hS hl => lv_ldcw C.1 C.2.1 C.2.2.2.2.1 (C.2.2.2.2.2.1 _ hw) d (K H locs ls hP hS hl)
theorem z_ldc2 (C : zC x g cc own ret nL fr lo) {i : Nat} (v : Int64) (hd : zd cc pc (.ldc2_w i) 3 q) (hw : Cond.constantLong own i v ∈ lw_gd) (K : zw x g nL kc ks Q σ q L (zj v :: st)) : zw x g nL kc ks Q σ pc L st := by
  obtain ⟨d, rfl⟩ := hd
  exact fun H locs ls hP hS hl => lv_ldc2 C.1 C.2.1 C.2.2.2.2.1 (C.2.2.2.2.2.1 _ hw) d (K H locs ls hP hS hl)
theorem z_iload_n (C : zC x g cc own ret nL fr lo) {k : Fin 4} {v : Int32} (hd : zd cc pc (.iload_n k) 1 q) (hl : zat L k = some (zi v)) (K : zw x g nL kc ks Q σ q L (zi v :: st)) : zw x g nL kc ks Q σ pc L st := by
  obtain ⟨d, rfl⟩ := hd
  exact fun H locs ls hP hS h => lv_iload_n C.1 C.2.1 d rfl (h.2.2 _ _ hl) (K H locs ls hP hS h)
theorem z_iload (C : zC x g cc own ret nL fr lo) {k : Nat} {v : Int32} (hd : zd cc pc (.iload k) 2 q) (hl : zat L k = some (zi v)) (K : zw x g nL kc ks Q σ q L (zi v :: st)) : zw x g nL kc ks Q σ pc L st := by
  obtain ⟨d, rfl⟩ := hd
  exact fun H locs ls hP hS h => lv_iload C.1 C.2.1 d (h.2.2 _ _ hl) (K H locs ls hP hS h)
theorem z_lload_n (C : zC x g cc own ret nL fr lo) {k : Fin 4} {v : Int64} (hd : zd cc pc (.lload_n k) 1 q) (hl : zat L k = some (zj v)) (K : zw x g nL kc ks Q σ q L (zj v :: st)) : zw x g nL kc ks Q σ pc L st := by
  obtain ⟨d, rfl⟩ := hd
  exact fun H locs ls hP hS h => lv_lload_n C.1 C.2.1 d rfl (h.2.2 _ _ hl) (K H locs ls hP hS h)
theorem z_aload_n (C : zC x g cc own ret nL fr lo) {k : Fin 4} {o : Nat} (hd : zd cc pc (.aload_n k) 1 q) (hl : zat L k = some (zr o)) (K : zw x g nL kc ks Q σ q L (zr o :: st)) : zw x g nL kc ks Q σ pc L st := by
  obtain ⟨d, rfl⟩ := hd
  intro H locs ls hP hS h
  have h1 := h.2.2 _ _ hl
  have h2 := K H locs ls hP hS h
  change W _ _ _ _ _ _ _ _ _ _ _ _ _ _ _ (F0 _ _ _ (zrv g o :: st.map (zval g))) at h2
  change ls[_]? = some (Slot.val (zrv g o)) at h1
  by_cases ho : o = 0
  · subst ho
    exact lv_aload_nN C.1 C.2.1 d rfl h1 h2
  · obtain ⟨a, ha⟩ := zrv_ref (g := g) ho
    rw [ha] at h1 h2
    exact lv_aload_n C.1 C.2.1 d rfl h1 h2
theorem z_aload (C : zC x g cc own ret nL fr lo) {k : Nat} {o : Nat} (hd : zd cc pc (.aload k) 2 q) (hl : zat L k = some (zr o)) (K : zw x g nL kc ks Q σ q L (zr o :: st)) : zw x g nL kc ks Q σ pc L st := by
  obtain ⟨d, rfl⟩ := hd
  intro H locs ls hP hS h
  have h1 := h.2.2 _ _ hl
  have h2 := K H locs ls hP hS h
  change W _ _ _ _ _ _ _ _ _ _ _ _ _ _ _ (F0 _ _ _ (zrv g o :: st.map (zval g))) at h2
  change ls[_]? = some (Slot.val (zrv g o)) at h1
  by_cases ho : o = 0
  · subst ho
    exact lv_aloadN C.1 C.2.1 d h1 h2
  · obtain ⟨a, ha⟩ := zrv_ref (g := g) ho
    rw [ha] at h1 h2
    exact lv_aload C.1 C.2.1 d h1 h2
theorem z_istore_n (C : zC x g cc own ret nL fr lo) {k : Fin 4} {v : Int32} {L' : List (Option ZV)} (hd : zd cc pc (.istore_n k) 1 q) (hn : (k : Nat) < nL) (hw : zlow L k = true) (hL : zset L k (zi v) = L') (K : zw x g nL kc ks Q σ q L' st) : zw x g nL kc ks Q σ pc L (zi v :: st) := by
  obtain ⟨d, rfl⟩ := hd
  subst hL
  exact fun H locs ls hP hS h => lv_istore_n C.1 C.2.1 d rfl h.has hn rfl fun ls' h' => K H locs ls' hP hS (zlh.stored hw h')
theorem z_istore (C : zC x g cc own ret nL fr lo) {k : Nat} {v : Int32} {L' : List (Option ZV)} (hd : zd cc pc (.istore k) 2 q) (hn : k < nL) (hw : zlow L k = true) (hL : zset L k (zi v) = L') (K : zw x g nL kc ks Q σ q L' st) : zw x g nL kc ks Q σ pc L (zi v :: st) := by
  obtain ⟨d, rfl⟩ := hd
  subst hL
  exact fun H locs ls hP hS h => lv_istore C.1 C.2.1 d h.has hn rfl fun ls' h' => K H locs ls' hP hS (zlh.stored hw h')
theorem z_astore_n (C : zC x g cc own ret nL fr lo) {k : Fin 4} {o : Nat} {L' : List (Option ZV)} (hd : zd cc pc (.astore_n k) 1 q) (hn : (k : Nat) < nL) (hw : zlow L k = true) (hL : zset L k (zr o) = L') (K : zw x g nL kc ks Q σ q L' st) : zw x g nL kc ks Q σ pc L (zr o :: st) := by
  obtain ⟨d, rfl⟩ := hd
  subst hL
  intro H locs ls hP hS h
  show W _ _ _ _ _ _ _ _ _ _ _ _ _ _ _ (F0 _ _ _ (zrv g o :: st.map (zval g)))
  have h1 : ∀ ls' : Array Slot, lv_has ls' nL (((k : Nat), zrv g o) :: (zas g L).filter (fun q => !(q.1 == (k : Nat)) && !(q.1 + 1 == (k : Nat) && q.2.category == 2))) → _ := fun ls' h' => K H locs ls' hP hS (zlh.stored hw h')
  by_cases ho : o = 0
  · subst ho
    exact lv_astore_nN C.1 C.2.1 d rfl h.has hn rfl h1
  · obtain ⟨a, ha⟩ := zrv_ref (g := g) ho
    rw [ha] at h1 ⊢
    exact lv_astore_n C.1 C.2.1 d rfl h.has hn rfl h1
theorem z_astore (C : zC x g cc own ret nL fr lo) {k : Nat} {o : Nat} {L' : List (Option ZV)} (hd : zd cc pc (.astore k) 2 q) (hn : k < nL) (hw : zlow L k = true) (hL : zset L k (zr o) = L') (K : zw x g nL kc ks Q σ q L' st) : zw x g nL kc ks Q σ pc L (zr o :: st) := by
  obtain ⟨d, rfl⟩ := hd
  subst hL
  intro H locs ls hP hS h
  show W _ _ _ _ _ _ _ _ _ _ _ _ _ _ _ (F0 _ _ _ (zrv g o :: st.map (zval g)))
  have h1 : ∀ ls' : Array Slot, lv_has ls' nL ((k, zrv g o) :: (zas g L).filter (fun q => !(q.1 == k) && !(q.1 + 1 == k && q.2.category == 2))) → _ := fun ls' h' => K H locs ls' hP hS (zlh.stored hw h')
  by_cases ho : o = 0
  · subst ho
    exact lv_astoreN C.1 C.2.1 d h.has hn rfl h1
  · obtain ⟨a, ha⟩ := zrv_ref (g := g) ho
    rw [ha] at h1 ⊢
    exact lv_astore C.1 C.2.1 d h.has hn rfl h1
theorem z_iinc (C : zC x g cc own ret nL fr lo) {k : Nat} {n : Int} {v w : Int32} {L' : List (Option ZV)} (hd : zd cc pc (.iinc k n) 3 q) (hl : zat L k = some (zi v)) (hv : Int32.ofInt n = w) (hn : k < nL) (hw : zlow L k = true) (hL : zset L k (zi (v + w)) = L') (K : zw x g nL kc ks Q σ q L' st) : zw x g nL kc ks Q σ pc L st := by
  obtain ⟨d, rfl⟩ := hd
  subst hL; subst hv
  intro H locs ls hP hS h
  obtain ⟨j, hj⟩ := List.getElem?_of_mem (zas_mem (g := g) hl)
  exact lv_iinc C.1 C.2.1 d h.has hj rfl hn rfl fun ls' h' => K H locs ls' hP hS (zlh.stored hw h')
theorem z_iadd (C : zC x g cc own ret nL fr lo) {a b : Int32} (hd : zd cc pc .iadd 1 q) (K : zw x g nL kc ks Q σ q L (zi (a + b) :: st)) : zw x g nL kc ks Q σ pc L (zi b :: zi a :: st) := by
  obtain ⟨d, rfl⟩ := hd
  exact fun H locs ls hP hS h => lv_iadd C.1 C.2.1 d (K H locs ls hP hS h)
theorem z_isub (C : zC x g cc own ret nL fr lo) {a b : Int32} (hd : zd cc pc .isub 1 q) (K : zw x g nL kc ks Q σ q L (zi (a - b) :: st)) : zw x g nL kc ks Q σ pc L (zi b :: zi a :: st) := by
  obtain ⟨d, rfl⟩ := hd
  exact fun H locs ls hP hS h => lv_isub C.1 C.2.1 d (K H locs ls hP hS h)
theorem z_imul (C : zC x g cc own ret nL fr lo) {a b : Int32} (hd : zd cc pc .imul 1 q) (K : zw x g nL kc ks Q σ q L (zi (a * b) :: st)) : zw x g nL kc ks Q σ pc L (zi b :: zi a :: st) := by
  obtain ⟨d, rfl⟩ := hd
  exact fun H locs ls hP hS h => lv_imul C.1 C.2.1 d (K H locs ls hP hS h)
theorem z_iand (C : zC x g cc own ret nL fr lo) {a b : Int32} (hd : zd cc pc .iand 1 q) (K : zw x g nL kc ks Q σ q L (zi (a &&& b) :: st)) : zw x g nL kc ks Q σ pc L (zi b :: zi a :: st) := by
  obtain ⟨d, rfl⟩ := hd
  exact fun H locs ls hP hS h => lv_iand C.1 C.2.1 d (K H locs ls hP hS h)
theorem z_ior (C : zC x g cc own ret nL fr lo) {a b : Int32} (hd : zd cc pc .ior 1 q) (K : zw x g nL kc ks Q σ q L (zi (a ||| b) :: st)) : zw x g nL kc ks Q σ pc L (zi b :: zi a :: st) := by
  obtain ⟨d, rfl⟩ := hd
  exact fun H locs ls hP hS h => lv_ior C.1 C.2.1 d (K H locs ls hP hS h)
theorem z_ixor (C : zC x g cc own ret nL fr lo) {a b : Int32} (hd : zd cc pc .ixor 1 q) (K : zw x g nL kc ks Q σ q L (zi (a ^^^ b) :: st)) : zw x g nL kc ks Q σ pc L (zi b :: zi a :: st) := by
  obtain ⟨d, rfl⟩ := hd
  exact fun H locs ls hP hS h => lv_ixor C.1 C.2.1 d (K H locs ls hP hS h)
theorem z_ineg (C : zC x g cc own ret nL fr lo) {a : Int32} (hd : zd cc pc .ineg 1 q) (K : zw x g nL kc ks Q σ q L (zi (-a) :: st)) : zw x g nL kc ks Q σ pc L (zi a :: st) := by
  obtain ⟨d, rfl⟩ := hd
  exact fun H locs ls hP hS h => lv_ineg C.1 C.2.1 d (K H locs ls hP hS h)
theorem z_idiv (C : zC x g cc own ret nL fr lo) {a b : Int32} (hd : zd cc pc .idiv 1 q) (hb : ¬ b = 0) (K : zw x g nL kc ks Q σ q L (zi (a / b) :: st)) : zw x g nL kc ks Q σ pc L (zi b :: zi a :: st) := by
  obtain ⟨d, rfl⟩ := hd
  exact fun H locs ls hP hS h => lv_idiv C.1 C.2.1 d hb (K H locs ls hP hS h)
theorem z_irem (C : zC x g cc own ret nL fr lo) {a b : Int32} (hd : zd cc pc .irem 1 q) (hb : ¬ b = 0) (K : zw x g nL kc ks Q σ q L (zi (a % b) :: st)) : zw x g nL kc ks Q σ pc L (zi b :: zi a :: st) := by
  obtain ⟨d, rfl⟩ := hd
  rw [← irem_eq_mod a b] at K
  exact fun H locs ls hP hS h => lv_irem C.1 C.2.1 d hb (K H locs ls hP hS h)
theorem z_ishl (C : zC x g cc own ret nL fr lo) {a b : Int32} (hd : zd cc pc .ishl 1 q) (K : zw x g nL kc ks Q σ q L (zi (a <<< (b &&& 31)) :: st)) : zw x g nL kc ks Q σ pc L (zi b :: zi a :: st) := by
  obtain ⟨d, rfl⟩ := hd
  exact fun H locs ls hP hS h => lv_ishl C.1 C.2.1 d (K H locs ls hP hS h)
theorem z_ishr (C : zC x g cc own ret nL fr lo) {a b : Int32} (hd : zd cc pc .ishr 1 q) (K : zw x g nL kc ks Q σ q L (zi (a >>> (b &&& 31)) :: st)) : zw x g nL kc ks Q σ pc L (zi b :: zi a :: st) := by
  obtain ⟨d, rfl⟩ := hd
  exact fun H locs ls hP hS h => lv_ishr C.1 C.2.1 d (K H locs ls hP hS h)
theorem z_iushr (C : zC x g cc own ret nL fr lo) {a b : Int32} (hd : zd cc pc .iushr 1 q) (K : zw x g nL kc ks Q σ q L (zi ((a.toUInt32 >>> (b.toUInt32 &&& Int32.toUInt32 31)).toInt32) :: st)) : zw x g nL kc ks Q σ pc L (zi b :: zi a :: st) := by
  obtain ⟨d, rfl⟩ := hd
  exact fun H locs ls hP hS h => lv_iushr C.1 C.2.1 d rfl (K H locs ls hP hS h)
theorem z_i2b (C : zC x g cc own ret nL fr lo) {a : Int32} (hd : zd cc pc .i2b 1 q) (K : zw x g nL kc ks Q σ q L (zi a.toInt8.toInt32 :: st)) : zw x g nL kc ks Q σ pc L (zi a :: st) := by
  obtain ⟨d, rfl⟩ := hd
  exact fun H locs ls hP hS h => lv_i2b C.1 C.2.1 d rfl (K H locs ls hP hS h)
theorem z_i2s (C : zC x g cc own ret nL fr lo) {a : Int32} (hd : zd cc pc .i2s 1 q) (K : zw x g nL kc ks Q σ q L (zi a.toInt16.toInt32 :: st)) : zw x g nL kc ks Q σ pc L (zi a :: st) := by
  obtain ⟨d, rfl⟩ := hd
  exact fun H locs ls hP hS h => lv_i2s C.1 C.2.1 d rfl (K H locs ls hP hS h)
theorem z_i2c (C : zC x g cc own ret nL fr lo) {a : Int32} (hd : zd cc pc .i2c 1 q) (K : zw x g nL kc ks Q σ q L (zi (a.toUInt32 % 65536).toInt32 :: st)) : zw x g nL kc ks Q σ pc L (zi a :: st) := by
  obtain ⟨d, rfl⟩ := hd
  exact fun H locs ls hP hS h => lv_i2c C.1 C.2.1 d rfl (K H locs ls hP hS h)
theorem z_i2l (C : zC x g cc own ret nL fr lo) {a : Int32} (hd : zd cc pc .i2l 1 q) (K : zw x g nL kc ks Q σ q L (zj a.toInt64 :: st)) : zw x g nL kc ks Q σ pc L (zi a :: st) := by
  obtain ⟨d, rfl⟩ := hd
  exact fun H locs ls hP hS h => lv_i2l C.1 C.2.1 d rfl (K H locs ls hP hS h)
theorem z_l2i (C : zC x g cc own ret nL fr lo) {a : Int64} (hd : zd cc pc .l2i 1 q) (K : zw x g nL kc ks Q σ q L (zi a.toInt32 :: st)) : zw x g nL kc ks Q σ pc L (zj a :: st) := by
  obtain ⟨d, rfl⟩ := hd
  exact fun H locs ls hP hS h => lv_l2i C.1 C.2.1 d rfl (K H locs ls hP hS h)
theorem z_land (C : zC x g cc own ret nL fr lo) {a b : Int64} (hd : zd cc pc .land 1 q) (K : zw x g nL kc ks Q σ q L (zj (a &&& b) :: st)) : zw x g nL kc ks Q σ pc L (zj b :: zj a :: st) := by
  obtain ⟨d, rfl⟩ := hd
  exact fun H locs ls hP hS h => lv_land C.1 C.2.1 d (K H locs ls hP hS h)
theorem z_lor (C : zC x g cc own ret nL fr lo) {a b : Int64} (hd : zd cc pc .lor 1 q) (K : zw x g nL kc ks Q σ q L (zj (a ||| b) :: st)) : zw x g nL kc ks Q σ pc L (zj b :: zj a :: st) := by
  obtain ⟨d, rfl⟩ := hd
  exact fun H locs ls hP hS h => lv_lor C.1 C.2.1 d (K H locs ls hP hS h)
theorem z_lushr (C : zC x g cc own ret nL fr lo) {a : Int64} {b : Int32} (hd : zd cc pc .lushr 1 q) (K : zw x g nL kc ks Q σ q L (zj (a.toUInt64 >>> (b.toInt64.toUInt64 &&& Int64.toUInt64 63)).toInt64 :: st)) : zw x g nL kc ks Q σ pc L (zi b :: zj a :: st) := by
  obtain ⟨d, rfl⟩ := hd
  exact fun H locs ls hP hS h => lv_lushr C.1 C.2.1 d rfl (K H locs ls hP hS h)
theorem z_lshl (C : zC x g cc own ret nL fr lo) {a : Int64} {b : Int32} (hd : zd cc pc .lshl 1 q) (K : zw x g nL kc ks Q σ q L (zj (a <<< (b.toInt64 &&& 63)) :: st)) : zw x g nL kc ks Q σ pc L (zi b :: zj a :: st) := by
  obtain ⟨d, rfl⟩ := hd
  exact fun H locs ls hP hS h => lv_lshl C.1 C.2.1 d rfl (K H locs ls hP hS h)
theorem z_lshr (C : zC x g cc own ret nL fr lo) {a : Int64} {b : Int32} (hd : zd cc pc .lshr 1 q) (K : zw x g nL kc ks Q σ q L (zj (a >>> (b.toInt64 &&& 63)) :: st)) : zw x g nL kc ks Q σ pc L (zi b :: zj a :: st) := by
  obtain ⟨d, rfl⟩ := hd
  exact fun H locs ls hP hS h => lv_lshr C.1 C.2.1 d rfl (K H locs ls hP hS h)
theorem z_dup (C : zC x g cc own ret nL fr lo) {v : ZV} (hd : zd cc pc .dup 1 q) (hv : zlong (some v) = false) (K : zw x g nL kc ks Q σ q L (v :: v :: st)) : zw x g nL kc ks Q σ pc L (v :: st) := by
  obtain ⟨d, rfl⟩ := hd
  exact fun H locs ls hP hS h => lv_dup C.1 C.2.1 d (by rw [zval_cat, hv]; decide) (K H locs ls hP hS h)
theorem z_dup2 (C : zC x g cc own ret nL fr lo) {v w : ZV} (hd : zd cc pc .dup2 1 q) (hv : zlong (some v) = false) (hw : zlong (some w) = false) (K : zw x g nL kc ks Q σ q L (v :: w :: v :: w :: st)) : zw x g nL kc ks Q σ pc L (v :: w :: st) := by
  obtain ⟨d, rfl⟩ := hd
  exact fun H locs ls hP hS h => lv_dup2_11 C.1 C.2.1 d (by rw [zval_cat, hv]; decide) (by rw [zval_cat, hw]; decide) (K H locs ls hP hS h)
theorem z_pop (C : zC x g cc own ret nL fr lo) {v : ZV} (hd : zd cc pc .pop 1 q) (hv : zlong (some v) = false) (K : zw x g nL kc ks Q σ q L st) : zw x g nL kc ks Q σ pc L (v :: st) := by
  obtain ⟨d, rfl⟩ := hd
  exact fun H locs ls hP hS h => lv_pop C.1 C.2.1 d (by rw [zval_cat, hv]; decide) (K H locs ls hP hS h)
theorem z_goto (C : zC x g cc own ret nL fr lo) {off : Int} (hd : zdb cc pc (.goto off) off q t) (K : zw x g nL kc ks Q σ t L st) : zw x g nL kc ks Q σ pc L st :=
  fun H locs ls hP hS h => lv_goto C.1 C.2.1 hd.1 hd.2.2 (K H locs ls hP hS h)
theorem z_null (C : zC x g cc own ret nL fr lo) (hd : zd cc pc .aconst_null 1 q) (K : zw x g nL kc ks Q σ q L (zr 0 :: st)) : zw x g nL kc ks Q σ pc L st := by
  obtain ⟨d, rfl⟩ := hd
  exact fun H locs ls hP hS h => lv_null C.1 C.2.1 d (K H locs ls hP hS h)
theorem z_ifnull (C : zC x g cc own ret nL fr lo) {o : Nat} {off : Int} (hd : zdb cc pc (.ifnull off) off q t) (kt : o = 0 → zw x g nL kc ks Q σ t L st) (kf : ¬ o = 0 → zw x g nL kc ks Q σ q L st) : zw x g nL kc ks Q σ pc L (zr o :: st) := by
  obtain ⟨d, rfl, ht⟩ := hd
  intro H locs ls hP hS h
  show W _ _ _ _ _ _ _ _ _ _ _ _ _ _ _ (F0 _ _ _ (zrv g o :: st.map (zval g)))
  by_cases ho : o = 0
  · subst ho
    exact lv_ifnullN C.1 C.2.1 d ht (kt rfl H locs ls hP hS h)
  · obtain ⟨a, ha⟩ := zrv_ref (g := g) ho
    rw [ha]
    exact lv_ifnull C.1 C.2.1 d (kf ho H locs ls hP hS h)
theorem z_ifnonnull (C : zC x g cc own ret nL fr lo) {o : Nat} {off : Int} (hd : zdb cc pc (.ifnonnull off) off q t) (kf : o = 0 → zw x g nL kc ks Q σ q L st) (kt : ¬ o = 0 → zw x g nL kc ks Q σ t L st) : zw x g nL kc ks Q σ pc L (zr o :: st) := by
  obtain ⟨d, rfl, ht⟩ := hd
  intro H locs ls hP hS h
  show W _ _ _ _ _ _ _ _ _ _ _ _ _ _ _ (F0 _ _ _ (zrv g o :: st.map (zval g)))
  by_cases ho : o = 0
  · subst ho
    exact lv_ifnonnullN C.1 C.2.1 d (kf rfl H locs ls hP hS h)
  · obtain ⟨a, ha⟩ := zrv_ref (g := g) ho
    rw [ha]
    exact lv_ifnonnull C.1 C.2.1 d ht (kt ho H locs ls hP hS h)
theorem z_if_eq (C : zC x g cc own ret nL fr lo) {a : Int32} {off : Int} (hd : zdb cc pc (.ifCond .eq off) off q t) (kt : a = 0 → zw x g nL kc ks Q σ t L st) (kf : ¬ a = 0 → zw x g nL kc ks Q σ q L st) : zw x g nL kc ks Q σ pc L (zi a :: st) := by
  obtain ⟨d, rfl, ht⟩ := hd
  exact fun H locs ls hP hS h => lv_if_eq C.1 C.2.1 d ht (fun z => kt z H locs ls hP hS h) (fun z => kf z H locs ls hP hS h)
theorem z_icmp_eq (C : zC x g cc own ret nL fr lo) {a b : Int32} {off : Int} (hd : zdb cc pc (.if_icmp .eq off) off q t) (kt : a = b → zw x g nL kc ks Q σ t L st) (kf : ¬ a = b → zw x g nL kc ks Q σ q L st) : zw x g nL kc ks Q σ pc L (zi b :: zi a :: st) := by
  obtain ⟨d, rfl, ht⟩ := hd
  exact fun H locs ls hP hS h => lv_icmp_eq C.1 C.2.1 d ht (fun z => kt z H locs ls hP hS h) (fun z => kf z H locs ls hP hS h)
theorem z_if_ne (C : zC x g cc own ret nL fr lo) {a : Int32} {off : Int} (hd : zdb cc pc (.ifCond .ne off) off q t) (kf : a = 0 → zw x g nL kc ks Q σ q L st) (kt : ¬ a = 0 → zw x g nL kc ks Q σ t L st) : zw x g nL kc ks Q σ pc L (zi a :: st) := by
  obtain ⟨d, rfl, ht⟩ := hd
  exact fun H locs ls hP hS h => lv_if_ne C.1 C.2.1 d ht (fun z => kt z H locs ls hP hS h) (fun z => kf z H locs ls hP hS h)
theorem z_icmp_ne (C : zC x g cc own ret nL fr lo) {a b : Int32} {off : Int} (hd : zdb cc pc (.if_icmp .ne off) off q t) (kf : a = b → zw x g nL kc ks Q σ q L st) (kt : ¬ a = b → zw x g nL kc ks Q σ t L st) : zw x g nL kc ks Q σ pc L (zi b :: zi a :: st) := by
  obtain ⟨d, rfl, ht⟩ := hd
  exact fun H locs ls hP hS h => lv_icmp_ne C.1 C.2.1 d ht (fun z => kt z H locs ls hP hS h) (fun z => kf z H locs ls hP hS h)
theorem z_if_lt (C : zC x g cc own ret nL fr lo) {a : Int32} {off : Int} (hd : zdb cc pc (.ifCond .lt off) off q t) (kt : a < 0 → zw x g nL kc ks Q σ t L st) (kf : ¬ a < 0 → zw x g nL kc ks Q σ q L st) : zw x g nL kc ks Q σ pc L (zi a :: st) := by
  obtain ⟨d, rfl, ht⟩ := hd
  exact fun H locs ls hP hS h => lv_if_lt C.1 C.2.1 d ht (fun z => kt z H locs ls hP hS h) (fun z => kf z H locs ls hP hS h)
theorem z_icmp_lt (C : zC x g cc own ret nL fr lo) {a b : Int32} {off : Int} (hd : zdb cc pc (.if_icmp .lt off) off q t) (kt : a < b → zw x g nL kc ks Q σ t L st) (kf : ¬ a < b → zw x g nL kc ks Q σ q L st) : zw x g nL kc ks Q σ pc L (zi b :: zi a :: st) := by
  obtain ⟨d, rfl, ht⟩ := hd
  exact fun H locs ls hP hS h => lv_icmp_lt C.1 C.2.1 d ht (fun z => kt z H locs ls hP hS h) (fun z => kf z H locs ls hP hS h)
theorem z_if_ge (C : zC x g cc own ret nL fr lo) {a : Int32} {off : Int} (hd : zdb cc pc (.ifCond .ge off) off q t) (kt : 0 ≤ a → zw x g nL kc ks Q σ t L st) (kf : ¬ 0 ≤ a → zw x g nL kc ks Q σ q L st) : zw x g nL kc ks Q σ pc L (zi a :: st) := by
  obtain ⟨d, rfl, ht⟩ := hd
  exact fun H locs ls hP hS h => lv_if_ge C.1 C.2.1 d ht (fun z => kt z H locs ls hP hS h) (fun z => kf z H locs ls hP hS h)
theorem z_icmp_ge (C : zC x g cc own ret nL fr lo) {a b : Int32} {off : Int} (hd : zdb cc pc (.if_icmp .ge off) off q t) (kt : b ≤ a → zw x g nL kc ks Q σ t L st) (kf : ¬ b ≤ a → zw x g nL kc ks Q σ q L st) : zw x g nL kc ks Q σ pc L (zi b :: zi a :: st) := by
  obtain ⟨d, rfl, ht⟩ := hd
  exact fun H locs ls hP hS h => lv_icmp_ge C.1 C.2.1 d ht (fun z => kt z H locs ls hP hS h) (fun z => kf z H locs ls hP hS h)
theorem z_if_gt (C : zC x g cc own ret nL fr lo) {a : Int32} {off : Int} (hd : zdb cc pc (.ifCond .gt off) off q t) (kt : 0 < a → zw x g nL kc ks Q σ t L st) (kf : ¬ 0 < a → zw x g nL kc ks Q σ q L st) : zw x g nL kc ks Q σ pc L (zi a :: st) := by
  obtain ⟨d, rfl, ht⟩ := hd
  exact fun H locs ls hP hS h => lv_if_gt C.1 C.2.1 d ht (fun z => kt z H locs ls hP hS h) (fun z => kf z H locs ls hP hS h)
theorem z_icmp_gt (C : zC x g cc own ret nL fr lo) {a b : Int32} {off : Int} (hd : zdb cc pc (.if_icmp .gt off) off q t) (kt : b < a → zw x g nL kc ks Q σ t L st) (kf : ¬ b < a → zw x g nL kc ks Q σ q L st) : zw x g nL kc ks Q σ pc L (zi b :: zi a :: st) := by
  obtain ⟨d, rfl, ht⟩ := hd
  exact fun H locs ls hP hS h => lv_icmp_gt C.1 C.2.1 d ht (fun z => kt z H locs ls hP hS h) (fun z => kf z H locs ls hP hS h)
theorem z_if_le (C : zC x g cc own ret nL fr lo) {a : Int32} {off : Int} (hd : zdb cc pc (.ifCond .le off) off q t) (kt : a ≤ 0 → zw x g nL kc ks Q σ t L st) (kf : ¬ a ≤ 0 → zw x g nL kc ks Q σ q L st) : zw x g nL kc ks Q σ pc L (zi a :: st) := by
  obtain ⟨d, rfl, ht⟩ := hd
  exact fun H locs ls hP hS h => lv_if_le C.1 C.2.1 d ht (fun z => kt z H locs ls hP hS h) (fun z => kf z H locs ls hP hS h)
theorem z_icmp_le (C : zC x g cc own ret nL fr lo) {a b : Int32} {off : Int} (hd : zdb cc pc (.if_icmp .le off) off q t) (kt : a ≤ b → zw x g nL kc ks Q σ t L st) (kf : ¬ a ≤ b → zw x g nL kc ks Q σ q L st) : zw x g nL kc ks Q σ pc L (zi b :: zi a :: st) := by
  obtain ⟨d, rfl, ht⟩ := hd
  exact fun H locs ls hP hS h => lv_icmp_le C.1 C.2.1 d ht (fun z => kt z H locs ls hP hS h) (fun z => kf z H locs ls hP hS h)
end
end
section
/-! rows of the heap, of calls, switches and ends -/
/-- a field of numbers: class ci's k-th, linked from a place of own -/
def zFI (own : String) (idx ci k : Nat) : Prop := ∃ (Cn : String) (T : u_T) (N : Nat), zcl[ci]? = some (Cn, T, N) ∧ ci < 10 ∧ k < N ∧ (T k).1 = Cn ∧ Cond.fieldLink own idx Cn (T k).2.1 (T k).2.2.1 ∈ lw_gd ∧ (zfs (ci + 1))[k]? = some none
/-- a field of a reference that stays: its object lies d behind -/
def zFR (own : String) (idx ci k d : Nat) : Prop := ∃ (Cn : String) (T : u_T) (N : Nat), zcl[ci]? = some (Cn, T, N) ∧ ci < 10 ∧ k < N ∧ (T k).1 = Cn ∧ Cond.fieldLink own idx Cn (T k).2.1 (T k).2.2.1 ∈ lw_gd ∧ (zfs (ci + 1))[k]? = some (some (d + 1))
/-- the one field of a reference that changes -/
def zFD (own : String) (idx ci k : Nat) : Prop := ∃ (Cn : String) (T : u_T) (N : Nat), zcl[ci]? = some (Cn, T, N) ∧ ci < 10 ∧ k < N ∧ (T k).1 = Cn ∧ Cond.fieldLink own idx Cn (T k).2.1 (T k).2.2.1 ∈ lw_gd ∧ (zfs (ci + 1))[k]? = some (some 0)
/-- what a store wants of the field's kind -/
def zFty (ci k : Nat) (ty : FieldType) : Prop := ∀ q, zcl[ci]? = some q → (q.2.1 k).2.2.2 = false ∧ parseFieldDescriptor (q.2.1 k).2.2.1 = some ty
theorem zhu : ∀ (ci : Nat) (q : vw_C), zcl[ci]? = some q → (∀ w ∈ u_ws q.1 q.2.1 q.2.2, w ∈ lw_gd) ∧ (∃ ty0 : Nat → FieldType, ∀ k, k < q.2.2 → parseFieldDescriptor (q.2.1 k).2.2.1 = some (ty0 k)) ∧ (∀ a, a < q.2.2 → ∀ b, b < q.2.2 → a ≠ b → (q.2.1 a).2.1 ≠ (q.2.1 b).2.1)
  | 0, _, h => by cases h; exact ⟨hu0, ⟨_, ty0_ok⟩, nm0⟩
  | 1, _, h => by cases h; exact ⟨hu1, ⟨_, ty1_ok⟩, nm1⟩
  | 2, _, h => by cases h; exact ⟨hu2, ⟨_, ty2_ok⟩, nm2⟩
  | 3, _, h => by cases h; exact ⟨hu3, ⟨_, ty3_ok⟩, nm3⟩
  | 4, _, h => by cases h; exact ⟨hu4, ⟨_, ty4_ok⟩, nm4⟩
  | 5, _, h => by cases h; exact ⟨hu5, ⟨_, ty5_ok⟩, nm5⟩
  | 6, _, h => by cases h; exact ⟨hu6, ⟨_, ty6_ok⟩, nm6⟩
  | 7, _, h => by cases h; exact ⟨hu7, ⟨_, ty7_ok⟩, nm7⟩
  | 8, _, h => by cases h; exact ⟨hu8, ⟨_, ty8_ok⟩, nm8⟩
  | 9, _, h => by cases h; exact ⟨hu9, ⟨_, ty9_ok⟩, nm9⟩
  | n + 10, _, h => by simp [zcl] at h
/-- a boolean -/
abbrev zbo (v : Int32) : Prop := v = 0 ∨ v = 1
theorem zbo_n {v : Int32} (h : zbo v) : narrow .boolean (.int v) = .int v := by rcases h with rfl | rfl <;> rfl
theorem zbo_f {v : Int32} (h : zbo v) : fits .boolean (.int v) = true := by rcases h with rfl | rfl <;> rfl
/-- an index of a row of n -/
abbrev zin (i : Int32) (n : Nat) : Prop := 0 ≤ i.toInt ∧ i.toInt < n
theorem zin_vp {i : Int32} {n : Nat} (h : zin i n) : vp_in i n := vp_in_iff.mpr h
/-- a call's words -/
def zY (y : MethodName) (cc : ByteArray) (nL : Nat) (ret : Option FieldType) (n : Nat) : Prop :=
  Cond.code y cc nL ret ∈ lw_gd ∧ Cond.initialized y.cls ∈ lw_gd ∧ (y.cls ≠ "java/lang/invoke/MethodHandle" ∧ y.cls ≠ "java/lang/invoke/VarHandle") ∧ (parseMethodDescriptor y.desc).map (fun d => d.parameters.length) = some n
def zYV (y : MethodName) (cc : ByteArray) (nL : Nat) (ret : Option FieldType) (n : Nat) : Prop := zY y cc nL ret n ∧ Cond.instanceMethod y ∈ lw_gd ∧ Cond.selects y.cls y y ∈ lw_gd
def zYC (y : MethodName) (ci : Nat) : Prop := ci < 10 ∧ ∃ (T : u_T) (N : Nat), zcl[ci]? = some (y.cls, T, N)
def zYS (y : MethodName) (cc : ByteArray) (nL : Nat) (ret : Option FieldType) (n : Nat) : Prop := zY y cc nL ret n ∧ Cond.static y ∈ lw_gd
theorem zY.params {y : MethodName} {cc : ByteArray} {nL : Nat} {ret : Option FieldType} {n : Nat} (h : zY y cc nL ret n) : ∀ sig, parseMethodDescriptor y.desc = some sig → n = sig.parameters.length := fun sig hs => by
  have h2 := h.2.2.2
  rw [hs] at h2
  exact (Option.some.inj h2).symm
def zas_l (as : List ZV) (st : List ZV) : List ZV := as.reverse ++ st
/-- a switch: the keys with their targets, the target of what is none of them -/
def zswt : List (Int32 × Nat) → Nat → Int32 → Nat
  | [], d, _ => d
  | (k, t) :: l, d, v => if v = k then t else zswt l d v
def ztb (pc : Nat) : Int → List Int → List (Int32 × Nat) → Bool
  | _, [], [] => true
  | lo, o :: os, (k, t) :: l => decide (k.toInt = lo) && (decide ((pc : Int) + o = (t : Int)) && ztb pc (lo + 1) os l)
  | _, _, _ => false
def zlk (pc : Nat) : List (Int × Int) → List (Int32 × Nat) → Bool
  | [], [] => true
  | (a, o) :: os, (k, t) :: l => decide (k.toInt = a) && (decide ((pc : Int) + o = (t : Int)) && zlk pc os l)
  | _, _ => false
theorem ztb_in (pc : Nat) (d : Nat) (x : Int32) : ∀ (lo : Int) (os : List Int) (l : List (Int32 × Nat)), ztb pc lo os l = true → (∀ o, os[(x.toInt - lo).toNat]? = some o → ¬ x.toInt < lo → (pc : Int) + o = (zswt l d x : Int)) ∧ ((x.toInt < lo ∨ lo + os.length ≤ x.toInt) → zswt l d x = d)
  | lo, [], [], _ => ⟨fun o h => by simp at h, fun _ => rfl⟩
  | lo, [], _ :: _, h => by simp [ztb] at h
  | lo, _ :: _, [], h => by simp [ztb] at h
  | lo, o :: os, (k, t) :: l, h => by
    simp only [ztb, Bool.and_eq_true, decide_eq_true_eq] at h
    obtain ⟨h1, h2, h3⟩ := h
    obtain ⟨i1, i2⟩ := ztb_in pc d x (lo + 1) os l h3
    by_cases hx : x = k
    · subst hx
      refine ⟨fun o' ho hlo => ?_, fun hh => ?_⟩
      · have z : (x.toInt - lo).toNat = 0 := by omega
        rw [z] at ho
        cases ho
        rw [zswt, if_pos rfl]
        exact h2
      · exfalso
        simp only [List.length_cons] at hh
        omega
    · have hx' : x.toInt ≠ lo := fun e => hx (Int32.toInt_inj.mp (by rw [e, h1]))
      refine ⟨fun o' ho hlo => ?_, fun hh => ?_⟩
      · rw [zswt, if_neg hx]
        refine i1 o' ?_ (by omega)
        have z : (x.toInt - lo).toNat = (x.toInt - (lo + 1)).toNat + 1 := by omega
        rw [z, List.getElem?_cons_succ] at ho
        exact ho
      · rw [zswt, if_neg hx]
        refine i2 ?_
        simp only [List.length_cons] at hh
        omega
theorem zlk_in (pc : Nat) (d : Nat) (dflt : Int) (hd : (pc : Int) + dflt = (d : Int)) (x : Int32) : ∀ (os : List (Int × Int)) (l : List (Int32 × Nat)), zlk pc os l = true → (pc : Int) + Op.lookupswitch.offset os dflt x.toInt = (zswt l d x : Int)
  | [], [], _ => by simpa [Op.lookupswitch.offset, zswt] using hd
  | [], _ :: _, h => by simp [zlk] at h
  | _ :: _, [], h => by simp [zlk] at h
  | (a, o) :: os, (k, t) :: l, h => by
    simp only [zlk, Bool.and_eq_true, decide_eq_true_eq] at h
    obtain ⟨h1, h2, h3⟩ := h
    have ih := zlk_in pc d dflt hd x os l h3
    by_cases hx : x = k
    · subst hx
      rw [zswt, if_pos rfl]
      simpa [Op.lookupswitch.offset, h1] using h2
    · rw [zswt, if_neg hx, lv_osw hx h1]
      exact ih
section
variable {x : ZX} {g : ZG} {cc : ByteArray} {own : String} {ret : Option FieldType} {nL fr lo kc ks : Nat} {Q : State → Prop} {σ : ZS} {pc q t : Nat} {L : List (Option ZV)} {st : List ZV}
theorem zw.ref {o : Nat} (h : zsh o ≠ 0) (K : ∀ (H : Heap) (locs : List Loc) (ls : Array Slot), zP g σ H → va_S (zA g) x.2.2.2.2.1.heap H locs → zlh g ls nL L →
    W x.1 x.2.1 x.2.2.1 x.2.2.2.1 x.2.2.2.2.1 x.2.2.2.2.2.1 x.2.2.2.2.2.2.1 x.2.2.2.2.2.2.2.1 x.2.2.2.2.2.2.2.2.1 x.2.2.2.2.2.2.2.2.2 H locs kc ks Q (F0 x.2.2.2.2.2.1 pc ls (.ref (g.1 + o) :: st.map (zval g)))) : zw x g nL kc ks Q σ pc L (zr o :: st) := by
  intro H locs ls hP hS hl
  have h1 := K H locs ls hP hS hl
  rw [← zrv_of (g := g) h] at h1
  exact h1
theorem z_getI (C : zC x g cc own ret nL fr lo) {idx ci k o : Nat} (hd : zd cc pc (.getfield idx) 3 q) (hw : zFI own idx ci k) (ho : zsh o = ci + 1) (K : zw x g nL kc ks Q σ q L (zi (σ o k) :: st)) : zw x g nL kc ks Q σ pc L (zr o :: st) := by
  obtain ⟨d, rfl⟩ := hd
  obtain ⟨Cn, T, N, h1, h2, h3, h4, h5, h6⟩ := hw
  obtain ⟨u1, -, -⟩ := zhu ci _ h1
  refine zw.ref (by omega) fun H locs ls hP hS hl => ?_
  obtain ⟨p0, hp⟩ := zP_at (g := g) (σ := σ) (o := o) (by omega)
  rw [zen_obj ho h2] at hp
  have h7 := zob_get (g := g) (f := σ o) (o := o) (zfs (ci + 1)) 0 k none h6
  rw [Nat.zero_add] at h7
  exact va_get C.1 C.2.1 C.2.2.2.2.2.1 u1 C.2.2.2.2.1 C.2.2.2.2.2.2.2.2.1 hP p0 hp h1 k h3 (C.2.2.2.2.2.1 _ h5) (fun y hy => by rw [h4] at hy; exact hy) h7 d (K H locs ls hP hS hl)
theorem z_getR (C : zC x g cc own ret nL fr lo) {idx ci k o d0 : Nat} (hd : zd cc pc (.getfield idx) 3 q) (hw : zFR own idx ci k d0) (ho : zsh o = ci + 1) (o' : Nat) (he : o + (d0 + 1) = o') (ho' : zsh o' ≠ 0) (K : zw x g nL kc ks Q σ q L (zr o' :: st)) : zw x g nL kc ks Q σ pc L (zr o :: st) := by
  obtain ⟨d, rfl⟩ := hd
  obtain ⟨Cn, T, N, h1, h2, h3, h4, h5, h6⟩ := hw
  obtain ⟨u1, -, -⟩ := zhu ci _ h1
  subst he
  refine zw.ref (by omega) fun H locs ls hP hS hl => ?_
  obtain ⟨p0, hp⟩ := zP_at (g := g) (σ := σ) (o := o) (by omega)
  rw [zen_obj ho h2] at hp
  have h7 := zob_get (g := g) (f := σ o) (o := o) (zfs (ci + 1)) 0 k _ h6
  rw [Nat.zero_add] at h7
  have h8 := K H locs ls hP hS hl
  change W _ _ _ _ _ _ _ _ _ _ _ _ _ _ _ (F0 _ _ _ (zrv g (o + (d0 + 1)) :: st.map (zval g))) at h8
  rw [zrv_of ho'] at h8
  exact va_get C.1 C.2.1 C.2.2.2.2.2.1 u1 C.2.2.2.2.1 C.2.2.2.2.2.2.2.2.1 hP p0 hp h1 k h3 (C.2.2.2.2.2.1 _ h5) (fun y hy => by rw [h4] at hy; exact hy) h7 d h8
theorem z_getD (C : zC x g cc own ret nL fr lo) {idx ci k o : Nat} (hd : zd cc pc (.getfield idx) 3 q) (hw : zFD own idx ci k) (ho : zsh o = ci + 1) (K : zw x g nL kc ks Q σ q L (zr (σ o k).toNatClampNeg :: st)) : zw x g nL kc ks Q σ pc L (zr o :: st) := by
  obtain ⟨d, rfl⟩ := hd
  obtain ⟨Cn, T, N, h1, h2, h3, h4, h5, h6⟩ := hw
  obtain ⟨u1, -, -⟩ := zhu ci _ h1
  refine zw.ref (by omega) fun H locs ls hP hS hl => ?_
  obtain ⟨p0, hp⟩ := zP_at (g := g) (σ := σ) (o := o) (by omega)
  rw [zen_obj ho h2] at hp
  have h7 := zob_get (g := g) (f := σ o) (o := o) (zfs (ci + 1)) 0 k _ h6
  rw [Nat.zero_add] at h7
  exact va_get C.1 C.2.1 C.2.2.2.2.2.1 u1 C.2.2.2.2.1 C.2.2.2.2.2.2.2.2.1 hP p0 hp h1 k h3 (C.2.2.2.2.2.1 _ h5) (fun y hy => by rw [h4] at hy; exact hy) h7 d (K H locs ls hP hS hl)
theorem z_put (C : zC x g cc own ret nL fr lo) {idx ci k o : Nat} {v : Int32} {w : Value} {dd : Option Nat} {ty : FieldType} (hd : zd cc pc (.putfield idx) 3 q)
    {Cn : String} {T : u_T} {N : Nat} (h1 : zcl[ci]? = some (Cn, T, N)) (h2 : ci < 10) (h3 : k < N) (h4 : (T k).1 = Cn) (h5 : Cond.fieldLink own idx Cn (T k).2.1 (T k).2.2.1 ∈ lw_gd) (h6 : (zfs (ci + 1))[k]? = some dd)
    (hf : (T k).2.2.2 = false) (hty : parseFieldDescriptor (T k).2.2.1 = some ty) (hn : narrow ty w = w) (hfit : fits ty w = true) (hw : zfv g (upd (σ o) k v) o k dd = w) (ho : zsh o = ci + 1)
    (K : zw x g nL kc ks Q (zu σ o k v) q L st) {H : Heap} {locs : List Loc} {ls : Array Slot} (hP : zP g σ H) (hS : va_S (zA g) x.2.2.2.2.1.heap H locs) (hl : zlh g ls nL L) :
    W x.1 x.2.1 x.2.2.1 x.2.2.2.1 x.2.2.2.2.1 x.2.2.2.2.2.1 x.2.2.2.2.2.2.1 x.2.2.2.2.2.2.2.1 x.2.2.2.2.2.2.2.2.1 x.2.2.2.2.2.2.2.2.2 H locs kc ks Q (F0 x.2.2.2.2.2.1 pc ls (w :: .ref (g.1 + o) :: st.map (zval g))) := by
  obtain ⟨d, rfl⟩ := hd
  obtain ⟨u1, ⟨ty0, u2⟩, u3⟩ := zhu ci _ h1
  obtain ⟨p0, hp⟩ := zP_at (g := g) (σ := σ) (o := o) (by omega)
  have hp2 := hp
  rw [zen_obj ho h2] at hp
  refine va_put C.1 C.2.1 C.2.2.2.2.2.1 u1 ty0 u2 u3 C.2.2.2.2.1 C.2.2.2.2.2.2.2.2.1 hP (zD _) hS p0 hp h1 k h3 (C.2.2.2.2.2.1 _ h5) (fun y hy => by rw [h4] at hy; exact hy) hf hty hn hfit (by rw [zob_len]; exact (List.getElem?_eq_some_iff.mp h6).1) d fun H1 locs1 hP1 _ hS1 => ?_
  refine K H1 locs1 ls (zP_set (σ' := zu σ o k v) (by omega) hp2 ?_ (fun a ha => zu_ne ha) hP1) hS1 hl
  rw [zen_obj ho h2, show zu σ o k v o = upd (σ o) k v from zu_row, ← hw, zob_set h6]
theorem z_putI (C : zC x g cc own ret nL fr lo) {idx ci k o : Nat} {v : Int32} (hd : zd cc pc (.putfield idx) 3 q) (hw : zFI own idx ci k) (hty : zFty ci k .int) (ho : zsh o = ci + 1) {σ1 : ZS} (he : σ1 = zu σ o k v) (K : zw x g nL kc ks Q σ1 q L st) : zw x g nL kc ks Q σ pc L (zi v :: zr o :: st) := by
  subst he
  obtain ⟨Cn, T, N, h1, h2, h3, h4, h5, h6⟩ := hw
  obtain ⟨hf, hty⟩ := hty _ h1
  intro H locs ls hP hS hl
  show W _ _ _ _ _ _ _ _ _ _ _ _ _ _ _ (F0 _ _ _ (.int v :: zrv g o :: st.map (zval g)))
  rw [zrv_of (by omega)]
  exact z_put C (v := v) hd h1 h2 h3 h4 h5 h6 hf hty rfl rfl (by show Value.int (upd (σ o) k v k) = .int v; rw [pk_us]) ho K hP hS hl
theorem z_putZ (C : zC x g cc own ret nL fr lo) {idx ci k o : Nat} {v : Int32} (hd : zd cc pc (.putfield idx) 3 q) (hw : zFI own idx ci k) (hty : zFty ci k .boolean) (ho : zsh o = ci + 1) (hv : zbo v) {σ1 : ZS} (he : σ1 = zu σ o k v) (K : zw x g nL kc ks Q σ1 q L st) : zw x g nL kc ks Q σ pc L (zi v :: zr o :: st) := by
  subst he
  obtain ⟨Cn, T, N, h1, h2, h3, h4, h5, h6⟩ := hw
  obtain ⟨hf, hty⟩ := hty _ h1
  intro H locs ls hP hS hl
  show W _ _ _ _ _ _ _ _ _ _ _ _ _ _ _ (F0 _ _ _ (.int v :: zrv g o :: st.map (zval g)))
  rw [zrv_of (by omega)]
  exact z_put C (v := v) hd h1 h2 h3 h4 h5 h6 hf hty (zbo_n hv) (zbo_f hv) (by show Value.int (upd (σ o) k v k) = .int v; rw [pk_us]) ho K hP hS hl
theorem z_putD (C : zC x g cc own ret nL fr lo) {idx ci k o o1 : Nat} (hd : zd cc pc (.putfield idx) 3 q) (hw : zFD own idx ci k) (hty : zFty ci k (.array .int)) (ho : zsh o = ci + 1) (h1 : zsh o1 ≠ 0) {σ1 : ZS} (he : σ1 = zu σ o k (nI o1)) (K : zw x g nL kc ks Q σ1 q L st) : zw x g nL kc ks Q σ pc L (zr o1 :: zr o :: st) := by
  subst he
  have hlt := (zsh_lt h1).2
  obtain ⟨Cn, T, N, g1, g2, g3, g4, g5, g6⟩ := hw
  obtain ⟨hf, hty⟩ := hty _ g1
  intro H locs ls hP hS hl
  show W _ _ _ _ _ _ _ _ _ _ _ _ _ _ _ (F0 _ _ _ (zrv g o1 :: zrv g o :: st.map (zval g)))
  rw [zrv_of (o := o) (by omega)]
  refine z_put C (v := nI o1) hd g1 g2 g3 g4 g5 g6 hf hty ?_ ?_ ?_ ho K hP hS hl
  · rw [zrv_of h1]; rfl
  · rw [zrv_of h1]; rfl
  · show zrv g (upd (σ o) k (nI o1) k).toNatClampNeg = _
    rw [pk_us, nI_clamp (by omega)]
theorem z_iald (C : zC x g cc own ret nL fr lo) {o n : Nat} {i : Int32} (hd : zd cc pc .iaload 1 q) (ho : zsh o = 15) (hn : zln o = n) (hi : zin i n) (j : Nat) (hj : i.toNatClampNeg = j) (K : zw x g nL kc ks Q σ q L (zi (σ o j) :: st)) : zw x g nL kc ks Q σ pc L (zi i :: zr o :: st) := by
  subst hj
  obtain ⟨d, rfl⟩ := hd
  intro H locs ls hP hS hl
  show W _ _ _ _ _ _ _ _ _ _ _ _ _ _ _ (F0 _ _ _ (.int i :: zrv g o :: st.map (zval g)))
  rw [zrv_of (by omega)]
  obtain ⟨p0, hp⟩ := zP_at (g := g) (σ := σ) (o := o) (by omega)
  rw [zen_arr ho hn] at hp
  exact va_iald C.1 C.2.1 C.2.2.2.2.2.2.2.2.1 hP p0 0 hp rfl (zin_vp hi) d (K H locs ls hP hS hl)
theorem z_iast (C : zC x g cc own ret nL fr lo) {o n : Nat} {i v : Int32} (hd : zd cc pc .iastore 1 q) (ho : zsh o = 15) (hn : zln o = n) (hi : zin i n) {j : Nat} (hj : i.toNatClampNeg = j) {σ1 : ZS} (he : σ1 = zu σ o j v) (K : zw x g nL kc ks Q σ1 q L st) : zw x g nL kc ks Q σ pc L (zi v :: zi i :: zr o :: st) := by
  subst hj; subst he
  obtain ⟨d, rfl⟩ := hd
  intro H locs ls hP hS hl
  show W _ _ _ _ _ _ _ _ _ _ _ _ _ _ _ (F0 _ _ _ (.int v :: .int i :: zrv g o :: st.map (zval g)))
  rw [zrv_of (by omega)]
  obtain ⟨p0, hp⟩ := zP_at (g := g) (σ := σ) (o := o) (by omega)
  have hp2 := hp
  rw [zen_arr ho hn] at hp
  refine va_iast C.1 C.2.1 C.2.2.2.2.2.2.2.2.1 hP (zD _) hS p0 0 hp rfl (zin_vp hi) d fun H1 locs1 hP1 _ hS1 => ?_
  refine K H1 locs1 ls (zP_set (σ' := zu σ o i.toNatClampNeg v) (by omega) hp2 ?_ (fun a ha => zu_ne ha) hP1) hS1 hl
  rw [zen_arr ho hn]
  exact congrArg (fun f => (Sum.inl (g.2.2.1 0, n, .inl f) : va_E)) zu_row
theorem z_alen (C : zC x g cc own ret nL fr lo) {o n : Nat} (v : Int32) (hd : zd cc pc .arraylength 1 q) (ho : zsh o = 15) (hn : zln o = n) (hv : Int32.ofNat n = v) (K : zw x g nL kc ks Q σ q L (zi v :: st)) : zw x g nL kc ks Q σ pc L (zr o :: st) := by
  obtain ⟨d, rfl⟩ := hd
  refine zw.ref (by omega) fun H locs ls hP hS hl => ?_
  obtain ⟨p0, hp⟩ := zP_at (g := g) (σ := σ) (o := o) (by omega)
  rw [zen_arr ho hn] at hp
  exact va_alen C.1 C.2.1 C.2.2.2.2.2.2.2.2.1 hP p0 0 hp rfl hv d (K H locs ls hP hS hl)
theorem ztys_at (g : ZG) {κ : Nat} (h1 : 11 ≤ κ) (h2 : κ < 15) : (ztys g)[κ - 10]? = some (g.2.2.1 (κ - 10), .object (zrc κ)) := by
  match κ, h1, h2 with
  | 11, _, _ => rfl
  | 12, _, _ => rfl
  | 13, _, _ => rfl
  | 14, _, _ => rfl
theorem z_alenR (C : zC x g cc own ret nL fr lo) {o κ : Nat} (v : Int32) (hd : zd cc pc .arraylength 1 q) (ho : zsh o = κ) (h1 : 11 ≤ κ) (h2 : κ < 15) (hv : Int32.ofNat (zrn κ) = v) (K : zw x g nL kc ks Q σ q L (zi v :: st)) : zw x g nL kc ks Q σ pc L (zr o :: st) := by
  obtain ⟨d, rfl⟩ := hd
  refine zw.ref (by omega) fun H locs ls hP hS hl => ?_
  obtain ⟨p0, hp⟩ := zP_at (g := g) (σ := σ) (o := o) (by omega)
  rw [zen_ref ho h1 h2] at hp
  exact va_alen C.1 C.2.1 C.2.2.2.2.2.2.2.2.1 hP p0 (κ - 10) hp (ztys_at g h1 h2) hv d (K H locs ls hP hS hl)
theorem z_aald (C : zC x g cc own ret nL fr lo) {o κ : Nat} {i : Int32} (hd : zd cc pc .aaload 1 q) (ho : zsh o = κ) (h1 : 11 ≤ κ) (h2 : κ < 15) (hi : zin i (zrn κ)) (o' : Nat) (he : o + zrd κ + zrs κ * i.toNatClampNeg = o') (ho' : zsh o' ≠ 0) (K : zw x g nL kc ks Q σ q L (zr o' :: st)) : zw x g nL kc ks Q σ pc L (zi i :: zr o :: st) := by
  obtain ⟨d, rfl⟩ := hd
  subst he
  intro H locs ls hP hS hl
  show W _ _ _ _ _ _ _ _ _ _ _ _ _ _ _ (F0 _ _ _ (.int i :: zrv g o :: st.map (zval g)))
  rw [zrv_of (by omega)]
  obtain ⟨p0, hp⟩ := zP_at (g := g) (σ := σ) (o := o) (by omega)
  rw [zen_ref ho h1 h2] at hp
  have h8 := K H locs ls hP hS hl
  change W _ _ _ _ _ _ _ _ _ _ _ _ _ _ _ (F0 _ _ _ (zrv g (o + zrd κ + zrs κ * i.toNatClampNeg) :: st.map (zval g))) at h8
  rw [zrv_of ho'] at h8
  exact va_aldq C.1 C.2.1 C.2.2.2.2.2.2.2.2.1 hP p0 (κ - 10) hp (ztys_at g h1 h2) (zin_vp hi) d h8
/-- the static rows: place 1000 KIND_ABOVE, 1001 BODIES -/
theorem z_gets0 (C : zC x g cc own ret nL fr lo) {idx : Nat} {host : String} (hd : zd cc pc (.getstatic idx) 3 q) (hw : Cond.fieldLinkNest own idx "GlassTax" "KIND_ABOVE" "[I" host ∈ lw_tbl) (K : zw x g nL kc ks Q σ q L (zr 1000 :: st)) : zw x g nL kc ks Q σ pc L st := by
  obtain ⟨d, rfl⟩ := hd
  exact fun H locs ls hP hS hl => va_getsN C.1 C.2.1 C.2.2.2.2.2.2.2.2.2.1.1.1 hS C.2.2.2.2.1 (va_Nw.use rfl (C.2.2.2.2.2.2.2.2.2.2.1 _ hw rfl)) (fun _ h => h) d (K H locs ls hP hS hl)
theorem z_gets1 (C : zC x g cc own ret nL fr lo) {idx : Nat} (hd : zd cc pc (.getstatic idx) 3 q) (hw : Cond.fieldLink own idx "GlassTax$Voices" "BODIES" "[I" ∈ lw_gd) (K : zw x g nL kc ks Q σ q L (zr 1001 :: st)) : zw x g nL kc ks Q σ pc L st := by
  obtain ⟨d, rfl⟩ := hd
  exact fun H locs ls hP hS hl => va_gets C.1 C.2.1 C.2.2.2.2.2.2.2.2.2.1.2.1.1 hS C.2.2.2.2.1 (C.2.2.2.2.2.1 _ hw) (fun _ h => h) d (K H locs ls hP hS hl)
theorem z_iald0 (C : zC x g cc own ret nL fr lo) {i : Int32} (hd : zd cc pc .iaload 1 q) (hi : zin i 7) (K : zw x g nL kc ks Q σ q L (zi (zKA.getD i.toNatClampNeg 0) :: st)) : zw x g nL kc ks Q σ pc L (zi i :: zr 1000 :: st) := by
  obtain ⟨d, rfl⟩ := hd
  exact fun H locs ls hP hS hl => va_ti C.1 C.2.1 C.2.2.2.2.2.2.2.2.2.1.1.2 hS (zin_vp hi) rfl d (K H locs ls hP hS hl)
theorem z_iald1 (C : zC x g cc own ret nL fr lo) {i : Int32} (hd : zd cc pc .iaload 1 q) (hi : zin i 28) (K : zw x g nL kc ks Q σ q L (zi (zBO.getD i.toNatClampNeg 0) :: st)) : zw x g nL kc ks Q σ pc L (zi i :: zr 1001 :: st) := by
  obtain ⟨d, rfl⟩ := hd
  exact fun H locs ls hP hS hl => va_ti C.1 C.2.1 C.2.2.2.2.2.2.2.2.2.1.2.1.2 hS (zin_vp hi) rfl d (K H locs ls hP hS hl)
theorem z_tsw (C : zC x g cc own ret nL fr lo) {dflt lw hw : Int} {offs : Array Int} {len d : Nat} {v : Int32} (l : List (Int32 × Nat)) (hd : decode cc pc = .ok (.tableswitch dflt lw hw offs, len)) (hdf : (pc : Int) + dflt = (d : Int)) (h1 : lw + offs.size = hw + 1) (h2 : ztb pc lw offs.toList l = true) (K : zw x g nL kc ks Q σ (zswt l d v) L st) : zw x g nL kc ks Q σ pc L (zi v :: st) := by
  intro H locs ls hP hS hl
  obtain ⟨i1, i2⟩ := ztb_in pc d v lw offs.toList l h2
  have hsz : offs.toList.length = offs.size := Array.length_toList
  by_cases hv : v.toInt < lw ∨ hw < v.toInt
  · have e := i2 (by omega)
    have K2 := K H locs ls hP hS hl
    rw [e] at K2
    exact lv_tableOut C.1 C.2.1 hd hv hdf K2
  · obtain ⟨o, ho⟩ : ∃ o, offs[(v.toInt - lw).toNat]? = some o := ⟨_, Array.getElem?_eq_getElem (by omega)⟩
    exact lv_tableIn C.1 C.2.1 hd (by omega) (by omega) ho (i1 o (by rw [Array.getElem?_toList]; exact ho) (by omega)) (K H locs ls hP hS hl)
theorem z_lsw (C : zC x g cc own ret nL fr lo) {dflt : Int} {ps : Array (Int × Int)} {len d : Nat} {v : Int32} (l : List (Int32 × Nat)) (hd : decode cc pc = .ok (.lookupswitch dflt ps, len)) (hp : (ps.toList.zip (ps.toList.drop 1)).all (fun (a, next) => a.1 < next.1) = true) (hdf : (pc : Int) + dflt = (d : Int)) (h2 : zlk pc ps.toList l = true) (K : zw x g nL kc ks Q σ (zswt l d v) L st) : zw x g nL kc ks Q σ pc L (zi v :: st) := by
  intro H locs ls hP hS hl
  exact lv_lookup C.1 C.2.1 hd hp rfl (zlk_in pc d dflt hdf v ps.toList l h2) (K H locs ls hP hS hl)
theorem z_swc {l : List (Int32 × Nat)} {k v : Int32} {t d : Nat} (kt : v = k → zw x g nL kc ks Q σ t L st) (kf : ¬ v = k → zw x g nL kc ks Q σ (zswt l d v) L st) : zw x g nL kc ks Q σ (zswt ((k, t) :: l) d v) L st := by
  by_cases h : v = k
  · rw [zswt, if_pos h]; exact kt h
  · rw [zswt, if_neg h]; exact kf h
/-! ends -/
theorem z_iret (C : zC x g cc own (some .int) nL fr lo) {r v : Int32} {σ' : ZS} (hd : zd cc pc .ireturn 1 q) (hf : some (v, σ) = some (r, σ')) : zw x g nL 0 0 (zMQ x g (some (zi r)) σ') σ pc L [zi v] := by
  cases hf
  obtain ⟨d, rfl⟩ := hd
  exact fun H locs ls hP hS hl => W.iret C.1 C.2.1 C.2.2.1 (fun t ht _ => ⟨rfl, by rw [ht]; exact hP, hS.F ht⟩) hS.2.2 d C.2.2.2.2.2.2.1
theorem z_zret (C : zC x g cc own (some .boolean) nL fr lo) {r v : Int32} {σ' : ZS} (hd : zd cc pc .ireturn 1 q) (hv : zbo v) (hf : some (v, σ) = some (r, σ')) : zw x g nL 0 0 (zMQ x g (some (zi r)) σ') σ pc L [zi v] := by
  cases hf
  obtain ⟨d, rfl⟩ := hd
  exact fun H locs ls hP hS hl => W.zret C.1 C.2.1 C.2.2.1 (zbo_n hv) (fun t ht _ => ⟨rfl, by rw [ht]; exact hP, hS.F ht⟩) hS.2.2 d C.2.2.2.2.2.2.1
theorem z_sret (C : zC x g cc own (some .byte) nL fr lo) {r v : Int32} {σ' : ZS} (hd : zd cc pc .ireturn 1 q) (hv : narrow .byte (.int v) = .int v) (hf : some (v, σ) = some (r, σ')) : zw x g nL 0 0 (zMQ x g (some (zi r)) σ') σ pc L [zi v] := by
  cases hf
  obtain ⟨d, rfl⟩ := hd
  exact fun H locs ls hP hS hl => W.zret C.1 C.2.1 C.2.2.1 hv (fun t ht _ => ⟨rfl, by rw [ht]; exact hP, hS.F ht⟩) hS.2.2 d C.2.2.2.2.2.2.1
theorem z_cret (C : zC x g cc own (some .char) nL fr lo) {r v : Int32} {σ' : ZS} (hd : zd cc pc .ireturn 1 q) (hv : narrow .char (.int v) = .int v) (hf : some (v, σ) = some (r, σ')) : zw x g nL 0 0 (zMQ x g (some (zi r)) σ') σ pc L [zi v] := by
  cases hf
  obtain ⟨d, rfl⟩ := hd
  exact fun H locs ls hP hS hl => W.zret C.1 C.2.1 C.2.2.1 hv (fun t ht _ => ⟨rfl, by rw [ht]; exact hP, hS.F ht⟩) hS.2.2 d C.2.2.2.2.2.2.1
theorem z_vret (C : zC x g cc own none nL fr lo) {u : Unit} {σ' : ZS} (hd : zd cc pc .return_ 1 q) (hf : some ((), σ) = some (u, σ')) : zw x g nL 0 0 (zMQ x g none σ') σ pc L [] := by
  cases hf
  obtain ⟨d, rfl⟩ := hd
  exact fun H locs ls hP hS hl => W.vret C.1 C.2.1 C.2.2.1 (fun t ht _ => ⟨rfl, by rw [ht]; exact hP, hS.F ht⟩) hS.2.2 d C.2.2.2.2.2.2.1
theorem z_aret {n : String} (C : zC x g cc own (some (.object n)) nL fr lo) {r v : Nat} {σ' : ZS} (hd : zd cc pc .areturn 1 q) (hf : some (v, σ) = some (r, σ')) : zw x g nL 0 0 (zMQ x g (some (zr r)) σ') σ pc L [zr v] := by
  cases hf
  obtain ⟨d, rfl⟩ := hd
  exact fun H locs ls hP hS hl => W.aret C.1 C.2.1 C.2.2.1 (Or.inl ⟨n, rfl⟩) (by
    show zrv g r = .null ∨ ∃ a, zrv g r = .ref a
    by_cases h : r = 0
    · subst h; exact Or.inl rfl
    · exact Or.inr (zrv_ref h)) (fun t ht _ => ⟨rfl, by rw [ht]; exact hP, hS.F ht⟩) hS.2.2 d C.2.2.2.2.2.2.1
/-! calls -/
theorem z_blind {as : List ZV} {σ0 : ZS} : FrameBlind (va_Pc (as.map (zval g)) (fun U => zP g σ0 U.heap ∧ zK g U)) := fun _ _ _ _ h => ⟨h.1, h.2.1, h.2.2.blind⟩
theorem z_ran {v : Option ZV} {σ1 : ZS} {st0 : List Value} {rest : List ZV} {H : Heap} {locs : List Loc} {ls : Array Slot} {a : Array Value} (hS : va_S (zA g) x.2.2.2.2.1.heap H locs) (hl : zlh g ls nL L)
    (hr : va_Run x.1 x.2.1 x.2.2.1 x.2.2.2.1 x.2.2.2.2.1 x.2.2.2.2.2.1 x.2.2.2.2.2.2.1 x.2.2.2.2.2.2.2.1 x.2.2.2.2.2.2.2.2.1 x.2.2.2.2.2.2.2.2.2 H locs kc ks 0 0 (F0 x.2.2.2.2.2.1 pc ls st0) (rest.map (zval g)) (zQ g v σ1 a) (zA g))
    (K : zw x g nL kc ks Q σ1 (pc + 3) L (v.toList ++ rest)) : W x.1 x.2.1 x.2.2.1 x.2.2.2.1 x.2.2.2.2.1 x.2.2.2.2.2.1 x.2.2.2.2.2.2.1 x.2.2.2.2.2.2.2.1 x.2.2.2.2.2.2.2.2.1 x.2.2.2.2.2.2.2.2.2 H locs kc ks Q (F0 x.2.2.2.2.2.1 pc ls st0) := by
  intro T hT X
  obtain ⟨v', st₀, t, T', L', h0, X', hL, e1, e2, ⟨hv, hP1, hz, hk⟩, stp⟩ := hr T hT X
  cases hv
  rw [h0] at hz hk
  have hS1 : va_S (zA g) x.2.2.2.2.1.heap T'.heap (locs ++ L') := ⟨Nat.le_trans hS.1 (by rw [e1]; exact hz), fun q h1 h2 => by rw [e1, hk q (Nat.lt_of_lt_of_le h1 hS.1) h2]; exact hS.2.1 q h1 h2, fun q hq => by
      rcases List.mem_append.mp hq with h | h
      · exact hS.2.2 q h
      · exact hL q h⟩
  obtain ⟨t2, a1, b1⟩ := K T'.heap (locs ++ L') ls (by rw [e1]; exact hP1) hS1 hl T' rfl X'
  refine ⟨t2, stp t2 ?_, b1⟩
  have e : (v.map (zval g)).toList ++ rest.map (zval g) = (v.toList ++ rest).map (zval g) := by
    rw [List.map_append]
    cases v <;> rfl
  rw [e]
  exact a1
theorem z_room {rest : List ZV} (h : (rest.map fun v => if zlong (some v) = true then 2 else 1).sum ≤ 8) : ((rest.map (zval g)).map fun v => v.category).sum ≤ 8 := by
  have e : (rest.map (zval g)).map (fun v => v.category) = rest.map fun v => if zlong (some v) = true then 2 else 1 := by
    rw [List.map_map]
    exact List.map_congr_left fun v _ => zval_cat v
  rw [e]; exact h
theorem z_callV (C : zC x g cc own ret nL fr lo) {y : MethodName} {cc' : ByteArray} {nL' : Nat} {ret' : Option FieldType} {fr' lo' idx n ci o : Nat} {as : List ZV} {v : Option ZV} {σ1 : ZS} {st' : List ZV} (hd : zd cc pc (.invokevirtual idx) 3 q) (hw : Cond.methodLink own idx y ∈ lw_gd) (hy : zYV y cc' nL' ret' n) (hT : zT x.2.1 g y cc' nL' ret' fr' lo' (zr o :: as) σ v σ1)
    (hc : zYC y ci) (ho : zsh o = ci + 1) (hn : as.length = n) (hst : as.reverse ++ zr o :: st = st') (hrm : (st.map fun v => if zlong (some v) = true then 2 else 1).sum ≤ 8) (hR : fr' + 1 ≤ fr ∧ 8 + (nL' + 11) + lo' ≤ lo) (hk : kc ≤ x.2.2.2.1.cells ∧ ks ≤ x.2.2.2.1.slots)
    (K : zw x g nL kc ks Q σ1 q L (v.toList ++ st)) : zw x g nL kc ks Q σ pc L st' := by
  obtain ⟨d, rfl⟩ := hd
  subst hst
  obtain ⟨h2, T, N, hc⟩ := hc
  obtain ⟨⟨y1, y2, y3, y4⟩, y5, y6⟩ := hy
  intro H locs ls hP hS hl
  have hts := C.2.2.2.2.2.1
  refine z_ran hS hl (va_runV (b := g.1 + o) (As := as.map (zval g)) (n := n) ⟨C.1, C.2.1, C.2.2.2.1, C.2.2.2.2.1, hts⟩ hT ⟨⟨rfl, rfl, Nat.le_trans hR.1 C.2.2.2.2.2.2.2.1.1, Nat.le_trans hR.2 C.2.2.2.2.2.2.2.1.2, pay_in hts (fun w hw => by
      rcases List.mem_cons.mp hw with rfl | h
      · exact lw_gdIn _ y1
      · exact lw_gdIn _ h), List.mem_cons_self, hts _ y1, hts _ y2, y3, zY.params ⟨y1, y2, y3, y4⟩, hts _ hw⟩, hts _ y5, hts _ y6⟩ ⟨z_blind, ?_, fun U hU hW => ⟨by
        show (Value.ref (g.1 + o) :: as.map (zval g)).toArray = (zrv g o :: as.map (zval g)).toArray
        rw [zrv_of (by omega)], by rw [hU]; exact hP, C.2.2.2.2.2.2.2.2.go hS hU hW⟩⟩ rfl (by rw [List.length_map]; exact hn) hl.1 ?_ (lv_room (z_room hrm)) d hk) K
  · obtain ⟨p0, hp⟩ := zP_at (g := g) (σ := σ) (o := o) (by omega)
    rw [zen_obj ho h2] at hp
    exact va_recv C.2.2.2.2.2.2.2.2.1 hP hc hp
  · show (as.reverse ++ zr o :: st).map (zval g) = _
    rw [List.map_append, List.map_reverse, List.map_cons]
    show _ ++ zrv g o :: _ = _
    rw [zrv_of (by omega)]
theorem z_callS (C : zC x g cc own ret nL fr lo) {y : MethodName} {cc' : ByteArray} {nL' : Nat} {ret' : Option FieldType} {fr' lo' idx n : Nat} {as : List ZV} {v : Option ZV} {σ1 : ZS} {st' : List ZV} (hd : zd cc pc (.invokestatic idx) 3 q) (hw : Cond.methodLink own idx y ∈ lw_gd) (hy : zYS y cc' nL' ret' n) (hT : zT x.2.1 g y cc' nL' ret' fr' lo' as σ v σ1)
    (hn : as.length = n) (hst : as.reverse ++ st = st') (hrm : (st.map fun v => if zlong (some v) = true then 2 else 1).sum ≤ 8) (hR : fr' + 1 ≤ fr ∧ 8 + (nL' + 11) + lo' ≤ lo) (hk : kc ≤ x.2.2.2.1.cells ∧ ks ≤ x.2.2.2.1.slots)
    (K : zw x g nL kc ks Q σ1 q L (v.toList ++ st)) : zw x g nL kc ks Q σ pc L st' := by
  obtain ⟨d, rfl⟩ := hd
  subst hst
  obtain ⟨⟨y1, y2, y3, y4⟩, y5⟩ := hy
  intro H locs ls hP hS hl
  have hts := C.2.2.2.2.2.1
  refine z_ran hS hl (va_runS (As := as.map (zval g)) (n := n) ⟨C.1, C.2.1, C.2.2.2.1, C.2.2.2.2.1, hts⟩ hT ⟨⟨rfl, rfl, Nat.le_trans hR.1 C.2.2.2.2.2.2.2.1.1, Nat.le_trans hR.2 C.2.2.2.2.2.2.2.1.2, pay_in hts (fun w hw => by
      rcases List.mem_cons.mp hw with rfl | h
      · exact lw_gdIn _ y1
      · exact lw_gdIn _ h), List.mem_cons_self, hts _ y1, hts _ y2, y3, zY.params ⟨y1, y2, y3, y4⟩, hts _ hw⟩, hts _ y5⟩ ⟨z_blind, fun U hU hW => ⟨rfl, by rw [hU]; exact hP, C.2.2.2.2.2.2.2.2.go hS hU hW⟩⟩ rfl (by rw [List.length_map]; exact hn) hl.1 ?_ (lv_room (z_room hrm)) d hk) K
  show (as.reverse ++ st).map (zval g) = _
  rw [List.map_append, List.map_reverse]
theorem z_callSN (C : zC x g cc own ret nL fr lo) {y : MethodName} {host : String} {cc' : ByteArray} {nL' : Nat} {ret' : Option FieldType} {fr' lo' idx n : Nat} {as : List ZV} {v : Option ZV} {σ1 : ZS} {st' : List ZV} (hd : zd cc pc (.invokestatic idx) 3 q) (hw : Cond.methodLinkNest own idx y host ∈ lw_tbl) (hy : zYS y cc' nL' ret' n) (hT : zT x.2.1 g y cc' nL' ret' fr' lo' as σ v σ1)
    (hn : as.length = n) (hst : as.reverse ++ st = st') (hrm : (st.map fun v => if zlong (some v) = true then 2 else 1).sum ≤ 8) (hR : fr' + 1 ≤ fr ∧ 8 + (nL' + 11) + lo' ≤ lo) (hk : kc ≤ x.2.2.2.1.cells ∧ ks ≤ x.2.2.2.1.slots)
    (K : zw x g nL kc ks Q σ1 q L (v.toList ++ st)) : zw x g nL kc ks Q σ pc L st' := by
  obtain ⟨d, rfl⟩ := hd
  subst hst
  obtain ⟨⟨y1, y2, y3, y4⟩, y5⟩ := hy
  intro H locs ls hP hS hl
  have hts := C.2.2.2.2.2.1
  refine z_ran hS hl (va_runSN (As := as.map (zval g)) (n := n) ⟨C.1, C.2.1, C.2.2.2.1, C.2.2.2.2.1, hts⟩ hT ⟨⟨⟨rfl, rfl, Nat.le_trans hR.1 C.2.2.2.2.2.2.2.1.1, Nat.le_trans hR.2 C.2.2.2.2.2.2.2.1.2, pay_in hts (fun w hw => by
      rcases List.mem_cons.mp hw with rfl | h
      · exact lw_gdIn _ y1
      · exact lw_gdIn _ h), List.mem_cons_self⟩, hts _ y1, hts _ y2, y3, zY.params ⟨y1, y2, y3, y4⟩, va_Nw.use rfl (C.2.2.2.2.2.2.2.2.2.2.1 _ hw rfl)⟩, hts _ y5, trivial⟩ ⟨z_blind, fun U hU hW => ⟨rfl, by rw [hU]; exact hP, C.2.2.2.2.2.2.2.2.go hS hU hW⟩⟩ rfl (by rw [List.length_map]; exact hn) hl.1 ?_ (lv_room (z_room hrm)) d hk) K
  show (as.reverse ++ st).map (zval g) = _
  rw [List.map_append, List.map_reverse]
/-! the JDK's -/
theorem z_max (C : zC x g cc own ret nL fr lo) {idx : Nat} {a b : Int32} (hd : zd cc pc (.invokestatic idx) 3 q) (hw : Cond.methodLink own idx Lib.Math.max.name ∈ lw_gd) (hrm : (st.map fun v => if zlong (some v) = true then 2 else 1).sum ≤ 8) (hR : 1 ≤ fr ∧ 21 ≤ lo) (hk : kc ≤ x.2.2.2.1.cells ∧ ks ≤ x.2.2.2.1.slots) (hmx : Cond.static Lib.Math.max.name ∈ lw_gd ∧ Cond.initialized "java/lang/Math" ∈ lw_gd ∧ Cond.code Lib.Math.max.name Lib.Math.max.code 2 (some .int) ∈ lw_gd)
    (K : zw x g nL kc ks Q σ q L (zi (if a < b then b else a) :: st)) : zw x g nL kc ks Q σ pc L (zi b :: zi a :: st) := by
  obtain ⟨d, rfl⟩ := hd
  have hts := C.2.2.2.2.2.1
  have hrm2 := z_room (g := g) hrm
  exact fun H locs ls hP hS hl => va_mmax C.1 C.2.1 (C.2.2.2.1.trans hl.1.symm) C.2.2.2.2.1 (hts _ hw) (hts _ hmx.1) (hts _ hmx.2.1) (hts _ hmx.2.2) (Nat.le_trans hR.1 C.2.2.2.2.2.2.2.1.1) (Nat.le_trans (by omega) C.2.2.2.2.2.2.2.1.2) hk.1 hk.2 d (K H locs ls hP hS hl)
theorem z_min (C : zC x g cc own ret nL fr lo) {idx : Nat} {a b : Int32} (hd : zd cc pc (.invokestatic idx) 3 q) (hw : Cond.methodLink own idx Lib.Math.min.name ∈ lw_gd) (hrm : (st.map fun v => if zlong (some v) = true then 2 else 1).sum ≤ 8) (hR : 1 ≤ fr ∧ 21 ≤ lo) (hk : kc ≤ x.2.2.2.1.cells ∧ ks ≤ x.2.2.2.1.slots) (hmx : Cond.static Lib.Math.min.name ∈ lw_gd ∧ Cond.initialized "java/lang/Math" ∈ lw_gd ∧ Cond.code Lib.Math.min.name Lib.Math.min.code 2 (some .int) ∈ lw_gd)
    (K : zw x g nL kc ks Q σ q L (zi (if b < a then b else a) :: st)) : zw x g nL kc ks Q σ pc L (zi b :: zi a :: st) := by
  obtain ⟨d, rfl⟩ := hd
  have hts := C.2.2.2.2.2.1
  have hrm2 := z_room (g := g) hrm
  exact fun H locs ls hP hS hl => va_mmin C.1 C.2.1 (C.2.2.2.1.trans hl.1.symm) C.2.2.2.2.1 (hts _ hw) (hts _ hmx.1) (hts _ hmx.2.1) (hts _ hmx.2.2) (Nat.le_trans hR.1 C.2.2.2.2.2.2.2.1.1) (Nat.le_trans (by omega) C.2.2.2.2.2.2.2.1.2) hk.1 hk.2 d (K H locs ls hP hS hl)
theorem z_copy (C : zC x g cc own ret nL fr lo) {idx o0 o1 n0 n1 : Nat} {sp dp n : Int32} (hd : zd cc pc (.invokestatic idx) 3 q) (hw : Cond.methodLink own idx arraycopyName ∈ lw_gd) (hmx : Cond.native arraycopyName ∈ lw_gd ∧ Cond.static arraycopyName ∈ lw_gd ∧ Cond.initialized "java/lang/System" ∈ lw_gd) (ho0 : zsh o0 = 15) (hn0 : zln o0 = n0) (ho1 : zsh o1 = 15) (hn1 : zln o1 = n1)
    (h1 : 0 ≤ sp.toInt ∧ 0 ≤ dp.toInt ∧ 0 ≤ n.toInt ∧ sp.toInt + n.toInt ≤ n0 ∧ dp.toInt + n.toInt ≤ n1) (hR : 1 ≤ fr ∧ 40 ≤ lo) (hrm : (st.map fun v => if zlong (some v) = true then 2 else 1).sum ≤ 8)
    {σ1 : ZS} (he : σ1 = zurow σ o1 (va_cpy (σ o0) (σ o1) sp.toNatClampNeg dp.toNatClampNeg n.toNatClampNeg)) (K : zw x g nL kc ks Q σ1 q L st) : zw x g nL kc ks Q σ pc L (zi n :: zi dp :: zr o1 :: zi sp :: zr o0 :: st) := by
  subst he
  obtain ⟨d, rfl⟩ := hd
  have hts := C.2.2.2.2.2.1
  have hrm2 := z_room (g := g) hrm
  intro H locs ls hP hS hl
  show W _ _ _ _ _ _ _ _ _ _ _ _ _ _ _ (F0 _ _ _ (.int n :: .int dp :: zrv g o1 :: .int sp :: zrv g o0 :: st.map (zval g)))
  rw [zrv_of (o := o0) (by omega), zrv_of (o := o1) (by omega)]
  obtain ⟨p0, hp0⟩ := zP_at (g := g) (σ := σ) (o := o0) (by omega)
  obtain ⟨p1, hp1⟩ := zP_at (g := g) (σ := σ) (o := o1) (by omega)
  have hp2 := hp1
  rw [zen_arr ho0 hn0] at hp0
  rw [zen_arr ho1 hn1] at hp1
  have neg : ∀ z : Int32, 0 ≤ z.toInt → ¬ z < 0 := fun z hz h => by
    have := Int32.lt_iff_toInt_lt.mp h
    simp at this
    omega
  have cl : ∀ z : Int32, z.toNatClampNeg = z.toInt.toNat := fun z => rfl
  refine va_copyi C.1 C.2.1 (C.2.2.2.1.trans hl.1.symm) C.2.2.2.2.1 (hts _ hw) (hts _ hmx.1) (hts _ hmx.2.1) (hts _ hmx.2.2) C.2.2.2.2.2.2.2.2.1 hP (zD _) hS p0 p1 0 0 hp0 hp1 rfl rfl rfl (neg _ h1.1) (neg _ h1.2.1) (neg _ h1.2.2.1) (by rw [cl, cl]; omega) (by rw [cl, cl]; omega) (fun _ _ => rfl) (Nat.le_trans hR.1 C.2.2.2.2.2.2.2.1.1) (Nat.le_trans (Nat.le_trans (Nat.add_le_add_right hrm2 _) (Nat.le_trans (by decide) hR.2)) C.2.2.2.2.2.2.2.1.2) d fun H1 locs1 hP1 _ hS1 => ?_
  refine K H1 locs1 ls (zP_set (σ' := zurow σ o1 (va_cpy (σ o0) (σ o1) sp.toNatClampNeg dp.toNatClampNeg n.toNatClampNeg)) (by omega) hp2 ?_ (fun a ha => zu_ne ha) hP1) hS1 hl
  rw [zen_arr ho1 hn1]
  exact congrArg (fun f => (Sum.inl (g.2.2.1 0, n1, .inl f) : va_E)) zu_row
theorem z_callVi (C : zC x g cc own ret nL fr lo) {y : MethodName} {cc' : ByteArray} {nL' : Nat} {ret' : Option FieldType} {fr' lo' idx n ci o : Nat} {as : List ZV} {rr : Int32} {σ1 : ZS} {st' : List ZV} (hd : zd cc pc (.invokevirtual idx) 3 q) (hw : Cond.methodLink own idx y ∈ lw_gd) (hy : zYV y cc' nL' ret' n) (hT : zT x.2.1 g y cc' nL' ret' fr' lo' (zr o :: as) σ (some (zi rr)) σ1)
    (hc : zYC y ci) (ho : zsh o = ci + 1) (hn : as.length = n) (hst : as.reverse ++ zr o :: st = st') (hrm : (st.map fun v => if zlong (some v) = true then 2 else 1).sum ≤ 8) (hR : fr' + 1 ≤ fr ∧ 8 + (nL' + 11) + lo' ≤ lo) (hk : kc ≤ x.2.2.2.1.cells ∧ ks ≤ x.2.2.2.1.slots)
    (K : zw x g nL kc ks Q σ1 q L (zi rr :: st)) : zw x g nL kc ks Q σ pc L st' := z_callV (v := (some (zi rr))) C hd hw hy hT hc ho hn hst hrm hR hk K
theorem z_callVr (C : zC x g cc own ret nL fr lo) {y : MethodName} {cc' : ByteArray} {nL' : Nat} {ret' : Option FieldType} {fr' lo' idx n ci o : Nat} {as : List ZV} {rr : Nat} {σ1 : ZS} {st' : List ZV} (hd : zd cc pc (.invokevirtual idx) 3 q) (hw : Cond.methodLink own idx y ∈ lw_gd) (hy : zYV y cc' nL' ret' n) (hT : zT x.2.1 g y cc' nL' ret' fr' lo' (zr o :: as) σ (some (zr rr)) σ1)
    (hc : zYC y ci) (ho : zsh o = ci + 1) (hn : as.length = n) (hst : as.reverse ++ zr o :: st = st') (hrm : (st.map fun v => if zlong (some v) = true then 2 else 1).sum ≤ 8) (hR : fr' + 1 ≤ fr ∧ 8 + (nL' + 11) + lo' ≤ lo) (hk : kc ≤ x.2.2.2.1.cells ∧ ks ≤ x.2.2.2.1.slots)
    (K : zw x g nL kc ks Q σ1 q L (zr rr :: st)) : zw x g nL kc ks Q σ pc L st' := z_callV (v := (some (zr rr))) C hd hw hy hT hc ho hn hst hrm hR hk K
theorem z_callVv (C : zC x g cc own ret nL fr lo) {y : MethodName} {cc' : ByteArray} {nL' : Nat} {ret' : Option FieldType} {fr' lo' idx n ci o : Nat} {as : List ZV}  {σ1 : ZS} {st' : List ZV} (hd : zd cc pc (.invokevirtual idx) 3 q) (hw : Cond.methodLink own idx y ∈ lw_gd) (hy : zYV y cc' nL' ret' n) (hT : zT x.2.1 g y cc' nL' ret' fr' lo' (zr o :: as) σ none σ1)
    (hc : zYC y ci) (ho : zsh o = ci + 1) (hn : as.length = n) (hst : as.reverse ++ zr o :: st = st') (hrm : (st.map fun v => if zlong (some v) = true then 2 else 1).sum ≤ 8) (hR : fr' + 1 ≤ fr ∧ 8 + (nL' + 11) + lo' ≤ lo) (hk : kc ≤ x.2.2.2.1.cells ∧ ks ≤ x.2.2.2.1.slots)
    (K : zw x g nL kc ks Q σ1 q L (st)) : zw x g nL kc ks Q σ pc L st' := z_callV (v := none) C hd hw hy hT hc ho hn hst hrm hR hk K
theorem z_callSi (C : zC x g cc own ret nL fr lo) {y : MethodName} {cc' : ByteArray} {nL' : Nat} {ret' : Option FieldType} {fr' lo' idx n : Nat} {as : List ZV} {rr : Int32} {σ1 : ZS} {st' : List ZV} (hd : zd cc pc (.invokestatic idx) 3 q) (hw : Cond.methodLink own idx y ∈ lw_gd) (hy : zYS y cc' nL' ret' n) (hT : zT x.2.1 g y cc' nL' ret' fr' lo' as σ (some (zi rr)) σ1)
    (hn : as.length = n) (hst : as.reverse ++ st = st') (hrm : (st.map fun v => if zlong (some v) = true then 2 else 1).sum ≤ 8) (hR : fr' + 1 ≤ fr ∧ 8 + (nL' + 11) + lo' ≤ lo) (hk : kc ≤ x.2.2.2.1.cells ∧ ks ≤ x.2.2.2.1.slots)
    (K : zw x g nL kc ks Q σ1 q L (zi rr :: st)) : zw x g nL kc ks Q σ pc L st' := z_callS (v := (some (zi rr))) C hd hw hy hT hn hst hrm hR hk K
theorem z_callSr (C : zC x g cc own ret nL fr lo) {y : MethodName} {cc' : ByteArray} {nL' : Nat} {ret' : Option FieldType} {fr' lo' idx n : Nat} {as : List ZV} {rr : Nat} {σ1 : ZS} {st' : List ZV} (hd : zd cc pc (.invokestatic idx) 3 q) (hw : Cond.methodLink own idx y ∈ lw_gd) (hy : zYS y cc' nL' ret' n) (hT : zT x.2.1 g y cc' nL' ret' fr' lo' as σ (some (zr rr)) σ1)
    (hn : as.length = n) (hst : as.reverse ++ st = st') (hrm : (st.map fun v => if zlong (some v) = true then 2 else 1).sum ≤ 8) (hR : fr' + 1 ≤ fr ∧ 8 + (nL' + 11) + lo' ≤ lo) (hk : kc ≤ x.2.2.2.1.cells ∧ ks ≤ x.2.2.2.1.slots)
    (K : zw x g nL kc ks Q σ1 q L (zr rr :: st)) : zw x g nL kc ks Q σ pc L st' := z_callS (v := (some (zr rr))) C hd hw hy hT hn hst hrm hR hk K
theorem z_callSv (C : zC x g cc own ret nL fr lo) {y : MethodName} {cc' : ByteArray} {nL' : Nat} {ret' : Option FieldType} {fr' lo' idx n : Nat} {as : List ZV}  {σ1 : ZS} {st' : List ZV} (hd : zd cc pc (.invokestatic idx) 3 q) (hw : Cond.methodLink own idx y ∈ lw_gd) (hy : zYS y cc' nL' ret' n) (hT : zT x.2.1 g y cc' nL' ret' fr' lo' as σ none σ1)
    (hn : as.length = n) (hst : as.reverse ++ st = st') (hrm : (st.map fun v => if zlong (some v) = true then 2 else 1).sum ≤ 8) (hR : fr' + 1 ≤ fr ∧ 8 + (nL' + 11) + lo' ≤ lo) (hk : kc ≤ x.2.2.2.1.cells ∧ ks ≤ x.2.2.2.1.slots)
    (K : zw x g nL kc ks Q σ1 q L (st)) : zw x g nL kc ks Q σ pc L st' := z_callS (v := none) C hd hw hy hT hn hst hrm hR hk K
theorem z_callSNi (C : zC x g cc own ret nL fr lo) {y : MethodName} {host : String} {cc' : ByteArray} {nL' : Nat} {ret' : Option FieldType} {fr' lo' idx n : Nat} {as : List ZV} {rr : Int32} {σ1 : ZS} {st' : List ZV} (hd : zd cc pc (.invokestatic idx) 3 q) (hw : Cond.methodLinkNest own idx y host ∈ lw_tbl) (hy : zYS y cc' nL' ret' n) (hT : zT x.2.1 g y cc' nL' ret' fr' lo' as σ (some (zi rr)) σ1)
    (hn : as.length = n) (hst : as.reverse ++ st = st') (hrm : (st.map fun v => if zlong (some v) = true then 2 else 1).sum ≤ 8) (hR : fr' + 1 ≤ fr ∧ 8 + (nL' + 11) + lo' ≤ lo) (hk : kc ≤ x.2.2.2.1.cells ∧ ks ≤ x.2.2.2.1.slots)
    (K : zw x g nL kc ks Q σ1 q L (zi rr :: st)) : zw x g nL kc ks Q σ pc L st' := z_callSN (v := (some (zi rr))) C hd hw hy hT hn hst hrm hR hk K
theorem z_callSNr (C : zC x g cc own ret nL fr lo) {y : MethodName} {host : String} {cc' : ByteArray} {nL' : Nat} {ret' : Option FieldType} {fr' lo' idx n : Nat} {as : List ZV} {rr : Nat} {σ1 : ZS} {st' : List ZV} (hd : zd cc pc (.invokestatic idx) 3 q) (hw : Cond.methodLinkNest own idx y host ∈ lw_tbl) (hy : zYS y cc' nL' ret' n) (hT : zT x.2.1 g y cc' nL' ret' fr' lo' as σ (some (zr rr)) σ1)
    (hn : as.length = n) (hst : as.reverse ++ st = st') (hrm : (st.map fun v => if zlong (some v) = true then 2 else 1).sum ≤ 8) (hR : fr' + 1 ≤ fr ∧ 8 + (nL' + 11) + lo' ≤ lo) (hk : kc ≤ x.2.2.2.1.cells ∧ ks ≤ x.2.2.2.1.slots)
    (K : zw x g nL kc ks Q σ1 q L (zr rr :: st)) : zw x g nL kc ks Q σ pc L st' := z_callSN (v := (some (zr rr))) C hd hw hy hT hn hst hrm hR hk K
theorem z_callSNv (C : zC x g cc own ret nL fr lo) {y : MethodName} {host : String} {cc' : ByteArray} {nL' : Nat} {ret' : Option FieldType} {fr' lo' idx n : Nat} {as : List ZV}  {σ1 : ZS} {st' : List ZV} (hd : zd cc pc (.invokestatic idx) 3 q) (hw : Cond.methodLinkNest own idx y host ∈ lw_tbl) (hy : zYS y cc' nL' ret' n) (hT : zT x.2.1 g y cc' nL' ret' fr' lo' as σ none σ1)
    (hn : as.length = n) (hst : as.reverse ++ st = st') (hrm : (st.map fun v => if zlong (some v) = true then 2 else 1).sum ≤ 8) (hR : fr' + 1 ≤ fr ∧ 8 + (nL' + 11) + lo' ≤ lo) (hk : kc ≤ x.2.2.2.1.cells ∧ ks ≤ x.2.2.2.1.slots)
    (K : zw x g nL kc ks Q σ1 q L (st)) : zw x g nL kc ks Q σ pc L st' := z_callSN (v := none) C hd hw hy hT hn hst hrm hR hk K
theorem z_sw0 {v : Int32} {d : Nat} (K : zw x g nL kc ks Q σ d L st) : zw x g nL kc ks Q σ (zswt [] d v) L st := K
end
/-! the shallow functions' words -/
def zput {α : Type} (s : ZS) (k : ZS → α) : α := k s
def zbd {α β : Type} (m : Option (α × ZS)) (k : α → ZS → Option β) : Option β := match m with
  | none => none
  | some z => k z.1 z.2
theorem zpx {α : Type} {s : ZS} {k : ZS → α} {r : α} (h : zput s k = r) : ∃ s' : ZS, s' = s ∧ k s' = r := ⟨s, rfl, h⟩
theorem zbx {α β : Type} {m : Option (α × ZS)} {k : α → ZS → Option β} {r : β} (h : zbd m k = some r) : ∃ (a : α) (s' : ZS), m = some (a, s') ∧ k a s' = some r := by
  cases m with
  | none => cases h
  | some z => exact ⟨z.1, z.2, rfl, h⟩
theorem zgo {α : Type} {c : Prop} {_ : Decidable c} {m : Option α} {r : α} (h : (if c then m else none) = some r) : c ∧ m = some r := by
  by_cases hc : c
  · rw [if_pos hc] at h; exact ⟨hc, h⟩
  · rw [if_neg hc] at h; cases h
theorem zit {α : Type} {c : Prop} {_ : Decidable c} {a b r : α} (hc : c) (h : (if c then a else b) = r) : a = r := by
  rw [if_pos hc] at h; exact h
theorem zie {α : Type} {c : Prop} {_ : Decidable c} {a b r : α} (hc : ¬ c) (h : (if c then a else b) = r) : b = r := by
  rw [if_neg hc] at h; exact h
theorem zn0 {o κ : Nat} (h : zsh o = κ + 1) : zsh o ≠ 0 := by omega
/-! static rows, the one text -/
section
variable {x : ZX} {g : ZG} {cc : ByteArray} {own : String} {ret : Option FieldType} {nL fr lo kc ks : Nat} {Q : State → Prop} {σ : ZS} {pc q t : Nat} {L : List (Option ZV)} {st : List ZV}
theorem z_talen (C : zC x g cc own ret nL fr lo) {ty : FieldType} {t n : Nat} {f : Nat → Value} (hT : va_T ty t n f (zA g) x.2.2.2.2.1 x.2.2.2.2.1.heap) {v : Int32} (hv : Int32.ofNat n = v) {o : Nat} (ho : zrv g o = .ref t) (hd : zd cc pc .arraylength 1 q) (K : zw x g nL kc ks Q σ q L (zi v :: st)) : zw x g nL kc ks Q σ pc L (zr o :: st) := by
  obtain ⟨d, rfl⟩ := hd
  obtain ⟨cell, h1, h2, h3, h4, h5, h6, h7⟩ := hT
  intro H locs ls hP hS hl
  show W _ _ _ _ _ _ _ _ _ _ _ _ _ _ _ (F0 _ _ _ (zrv g o :: st.map (zval g)))
  rw [ho]
  exact W.alen (n := v) C.1 C.2.1 (by rw [hS.2.1 t (Array.getElem?_eq_some_iff.mp h1).1 h7]; exact h1) h2 (by rw [h5, hv]) rfl rfl d (K H locs ls hP hS hl)
theorem z_alen0 (C : zC x g cc own ret nL fr lo) (hd : zd cc pc .arraylength 1 q) (K : zw x g nL kc ks Q σ q L (zi 7 :: st)) : zw x g nL kc ks Q σ pc L (zr 1000 :: st) := z_talen C C.2.2.2.2.2.2.2.2.2.1.1.2 rfl rfl hd K
theorem z_alen1 (C : zC x g cc own ret nL fr lo) (hd : zd cc pc .arraylength 1 q) (K : zw x g nL kc ks Q σ q L (zi 28 :: st)) : zw x g nL kc ks Q σ pc L (zr 1001 :: st) := z_talen C C.2.2.2.2.2.2.2.2.2.1.2.1.2 rfl rfl hd K
theorem z_blen (C : zC x g cc own ret nL fr lo) (hd : zd cc pc .arraylength 1 q) (K : zw x g nL kc ks Q σ q L (zi 6 :: st)) : zw x g nL kc ks Q σ pc L (zr 1003 :: st) := z_talen C (C.2.2.2.2.2.2.2.2.2.1.2.2.1.1 0 (by decide)).2.2.2 rfl rfl hd K
theorem z_bald (C : zC x g cc own ret nL fr lo) {i : Int32} (hd : zd cc pc .baload 1 q) (hi : zin i 6) (K : zw x g nL kc ks Q σ q L (zi ((zBy.getD 0 []).getD i.toNatClampNeg 0) :: st)) : zw x g nL kc ks Q σ pc L (zi i :: zr 1003 :: st) := by
  obtain ⟨d, rfl⟩ := hd
  exact fun H locs ls hP hS hl => va_tb C.1 C.2.1 (C.2.2.2.2.2.2.2.2.2.1.2.2.1.1 0 (by decide)).2.2.2 hS (zin_vp hi) rfl d (K H locs ls hP hS hl)
theorem z_strV (C : zC x g cc own ret nL fr lo) {idx : Nat} (hd : zd cc pc (.getfield idx) 3 q) (hw : Cond.fieldLink own idx "java/lang/String" "value" "[B" ∈ lw_gd) (K : zw x g nL kc ks Q σ q L (zr 1003 :: st)) : zw x g nL kc ks Q σ pc L (zr 1002 :: st) := by
  obtain ⟨d, rfl⟩ := hd
  exact fun H locs ls hP hS hl => vk_getf C.1 C.2.1 (C.2.2.2.2.2.2.2.2.2.1.2.2.1.1 0 (by decide)).2.2.1 hS C.2.2.2.2.1 (C.2.2.2.2.2.1 _ hw) (fun _ h => h) d (K H locs ls hP hS hl)
theorem z_strC (C : zC x g cc own ret nL fr lo) {idx : Nat} (hd : zd cc pc (.getfield idx) 3 q) (hw : Cond.fieldLink own idx "java/lang/String" "coder" "B" ∈ lw_gd) (K : zw x g nL kc ks Q σ q L (zi 0 :: st)) : zw x g nL kc ks Q σ pc L (zr 1002 :: st) := by
  obtain ⟨d, rfl⟩ := hd
  exact fun H locs ls hP hS hl => vk_getf C.1 C.2.1 (C.2.2.2.2.2.2.2.2.2.1.2.2.1.1 0 (by decide)).2.1 hS C.2.2.2.2.1 (C.2.2.2.2.2.1 _ hw) (fun _ h => h) d (K H locs ls hP hS hl)
theorem z_getsC (C : zC x g cc own ret nL fr lo) {idx : Nat} (hd : zd cc pc (.getstatic idx) 3 q) (hw : Cond.fieldLink own idx "java/lang/String" "COMPACT_STRINGS" "Z" ∈ lw_gd) (K : zw x g nL kc ks Q σ q L (zi 1 :: st)) : zw x g nL kc ks Q σ pc L st := by
  obtain ⟨d, rfl⟩ := hd
  exact fun H locs ls hP hS hl => va_gets C.1 C.2.1 C.2.2.2.2.2.2.2.2.2.1.2.2.2.1 hS C.2.2.2.2.1 (C.2.2.2.2.2.1 _ hw) (fun _ h => h) d (K H locs ls hP hS hl)
theorem z_getsF (C : zC x g cc own ret nL fr lo) {idx : Nat} (hd : zd cc pc (.getstatic idx) 3 q) (hw : Cond.fieldLink own idx "jdk/internal/util/Preconditions" "SIOOBE_FORMATTER" "Ljava/util/function/BiFunction;" ∈ lw_gd) (K : zw x g nL kc ks Q σ q L (zr (g.2.2.2 5) :: st)) : zw x g nL kc ks Q σ pc L st := by
  obtain ⟨d, rfl⟩ := hd
  exact fun H locs ls hP hS hl => va_gets C.1 C.2.1 C.2.2.2.2.2.2.2.2.2.1.2.2.2.2 hS C.2.2.2.2.1 (C.2.2.2.2.2.1 _ hw) (fun _ h => h) d (K H locs ls hP hS hl)
theorem z_ldcS (C : zC x g cc own ret nL fr lo) (ho : own = "GlassTax$Reader") (hd : zd cc pc (.ldc 69) 2 q) (K : zw x g nL kc ks Q σ q L (zr 1002 :: st)) : zw x g nL kc ks Q σ pc L st := by
  obtain ⟨d, rfl⟩ := hd
  subst ho
  exact fun H locs ls hP hS hl => va_ldcS C.1 C.2.1 C.2.2.2.2.1 C.2.2.2.2.2.2.2.2.2.2.2 d (K H locs ls hP hS hl)
theorem z_callT (C : zC x g cc own ret nL fr lo) {y : MethodName} {cc' : ByteArray} {nL' : Nat} {ret' : Option FieldType} {fr' lo' idx n : Nat} {as : List ZV} {v : Option ZV} {σ1 : ZS} {st' : List ZV} (hd : zd cc pc (.invokevirtual idx) 3 q) (hw : Cond.methodLink own idx y ∈ lw_gd) (hy : zYV y cc' nL' ret' n) (hcls : y.cls = "java/lang/String") (hT : zT x.2.1 g y cc' nL' ret' fr' lo' (zr 1002 :: as) σ v σ1)
    (hn : as.length = n) (hst : as.reverse ++ zr 1002 :: st = st') (hrm : (st.map fun v => if zlong (some v) = true then 2 else 1).sum ≤ 8) (hR : fr' + 1 ≤ fr ∧ 8 + (nL' + 11) + lo' ≤ lo) (hk : kc ≤ x.2.2.2.1.cells ∧ ks ≤ x.2.2.2.1.slots)
    (K : zw x g nL kc ks Q σ1 q L (v.toList ++ st)) : zw x g nL kc ks Q σ pc L st' := by
  obtain ⟨d, rfl⟩ := hd
  subst hst
  obtain ⟨⟨y1, y2, y3, y4⟩, y5, y6⟩ := hy
  intro H locs ls hP hS hl
  have hts := C.2.2.2.2.2.1
  refine z_ran hS hl (va_runV (b := g.2.2.2 2) (As := as.map (zval g)) (n := n) ⟨C.1, C.2.1, C.2.2.2.1, C.2.2.2.2.1, hts⟩ hT ⟨⟨rfl, rfl, Nat.le_trans hR.1 C.2.2.2.2.2.2.2.1.1, Nat.le_trans hR.2 C.2.2.2.2.2.2.2.1.2, pay_in hts (fun w hw => by
      rcases List.mem_cons.mp hw with rfl | h
      · exact lw_gdIn _ y1
      · exact lw_gdIn _ h), List.mem_cons_self, hts _ y1, hts _ y2, y3, zY.params ⟨y1, y2, y3, y4⟩, hts _ hw⟩, hts _ y5, hts _ y6⟩ ⟨z_blind, ?_, fun U hU hW => ⟨rfl, by rw [hU]; exact hP, C.2.2.2.2.2.2.2.2.go hS hU hW⟩⟩ rfl (by rw [List.length_map]; exact hn) hl.1 ?_ (lv_room (z_room hrm)) d hk) K
  · rw [hcls]
    exact vk_recv C.2.2.2.2.2.2.2.2.2.1.2.2.1 (i := 0) (by decide) hS
  · show (as.reverse ++ zr 1002 :: st).map (zval g) = _
    rw [List.map_append, List.map_reverse, List.map_cons]
    rfl
theorem z_callTi (C : zC x g cc own ret nL fr lo) {y : MethodName} {cc' : ByteArray} {nL' : Nat} {ret' : Option FieldType} {fr' lo' idx n : Nat} {as : List ZV} {rr : Int32} {σ1 : ZS} {st' : List ZV} (hd : zd cc pc (.invokevirtual idx) 3 q) (hw : Cond.methodLink own idx y ∈ lw_gd) (hy : zYV y cc' nL' ret' n) (hcls : y.cls = "java/lang/String") (hT : zT x.2.1 g y cc' nL' ret' fr' lo' (zr 1002 :: as) σ (some (zi rr)) σ1)
    (hn : as.length = n) (hst : as.reverse ++ zr 1002 :: st = st') (hrm : (st.map fun v => if zlong (some v) = true then 2 else 1).sum ≤ 8) (hR : fr' + 1 ≤ fr ∧ 8 + (nL' + 11) + lo' ≤ lo) (hk : kc ≤ x.2.2.2.1.cells ∧ ks ≤ x.2.2.2.1.slots)
    (K : zw x g nL kc ks Q σ1 q L (zi rr :: st)) : zw x g nL kc ks Q σ pc L st' := z_callT (v := some (zi rr)) C hd hw hy hcls hT hn hst hrm hR hk K
end
end
section
/-! words, field facts, constants, shapes (printed by wip/whole/gen/build_parts.py) -/
def RJA : String := "java/util/Arrays"
def RJS : String := "java/lang/String"
def RJL : String := "java/lang/StringLatin1"
def RJP : String := "jdk/internal/util/Preconditions"
theorem zmaxw : Cond.static Lib.Math.max.name ∈ lw_gd ∧ Cond.initialized "java/lang/Math" ∈ lw_gd ∧ Cond.code Lib.Math.max.name Lib.Math.max.code 2 (some .int) ∈ lw_gd := ⟨zwd 447 (by decide +kernel) rfl, zwd 12 (by decide +kernel) rfl, zwd 448 (by decide +kernel) rfl⟩
theorem zminw : Cond.static Lib.Math.min.name ∈ lw_gd ∧ Cond.initialized "java/lang/Math" ∈ lw_gd ∧ Cond.code Lib.Math.min.name Lib.Math.min.code 2 (some .int) ∈ lw_gd := ⟨zwd 444 (by decide +kernel) rfl, zwd 12 (by decide +kernel) rfl, zwd 445 (by decide +kernel) rfl⟩
theorem zcopyw : Cond.native arraycopyName ∈ lw_gd ∧ Cond.static arraycopyName ∈ lw_gd ∧ Cond.initialized "java/lang/System" ∈ lw_gd := ⟨zwd 569 (by decide +kernel) rfl, zwd 568 (by decide +kernel) rfl, zwd 17 (by decide +kernel) rfl⟩
theorem zshape {κ : Nat} {p : Nat → Prop} (hd : ∀ t, t < 119 → zsh t = κ → p t) (h0 : κ ≠ 0) {t : Nat} (h : zsh t = κ) : p t := hd t (zsh_lt (by omega)).2 h
theorem zelem {n : Nat} {i : Int32} {κ : Nat} {p : Nat → Nat → Prop} (hd : ∀ t, t < 119 → zsh t = κ → ∀ j, j < n → p t j) (hi : zin i n) : ∀ t, t < 119 → zsh t = κ → p t i.toNatClampNeg := fun t ht h => hd t ht h _ (by
  have : i.toNatClampNeg = i.toInt.toNat := rfl
  omega)
-- methods
abbrev b8_error : ByteArray := prog_1_method_42_code
def y8_error : MethodName := ⟨R8, "error", "(I)I"⟩
theorem yy8_error : zYV y8_error b8_error 2 (some .int) 1 := ⟨⟨(zwd 311 (by decide +kernel) rfl), (zwd 1 (by decide +kernel) rfl), ⟨by decide +kernel, by decide +kernel⟩, by decide +kernel⟩, (zwd 310 (by decide +kernel) rfl), (zws 0 (by decide +kernel) rfl)⟩
theorem yc8_error : zYC y8_error 8 := ⟨by decide, T8, 11, rfl⟩
abbrev b0_isOne : ByteArray := prog_2_method_3_code
def y0_isOne : MethodName := ⟨R0, "isOne", "(I)Z"⟩
theorem yy0_isOne : zYV y0_isOne b0_isOne 4 (some .boolean) 1 := ⟨⟨(zwd 368 (by decide +kernel) rfl), (zwd 4 (by decide +kernel) rfl), ⟨by decide +kernel, by decide +kernel⟩, by decide +kernel⟩, (zwd 366 (by decide +kernel) rfl), (zwd 367 (by decide +kernel) rfl)⟩
theorem yc0_isOne : zYC y0_isOne 0 := ⟨by decide, T0, 5, rfl⟩
abbrev b5_glassOf : ByteArray := prog_7_method_3_code
def y5_glassOf : MethodName := ⟨R5, "glassOf", "(I)LGlassTax$Glass;"⟩
theorem yy5_glassOf : zYV y5_glassOf b5_glassOf 2 (some (.object "GlassTax$Glass")) 1 := ⟨⟨(zwd 324 (by decide +kernel) rfl), (zwd 2 (by decide +kernel) rfl), ⟨by decide +kernel, by decide +kernel⟩, by decide +kernel⟩, (zwd 322 (by decide +kernel) rfl), (zwd 323 (by decide +kernel) rfl)⟩
theorem yc5_glassOf : zYC y5_glassOf 5 := ⟨by decide, T5, 12, rfl⟩
abbrev b8_as : ByteArray := prog_1_method_6_code
def y8_as : MethodName := ⟨R8, "as", "(II)I"⟩
theorem yy8_as : zYV y8_as b8_as 4 (some .int) 2 := ⟨⟨(zwd 364 (by decide +kernel) rfl), (zwd 1 (by decide +kernel) rfl), ⟨by decide +kernel, by decide +kernel⟩, by decide +kernel⟩, (zwd 362 (by decide +kernel) rfl), (zwd 363 (by decide +kernel) rfl)⟩
theorem yc8_as : zYC y8_as 8 := ⟨by decide, T8, 11, rfl⟩
abbrev b8_isNoCell : ByteArray := prog_1_method_45_code
def y8_isNoCell : MethodName := ⟨R8, "isNoCell", "(I)Z"⟩
theorem yy8_isNoCell : zYS y8_isNoCell b8_isNoCell 1 (some .boolean) 1 := ⟨⟨(zwd 304 (by decide +kernel) rfl), (zwd 1 (by decide +kernel) rfl), ⟨by decide +kernel, by decide +kernel⟩, by decide +kernel⟩, (zwd 303 (by decide +kernel) rfl)⟩
abbrev b8_isNoWay : ByteArray := prog_1_method_46_code
def y8_isNoWay : MethodName := ⟨R8, "isNoWay", "(I)Z"⟩
theorem yy8_isNoWay : zYS y8_isNoWay b8_isNoWay 1 (some .boolean) 1 := ⟨⟨(zwd 341 (by decide +kernel) rfl), (zwd 1 (by decide +kernel) rfl), ⟨by decide +kernel, by decide +kernel⟩, by decide +kernel⟩, (zwd 340 (by decide +kernel) rfl)⟩
abbrev b1_cellAt : ByteArray := prog_3_method_6_code
def y1_cellAt : MethodName := ⟨R1, "cellAt", "(I)I"⟩
theorem yy1_cellAt : zYV y1_cellAt b1_cellAt 2 (some .int) 1 := ⟨⟨(zwd 620 (by decide +kernel) rfl), (zwd 7 (by decide +kernel) rfl), ⟨by decide +kernel, by decide +kernel⟩, by decide +kernel⟩, (zwd 618 (by decide +kernel) rfl), (zwd 619 (by decide +kernel) rfl)⟩
theorem yc1_cellAt : zYC y1_cellAt 1 := ⟨by decide, T1, 5, rfl⟩
abbrev b0_roundFrom : ByteArray := prog_2_method_6_code
def y0_roundFrom : MethodName := ⟨R0, "roundFrom", "(I)I"⟩
theorem yy0_roundFrom : zYS y0_roundFrom b0_roundFrom 1 (some .int) 1 := ⟨⟨(zwd 356 (by decide +kernel) rfl), (zwd 4 (by decide +kernel) rfl), ⟨by decide +kernel, by decide +kernel⟩, by decide +kernel⟩, (zwd 355 (by decide +kernel) rfl)⟩
abbrev b0_byTurn : ByteArray := prog_2_method_5_code
def y0_byTurn : MethodName := ⟨R0, "byTurn", "(I)I"⟩
theorem yy0_byTurn : zYV y0_byTurn b0_byTurn 2 (some .int) 1 := ⟨⟨(zwd 353 (by decide +kernel) rfl), (zwd 4 (by decide +kernel) rfl), ⟨by decide +kernel, by decide +kernel⟩, by decide +kernel⟩, (zwd 352 (by decide +kernel) rfl), (zws 1 (by decide +kernel) rfl)⟩
theorem yc0_byTurn : zYC y0_byTurn 0 := ⟨by decide, T0, 5, rfl⟩
abbrev b0_onward : ByteArray := prog_2_method_4_code
def y0_onward : MethodName := ⟨R0, "onward", "(IZ)I"⟩
theorem yy0_onward : zYV y0_onward b0_onward 3 (some .int) 2 := ⟨⟨(zwd 349 (by decide +kernel) rfl), (zwd 4 (by decide +kernel) rfl), ⟨by decide +kernel, by decide +kernel⟩, by decide +kernel⟩, (zwd 347 (by decide +kernel) rfl), (zwd 348 (by decide +kernel) rfl)⟩
theorem yc0_onward : zYC y0_onward 0 := ⟨by decide, T0, 5, rfl⟩
abbrev b1_enter : ByteArray := prog_3_method_3_code
def y1_enter : MethodName := ⟨R1, "enter", "(I)V"⟩
theorem yy1_enter : zYV y1_enter b1_enter 2 none 1 := ⟨⟨(zwd 409 (by decide +kernel) rfl), (zwd 7 (by decide +kernel) rfl), ⟨by decide +kernel, by decide +kernel⟩, by decide +kernel⟩, (zwd 408 (by decide +kernel) rfl), (zws 2 (by decide +kernel) rfl)⟩
theorem yc1_enter : zYC y1_enter 1 := ⟨by decide, T1, 5, rfl⟩
abbrev b1_meet : ByteArray := prog_3_method_4_code
def y1_meet : MethodName := ⟨R1, "meet", "(I)V"⟩
theorem yy1_meet : zYV y1_meet b1_meet 2 none 1 := ⟨⟨(zwd 419 (by decide +kernel) rfl), (zwd 7 (by decide +kernel) rfl), ⟨by decide +kernel, by decide +kernel⟩, by decide +kernel⟩, (zwd 418 (by decide +kernel) rfl), (zws 3 (by decide +kernel) rfl)⟩
theorem yc1_meet : zYC y1_meet 1 := ⟨by decide, T1, 5, rfl⟩
abbrev b1_nextCell : ByteArray := prog_3_method_5_code
def y1_nextCell : MethodName := ⟨R1, "nextCell", "(II)I"⟩
theorem yy1_nextCell : zYS y1_nextCell b1_nextCell 2 (some .int) 2 := ⟨⟨(zwd 412 (by decide +kernel) rfl), (zwd 7 (by decide +kernel) rfl), ⟨by decide +kernel, by decide +kernel⟩, by decide +kernel⟩, (zwd 411 (by decide +kernel) rfl)⟩
abbrev b5_glassAt : ByteArray := prog_7_method_6_code
def y5_glassAt : MethodName := ⟨R5, "glassAt", "(I)I"⟩
theorem yy5_glassAt : zYV y5_glassAt b5_glassAt 2 (some .int) 1 := ⟨⟨(zwd 316 (by decide +kernel) rfl), (zwd 2 (by decide +kernel) rfl), ⟨by decide +kernel, by decide +kernel⟩, by decide +kernel⟩, (zwd 314 (by decide +kernel) rfl), (zwd 315 (by decide +kernel) rfl)⟩
theorem yc5_glassAt : zYC y5_glassAt 5 := ⟨by decide, T5, 12, rfl⟩
abbrev b5_isNight : ByteArray := prog_7_method_13_code
def y5_isNight : MethodName := ⟨R5, "isNight", "()Z"⟩
theorem yy5_isNight : zYV y5_isNight b5_isNight 1 (some .boolean) 0 := ⟨⟨(zwd 345 (by decide +kernel) rfl), (zwd 2 (by decide +kernel) rfl), ⟨by decide +kernel, by decide +kernel⟩, by decide +kernel⟩, (zwd 343 (by decide +kernel) rfl), (zwd 344 (by decide +kernel) rfl)⟩
theorem yc5_isNight : zYC y5_isNight 5 := ⟨by decide, T5, 12, rfl⟩
abbrev b1_follow : ByteArray := prog_3_method_2_code
def y1_follow : MethodName := ⟨R1, "follow", "(LGlassTax$Street;II)V"⟩
theorem yy1_follow : zYV y1_follow b1_follow 11 none 3 := ⟨⟨(zwd 404 (by decide +kernel) rfl), (zwd 7 (by decide +kernel) rfl), ⟨by decide +kernel, by decide +kernel⟩, by decide +kernel⟩, (zwd 402 (by decide +kernel) rfl), (zwd 403 (by decide +kernel) rfl)⟩
theorem yc1_follow : zYC y1_follow 1 := ⟨by decide, T1, 5, rfl⟩
abbrev b8_at : ByteArray := prog_1_method_22_code
def y8_at : MethodName := ⟨R8, "at", "(III)I"⟩
theorem yy8_at : zYV y8_at b8_at 4 (some .int) 3 := ⟨⟨(zwd 624 (by decide +kernel) rfl), (zwd 1 (by decide +kernel) rfl), ⟨by decide +kernel, by decide +kernel⟩, by decide +kernel⟩, (zwd 622 (by decide +kernel) rfl), (zwd 623 (by decide +kernel) rfl)⟩
theorem yc8_at : zYC y8_at 8 := ⟨by decide, T8, 11, rfl⟩
abbrev b8_isNoKm : ByteArray := prog_1_method_48_code
def y8_isNoKm : MethodName := ⟨R8, "isNoKm", "(I)Z"⟩
theorem yy8_isNoKm : zYS y8_isNoKm b8_isNoKm 1 (some .boolean) 1 := ⟨⟨(zwd 301 (by decide +kernel) rfl), (zwd 1 (by decide +kernel) rfl), ⟨by decide +kernel, by decide +kernel⟩, by decide +kernel⟩, (zwd 300 (by decide +kernel) rfl)⟩
abbrev b8_become : ByteArray := prog_1_method_5_code
def y8_become : MethodName := ⟨R8, "become", "(II)I"⟩
theorem yy8_become : zYV y8_become b8_become 5 (some .int) 2 := ⟨⟨(zwd 360 (by decide +kernel) rfl), (zwd 1 (by decide +kernel) rfl), ⟨by decide +kernel, by decide +kernel⟩, by decide +kernel⟩, (zwd 358 (by decide +kernel) rfl), (zwd 359 (by decide +kernel) rfl)⟩
theorem yc8_become : zYC y8_become 8 := ⟨by decide, T8, 11, rfl⟩
abbrev b7_tracedAt : ByteArray := prog_9_method_3_code
def y7_tracedAt : MethodName := ⟨R7, "tracedAt", "(I)I"⟩
theorem yy7_tracedAt : zYV y7_tracedAt b7_tracedAt 2 (some .int) 1 := ⟨⟨(zwd 744 (by decide +kernel) rfl), (zwd 9 (by decide +kernel) rfl), ⟨by decide +kernel, by decide +kernel⟩, by decide +kernel⟩, (zwd 742 (by decide +kernel) rfl), (zwd 743 (by decide +kernel) rfl)⟩
theorem yc7_tracedAt : zYC y7_tracedAt 7 := ⟨by decide, T7, 6, rfl⟩
abbrev b8_body : ByteArray := prog_1_method_30_code
def y8_body : MethodName := ⟨R8, "body", "(I)I"⟩
theorem yy8_body : zYV y8_body b8_body 2 (some .int) 1 := ⟨⟨(zwd 740 (by decide +kernel) rfl), (zwd 1 (by decide +kernel) rfl), ⟨by decide +kernel, by decide +kernel⟩, by decide +kernel⟩, (zwd 738 (by decide +kernel) rfl), (zwd 739 (by decide +kernel) rfl)⟩
theorem yc8_body : zYC y8_body 8 := ⟨by decide, T8, 11, rfl⟩
abbrev b5_personOf : ByteArray := prog_7_method_4_code
def y5_personOf : MethodName := ⟨R5, "personOf", "(I)LGlassTax$Person;"⟩
theorem yy5_personOf : zYV y5_personOf b5_personOf 2 (some (.object "GlassTax$Person")) 1 := ⟨⟨(zwd 391 (by decide +kernel) rfl), (zwd 2 (by decide +kernel) rfl), ⟨by decide +kernel, by decide +kernel⟩, by decide +kernel⟩, (zwd 389 (by decide +kernel) rfl), (zwd 390 (by decide +kernel) rfl)⟩
theorem yc5_personOf : zYC y5_personOf 5 := ⟨by decide, T5, 12, rfl⟩
abbrev b5_waitingAt : ByteArray := prog_7_method_12_code
def y5_waitingAt : MethodName := ⟨R5, "waitingAt", "(I)I"⟩
theorem yy5_waitingAt : zYV y5_waitingAt b5_waitingAt 2 (some .int) 1 := ⟨⟨(zwd 802 (by decide +kernel) rfl), (zwd 2 (by decide +kernel) rfl), ⟨by decide +kernel, by decide +kernel⟩, by decide +kernel⟩, (zwd 800 (by decide +kernel) rfl), (zwd 801 (by decide +kernel) rfl)⟩
theorem yc5_waitingAt : zYC y5_waitingAt 5 := ⟨by decide, T5, 12, rfl⟩
abbrev b8_check : ByteArray := prog_1_method_39_code
def y8_check : MethodName := ⟨R8, "check", "()I"⟩
theorem yy8_check : zYV y8_check b8_check 4 (some .int) 0 := ⟨⟨(zwd 798 (by decide +kernel) rfl), (zwd 1 (by decide +kernel) rfl), ⟨by decide +kernel, by decide +kernel⟩, by decide +kernel⟩, (zwd 796 (by decide +kernel) rfl), (zwd 797 (by decide +kernel) rfl)⟩
theorem yc8_check : zYC y8_check 8 := ⟨by decide, T8, 11, rfl⟩
abbrev b8_count : ByteArray := prog_1_method_40_code
def y8_count : MethodName := ⟨R8, "count", "(I)I"⟩
theorem yy8_count : zYV y8_count b8_count 2 (some .int) 1 := ⟨⟨(zwd 806 (by decide +kernel) rfl), (zwd 1 (by decide +kernel) rfl), ⟨by decide +kernel, by decide +kernel⟩, by decide +kernel⟩, (zwd 804 (by decide +kernel) rfl), (zwd 805 (by decide +kernel) rfl)⟩
theorem yc8_count : zYC y8_count 8 := ⟨by decide, T8, 11, rfl⟩
abbrev b5_addByte : ByteArray := prog_7_method_10_code
def y5_addByte : MethodName := ⟨R5, "addByte", "(I)V"⟩
theorem yy5_addByte : zYV y5_addByte b5_addByte 2 none 1 := ⟨⟨(zwd 470 (by decide +kernel) rfl), (zwd 2 (by decide +kernel) rfl), ⟨by decide +kernel, by decide +kernel⟩, by decide +kernel⟩, (zwd 468 (by decide +kernel) rfl), (zwd 469 (by decide +kernel) rfl)⟩
theorem yc5_addByte : zYC y5_addByte 5 := ⟨by decide, T5, 12, rfl⟩
abbrev b8_feed : ByteArray := prog_1_method_14_code
def y8_feed : MethodName := ⟨R8, "feed", "(JI)I"⟩
theorem yy8_feed : zYV y8_feed b8_feed 5 (some .int) 2 := ⟨⟨(zwd 466 (by decide +kernel) rfl), (zwd 1 (by decide +kernel) rfl), ⟨by decide +kernel, by decide +kernel⟩, by decide +kernel⟩, (zwd 464 (by decide +kernel) rfl), (zwd 465 (by decide +kernel) rfl)⟩
theorem yc8_feed : zYC y8_feed 8 := ⟨by decide, T8, 11, rfl⟩
abbrev b8_writeSpin : ByteArray := prog_1_method_53_code
def y8_writeSpin : MethodName := ⟨R8, "writeSpin", "(III)V"⟩
theorem yy8_writeSpin : zYV y8_writeSpin b8_writeSpin 4 none 3 := ⟨⟨(zwd 674 (by decide +kernel) rfl), (zwd 1 (by decide +kernel) rfl), ⟨by decide +kernel, by decide +kernel⟩, by decide +kernel⟩, (zwd 673 (by decide +kernel) rfl), (zws 15 (by decide +kernel) rfl)⟩
theorem yc8_writeSpin : zYC y8_writeSpin 8 := ⟨by decide, T8, 11, rfl⟩
abbrev b1_seesCell : ByteArray := prog_3_method_8_code
def y1_seesCell : MethodName := ⟨R1, "seesCell", "(I)Z"⟩
theorem yy1_seesCell : zYV y1_seesCell b1_seesCell 3 (some .boolean) 1 := ⟨⟨(zwd 632 (by decide +kernel) rfl), (zwd 7 (by decide +kernel) rfl), ⟨by decide +kernel, by decide +kernel⟩, by decide +kernel⟩, (zwd 630 (by decide +kernel) rfl), (zwd 631 (by decide +kernel) rfl)⟩
theorem yc1_seesCell : zYC y1_seesCell 1 := ⟨by decide, T1, 5, rfl⟩
abbrev b8_isSeenByOneSpin : ByteArray := prog_1_method_52_code
def y8_isSeenByOneSpin : MethodName := ⟨R8, "isSeenByOneSpin", "(LGlassTax$Person;III)Z"⟩
theorem yy8_isSeenByOneSpin : zYV y8_isSeenByOneSpin b8_isSeenByOneSpin 9 (some .boolean) 4 := ⟨⟨(zwd 670 (by decide +kernel) rfl), (zwd 1 (by decide +kernel) rfl), ⟨by decide +kernel, by decide +kernel⟩, by decide +kernel⟩, (zwd 669 (by decide +kernel) rfl), (zws 14 (by decide +kernel) rfl)⟩
theorem yc8_isSeenByOneSpin : zYC y8_isSeenByOneSpin 8 := ⟨by decide, T8, 11, rfl⟩
abbrev b8_isSeenByTwoSpins : ByteArray := prog_1_method_51_code
def y8_isSeenByTwoSpins : MethodName := ⟨R8, "isSeenByTwoSpins", "(LGlassTax$Person;I)Z"⟩
theorem yy8_isSeenByTwoSpins : zYV y8_isSeenByTwoSpins b8_isSeenByTwoSpins 7 (some .boolean) 2 := ⟨⟨(zwd 678 (by decide +kernel) rfl), (zwd 1 (by decide +kernel) rfl), ⟨by decide +kernel, by decide +kernel⟩, by decide +kernel⟩, (zwd 677 (by decide +kernel) rfl), (zws 16 (by decide +kernel) rfl)⟩
theorem yc8_isSeenByTwoSpins : zYC y8_isSeenByTwoSpins 8 := ⟨by decide, T8, 11, rfl⟩
abbrev b8_fewestSpins : ByteArray := prog_1_method_50_code
def y8_fewestSpins : MethodName := ⟨R8, "fewestSpins", "(LGlassTax$Person;I)I"⟩
theorem yy8_fewestSpins : zYV y8_fewestSpins b8_fewestSpins 3 (some .int) 2 := ⟨⟨(zwd 666 (by decide +kernel) rfl), (zwd 1 (by decide +kernel) rfl), ⟨by decide +kernel, by decide +kernel⟩, by decide +kernel⟩, (zwd 665 (by decide +kernel) rfl), (zws 13 (by decide +kernel) rfl)⟩
theorem yc8_fewestSpins : zYC y8_fewestSpins 8 := ⟨by decide, T8, 11, rfl⟩
abbrev b4_numberAt : ByteArray := prog_6_method_5_code
def y4_numberAt : MethodName := ⟨R4, "numberAt", "(I)I"⟩
theorem yy4_numberAt : zYV y4_numberAt b4_numberAt 2 (some .int) 1 := ⟨⟨(zwd 698 (by decide +kernel) rfl), (zwd 10 (by decide +kernel) rfl), ⟨by decide +kernel, by decide +kernel⟩, by decide +kernel⟩, (zwd 696 (by decide +kernel) rfl), (zwd 697 (by decide +kernel) rfl)⟩
theorem yc4_numberAt : zYC y4_numberAt 4 := ⟨by decide, T4, 3, rfl⟩
abbrev b8_isLook : ByteArray := prog_1_method_49_code
def y8_isLook : MethodName := ⟨R8, "isLook", "(LGlassTax$Sheet;)Z"⟩
theorem yy8_isLook : zYV y8_isLook b8_isLook 3 (some .boolean) 1 := ⟨⟨(zwd 694 (by decide +kernel) rfl), (zwd 1 (by decide +kernel) rfl), ⟨by decide +kernel, by decide +kernel⟩, by decide +kernel⟩, (zwd 693 (by decide +kernel) rfl), (zws 18 (by decide +kernel) rfl)⟩
theorem yc8_isLook : zYC y8_isLook 8 := ⟨by decide, T8, 11, rfl⟩
abbrev b8_manyOrLeast : ByteArray := prog_1_method_43_code
def y8_manyOrLeast : MethodName := ⟨R8, "manyOrLeast", "(III)I"⟩
theorem yy8_manyOrLeast : zYV y8_manyOrLeast b8_manyOrLeast 4 (some .int) 3 := ⟨⟨(zwd 658 (by decide +kernel) rfl), (zwd 1 (by decide +kernel) rfl), ⟨by decide +kernel, by decide +kernel⟩, by decide +kernel⟩, (zwd 657 (by decide +kernel) rfl), (zws 12 (by decide +kernel) rfl)⟩
theorem yc8_manyOrLeast : zYC y8_manyOrLeast 8 := ⟨by decide, T8, 11, rfl⟩
abbrev b8_sheetOf : ByteArray := prog_1_method_44_code
def y8_sheetOf : MethodName := ⟨R8, "sheetOf", "(I)LGlassTax$Sheet;"⟩
theorem yy8_sheetOf : zYV y8_sheetOf b8_sheetOf 2 (some (.object "GlassTax$Sheet")) 1 := ⟨⟨(zwd 690 (by decide +kernel) rfl), (zwd 1 (by decide +kernel) rfl), ⟨by decide +kernel, by decide +kernel⟩, by decide +kernel⟩, (zwd 689 (by decide +kernel) rfl), (zws 17 (by decide +kernel) rfl)⟩
theorem yc8_sheetOf : zYC y8_sheetOf 8 := ⟨by decide, T8, 11, rfl⟩
abbrev b8_fits : ByteArray := prog_1_method_28_code
def y8_fits : MethodName := ⟨R8, "fits", "(II)I"⟩
theorem yy8_fits : zYV y8_fits b8_fits 7 (some .int) 2 := ⟨⟨(zwd 686 (by decide +kernel) rfl), (zwd 1 (by decide +kernel) rfl), ⟨by decide +kernel, by decide +kernel⟩, by decide +kernel⟩, (zwd 684 (by decide +kernel) rfl), (zwd 685 (by decide +kernel) rfl)⟩
theorem yc8_fits : zYC y8_fits 8 := ⟨by decide, T8, 11, rfl⟩
abbrev b8_isNoTurn : ByteArray := prog_1_method_47_code
def y8_isNoTurn : MethodName := ⟨R8, "isNoTurn", "(I)Z"⟩
theorem yy8_isNoTurn : zYS y8_isNoTurn b8_isNoTurn 1 (some .boolean) 1 := ⟨⟨(zwd 307 (by decide +kernel) rfl), (zwd 1 (by decide +kernel) rfl), ⟨by decide +kernel, by decide +kernel⟩, by decide +kernel⟩, (zwd 306 (by decide +kernel) rfl)⟩
abbrev b5_hangGlass : ByteArray := prog_7_method_8_code
def y5_hangGlass : MethodName := ⟨R5, "hangGlass", "(II)V"⟩
theorem yy5_hangGlass : zYV y5_hangGlass b5_hangGlass 4 none 2 := ⟨⟨(zwd 328 (by decide +kernel) rfl), (zwd 2 (by decide +kernel) rfl), ⟨by decide +kernel, by decide +kernel⟩, by decide +kernel⟩, (zwd 326 (by decide +kernel) rfl), (zwd 327 (by decide +kernel) rfl)⟩
theorem yc5_hangGlass : zYC y5_hangGlass 5 := ⟨by decide, T5, 12, rfl⟩
abbrev b5_addGlass : ByteArray := prog_7_method_7_code
def y5_addGlass : MethodName := ⟨R5, "addGlass", "(III)I"⟩
theorem yy5_addGlass : zYV y5_addGlass b5_addGlass 6 (some .int) 3 := ⟨⟨(zwd 320 (by decide +kernel) rfl), (zwd 2 (by decide +kernel) rfl), ⟨by decide +kernel, by decide +kernel⟩, by decide +kernel⟩, (zwd 318 (by decide +kernel) rfl), (zwd 319 (by decide +kernel) rfl)⟩
theorem yc5_addGlass : zYC y5_addGlass 5 := ⟨by decide, T5, 12, rfl⟩
abbrev b8_glass : ByteArray := prog_1_method_2_code
def y8_glass : MethodName := ⟨R8, "glass", "(III)I"⟩
theorem yy8_glass : zYV y8_glass b8_glass 4 (some .int) 3 := ⟨⟨(zwd 298 (by decide +kernel) rfl), (zwd 1 (by decide +kernel) rfl), ⟨by decide +kernel, by decide +kernel⟩, by decide +kernel⟩, (zwd 296 (by decide +kernel) rfl), (zwd 297 (by decide +kernel) rfl)⟩
theorem yc8_glass : zYC y8_glass 8 := ⟨by decide, T8, 11, rfl⟩
abbrev b8_glassIs : ByteArray := prog_1_method_3_code
def y8_glassIs : MethodName := ⟨R8, "glassIs", "(II)I"⟩
theorem yy8_glassIs : zYV y8_glassIs b8_glassIs 4 (some .int) 2 := ⟨⟨(zwd 333 (by decide +kernel) rfl), (zwd 1 (by decide +kernel) rfl), ⟨by decide +kernel, by decide +kernel⟩, by decide +kernel⟩, (zwd 331 (by decide +kernel) rfl), (zwd 332 (by decide +kernel) rfl)⟩
theorem yc8_glassIs : zYC y8_glassIs 8 := ⟨by decide, T8, 11, rfl⟩
abbrev b8_hang : ByteArray := prog_1_method_8_code
def y8_hang : MethodName := ⟨R8, "hang", "(II)I"⟩
theorem yy8_hang : zYV y8_hang b8_hang 6 (some .int) 2 := ⟨⟨(zwd 378 (by decide +kernel) rfl), (zwd 1 (by decide +kernel) rfl), ⟨by decide +kernel, by decide +kernel⟩, by decide +kernel⟩, (zwd 376 (by decide +kernel) rfl), (zwd 377 (by decide +kernel) rfl)⟩
theorem yc8_hang : zYC y8_hang 8 := ⟨by decide, T8, 11, rfl⟩
abbrev b8_hour : ByteArray := prog_1_method_13_code
def y8_hour : MethodName := ⟨R8, "hour", "(I)I"⟩
theorem yy8_hour : zYV y8_hour b8_hour 3 (some .int) 1 := ⟨⟨(zwd 462 (by decide +kernel) rfl), (zwd 1 (by decide +kernel) rfl), ⟨by decide +kernel, by decide +kernel⟩, by decide +kernel⟩, (zwd 460 (by decide +kernel) rfl), (zwd 461 (by decide +kernel) rfl)⟩
theorem yc8_hour : zYC y8_hour 8 := ⟨by decide, T8, 11, rfl⟩
abbrev b1_metAt : ByteArray := prog_3_method_7_code
def y1_metAt : MethodName := ⟨R1, "metAt", "(I)I"⟩
theorem yy1_metAt : zYV y1_metAt b1_metAt 2 (some .int) 1 := ⟨⟨(zwd 427 (by decide +kernel) rfl), (zwd 7 (by decide +kernel) rfl), ⟨by decide +kernel, by decide +kernel⟩, by decide +kernel⟩, (zwd 425 (by decide +kernel) rfl), (zwd 426 (by decide +kernel) rfl)⟩
theorem yc1_metAt : zYC y1_metAt 1 := ⟨by decide, T1, 5, rfl⟩
abbrev b5_countMeetings : ByteArray := prog_7_method_18_code
def y5_countMeetings : MethodName := ⟨R5, "countMeetings", "(LGlassTax$Look;)V"⟩
theorem yy5_countMeetings : zYV y5_countMeetings b5_countMeetings 4 none 1 := ⟨⟨(zwd 593 (by decide +kernel) rfl), (zwd 2 (by decide +kernel) rfl), ⟨by decide +kernel, by decide +kernel⟩, by decide +kernel⟩, (zwd 592 (by decide +kernel) rfl), (zws 10 (by decide +kernel) rfl)⟩
theorem yc5_countMeetings : zYC y5_countMeetings 5 := ⟨by decide, T5, 12, rfl⟩
abbrev b5_textOf : ByteArray := prog_7_method_5_code
def y5_textOf : MethodName := ⟨R5, "textOf", "(I)LGlassTax$Text;"⟩
theorem yy5_textOf : zYV y5_textOf b5_textOf 2 (some (.object "GlassTax$Text")) 1 := ⟨⟨(zwd 435 (by decide +kernel) rfl), (zwd 2 (by decide +kernel) rfl), ⟨by decide +kernel, by decide +kernel⟩, by decide +kernel⟩, (zwd 433 (by decide +kernel) rfl), (zwd 434 (by decide +kernel) rfl)⟩
theorem yc5_textOf : zYC y5_textOf 5 := ⟨by decide, T5, 12, rfl⟩
abbrev b6_joined : ByteArray := prog_8_method_5_code
def y6_joined : MethodName := ⟨R6, "joined", "(III)I"⟩
theorem yy6_joined : zYS y6_joined b6_joined 3 (some .int) 3 := ⟨⟨(zwd 442 (by decide +kernel) rfl), (zwd 6 (by decide +kernel) rfl), ⟨by decide +kernel, by decide +kernel⟩, by decide +kernel⟩, (zwd 441 (by decide +kernel) rfl)⟩
abbrev b6_worth : ByteArray := prog_8_method_4_code
def y6_worth : MethodName := ⟨R6, "worth", "(III)I"⟩
theorem yy6_worth : zYV y6_worth b6_worth 7 (some .int) 3 := ⟨⟨(zwd 439 (by decide +kernel) rfl), (zwd 6 (by decide +kernel) rfl), ⟨by decide +kernel, by decide +kernel⟩, by decide +kernel⟩, (zwd 437 (by decide +kernel) rfl), (zwd 438 (by decide +kernel) rfl)⟩
theorem yc6_worth : zYC y6_worth 6 := ⟨by decide, T6, 4, rfl⟩
abbrev b5_given : ByteArray := prog_7_method_14_code
def y5_given : MethodName := ⟨R5, "given", "(IIII)I"⟩
theorem yy5_given : zYV y5_given b5_given 7 (some .int) 4 := ⟨⟨(zwd 431 (by decide +kernel) rfl), (zwd 2 (by decide +kernel) rfl), ⟨by decide +kernel, by decide +kernel⟩, by decide +kernel⟩, (zwd 429 (by decide +kernel) rfl), (zwd 430 (by decide +kernel) rfl)⟩
theorem yc5_given : zYC y5_given 5 := ⟨by decide, T5, 12, rfl⟩
abbrev b5_taxOf : ByteArray := prog_7_method_15_code
def y5_taxOf : MethodName := ⟨R5, "taxOf", "(LGlassTax$Look;)I"⟩
theorem yy5_taxOf : zYV y5_taxOf b5_taxOf 5 (some .int) 1 := ⟨⟨(zwd 423 (by decide +kernel) rfl), (zwd 2 (by decide +kernel) rfl), ⟨by decide +kernel, by decide +kernel⟩, by decide +kernel⟩, (zwd 421 (by decide +kernel) rfl), (zwd 422 (by decide +kernel) rfl)⟩
theorem yc5_taxOf : zYC y5_taxOf 5 := ⟨by decide, T5, 12, rfl⟩
abbrev b5_dueOf : ByteArray := prog_7_method_16_code
def y5_dueOf : MethodName := ⟨R5, "dueOf", "(ILGlassTax$Look;)I"⟩
theorem yy5_dueOf : zYV y5_dueOf b5_dueOf 4 (some .int) 2 := ⟨⟨(zwd 400 (by decide +kernel) rfl), (zwd 2 (by decide +kernel) rfl), ⟨by decide +kernel, by decide +kernel⟩, by decide +kernel⟩, (zwd 398 (by decide +kernel) rfl), (zwd 399 (by decide +kernel) rfl)⟩
theorem yc5_dueOf : zYC y5_dueOf 5 := ⟨by decide, T5, 12, rfl⟩
abbrev b5_passHour : ByteArray := prog_7_method_17_code
def y5_passHour : MethodName := ⟨R5, "passHour", "(LGlassTax$Look;)V"⟩
theorem yy5_passHour : zYV y5_passHour b5_passHour 4 none 1 := ⟨⟨(zwd 587 (by decide +kernel) rfl), (zwd 2 (by decide +kernel) rfl), ⟨by decide +kernel, by decide +kernel⟩, by decide +kernel⟩, (zwd 585 (by decide +kernel) rfl), (zwd 586 (by decide +kernel) rfl)⟩
theorem yc5_passHour : zYC y5_passHour 5 := ⟨by decide, T5, 12, rfl⟩
abbrev b8_hours : ByteArray := prog_1_method_18_code
def y8_hours : MethodName := ⟨R8, "hours", "(I)I"⟩
theorem yy8_hours : zYV y8_hours b8_hours 3 (some .int) 1 := ⟨⟨(zwd 583 (by decide +kernel) rfl), (zwd 1 (by decide +kernel) rfl), ⟨by decide +kernel, by decide +kernel⟩, by decide +kernel⟩, (zwd 581 (by decide +kernel) rfl), (zwd 582 (by decide +kernel) rfl)⟩
theorem yc8_hours : zYC y8_hours 8 := ⟨by decide, T8, 11, rfl⟩
abbrev b0_copyFrom : ByteArray := prog_2_method_2_code
def y0_copyFrom : MethodName := ⟨R0, "copyFrom", "(LGlassTax$Glass;)V"⟩
theorem yy0_copyFrom : zYV y0_copyFrom b0_copyFrom 2 none 1 := ⟨⟨(zwd 644 (by decide +kernel) rfl), (zwd 4 (by decide +kernel) rfl), ⟨by decide +kernel, by decide +kernel⟩, by decide +kernel⟩, (zwd 642 (by decide +kernel) rfl), (zwd 643 (by decide +kernel) rfl)⟩
theorem yc0_copyFrom : zYC y0_copyFrom 0 := ⟨by decide, T0, 5, rfl⟩
abbrev b2_copyFrom : ByteArray := prog_4_method_2_code
def y2_copyFrom : MethodName := ⟨R2, "copyFrom", "(LGlassTax$Person;)V"⟩
theorem yy2_copyFrom : zYV y2_copyFrom b2_copyFrom 2 none 1 := ⟨⟨(zwd 648 (by decide +kernel) rfl), (zwd 5 (by decide +kernel) rfl), ⟨by decide +kernel, by decide +kernel⟩, by decide +kernel⟩, (zwd 646 (by decide +kernel) rfl), (zwd 647 (by decide +kernel) rfl)⟩
theorem yc2_copyFrom : zYC y2_copyFrom 2 := ⟨by decide, T2, 3, rfl⟩
abbrev b6_copyFrom : ByteArray := prog_8_method_2_code
def y6_copyFrom : MethodName := ⟨R6, "copyFrom", "(LGlassTax$Text;)V"⟩
theorem yy6_copyFrom : zYV y6_copyFrom b6_copyFrom 2 none 1 := ⟨⟨(zwd 566 (by decide +kernel) rfl), (zwd 6 (by decide +kernel) rfl), ⟨by decide +kernel, by decide +kernel⟩, by decide +kernel⟩, (zwd 564 (by decide +kernel) rfl), (zwd 565 (by decide +kernel) rfl)⟩
theorem yc6_copyFrom : zYC y6_copyFrom 6 := ⟨by decide, T6, 4, rfl⟩
abbrev b5_copyFrom : ByteArray := prog_7_method_2_code
def y5_copyFrom : MethodName := ⟨R5, "copyFrom", "(LGlassTax$Street;)V"⟩
theorem yy5_copyFrom : zYV y5_copyFrom b5_copyFrom 3 none 1 := ⟨⟨(zwd 640 (by decide +kernel) rfl), (zwd 2 (by decide +kernel) rfl), ⟨by decide +kernel, by decide +kernel⟩, by decide +kernel⟩, (zwd 638 (by decide +kernel) rfl), (zwd 639 (by decide +kernel) rfl)⟩
theorem yc5_copyFrom : zYC y5_copyFrom 5 := ⟨by decide, T5, 12, rfl⟩
abbrev b8_image : ByteArray := prog_1_method_36_code
def y8_image : MethodName := ⟨R8, "image", "()I"⟩
theorem yy8_image : zYV y8_image b8_image 1 (some .int) 0 := ⟨⟨(zwd 782 (by decide +kernel) rfl), (zwd 1 (by decide +kernel) rfl), ⟨by decide +kernel, by decide +kernel⟩, by decide +kernel⟩, (zwd 780 (by decide +kernel) rfl), (zwd 781 (by decide +kernel) rfl)⟩
theorem yc8_image : zYC y8_image 8 := ⟨by decide, T8, 11, rfl⟩
abbrev b8_judge : ByteArray := prog_1_method_35_code
def y8_judge : MethodName := ⟨R8, "judge", "(I)I"⟩
theorem yy8_judge : zYV y8_judge b8_judge 5 (some .int) 1 := ⟨⟨(zwd 778 (by decide +kernel) rfl), (zwd 1 (by decide +kernel) rfl), ⟨by decide +kernel, by decide +kernel⟩, by decide +kernel⟩, (zwd 776 (by decide +kernel) rfl), (zwd 777 (by decide +kernel) rfl)⟩
theorem yc8_judge : zYC y8_judge 8 := ⟨by decide, T8, 11, rfl⟩
abbrev b8_law : ByteArray := prog_1_method_17_code
def y8_law : MethodName := ⟨R8, "law", "(IIII)I"⟩
theorem yy8_law : zYV y8_law b8_law 5 (some .int) 4 := ⟨⟨(zwd 578 (by decide +kernel) rfl), (zwd 1 (by decide +kernel) rfl), ⟨by decide +kernel, by decide +kernel⟩, by decide +kernel⟩, (zwd 576 (by decide +kernel) rfl), (zwd 577 (by decide +kernel) rfl)⟩
theorem yc8_law : zYC y8_law 8 := ⟨by decide, T8, 11, rfl⟩
abbrev b8_look : ByteArray := prog_1_method_21_code
def y8_look : MethodName := ⟨R8, "look", "(III)I"⟩
theorem yy8_look : zYV y8_look b8_look 4 (some .int) 3 := ⟨⟨(zwd 614 (by decide +kernel) rfl), (zwd 1 (by decide +kernel) rfl), ⟨by decide +kernel, by decide +kernel⟩, by decide +kernel⟩, (zwd 612 (by decide +kernel) rfl), (zwd 613 (by decide +kernel) rfl)⟩
theorem yc8_look : zYC y8_look 8 := ⟨by decide, T8, 11, rfl⟩
abbrev b5_draw : ByteArray := prog_7_method_20_code
def y5_draw : MethodName := ⟨R5, "draw", "()I"⟩
theorem yy5_draw : zYV y5_draw b5_draw 1 (some .int) 0 := ⟨⟨(zwd 605 (by decide +kernel) rfl), (zwd 2 (by decide +kernel) rfl), ⟨by decide +kernel, by decide +kernel⟩, by decide +kernel⟩, (zwd 604 (by decide +kernel) rfl), (zws 11 (by decide +kernel) rfl)⟩
theorem yc5_draw : zYC y5_draw 5 := ⟨by decide, T5, 12, rfl⟩
abbrev b5_standByDraws : ByteArray := prog_7_method_19_code
def y5_standByDraws : MethodName := ⟨R5, "standByDraws", "()V"⟩
theorem yy5_standByDraws : zYV y5_standByDraws b5_standByDraws 3 none 0 := ⟨⟨(zwd 601 (by decide +kernel) rfl), (zwd 2 (by decide +kernel) rfl), ⟨by decide +kernel, by decide +kernel⟩, by decide +kernel⟩, (zwd 599 (by decide +kernel) rfl), (zwd 600 (by decide +kernel) rfl)⟩
theorem yc5_standByDraws : zYC y5_standByDraws 5 := ⟨by decide, T5, 12, rfl⟩
abbrev b8_loose : ByteArray := prog_1_method_19_code
def y8_loose : MethodName := ⟨R8, "loose", "(I)I"⟩
theorem yy8_loose : zYV y8_loose b8_loose 3 (some .int) 1 := ⟨⟨(zwd 597 (by decide +kernel) rfl), (zwd 1 (by decide +kernel) rfl), ⟨by decide +kernel, by decide +kernel⟩, by decide +kernel⟩, (zwd 595 (by decide +kernel) rfl), (zwd 596 (by decide +kernel) rfl)⟩
theorem yc8_loose : zYC y8_loose 8 := ⟨by decide, T8, 11, rfl⟩
abbrev b4_holds : ByteArray := prog_6_method_3_code
def y4_holds : MethodName := ⟨R4, "holds", "(II)Z"⟩
theorem yy4_holds : zYV y4_holds b4_holds 3 (some .boolean) 2 := ⟨⟨(zwd 769 (by decide +kernel) rfl), (zwd 10 (by decide +kernel) rfl), ⟨by decide +kernel, by decide +kernel⟩, by decide +kernel⟩, (zwd 767 (by decide +kernel) rfl), (zwd 768 (by decide +kernel) rfl)⟩
theorem yc4_holds : zYC y4_holds 4 := ⟨by decide, T4, 3, rfl⟩
abbrev b8_move : ByteArray := prog_1_method_33_code
def y8_move : MethodName := ⟨R8, "move", "(IIIII)I"⟩
theorem yy8_move : zYV y8_move b8_move 8 (some .int) 5 := ⟨⟨(zwd 765 (by decide +kernel) rfl), (zwd 1 (by decide +kernel) rfl), ⟨by decide +kernel, by decide +kernel⟩, by decide +kernel⟩, (zwd 763 (by decide +kernel) rfl), (zwd 764 (by decide +kernel) rfl)⟩
theorem yc8_move : zYC y8_move 8 := ⟨by decide, T8, 11, rfl⟩
abbrev b8_odds : ByteArray := prog_1_method_27_code
def y8_odds : MethodName := ⟨R8, "odds", "(I)I"⟩
theorem yy8_odds : zYV y8_odds b8_odds 5 (some .int) 1 := ⟨⟨(zwd 682 (by decide +kernel) rfl), (zwd 1 (by decide +kernel) rfl), ⟨by decide +kernel, by decide +kernel⟩, by decide +kernel⟩, (zwd 680 (by decide +kernel) rfl), (zwd 681 (by decide +kernel) rfl)⟩
theorem yc8_odds : zYC y8_odds 8 := ⟨by decide, T8, 11, rfl⟩
abbrev b8_pay : ByteArray := prog_1_method_12_code
def y8_pay : MethodName := ⟨R8, "pay", "(II)I"⟩
theorem yy8_pay : zYV y8_pay b8_pay 5 (some .int) 2 := ⟨⟨(zwd 456 (by decide +kernel) rfl), (zwd 1 (by decide +kernel) rfl), ⟨by decide +kernel, by decide +kernel⟩, by decide +kernel⟩, (zwd 454 (by decide +kernel) rfl), (zwd 455 (by decide +kernel) rfl)⟩
theorem yc8_pay : zYC y8_pay 8 := ⟨by decide, T8, 11, rfl⟩
abbrev b5_addPerson : ByteArray := prog_7_method_9_code
def y5_addPerson : MethodName := ⟨R5, "addPerson", "(II)I"⟩
theorem yy5_addPerson : zYV y5_addPerson b5_addPerson 5 (some .int) 2 := ⟨⟨(zwd 387 (by decide +kernel) rfl), (zwd 2 (by decide +kernel) rfl), ⟨by decide +kernel, by decide +kernel⟩, by decide +kernel⟩, (zwd 385 (by decide +kernel) rfl), (zwd 386 (by decide +kernel) rfl)⟩
theorem yc5_addPerson : zYC y5_addPerson 5 := ⟨by decide, T5, 12, rfl⟩
abbrev b8_person : ByteArray := prog_1_method_9_code
def y8_person : MethodName := ⟨R8, "person", "(II)I"⟩
theorem yy8_person : zYV y8_person b8_person 3 (some .int) 2 := ⟨⟨(zwd 383 (by decide +kernel) rfl), (zwd 1 (by decide +kernel) rfl), ⟨by decide +kernel, by decide +kernel⟩, by decide +kernel⟩, (zwd 381 (by decide +kernel) rfl), (zwd 382 (by decide +kernel) rfl)⟩
theorem yc8_person : zYC y8_person 8 := ⟨by decide, T8, 11, rfl⟩
abbrev b8_personIs : ByteArray := prog_1_method_10_code
def y8_personIs : MethodName := ⟨R8, "personIs", "(II)I"⟩
theorem yy8_personIs : zYV y8_personIs b8_personIs 4 (some .int) 2 := ⟨⟨(zwd 395 (by decide +kernel) rfl), (zwd 1 (by decide +kernel) rfl), ⟨by decide +kernel, by decide +kernel⟩, by decide +kernel⟩, (zwd 393 (by decide +kernel) rfl), (zwd 394 (by decide +kernel) rfl)⟩
theorem yc8_personIs : zYC y8_personIs 8 := ⟨by decide, T8, 11, rfl⟩
abbrev b4_write : ByteArray := prog_6_method_4_code
def y4_write : MethodName := ⟨R4, "write", "(II)V"⟩
theorem yy4_write : zYV y4_write b4_write 3 none 2 := ⟨⟨(zwd 761 (by decide +kernel) rfl), (zwd 10 (by decide +kernel) rfl), ⟨by decide +kernel, by decide +kernel⟩, by decide +kernel⟩, (zwd 759 (by decide +kernel) rfl), (zwd 760 (by decide +kernel) rfl)⟩
theorem yc4_write : zYC y4_write 4 := ⟨by decide, T4, 3, rfl⟩
abbrev b8_put : ByteArray := prog_1_method_32_code
def y8_put : MethodName := ⟨R8, "put", "(III)I"⟩
theorem yy8_put : zYV y8_put b8_put 5 (some .int) 3 := ⟨⟨(zwd 757 (by decide +kernel) rfl), (zwd 1 (by decide +kernel) rfl), ⟨by decide +kernel, by decide +kernel⟩, by decide +kernel⟩, (zwd 755 (by decide +kernel) rfl), (zwd 756 (by decide +kernel) rfl)⟩
theorem yc8_put : zYC y8_put 8 := ⟨by decide, T8, 11, rfl⟩
abbrev b8_restore : ByteArray := prog_1_method_37_code
def y8_restore : MethodName := ⟨R8, "restore", "()I"⟩
theorem yy8_restore : zYV y8_restore b8_restore 1 (some .int) 0 := ⟨⟨(zwd 786 (by decide +kernel) rfl), (zwd 1 (by decide +kernel) rfl), ⟨by decide +kernel, by decide +kernel⟩, by decide +kernel⟩, (zwd 784 (by decide +kernel) rfl), (zwd 785 (by decide +kernel) rfl)⟩
theorem yc8_restore : zYC y8_restore 8 := ⟨by decide, T8, 11, rfl⟩
abbrev b8_seed : ByteArray := prog_1_method_20_code
def y8_seed : MethodName := ⟨R8, "seed", "(I)I"⟩
theorem yy8_seed : zYV y8_seed b8_seed 3 (some .int) 1 := ⟨⟨(zwd 610 (by decide +kernel) rfl), (zwd 1 (by decide +kernel) rfl), ⟨by decide +kernel, by decide +kernel⟩, by decide +kernel⟩, (zwd 608 (by decide +kernel) rfl), (zwd 609 (by decide +kernel) rfl)⟩
theorem yc8_seed : zYC y8_seed 8 := ⟨by decide, T8, 11, rfl⟩
abbrev b8_sees : ByteArray := prog_1_method_23_code
def y8_sees : MethodName := ⟨R8, "sees", "(I)I"⟩
theorem yy8_sees : zYV y8_sees b8_sees 6 (some .int) 1 := ⟨⟨(zwd 628 (by decide +kernel) rfl), (zwd 1 (by decide +kernel) rfl), ⟨by decide +kernel, by decide +kernel⟩, by decide +kernel⟩, (zwd 626 (by decide +kernel) rfl), (zwd 627 (by decide +kernel) rfl)⟩
theorem yc8_sees : zYC y8_sees 8 := ⟨by decide, T8, 11, rfl⟩
abbrev bA_fill : ByteArray := prog_17_method_103_code
def yA_fill : MethodName := ⟨RJA, "fill", "([II)V"⟩
theorem yyA_fill : zYS yA_fill bA_fill 4 none 2 := ⟨⟨(zwd 40 (by decide +kernel) rfl), (zwd 3 (by decide +kernel) rfl), ⟨by decide +kernel, by decide +kernel⟩, by decide +kernel⟩, (zwd 39 (by decide +kernel) rfl)⟩
abbrev b4_begin : ByteArray := prog_6_method_2_code
def y4_begin : MethodName := ⟨R4, "begin", "(II)V"⟩
theorem yy4_begin : zYV y4_begin b4_begin 3 none 2 := ⟨⟨(zwd 752 (by decide +kernel) rfl), (zwd 10 (by decide +kernel) rfl), ⟨by decide +kernel, by decide +kernel⟩, by decide +kernel⟩, (zwd 750 (by decide +kernel) rfl), (zwd 751 (by decide +kernel) rfl)⟩
theorem yc4_begin : zYC y4_begin 4 := ⟨by decide, T4, 3, rfl⟩
abbrev b8_sheet : ByteArray := prog_1_method_31_code
def y8_sheet : MethodName := ⟨R8, "sheet", "(III)I"⟩
theorem yy8_sheet : zYV y8_sheet b8_sheet 5 (some .int) 3 := ⟨⟨(zwd 748 (by decide +kernel) rfl), (zwd 1 (by decide +kernel) rfl), ⟨by decide +kernel, by decide +kernel⟩, by decide +kernel⟩, (zwd 746 (by decide +kernel) rfl), (zwd 747 (by decide +kernel) rfl)⟩
theorem yc8_sheet : zYC y8_sheet 8 := ⟨by decide, T8, 11, rfl⟩
abbrev b8_spin : ByteArray := prog_1_method_7_code
def y8_spin : MethodName := ⟨R8, "spin", "(II)I"⟩
theorem yy8_spin : zYV y8_spin b8_spin 5 (some .int) 2 := ⟨⟨(zwd 374 (by decide +kernel) rfl), (zwd 1 (by decide +kernel) rfl), ⟨by decide +kernel, by decide +kernel⟩, by decide +kernel⟩, (zwd 372 (by decide +kernel) rfl), (zwd 373 (by decide +kernel) rfl)⟩
theorem yc8_spin : zYC y8_spin 8 := ⟨by decide, T8, 11, rfl⟩
abbrev b8_spins : ByteArray := prog_1_method_26_code
def y8_spins : MethodName := ⟨R8, "spins", "(III)I"⟩
theorem yy8_spins : zYV y8_spins b8_spins 6 (some .int) 3 := ⟨⟨(zwd 662 (by decide +kernel) rfl), (zwd 1 (by decide +kernel) rfl), ⟨by decide +kernel, by decide +kernel⟩, by decide +kernel⟩, (zwd 660 (by decide +kernel) rfl), (zwd 661 (by decide +kernel) rfl)⟩
theorem yc8_spins : zYC y8_spins 8 := ⟨by decide, T8, 11, rfl⟩
abbrev b8_stand : ByteArray := prog_1_method_11_code
def y8_stand : MethodName := ⟨R8, "stand", "(III)I"⟩
theorem yy8_stand : zYV y8_stand b8_stand 6 (some .int) 3 := ⟨⟨(zwd 452 (by decide +kernel) rfl), (zwd 1 (by decide +kernel) rfl), ⟨by decide +kernel, by decide +kernel⟩, by decide +kernel⟩, (zwd 450 (by decide +kernel) rfl), (zwd 451 (by decide +kernel) rfl)⟩
theorem yc8_stand : zYC y8_stand 8 := ⟨by decide, T8, 11, rfl⟩
abbrev b8_starts : ByteArray := prog_1_method_25_code
def y8_starts : MethodName := ⟨R8, "starts", "(II)I"⟩
theorem yy8_starts : zYV y8_starts b8_starts 6 (some .int) 2 := ⟨⟨(zwd 654 (by decide +kernel) rfl), (zwd 1 (by decide +kernel) rfl), ⟨by decide +kernel, by decide +kernel⟩, by decide +kernel⟩, (zwd 652 (by decide +kernel) rfl), (zwd 653 (by decide +kernel) rfl)⟩
theorem yc8_starts : zYC y8_starts 8 := ⟨by decide, T8, 11, rfl⟩
abbrev b5_addWaiting : ByteArray := prog_7_method_11_code
def y5_addWaiting : MethodName := ⟨R5, "addWaiting", "(I)V"⟩
theorem yy5_addWaiting : zYV y5_addWaiting b5_addWaiting 2 none 1 := ⟨⟨(zwd 794 (by decide +kernel) rfl), (zwd 2 (by decide +kernel) rfl), ⟨by decide +kernel, by decide +kernel⟩, by decide +kernel⟩, (zwd 792 (by decide +kernel) rfl), (zwd 793 (by decide +kernel) rfl)⟩
theorem yc5_addWaiting : zYC y5_addWaiting 5 := ⟨by decide, T5, 12, rfl⟩
abbrev b8_tell : ByteArray := prog_1_method_38_code
def y8_tell : MethodName := ⟨R8, "tell", "(I)I"⟩
theorem yy8_tell : zYV y8_tell b8_tell 2 (some .int) 1 := ⟨⟨(zwd 790 (by decide +kernel) rfl), (zwd 1 (by decide +kernel) rfl), ⟨by decide +kernel, by decide +kernel⟩, by decide +kernel⟩, (zwd 788 (by decide +kernel) rfl), (zwd 789 (by decide +kernel) rfl)⟩
theorem yc8_tell : zYC y8_tell 8 := ⟨by decide, T8, 11, rfl⟩
abbrev b3_levelOf : ByteArray := prog_5_method_10_code
def y3_levelOf : MethodName := ⟨R3, "levelOf", "(I)I"⟩
theorem yy3_levelOf : zYS y3_levelOf b3_levelOf 1 (some .int) 1 := ⟨⟨(zwd 562 (by decide +kernel) rfl), (zwd 8 (by decide +kernel) rfl), ⟨by decide +kernel, by decide +kernel⟩, by decide +kernel⟩, (zwd 561 (by decide +kernel) rfl)⟩
abbrev b3_signHere : ByteArray := prog_5_method_3_code
def y3_signHere : MethodName := ⟨R3, "signHere", "()I"⟩
theorem yy3_signHere : zYV y3_signHere b3_signHere 1 (some .int) 0 := ⟨⟨(zwd 491 (by decide +kernel) rfl), (zwd 8 (by decide +kernel) rfl), ⟨by decide +kernel, by decide +kernel⟩, by decide +kernel⟩, (zwd 490 (by decide +kernel) rfl), (zws 6 (by decide +kernel) rfl)⟩
theorem yc3_signHere : zYC y3_signHere 3 := ⟨by decide, T3, 5, rfl⟩
abbrev b6_add : ByteArray := prog_8_method_3_code
def y6_add : MethodName := ⟨R6, "add", "(I)V"⟩
theorem yy6_add : zYV y6_add b6_add 2 none 1 := ⟨⟨(zwd 502 (by decide +kernel) rfl), (zwd 6 (by decide +kernel) rfl), ⟨by decide +kernel, by decide +kernel⟩, by decide +kernel⟩, (zwd 500 (by decide +kernel) rfl), (zwd 501 (by decide +kernel) rfl)⟩
theorem yc6_add : zYC y6_add 6 := ⟨by decide, T6, 4, rfl⟩
abbrev b3_isDigit : ByteArray := prog_5_method_9_code
def y3_isDigit : MethodName := ⟨R3, "isDigit", "(I)Z"⟩
theorem yy3_isDigit : zYS y3_isDigit b3_isDigit 1 (some .boolean) 1 := ⟨⟨(zwd 494 (by decide +kernel) rfl), (zwd 8 (by decide +kernel) rfl), ⟨by decide +kernel, by decide +kernel⟩, by decide +kernel⟩, (zwd 493 (by decide +kernel) rfl)⟩
abbrev b3_readNumber : ByteArray := prog_5_method_8_code
def y3_readNumber : MethodName := ⟨R3, "readNumber", "()V"⟩
theorem yy3_readNumber : zYV y3_readNumber b3_readNumber 3 none 0 := ⟨⟨(zwd 498 (by decide +kernel) rfl), (zwd 8 (by decide +kernel) rfl), ⟨by decide +kernel, by decide +kernel⟩, by decide +kernel⟩, (zwd 497 (by decide +kernel) rfl), (zws 7 (by decide +kernel) rfl)⟩
theorem yc3_readNumber : zYC y3_readNumber 3 := ⟨by decide, T3, 5, rfl⟩
abbrev bS_isLatin1 : ByteArray := prog_13_method_154_code
def yS_isLatin1 : MethodName := ⟨RJS, "isLatin1", "()Z"⟩
theorem yyS_isLatin1 : zYV yS_isLatin1 bS_isLatin1 1 (some .boolean) 0 := ⟨⟨(zwd 525 (by decide +kernel) rfl), (zwd 13 (by decide +kernel) rfl), ⟨by decide +kernel, by decide +kernel⟩, by decide +kernel⟩, (zwd 523 (by decide +kernel) rfl), (zwd 524 (by decide +kernel) rfl)⟩
abbrev bP_checkIndex : ByteArray := prog_18_method_11_code
def yP_checkIndex : MethodName := ⟨RJP, "checkIndex", "(IILjava/util/function/BiFunction;)I"⟩
theorem yyP_checkIndex : zYS yP_checkIndex bP_checkIndex 3 (some .int) 3 := ⟨⟨(zwd 536 (by decide +kernel) rfl), (zwd 15 (by decide +kernel) rfl), ⟨by decide +kernel, by decide +kernel⟩, by decide +kernel⟩, (zwd 535 (by decide +kernel) rfl)⟩
abbrev bS_checkIndex : ByteArray := prog_13_method_155_code
def yS_checkIndex : MethodName := ⟨RJS, "checkIndex", "(II)V"⟩
theorem yyS_checkIndex : zYS yS_checkIndex bS_checkIndex 2 none 2 := ⟨⟨(zwd 531 (by decide +kernel) rfl), (zwd 13 (by decide +kernel) rfl), ⟨by decide +kernel, by decide +kernel⟩, by decide +kernel⟩, (zwd 530 (by decide +kernel) rfl)⟩
abbrev bL_charAt : ByteArray := prog_14_method_2_code
def yL_charAt : MethodName := ⟨RJL, "charAt", "([BI)C"⟩
theorem yyL_charAt : zYS yL_charAt bL_charAt 2 (some .char) 2 := ⟨⟨(zwd 528 (by decide +kernel) rfl), (zwd 14 (by decide +kernel) rfl), ⟨by decide +kernel, by decide +kernel⟩, by decide +kernel⟩, (zwd 527 (by decide +kernel) rfl)⟩
abbrev bS_charAt : ByteArray := prog_13_method_56_code
def yS_charAt : MethodName := ⟨RJS, "charAt", "(I)C"⟩
theorem yyS_charAt : zYV yS_charAt bS_charAt 2 (some .char) 1 := ⟨⟨(zwd 521 (by decide +kernel) rfl), (zwd 13 (by decide +kernel) rfl), ⟨by decide +kernel, by decide +kernel⟩, by decide +kernel⟩, (zwd 519 (by decide +kernel) rfl), (zwd 520 (by decide +kernel) rfl)⟩
abbrev bS_coder : ByteArray := prog_13_method_152_code
def yS_coder : MethodName := ⟨RJS, "coder", "()B"⟩
theorem yyS_coder : zYV yS_coder bS_coder 1 (some .byte) 0 := ⟨⟨(zwd 515 (by decide +kernel) rfl), (zwd 13 (by decide +kernel) rfl), ⟨by decide +kernel, by decide +kernel⟩, by decide +kernel⟩, (zwd 513 (by decide +kernel) rfl), (zwd 514 (by decide +kernel) rfl)⟩
abbrev bS_length : ByteArray := prog_13_method_54_code
def yS_length : MethodName := ⟨RJS, "length", "()I"⟩
theorem yyS_length : zYV yS_length bS_length 1 (some .int) 0 := ⟨⟨(zwd 511 (by decide +kernel) rfl), (zwd 13 (by decide +kernel) rfl), ⟨by decide +kernel, by decide +kernel⟩, by decide +kernel⟩, (zwd 509 (by decide +kernel) rfl), (zwd 510 (by decide +kernel) rfl)⟩
abbrev b3_readPart : ByteArray := prog_5_method_4_code
def y3_readPart : MethodName := ⟨R3, "readPart", "(II)Z"⟩
theorem yy3_readPart : zYV y3_readPart b3_readPart 3 (some .boolean) 2 := ⟨⟨(zwd 483 (by decide +kernel) rfl), (zwd 8 (by decide +kernel) rfl), ⟨by decide +kernel, by decide +kernel⟩, by decide +kernel⟩, (zwd 482 (by decide +kernel) rfl), (zws 4 (by decide +kernel) rfl)⟩
theorem yc3_readPart : zYC y3_readPart 3 := ⟨by decide, T3, 5, rfl⟩
abbrev b3_readLevel : ByteArray := prog_5_method_5_code
def y3_readLevel : MethodName := ⟨R3, "readLevel", "(II)Z"⟩
theorem yy3_readLevel : zYV y3_readLevel b3_readLevel 5 (some .boolean) 2 := ⟨⟨(zwd 559 (by decide +kernel) rfl), (zwd 8 (by decide +kernel) rfl), ⟨by decide +kernel, by decide +kernel⟩, by decide +kernel⟩, (zwd 558 (by decide +kernel) rfl), (zws 9 (by decide +kernel) rfl)⟩
theorem yc3_readLevel : zYC y3_readLevel 3 := ⟨by decide, T3, 5, rfl⟩
abbrev b3_readUnit : ByteArray := prog_5_method_6_code
def y3_readUnit : MethodName := ⟨R3, "readUnit", "(I)Z"⟩
theorem yy3_readUnit : zYV y3_readUnit b3_readUnit 5 (some .boolean) 1 := ⟨⟨(zwd 487 (by decide +kernel) rfl), (zwd 8 (by decide +kernel) rfl), ⟨by decide +kernel, by decide +kernel⟩, by decide +kernel⟩, (zwd 486 (by decide +kernel) rfl), (zws 5 (by decide +kernel) rfl)⟩
theorem yc3_readUnit : zYC y3_readUnit 3 := ⟨by decide, T3, 5, rfl⟩
abbrev b3_readOpen : ByteArray := prog_5_method_7_code
def y3_readOpen : MethodName := ⟨R3, "readOpen", "(II)Z"⟩
theorem yy3_readOpen : zYV y3_readOpen b3_readOpen 4 (some .boolean) 2 := ⟨⟨(zwd 506 (by decide +kernel) rfl), (zwd 8 (by decide +kernel) rfl), ⟨by decide +kernel, by decide +kernel⟩, by decide +kernel⟩, (zwd 505 (by decide +kernel) rfl), (zws 8 (by decide +kernel) rfl)⟩
theorem yc3_readOpen : zYC y3_readOpen 3 := ⟨by decide, T3, 5, rfl⟩
abbrev b3_fault : ByteArray := prog_5_method_2_code
def y3_fault : MethodName := ⟨R3, "fault", "([III)I"⟩
theorem yy3_fault : zYV y3_fault b3_fault 4 (some .int) 3 := ⟨⟨(zwd 479 (by decide +kernel) rfl), (zwd 8 (by decide +kernel) rfl), ⟨by decide +kernel, by decide +kernel⟩, by decide +kernel⟩, (zwd 477 (by decide +kernel) rfl), (zwd 478 (by decide +kernel) rfl)⟩
theorem yc3_fault : zYC y3_fault 3 := ⟨by decide, T3, 5, rfl⟩
abbrev b8_text : ByteArray := prog_1_method_15_code
def y8_text : MethodName := ⟨R8, "text", "(I)I"⟩
theorem yy8_text : zYV y8_text b8_text 4 (some .int) 1 := ⟨⟨(zwd 474 (by decide +kernel) rfl), (zwd 1 (by decide +kernel) rfl), ⟨by decide +kernel, by decide +kernel⟩, by decide +kernel⟩, (zwd 472 (by decide +kernel) rfl), (zwd 473 (by decide +kernel) rfl)⟩
theorem yc8_text : zYC y8_text 8 := ⟨by decide, T8, 11, rfl⟩
abbrev b8_then : ByteArray := prog_1_method_24_code
def y8_then : MethodName := ⟨R8, "then", "(II)I"⟩
theorem yy8_then : zYV y8_then b8_then 4 (some .int) 2 := ⟨⟨(zwd 636 (by decide +kernel) rfl), (zwd 1 (by decide +kernel) rfl), ⟨by decide +kernel, by decide +kernel⟩, by decide +kernel⟩, (zwd 634 (by decide +kernel) rfl), (zwd 635 (by decide +kernel) rfl)⟩
theorem yc8_then : zYC y8_then 8 := ⟨by decide, T8, 11, rfl⟩
abbrev b8_throwsOn : ByteArray := prog_1_method_4_code
def y8_throwsOn : MethodName := ⟨R8, "throwsOn", "(II)I"⟩
theorem yy8_throwsOn : zYV y8_throwsOn b8_throwsOn 4 (some .int) 2 := ⟨⟨(zwd 338 (by decide +kernel) rfl), (zwd 1 (by decide +kernel) rfl), ⟨by decide +kernel, by decide +kernel⟩, by decide +kernel⟩, (zwd 336 (by decide +kernel) rfl), (zwd 337 (by decide +kernel) rfl)⟩
theorem yc8_throwsOn : zYC y8_throwsOn 8 := ⟨by decide, T8, 11, rfl⟩
abbrev b8_told : ByteArray := prog_1_method_41_code
def y8_told : MethodName := ⟨R8, "told", "(I)I"⟩
theorem yy8_told : zYV y8_told b8_told 2 (some .int) 1 := ⟨⟨(zwd 810 (by decide +kernel) rfl), (zwd 1 (by decide +kernel) rfl), ⟨by decide +kernel, by decide +kernel⟩, by decide +kernel⟩, (zwd 808 (by decide +kernel) rfl), (zwd 809 (by decide +kernel) rfl)⟩
theorem yc8_told : zYC y8_told 8 := ⟨by decide, T8, 11, rfl⟩
abbrev b8_turnsOf : ByteArray := prog_1_method_34_code
def y8_turnsOf : MethodName := ⟨R8, "turnsOf", "(I)I"⟩
theorem yy8_turnsOf : zYV y8_turnsOf b8_turnsOf 7 (some .int) 1 := ⟨⟨(zwd 774 (by decide +kernel) rfl), (zwd 1 (by decide +kernel) rfl), ⟨by decide +kernel, by decide +kernel⟩, by decide +kernel⟩, (zwd 772 (by decide +kernel) rfl), (zwd 773 (by decide +kernel) rfl)⟩
theorem yc8_turnsOf : zYC y8_turnsOf 8 := ⟨by decide, T8, 11, rfl⟩
abbrev b8_untell : ByteArray := prog_1_method_16_code
def y8_untell : MethodName := ⟨R8, "untell", "(I)I"⟩
theorem yy8_untell : zYV y8_untell b8_untell 4 (some .int) 1 := ⟨⟨(zwd 574 (by decide +kernel) rfl), (zwd 1 (by decide +kernel) rfl), ⟨by decide +kernel, by decide +kernel⟩, by decide +kernel⟩, (zwd 572 (by decide +kernel) rfl), (zwd 573 (by decide +kernel) rfl)⟩
theorem yc8_untell : zYC y8_untell 8 := ⟨by decide, T8, 11, rfl⟩
abbrev b7_bodyFrom : ByteArray := prog_9_method_10_code
def y7_bodyFrom : MethodName := ⟨R7, "bodyFrom", "(II)I"⟩
theorem yy7_bodyFrom : zYS y7_bodyFrom b7_bodyFrom 5 (some .int) 2 := ⟨⟨(zwd 713 (by decide +kernel) rfl), (zwd 9 (by decide +kernel) rfl), ⟨by decide +kernel, by decide +kernel⟩, by decide +kernel⟩, (zwd 712 (by decide +kernel) rfl)⟩
abbrev b7_say : ByteArray := prog_9_method_4_code
def y7_say : MethodName := ⟨R7, "say", "(IIII)I"⟩
theorem yy7_say : zYV y7_say b7_say 6 (some .int) 4 := ⟨⟨(zwd 710 (by decide +kernel) rfl), (zwd 9 (by decide +kernel) rfl), ⟨by decide +kernel, by decide +kernel⟩, by decide +kernel⟩, (zwd 709 (by decide +kernel) rfl), (zws 19 (by decide +kernel) rfl)⟩
theorem yc7_say : zYC y7_say 7 := ⟨by decide, T7, 6, rfl⟩
abbrev b7_sayGlass : ByteArray := prog_9_method_5_code
def y7_sayGlass : MethodName := ⟨R7, "sayGlass", "(III)I"⟩
theorem yy7_sayGlass : zYV y7_sayGlass b7_sayGlass 5 (some .int) 3 := ⟨⟨(zwd 720 (by decide +kernel) rfl), (zwd 9 (by decide +kernel) rfl), ⟨by decide +kernel, by decide +kernel⟩, by decide +kernel⟩, (zwd 719 (by decide +kernel) rfl), (zws 20 (by decide +kernel) rfl)⟩
theorem yc7_sayGlass : zYC y7_sayGlass 7 := ⟨by decide, T7, 6, rfl⟩
abbrev b7_saySpoon : ByteArray := prog_9_method_6_code
def y7_saySpoon : MethodName := ⟨R7, "saySpoon", "(III)I"⟩
theorem yy7_saySpoon : zYV y7_saySpoon b7_saySpoon 5 (some .int) 3 := ⟨⟨(zwd 724 (by decide +kernel) rfl), (zwd 9 (by decide +kernel) rfl), ⟨by decide +kernel, by decide +kernel⟩, by decide +kernel⟩, (zwd 723 (by decide +kernel) rfl), (zws 21 (by decide +kernel) rfl)⟩
theorem yc7_saySpoon : zYC y7_saySpoon 7 := ⟨by decide, T7, 6, rfl⟩
abbrev b7_sayBowl : ByteArray := prog_9_method_7_code
def y7_sayBowl : MethodName := ⟨R7, "sayBowl", "(III)I"⟩
theorem yy7_sayBowl : zYV y7_sayBowl b7_sayBowl 4 (some .int) 3 := ⟨⟨(zwd 728 (by decide +kernel) rfl), (zwd 9 (by decide +kernel) rfl), ⟨by decide +kernel, by decide +kernel⟩, by decide +kernel⟩, (zwd 727 (by decide +kernel) rfl), (zws 22 (by decide +kernel) rfl)⟩
theorem yc7_sayBowl : zYC y7_sayBowl 7 := ⟨by decide, T7, 6, rfl⟩
abbrev b7_saySilvered : ByteArray := prog_9_method_8_code
def y7_saySilvered : MethodName := ⟨R7, "saySilvered", "(III)I"⟩
theorem yy7_saySilvered : zYV y7_saySilvered b7_saySilvered 4 (some .int) 3 := ⟨⟨(zwd 732 (by decide +kernel) rfl), (zwd 9 (by decide +kernel) rfl), ⟨by decide +kernel, by decide +kernel⟩, by decide +kernel⟩, (zwd 731 (by decide +kernel) rfl), (zws 23 (by decide +kernel) rfl)⟩
theorem yc7_saySilvered : zYC y7_saySilvered 7 := ⟨by decide, T7, 6, rfl⟩
abbrev b7_sayOnly : ByteArray := prog_9_method_9_code
def y7_sayOnly : MethodName := ⟨R7, "sayOnly", "(III)I"⟩
theorem yy7_sayOnly : zYV y7_sayOnly b7_sayOnly 4 (some .int) 3 := ⟨⟨(zwd 736 (by decide +kernel) rfl), (zwd 9 (by decide +kernel) rfl), ⟨by decide +kernel, by decide +kernel⟩, by decide +kernel⟩, (zwd 735 (by decide +kernel) rfl), (zws 24 (by decide +kernel) rfl)⟩
theorem yc7_sayOnly : zYC y7_sayOnly 7 := ⟨by decide, T7, 6, rfl⟩
abbrev b7_answer : ByteArray := prog_9_method_2_code
def y7_answer : MethodName := ⟨R7, "answer", "(LGlassTax$Glass;III)I"⟩
theorem yy7_answer : zYV y7_answer b7_answer 5 (some .int) 4 := ⟨⟨(zwd 706 (by decide +kernel) rfl), (zwd 9 (by decide +kernel) rfl), ⟨by decide +kernel, by decide +kernel⟩, by decide +kernel⟩, (zwd 704 (by decide +kernel) rfl), (zwd 705 (by decide +kernel) rfl)⟩
theorem yc7_answer : zYC y7_answer 7 := ⟨by decide, T7, 6, rfl⟩
abbrev b8_voice : ByteArray := prog_1_method_29_code
def y8_voice : MethodName := ⟨R8, "voice", "(III)I"⟩
theorem yy8_voice : zYV y8_voice b8_voice 6 (some .int) 3 := ⟨⟨(zwd 702 (by decide +kernel) rfl), (zwd 1 (by decide +kernel) rfl), ⟨by decide +kernel, by decide +kernel⟩, by decide +kernel⟩, (zwd 700 (by decide +kernel) rfl), (zwd 701 (by decide +kernel) rfl)⟩
theorem yc8_voice : zYC y8_voice 8 := ⟨by decide, T8, 11, rfl⟩
abbrev b9_about : ByteArray := prog_11_method_12_code
def y9_about : MethodName := ⟨R9, "about", "(II)I"⟩
theorem yy9_about : zYV y9_about b9_about 3 (some .int) 2 := ⟨⟨(zwd 993 (by decide +kernel) rfl), (zwd 11 (by decide +kernel) rfl), ⟨by decide +kernel, by decide +kernel⟩, by decide +kernel⟩, (zwd 992 (by decide +kernel) rfl), (zws 33 (by decide +kernel) rfl)⟩
theorem yc9_about : zYC y9_about 9 := ⟨by decide, T9, 27, rfl⟩
abbrev b9_byteHere : ByteArray := prog_11_method_39_code
def y9_byteHere : MethodName := ⟨R9, "byteHere", "()I"⟩
theorem yy9_byteHere : zYV y9_byteHere b9_byteHere 1 (some .int) 0 := ⟨⟨(zwd 1080 (by decide +kernel) rfl), (zwd 11 (by decide +kernel) rfl), ⟨by decide +kernel, by decide +kernel⟩, by decide +kernel⟩, (zwd 1079 (by decide +kernel) rfl), (zws 47 (by decide +kernel) rfl)⟩
theorem yc9_byteHere : zYC y9_byteHere 9 := ⟨by decide, T9, 27, rfl⟩
abbrev b9_step : ByteArray := prog_11_method_40_code
def y9_step : MethodName := ⟨R9, "step", "(II)V"⟩
theorem yy9_step : zYV y9_step b9_step 3 none 2 := ⟨⟨(zwd 1088 (by decide +kernel) rfl), (zwd 11 (by decide +kernel) rfl), ⟨by decide +kernel, by decide +kernel⟩, by decide +kernel⟩, (zwd 1087 (by decide +kernel) rfl), (zws 49 (by decide +kernel) rfl)⟩
theorem yc9_step : zYC y9_step 9 := ⟨by decide, T9, 27, rfl⟩
abbrev b9_nameOf : ByteArray := prog_11_method_41_code
def y9_nameOf : MethodName := ⟨R9, "nameOf", "(I)I"⟩
theorem yy9_nameOf : zYV y9_nameOf b9_nameOf 2 (some .int) 1 := ⟨⟨(zwd 1084 (by decide +kernel) rfl), (zwd 11 (by decide +kernel) rfl), ⟨by decide +kernel, by decide +kernel⟩, by decide +kernel⟩, (zwd 1083 (by decide +kernel) rfl), (zws 48 (by decide +kernel) rfl)⟩
theorem yc9_nameOf : zYC y9_nameOf 9 := ⟨by decide, T9, 27, rfl⟩
abbrev b9_in : ByteArray := prog_11_method_3_code
def y9_in : MethodName := ⟨R9, "in", "(III)Z"⟩
theorem yy9_in : zYS y9_in b9_in 3 (some .boolean) 3 := ⟨⟨(zwd 908 (by decide +kernel) rfl), (zwd 11 (by decide +kernel) rfl), ⟨by decide +kernel, by decide +kernel⟩, by decide +kernel⟩, (zwd 907 (by decide +kernel) rfl)⟩
abbrev b9_number : ByteArray := prog_11_method_42_code
def y9_number : MethodName := ⟨R9, "number", "()V"⟩
theorem yy9_number : zYV y9_number b9_number 3 none 0 := ⟨⟨(zwd 1096 (by decide +kernel) rfl), (zwd 11 (by decide +kernel) rfl), ⟨by decide +kernel, by decide +kernel⟩, by decide +kernel⟩, (zwd 1095 (by decide +kernel) rfl), (zws 51 (by decide +kernel) rfl)⟩
theorem yc9_number : zYC y9_number 9 := ⟨by decide, T9, 27, rfl⟩
abbrev b9_opens : ByteArray := prog_11_method_43_code
def y9_opens : MethodName := ⟨R9, "opens", "(I)V"⟩
theorem yy9_opens : zYV y9_opens b9_opens 2 none 1 := ⟨⟨(zwd 1092 (by decide +kernel) rfl), (zwd 11 (by decide +kernel) rfl), ⟨by decide +kernel, by decide +kernel⟩, by decide +kernel⟩, (zwd 1091 (by decide +kernel) rfl), (zws 50 (by decide +kernel) rfl)⟩
theorem yc9_opens : zYC y9_opens 9 := ⟨by decide, T9, 27, rfl⟩
abbrev b9_one : ByteArray := prog_11_method_44_code
def y9_one : MethodName := ⟨R9, "one", "()V"⟩
theorem yy9_one : zYV y9_one b9_one 3 none 0 := ⟨⟨(zwd 1076 (by decide +kernel) rfl), (zwd 11 (by decide +kernel) rfl), ⟨by decide +kernel, by decide +kernel⟩, by decide +kernel⟩, (zwd 1075 (by decide +kernel) rfl), (zws 46 (by decide +kernel) rfl)⟩
theorem yc9_one : zYC y9_one 9 := ⟨by decide, T9, 27, rfl⟩
abbrev b9_times : ByteArray := prog_11_method_45_code
def y9_times : MethodName := ⟨R9, "times", "()V"⟩
theorem yy9_times : zYV y9_times b9_times 2 none 0 := ⟨⟨(zwd 1072 (by decide +kernel) rfl), (zwd 11 (by decide +kernel) rfl), ⟨by decide +kernel, by decide +kernel⟩, by decide +kernel⟩, (zwd 1071 (by decide +kernel) rfl), (zws 45 (by decide +kernel) rfl)⟩
theorem yc9_times : zYC y9_times 9 := ⟨by decide, T9, 27, rfl⟩
abbrev b9_sum : ByteArray := prog_11_method_46_code
def y9_sum : MethodName := ⟨R9, "sum", "()V"⟩
theorem yy9_sum : zYV y9_sum b9_sum 2 none 0 := ⟨⟨(zwd 1068 (by decide +kernel) rfl), (zwd 11 (by decide +kernel) rfl), ⟨by decide +kernel, by decide +kernel⟩, by decide +kernel⟩, (zwd 1067 (by decide +kernel) rfl), (zws 44 (by decide +kernel) rfl)⟩
theorem yc9_sum : zYC y9_sum 9 := ⟨by decide, T9, 27, rfl⟩
abbrev b9_compares : ByteArray := prog_11_method_47_code
def y9_compares : MethodName := ⟨R9, "compares", "()V"⟩
theorem yy9_compares : zYV y9_compares b9_compares 2 none 0 := ⟨⟨(zwd 1064 (by decide +kernel) rfl), (zwd 11 (by decide +kernel) rfl), ⟨by decide +kernel, by decide +kernel⟩, by decide +kernel⟩, (zwd 1063 (by decide +kernel) rfl), (zws 43 (by decide +kernel) rfl)⟩
theorem yc9_compares : zYC y9_compares 9 := ⟨by decide, T9, 27, rfl⟩
abbrev b9_all : ByteArray := prog_11_method_48_code
def y9_all : MethodName := ⟨R9, "all", "()V"⟩
theorem yy9_all : zYV y9_all b9_all 1 none 0 := ⟨⟨(zwd 1060 (by decide +kernel) rfl), (zwd 11 (by decide +kernel) rfl), ⟨by decide +kernel, by decide +kernel⟩, by decide +kernel⟩, (zwd 1059 (by decide +kernel) rfl), (zws 42 (by decide +kernel) rfl)⟩
theorem yc9_all : zYC y9_all 9 := ⟨by decide, T9, 27, rfl⟩
abbrev b9_any : ByteArray := prog_11_method_49_code
def y9_any : MethodName := ⟨R9, "any", "()V"⟩
theorem yy9_any : zYV y9_any b9_any 1 none 0 := ⟨⟨(zwd 1056 (by decide +kernel) rfl), (zwd 11 (by decide +kernel) rfl), ⟨by decide +kernel, by decide +kernel⟩, by decide +kernel⟩, (zwd 1055 (by decide +kernel) rfl), (zws 41 (by decide +kernel) rfl)⟩
theorem yc9_any : zYC y9_any 9 := ⟨by decide, T9, 27, rfl⟩
abbrev b9_around : ByteArray := prog_11_method_15_code
def y9_around : MethodName := ⟨R9, "around", "(I)I"⟩
theorem yy9_around : zYS y9_around b9_around 1 (some .int) 1 := ⟨⟨(zwd 952 (by decide +kernel) rfl), (zwd 11 (by decide +kernel) rfl), ⟨by decide +kernel, by decide +kernel⟩, by decide +kernel⟩, (zwd 951 (by decide +kernel) rfl)⟩
abbrev b9_error : ByteArray := prog_11_method_2_code
def y9_error : MethodName := ⟨R9, "error", "(I)I"⟩
theorem yy9_error : zYV y9_error b9_error 2 (some .int) 1 := ⟨⟨(zwd 919 (by decide +kernel) rfl), (zwd 11 (by decide +kernel) rfl), ⟨by decide +kernel, by decide +kernel⟩, by decide +kernel⟩, (zwd 918 (by decide +kernel) rfl), (zws 25 (by decide +kernel) rfl)⟩
theorem yc9_error : zYC y9_error 9 := ⟨by decide, T9, 27, rfl⟩
abbrev b9_isGlass : ByteArray := prog_11_method_6_code
def y9_isGlass : MethodName := ⟨R9, "isGlass", "(I)Z"⟩
theorem yy9_isGlass : zYV y9_isGlass b9_isGlass 2 (some .boolean) 1 := ⟨⟨(zwd 938 (by decide +kernel) rfl), (zwd 11 (by decide +kernel) rfl), ⟨by decide +kernel, by decide +kernel⟩, by decide +kernel⟩, (zwd 937 (by decide +kernel) rfl), (zws 28 (by decide +kernel) rfl)⟩
theorem yc9_isGlass : zYC y9_isGlass 9 := ⟨by decide, T9, 27, rfl⟩
abbrev b9_of : ByteArray := prog_11_method_11_code
def y9_of : MethodName := ⟨R9, "of", "(II)I"⟩
theorem yy9_of : zYV y9_of b9_of 3 (some .int) 2 := ⟨⟨(zwd 929 (by decide +kernel) rfl), (zwd 11 (by decide +kernel) rfl), ⟨by decide +kernel, by decide +kernel⟩, by decide +kernel⟩, (zwd 928 (by decide +kernel) rfl), (zws 27 (by decide +kernel) rfl)⟩
theorem yc9_of : zYC y9_of 9 := ⟨by decide, T9, 27, rfl⟩
abbrev b9_as : ByteArray := prog_11_method_29_code
def y9_as : MethodName := ⟨R9, "as", "(II)I"⟩
theorem yy9_as : zYV y9_as b9_as 5 (some .int) 2 := ⟨⟨(zwd 968 (by decide +kernel) rfl), (zwd 11 (by decide +kernel) rfl), ⟨by decide +kernel, by decide +kernel⟩, by decide +kernel⟩, (zwd 966 (by decide +kernel) rfl), (zwd 967 (by decide +kernel) rfl)⟩
theorem yc9_as : zYC y9_as 9 := ⟨by decide, T9, 27, rfl⟩
abbrev b9_isCell : ByteArray := prog_11_method_8_code
def y9_isCell : MethodName := ⟨R9, "isCell", "(I)Z"⟩
theorem yy9_isCell : zYS y9_isCell b9_isCell 1 (some .boolean) 1 := ⟨⟨(zwd 911 (by decide +kernel) rfl), (zwd 11 (by decide +kernel) rfl), ⟨by decide +kernel, by decide +kernel⟩, by decide +kernel⟩, (zwd 910 (by decide +kernel) rfl)⟩
abbrev b9_isFour : ByteArray := prog_11_method_9_code
def y9_isFour : MethodName := ⟨R9, "isFour", "(I)Z"⟩
theorem yy9_isFour : zYS y9_isFour b9_isFour 1 (some .boolean) 1 := ⟨⟨(zwd 914 (by decide +kernel) rfl), (zwd 11 (by decide +kernel) rfl), ⟨by decide +kernel, by decide +kernel⟩, by decide +kernel⟩, (zwd 913 (by decide +kernel) rfl)⟩
abbrev b9_glassAt : ByteArray := prog_11_method_13_code
def y9_glassAt : MethodName := ⟨R9, "glassAt", "(I)I"⟩
theorem yy9_glassAt : zYV y9_glassAt b9_glassAt 3 (some .int) 1 := ⟨⟨(zwd 925 (by decide +kernel) rfl), (zwd 11 (by decide +kernel) rfl), ⟨by decide +kernel, by decide +kernel⟩, by decide +kernel⟩, (zwd 924 (by decide +kernel) rfl), (zws 26 (by decide +kernel) rfl)⟩
theorem yc9_glassAt : zYC y9_glassAt 9 := ⟨by decide, T9, 27, rfl⟩
abbrev b9_held : ByteArray := prog_11_method_4_code
def y9_held : MethodName := ⟨R9, "held", "(III)I"⟩
theorem yy9_held : zYS y9_held b9_held 3 (some .int) 3 := ⟨⟨(zwd 1026 (by decide +kernel) rfl), (zwd 11 (by decide +kernel) rfl), ⟨by decide +kernel, by decide +kernel⟩, by decide +kernel⟩, (zwd 1025 (by decide +kernel) rfl)⟩
abbrev b9_twoOf : ByteArray := prog_11_method_52_code
def y9_twoOf : MethodName := ⟨R9, "twoOf", "(III)I"⟩
theorem yy9_twoOf : zYS y9_twoOf b9_twoOf 3 (some .int) 3 := ⟨⟨(zwd 1023 (by decide +kernel) rfl), (zwd 11 (by decide +kernel) rfl), ⟨by decide +kernel, by decide +kernel⟩, by decide +kernel⟩, (zwd 1022 (by decide +kernel) rfl)⟩
abbrev b9_works : ByteArray := prog_11_method_53_code
def y9_works : MethodName := ⟨R9, "works", "(I)I"⟩
theorem yy9_works : zYV y9_works b9_works 5 (some .int) 1 := ⟨⟨(zwd 1020 (by decide +kernel) rfl), (zwd 11 (by decide +kernel) rfl), ⟨by decide +kernel, by decide +kernel⟩, by decide +kernel⟩, (zwd 1019 (by decide +kernel) rfl), (zws 39 (by decide +kernel) rfl)⟩
theorem yc9_works : zYC y9_works 9 := ⟨by decide, T9, 27, rfl⟩
abbrev b9_gives : ByteArray := prog_11_method_54_code
def y9_gives : MethodName := ⟨R9, "gives", "(IIII)I"⟩
theorem yy9_gives : zYV y9_gives b9_gives 7 (some .int) 4 := ⟨⟨(zwd 1016 (by decide +kernel) rfl), (zwd 11 (by decide +kernel) rfl), ⟨by decide +kernel, by decide +kernel⟩, by decide +kernel⟩, (zwd 1015 (by decide +kernel) rfl), (zws 38 (by decide +kernel) rfl)⟩
theorem yc9_gives : zYC y9_gives 9 := ⟨by decide, T9, 27, rfl⟩
abbrev b9_isNight : ByteArray := prog_11_method_14_code
def y9_isNight : MethodName := ⟨R9, "isNight", "()Z"⟩
theorem yy9_isNight : zYV y9_isNight b9_isNight 2 (some .boolean) 0 := ⟨⟨(zwd 956 (by decide +kernel) rfl), (zwd 11 (by decide +kernel) rfl), ⟨by decide +kernel, by decide +kernel⟩, by decide +kernel⟩, (zwd 955 (by decide +kernel) rfl), (zws 30 (by decide +kernel) rfl)⟩
theorem yc9_isNight : zYC y9_isNight 9 := ⟨by decide, T9, 27, rfl⟩
abbrev b9_plainOnward : ByteArray := prog_11_method_16_code
def y9_plainOnward : MethodName := ⟨R9, "plainOnward", "(II)I"⟩
theorem yy9_plainOnward : zYS y9_plainOnward b9_plainOnward 2 (some .int) 2 := ⟨⟨(zwd 949 (by decide +kernel) rfl), (zwd 11 (by decide +kernel) rfl), ⟨by decide +kernel, by decide +kernel⟩, by decide +kernel⟩, (zwd 948 (by decide +kernel) rfl)⟩
abbrev b9_onward : ByteArray := prog_11_method_17_code
def y9_onward : MethodName := ⟨R9, "onward", "(II)I"⟩
theorem yy9_onward : zYV y9_onward b9_onward 4 (some .int) 2 := ⟨⟨(zwd 946 (by decide +kernel) rfl), (zwd 11 (by decide +kernel) rfl), ⟨by decide +kernel, by decide +kernel⟩, by decide +kernel⟩, (zwd 945 (by decide +kernel) rfl), (zws 29 (by decide +kernel) rfl)⟩
theorem yc9_onward : zYC y9_onward 9 := ⟨by decide, T9, 27, rfl⟩
abbrev b9_meet : ByteArray := prog_11_method_19_code
def y9_meet : MethodName := ⟨R9, "meet", "(II)I"⟩
theorem yy9_meet : zYV y9_meet b9_meet 4 (some .int) 2 := ⟨⟨(zwd 1012 (by decide +kernel) rfl), (zwd 11 (by decide +kernel) rfl), ⟨by decide +kernel, by decide +kernel⟩, by decide +kernel⟩, (zwd 1011 (by decide +kernel) rfl), (zws 37 (by decide +kernel) rfl)⟩
theorem yc9_meet : zYC y9_meet 9 := ⟨by decide, T9, 27, rfl⟩
abbrev b9_next : ByteArray := prog_11_method_18_code
def y9_next : MethodName := ⟨R9, "next", "(II)I"⟩
theorem yy9_next : zYS y9_next b9_next 2 (some .int) 2 := ⟨⟨(zwd 1008 (by decide +kernel) rfl), (zwd 11 (by decide +kernel) rfl), ⟨by decide +kernel, by decide +kernel⟩, by decide +kernel⟩, (zwd 1007 (by decide +kernel) rfl)⟩
abbrev b9_looks : ByteArray := prog_11_method_20_code
def y9_looks : MethodName := ⟨R9, "looks", "(II)V"⟩
theorem yy9_looks : zYV y9_looks b9_looks 6 none 2 := ⟨⟨(zwd 1005 (by decide +kernel) rfl), (zwd 11 (by decide +kernel) rfl), ⟨by decide +kernel, by decide +kernel⟩, by decide +kernel⟩, (zwd 1004 (by decide +kernel) rfl), (zws 36 (by decide +kernel) rfl)⟩
theorem yc9_looks : zYC y9_looks 9 := ⟨by decide, T9, 27, rfl⟩
abbrev b9_at : ByteArray := prog_11_method_63_code
def y9_at : MethodName := ⟨R9, "at", "(III)I"⟩
theorem yy9_at : zYV y9_at b9_at 4 (some .int) 3 := ⟨⟨(zwd 1138 (by decide +kernel) rfl), (zwd 11 (by decide +kernel) rfl), ⟨by decide +kernel, by decide +kernel⟩, by decide +kernel⟩, (zwd 1136 (by decide +kernel) rfl), (zwd 1137 (by decide +kernel) rfl)⟩
theorem yc9_at : zYC y9_at 9 := ⟨by decide, T9, 27, rfl⟩
abbrev b9_becomes : ByteArray := prog_11_method_10_code
def y9_becomes : MethodName := ⟨R9, "becomes", "(II)I"⟩
theorem yy9_becomes : zYV y9_becomes b9_becomes 4 (some .int) 2 := ⟨⟨(zwd 964 (by decide +kernel) rfl), (zwd 11 (by decide +kernel) rfl), ⟨by decide +kernel, by decide +kernel⟩, by decide +kernel⟩, (zwd 963 (by decide +kernel) rfl), (zws 31 (by decide +kernel) rfl)⟩
theorem yc9_becomes : zYC y9_becomes 9 := ⟨by decide, T9, 27, rfl⟩
abbrev b9_isKm : ByteArray := prog_11_method_24_code
def y9_isKm : MethodName := ⟨R9, "isKm", "(I)Z"⟩
theorem yy9_isKm : zYS y9_isKm b9_isKm 1 (some .boolean) 1 := ⟨⟨(zwd 905 (by decide +kernel) rfl), (zwd 11 (by decide +kernel) rfl), ⟨by decide +kernel, by decide +kernel⟩, by decide +kernel⟩, (zwd 904 (by decide +kernel) rfl)⟩
abbrev b9_become : ByteArray := prog_11_method_28_code
def y9_become : MethodName := ⟨R9, "become", "(II)I"⟩
theorem yy9_become : zYV y9_become b9_become 3 (some .int) 2 := ⟨⟨(zwd 960 (by decide +kernel) rfl), (zwd 11 (by decide +kernel) rfl), ⟨by decide +kernel, by decide +kernel⟩, by decide +kernel⟩, (zwd 958 (by decide +kernel) rfl), (zwd 959 (by decide +kernel) rfl)⟩
theorem yc9_become : zYC y9_become 9 := ⟨by decide, T9, 27, rfl⟩
abbrev b9_begins : ByteArray := prog_11_method_75_code
def y9_begins : MethodName := ⟨R9, "begins", "(I)V"⟩
theorem yy9_begins : zYV y9_begins b9_begins 2 none 1 := ⟨⟨(zwd 1208 (by decide +kernel) rfl), (zwd 11 (by decide +kernel) rfl), ⟨by decide +kernel, by decide +kernel⟩, by decide +kernel⟩, (zwd 1207 (by decide +kernel) rfl), (zws 63 (by decide +kernel) rfl)⟩
theorem yc9_begins : zYC y9_begins 9 := ⟨by decide, T9, 27, rfl⟩
abbrev b9_body : ByteArray := prog_11_method_87_code
def y9_body : MethodName := ⟨R9, "body", "(I)I"⟩
theorem yy9_body : zYV y9_body b9_body 2 (some .int) 1 := ⟨⟨(zwd 1245 (by decide +kernel) rfl), (zwd 11 (by decide +kernel) rfl), ⟨by decide +kernel, by decide +kernel⟩, by decide +kernel⟩, (zwd 1243 (by decide +kernel) rfl), (zwd 1244 (by decide +kernel) rfl)⟩
theorem yc9_body : zYC y9_body 9 := ⟨by decide, T9, 27, rfl⟩
abbrev b9_isSeen : ByteArray := prog_11_method_21_code
def y9_isSeen : MethodName := ⟨R9, "isSeen", "(I)Z"⟩
theorem yy9_isSeen : zYV y9_isSeen b9_isSeen 3 (some .boolean) 1 := ⟨⟨(zwd 1146 (by decide +kernel) rfl), (zwd 11 (by decide +kernel) rfl), ⟨by decide +kernel, by decide +kernel⟩, by decide +kernel⟩, (zwd 1145 (by decide +kernel) rfl), (zws 55 (by decide +kernel) rfl)⟩
theorem yc9_isSeen : zYC y9_isSeen 9 := ⟨by decide, T9, 27, rfl⟩
abbrev b9_looksOf : ByteArray := prog_11_method_22_code
def y9_looksOf : MethodName := ⟨R9, "looksOf", "(I)V"⟩
theorem yy9_looksOf : zYV y9_looksOf b9_looksOf 2 none 1 := ⟨⟨(zwd 1001 (by decide +kernel) rfl), (zwd 11 (by decide +kernel) rfl), ⟨by decide +kernel, by decide +kernel⟩, by decide +kernel⟩, (zwd 1000 (by decide +kernel) rfl), (zws 35 (by decide +kernel) rfl)⟩
theorem yc9_looksOf : zYC y9_looksOf 9 := ⟨by decide, T9, 27, rfl⟩
abbrev b9_doesSee : ByteArray := prog_11_method_69_code
def y9_doesSee : MethodName := ⟨R9, "doesSee", "(II)Z"⟩
theorem yy9_doesSee : zYV y9_doesSee b9_doesSee 3 (some .boolean) 2 := ⟨⟨(zwd 1177 (by decide +kernel) rfl), (zwd 11 (by decide +kernel) rfl), ⟨by decide +kernel, by decide +kernel⟩, by decide +kernel⟩, (zwd 1176 (by decide +kernel) rfl), (zws 59 (by decide +kernel) rfl)⟩
theorem yc9_doesSee : zYC y9_doesSee 9 := ⟨by decide, T9, 27, rfl⟩
abbrev b9_canSee : ByteArray := prog_11_method_70_code
def y9_canSee : MethodName := ⟨R9, "canSee", "(IIII)Z"⟩
theorem yy9_canSee : zYV y9_canSee b9_canSee 9 (some .boolean) 4 := ⟨⟨(zwd 1173 (by decide +kernel) rfl), (zwd 11 (by decide +kernel) rfl), ⟨by decide +kernel, by decide +kernel⟩, by decide +kernel⟩, (zwd 1172 (by decide +kernel) rfl), (zws 58 (by decide +kernel) rfl)⟩
theorem yc9_canSee : zYC y9_canSee 9 := ⟨by decide, T9, 27, rfl⟩
abbrev b9_isPerson : ByteArray := prog_11_method_7_code
def y9_isPerson : MethodName := ⟨R9, "isPerson", "(I)Z"⟩
theorem yy9_isPerson : zYV y9_isPerson b9_isPerson 2 (some .boolean) 1 := ⟨⟨(zwd 989 (by decide +kernel) rfl), (zwd 11 (by decide +kernel) rfl), ⟨by decide +kernel, by decide +kernel⟩, by decide +kernel⟩, (zwd 988 (by decide +kernel) rfl), (zws 32 (by decide +kernel) rfl)⟩
theorem yc9_isPerson : zYC y9_isPerson 9 := ⟨by decide, T9, 27, rfl⟩
abbrev b9_check : ByteArray := prog_11_method_99_code
def y9_check : MethodName := ⟨R9, "check", "()I"⟩
theorem yy9_check : zYV y9_check b9_check 3 (some .int) 0 := ⟨⟨(zwd 1289 (by decide +kernel) rfl), (zwd 11 (by decide +kernel) rfl), ⟨by decide +kernel, by decide +kernel⟩, by decide +kernel⟩, (zwd 1287 (by decide +kernel) rfl), (zwd 1288 (by decide +kernel) rfl)⟩
theorem yc9_check : zYC y9_check 9 := ⟨by decide, T9, 27, rfl⟩
abbrev b9_copyAll : ByteArray := prog_11_method_5_code
def y9_copyAll : MethodName := ⟨R9, "copyAll", "([I[I)V"⟩
theorem yy9_copyAll : zYS y9_copyAll b9_copyAll 3 none 2 := ⟨⟨(zwd 1157 (by decide +kernel) rfl), (zwd 11 (by decide +kernel) rfl), ⟨by decide +kernel, by decide +kernel⟩, by decide +kernel⟩, (zwd 1156 (by decide +kernel) rfl)⟩
abbrev b9_count : ByteArray := prog_11_method_100_code
def y9_count : MethodName := ⟨R9, "count", "(I)I"⟩
theorem yy9_count : zYV y9_count b9_count 2 (some .int) 1 := ⟨⟨(zwd 1293 (by decide +kernel) rfl), (zwd 11 (by decide +kernel) rfl), ⟨by decide +kernel, by decide +kernel⟩, by decide +kernel⟩, (zwd 1291 (by decide +kernel) rfl), (zwd 1292 (by decide +kernel) rfl)⟩
theorem yc9_count : zYC y9_count 9 := ⟨by decide, T9, 27, rfl⟩
abbrev b9_draw : ByteArray := prog_11_method_58_code
def y9_draw : MethodName := ⟨R9, "draw", "()I"⟩
theorem yy9_draw : zYV y9_draw b9_draw 1 (some .int) 0 := ⟨⟨(zwd 1124 (by decide +kernel) rfl), (zwd 11 (by decide +kernel) rfl), ⟨by decide +kernel, by decide +kernel⟩, by decide +kernel⟩, (zwd 1123 (by decide +kernel) rfl), (zws 54 (by decide +kernel) rfl)⟩
theorem yc9_draw : zYC y9_draw 9 := ⟨by decide, T9, 27, rfl⟩
abbrev b9_drawn : ByteArray := prog_11_method_59_code
def y9_drawn : MethodName := ⟨R9, "drawn", "()V"⟩
theorem yy9_drawn : zYV y9_drawn b9_drawn 3 none 0 := ⟨⟨(zwd 1120 (by decide +kernel) rfl), (zwd 11 (by decide +kernel) rfl), ⟨by decide +kernel, by decide +kernel⟩, by decide +kernel⟩, (zwd 1119 (by decide +kernel) rfl), (zws 53 (by decide +kernel) rfl)⟩
theorem yc9_drawn : zYC y9_drawn 9 := ⟨by decide, T9, 27, rfl⟩
abbrev b9_dueOf : ByteArray := prog_11_method_23_code
def y9_dueOf : MethodName := ⟨R9, "dueOf", "(I)I"⟩
theorem yy9_dueOf : zYV y9_dueOf b9_dueOf 2 (some .int) 1 := ⟨⟨(zwd 997 (by decide +kernel) rfl), (zwd 11 (by decide +kernel) rfl), ⟨by decide +kernel, by decide +kernel⟩, by decide +kernel⟩, (zwd 996 (by decide +kernel) rfl), (zws 34 (by decide +kernel) rfl)⟩
theorem yc9_dueOf : zYC y9_dueOf 9 := ⟨by decide, T9, 27, rfl⟩
abbrev b9_plainGleams : ByteArray := prog_11_method_76_code
def y9_plainGleams : MethodName := ⟨R9, "plainGleams", "(II)I"⟩
theorem yy9_plainGleams : zYV y9_plainGleams b9_plainGleams 3 (some .int) 2 := ⟨⟨(zwd 1212 (by decide +kernel) rfl), (zwd 11 (by decide +kernel) rfl), ⟨by decide +kernel, by decide +kernel⟩, by decide +kernel⟩, (zwd 1211 (by decide +kernel) rfl), (zws 64 (by decide +kernel) rfl)⟩
theorem yc9_plainGleams : zYC y9_plainGleams 9 := ⟨by decide, T9, 27, rfl⟩
abbrev b9_spoonGleams : ByteArray := prog_11_method_77_code
def y9_spoonGleams : MethodName := ⟨R9, "spoonGleams", "(II)I"⟩
theorem yy9_spoonGleams : zYV y9_spoonGleams b9_spoonGleams 3 (some .int) 2 := ⟨⟨(zwd 1204 (by decide +kernel) rfl), (zwd 11 (by decide +kernel) rfl), ⟨by decide +kernel, by decide +kernel⟩, by decide +kernel⟩, (zwd 1203 (by decide +kernel) rfl), (zws 62 (by decide +kernel) rfl)⟩
theorem yc9_spoonGleams : zYC y9_spoonGleams 9 := ⟨by decide, T9, 27, rfl⟩
abbrev b9_gleams : ByteArray := prog_11_method_78_code
def y9_gleams : MethodName := ⟨R9, "gleams", "(II)I"⟩
theorem yy9_gleams : zYV y9_gleams b9_gleams 3 (some .int) 2 := ⟨⟨(zwd 1200 (by decide +kernel) rfl), (zwd 11 (by decide +kernel) rfl), ⟨by decide +kernel, by decide +kernel⟩, by decide +kernel⟩, (zwd 1199 (by decide +kernel) rfl), (zws 61 (by decide +kernel) rfl)⟩
theorem yc9_gleams : zYC y9_gleams 9 := ⟨by decide, T9, 27, rfl⟩
abbrev b9_plainGlints : ByteArray := prog_11_method_79_code
def y9_plainGlints : MethodName := ⟨R9, "plainGlints", "(II)I"⟩
theorem yy9_plainGlints : zYV y9_plainGlints b9_plainGlints 3 (some .int) 2 := ⟨⟨(zwd 1224 (by decide +kernel) rfl), (zwd 11 (by decide +kernel) rfl), ⟨by decide +kernel, by decide +kernel⟩, by decide +kernel⟩, (zwd 1223 (by decide +kernel) rfl), (zws 67 (by decide +kernel) rfl)⟩
theorem yc9_plainGlints : zYC y9_plainGlints 9 := ⟨by decide, T9, 27, rfl⟩
abbrev b9_paneGlints : ByteArray := prog_11_method_80_code
def y9_paneGlints : MethodName := ⟨R9, "paneGlints", "(II)I"⟩
theorem yy9_paneGlints : zYV y9_paneGlints b9_paneGlints 3 (some .int) 2 := ⟨⟨(zwd 1220 (by decide +kernel) rfl), (zwd 11 (by decide +kernel) rfl), ⟨by decide +kernel, by decide +kernel⟩, by decide +kernel⟩, (zwd 1219 (by decide +kernel) rfl), (zws 66 (by decide +kernel) rfl)⟩
theorem yc9_paneGlints : zYC y9_paneGlints 9 := ⟨by decide, T9, 27, rfl⟩
abbrev b9_glints : ByteArray := prog_11_method_81_code
def y9_glints : MethodName := ⟨R9, "glints", "(II)I"⟩
theorem yy9_glints : zYV y9_glints b9_glints 3 (some .int) 2 := ⟨⟨(zwd 1216 (by decide +kernel) rfl), (zwd 11 (by decide +kernel) rfl), ⟨by decide +kernel, by decide +kernel⟩, by decide +kernel⟩, (zwd 1215 (by decide +kernel) rfl), (zws 65 (by decide +kernel) rfl)⟩
theorem yc9_glints : zYC y9_glints 9 := ⟨by decide, T9, 27, rfl⟩
abbrev b9_plainFades : ByteArray := prog_11_method_82_code
def y9_plainFades : MethodName := ⟨R9, "plainFades", "(II)I"⟩
theorem yy9_plainFades : zYV y9_plainFades b9_plainFades 3 (some .int) 2 := ⟨⟨(zwd 1232 (by decide +kernel) rfl), (zwd 11 (by decide +kernel) rfl), ⟨by decide +kernel, by decide +kernel⟩, by decide +kernel⟩, (zwd 1231 (by decide +kernel) rfl), (zws 69 (by decide +kernel) rfl)⟩
theorem yc9_plainFades : zYC y9_plainFades 9 := ⟨by decide, T9, 27, rfl⟩
abbrev b9_fades : ByteArray := prog_11_method_83_code
def y9_fades : MethodName := ⟨R9, "fades", "(II)I"⟩
theorem yy9_fades : zYV y9_fades b9_fades 3 (some .int) 2 := ⟨⟨(zwd 1228 (by decide +kernel) rfl), (zwd 11 (by decide +kernel) rfl), ⟨by decide +kernel, by decide +kernel⟩, by decide +kernel⟩, (zwd 1227 (by decide +kernel) rfl), (zws 68 (by decide +kernel) rfl)⟩
theorem yc9_fades : zYC y9_fades 9 := ⟨by decide, T9, 27, rfl⟩
abbrev b9_feed : ByteArray := prog_11_method_38_code
def y9_feed : MethodName := ⟨R9, "feed", "(JI)I"⟩
theorem yy9_feed : zYV y9_feed b9_feed 5 (some .int) 2 := ⟨⟨(zwd 1047 (by decide +kernel) rfl), (zwd 11 (by decide +kernel) rfl), ⟨by decide +kernel, by decide +kernel⟩, by decide +kernel⟩, (zwd 1045 (by decide +kernel) rfl), (zwd 1046 (by decide +kernel) rfl)⟩
theorem yc9_feed : zYC y9_feed 9 := ⟨by decide, T9, 27, rfl⟩
abbrev b9_isSheet : ByteArray := prog_11_method_88_code
def y9_isSheet : MethodName := ⟨R9, "isSheet", "(I)Z"⟩
theorem yy9_isSheet : zYS y9_isSheet b9_isSheet 1 (some .boolean) 1 := ⟨⟨(zwd 1188 (by decide +kernel) rfl), (zwd 11 (by decide +kernel) rfl), ⟨by decide +kernel, by decide +kernel⟩, by decide +kernel⟩, (zwd 1187 (by decide +kernel) rfl)⟩
abbrev b9_isSo : ByteArray := prog_11_method_73_code
def y9_isSo : MethodName := ⟨R9, "isSo", "(I)Z"⟩
theorem yy9_isSo : zYV y9_isSo b9_isSo 4 (some .boolean) 1 := ⟨⟨(zwd 1192 (by decide +kernel) rfl), (zwd 11 (by decide +kernel) rfl), ⟨by decide +kernel, by decide +kernel⟩, by decide +kernel⟩, (zwd 1191 (by decide +kernel) rfl), (zws 60 (by decide +kernel) rfl)⟩
theorem yc9_isSo : zYC y9_isSo 9 := ⟨by decide, T9, 27, rfl⟩
abbrev b9_fits : ByteArray := prog_11_method_74_code
def y9_fits : MethodName := ⟨R9, "fits", "(II)I"⟩
theorem yy9_fits : zYV y9_fits b9_fits 7 (some .int) 2 := ⟨⟨(zwd 1185 (by decide +kernel) rfl), (zwd 11 (by decide +kernel) rfl), ⟨by decide +kernel, by decide +kernel⟩, by decide +kernel⟩, (zwd 1183 (by decide +kernel) rfl), (zwd 1184 (by decide +kernel) rfl)⟩
theorem yc9_fits : zYC y9_fits 9 := ⟨by decide, T9, 27, rfl⟩
abbrev b9_glass : ByteArray := prog_11_method_25_code
def y9_glass : MethodName := ⟨R9, "glass", "(III)I"⟩
theorem yy9_glass : zYV y9_glass b9_glass 6 (some .int) 3 := ⟨⟨(zwd 902 (by decide +kernel) rfl), (zwd 11 (by decide +kernel) rfl), ⟨by decide +kernel, by decide +kernel⟩, by decide +kernel⟩, (zwd 900 (by decide +kernel) rfl), (zwd 901 (by decide +kernel) rfl)⟩
theorem yc9_glass : zYC y9_glass 9 := ⟨by decide, T9, 27, rfl⟩
abbrev b9_glassIs : ByteArray := prog_11_method_26_code
def y9_glassIs : MethodName := ⟨R9, "glassIs", "(II)I"⟩
theorem yy9_glassIs : zYV y9_glassIs b9_glassIs 3 (some .int) 2 := ⟨⟨(zwd 934 (by decide +kernel) rfl), (zwd 11 (by decide +kernel) rfl), ⟨by decide +kernel, by decide +kernel⟩, by decide +kernel⟩, (zwd 932 (by decide +kernel) rfl), (zwd 933 (by decide +kernel) rfl)⟩
theorem yc9_glassIs : zYC y9_glassIs 9 := ⟨by decide, T9, 27, rfl⟩
abbrev b9_goes : ByteArray := prog_11_method_56_code
def y9_goes : MethodName := ⟨R9, "goes", "()V"⟩
theorem yy9_goes : zYV y9_goes b9_goes 3 none 0 := ⟨⟨(zwd 1112 (by decide +kernel) rfl), (zwd 11 (by decide +kernel) rfl), ⟨by decide +kernel, by decide +kernel⟩, by decide +kernel⟩, (zwd 1111 (by decide +kernel) rfl), (zws 52 (by decide +kernel) rfl)⟩
theorem yc9_goes : zYC y9_goes 9 := ⟨by decide, T9, 27, rfl⟩
abbrev b9_hang : ByteArray := prog_11_method_31_code
def y9_hang : MethodName := ⟨R9, "hang", "(II)I"⟩
theorem yy9_hang : zYV y9_hang b9_hang 4 (some .int) 2 := ⟨⟨(zwd 977 (by decide +kernel) rfl), (zwd 11 (by decide +kernel) rfl), ⟨by decide +kernel, by decide +kernel⟩, by decide +kernel⟩, (zwd 975 (by decide +kernel) rfl), (zwd 976 (by decide +kernel) rfl)⟩
theorem yc9_hang : zYC y9_hang 9 := ⟨by decide, T9, 27, rfl⟩
abbrev b9_hour : ByteArray := prog_11_method_37_code
def y9_hour : MethodName := ⟨R9, "hour", "(I)I"⟩
theorem yy9_hour : zYV y9_hour b9_hour 2 (some .int) 1 := ⟨⟨(zwd 1043 (by decide +kernel) rfl), (zwd 11 (by decide +kernel) rfl), ⟨by decide +kernel, by decide +kernel⟩, by decide +kernel⟩, (zwd 1041 (by decide +kernel) rfl), (zwd 1042 (by decide +kernel) rfl)⟩
theorem yc9_hour : zYC y9_hour 9 := ⟨by decide, T9, 27, rfl⟩
abbrev b9_hours : ByteArray := prog_11_method_57_code
def y9_hours : MethodName := ⟨R9, "hours", "(I)I"⟩
theorem yy9_hours : zYV y9_hours b9_hours 3 (some .int) 1 := ⟨⟨(zwd 1108 (by decide +kernel) rfl), (zwd 11 (by decide +kernel) rfl), ⟨by decide +kernel, by decide +kernel⟩, by decide +kernel⟩, (zwd 1106 (by decide +kernel) rfl), (zwd 1107 (by decide +kernel) rfl)⟩
theorem yc9_hours : zYC y9_hours 9 := ⟨by decide, T9, 27, rfl⟩
abbrev b9_image : ByteArray := prog_11_method_96_code
def y9_image : MethodName := ⟨R9, "image", "()I"⟩
theorem yy9_image : zYV y9_image b9_image 1 (some .int) 0 := ⟨⟨(zwd 1277 (by decide +kernel) rfl), (zwd 11 (by decide +kernel) rfl), ⟨by decide +kernel, by decide +kernel⟩, by decide +kernel⟩, (zwd 1275 (by decide +kernel) rfl), (zwd 1276 (by decide +kernel) rfl)⟩
theorem yc9_image : zYC y9_image 9 := ⟨by decide, T9, 27, rfl⟩
abbrev b9_notThere : ByteArray := prog_11_method_90_code
def y9_notThere : MethodName := ⟨R9, "notThere", "(I)I"⟩
theorem yy9_notThere : zYV y9_notThere b9_notThere 2 (some .int) 1 := ⟨⟨(zwd 1257 (by decide +kernel) rfl), (zwd 11 (by decide +kernel) rfl), ⟨by decide +kernel, by decide +kernel⟩, by decide +kernel⟩, (zwd 1256 (by decide +kernel) rfl), (zws 72 (by decide +kernel) rfl)⟩
theorem yc9_notThere : zYC y9_notThere 9 := ⟨by decide, T9, 27, rfl⟩
abbrev b9_judge : ByteArray := prog_11_method_95_code
def y9_judge : MethodName := ⟨R9, "judge", "(I)I"⟩
theorem yy9_judge : zYV y9_judge b9_judge 4 (some .int) 1 := ⟨⟨(zwd 1273 (by decide +kernel) rfl), (zwd 11 (by decide +kernel) rfl), ⟨by decide +kernel, by decide +kernel⟩, by decide +kernel⟩, (zwd 1271 (by decide +kernel) rfl), (zwd 1272 (by decide +kernel) rfl)⟩
theorem yc9_judge : zYC y9_judge 9 := ⟨by decide, T9, 27, rfl⟩
abbrev b9_law : ByteArray := prog_11_method_55_code
def y9_law : MethodName := ⟨R9, "law", "(IIII)I"⟩
theorem yy9_law : zYV y9_law b9_law 5 (some .int) 4 := ⟨⟨(zwd 1104 (by decide +kernel) rfl), (zwd 11 (by decide +kernel) rfl), ⟨by decide +kernel, by decide +kernel⟩, by decide +kernel⟩, (zwd 1102 (by decide +kernel) rfl), (zwd 1103 (by decide +kernel) rfl)⟩
theorem yc9_law : zYC y9_law 9 := ⟨by decide, T9, 27, rfl⟩
abbrev b9_look : ByteArray := prog_11_method_62_code
def y9_look : MethodName := ⟨R9, "look", "(III)I"⟩
theorem yy9_look : zYV y9_look b9_look 4 (some .int) 3 := ⟨⟨(zwd 1133 (by decide +kernel) rfl), (zwd 11 (by decide +kernel) rfl), ⟨by decide +kernel, by decide +kernel⟩, by decide +kernel⟩, (zwd 1131 (by decide +kernel) rfl), (zwd 1132 (by decide +kernel) rfl)⟩
theorem yc9_look : zYC y9_look 9 := ⟨by decide, T9, 27, rfl⟩
abbrev b9_loose : ByteArray := prog_11_method_60_code
def y9_loose : MethodName := ⟨R9, "loose", "(I)I"⟩
theorem yy9_loose : zYV y9_loose b9_loose 3 (some .int) 1 := ⟨⟨(zwd 1116 (by decide +kernel) rfl), (zwd 11 (by decide +kernel) rfl), ⟨by decide +kernel, by decide +kernel⟩, by decide +kernel⟩, (zwd 1114 (by decide +kernel) rfl), (zwd 1115 (by decide +kernel) rfl)⟩
theorem yc9_loose : zYC y9_loose 9 := ⟨by decide, T9, 27, rfl⟩
abbrev b9_notMoved : ByteArray := prog_11_method_92_code
def y9_notMoved : MethodName := ⟨R9, "notMoved", "(IIIII)I"⟩
theorem yy9_notMoved : zYV y9_notMoved b9_notMoved 7 (some .int) 5 := ⟨⟨(zwd 1265 (by decide +kernel) rfl), (zwd 11 (by decide +kernel) rfl), ⟨by decide +kernel, by decide +kernel⟩, by decide +kernel⟩, (zwd 1264 (by decide +kernel) rfl), (zws 73 (by decide +kernel) rfl)⟩
theorem yc9_notMoved : zYC y9_notMoved 9 := ⟨by decide, T9, 27, rfl⟩
abbrev b9_move : ByteArray := prog_11_method_93_code
def y9_move : MethodName := ⟨R9, "move", "(IIIII)I"⟩
theorem yy9_move : zYV y9_move b9_move 9 (some .int) 5 := ⟨⟨(zwd 1261 (by decide +kernel) rfl), (zwd 11 (by decide +kernel) rfl), ⟨by decide +kernel, by decide +kernel⟩, by decide +kernel⟩, (zwd 1259 (by decide +kernel) rfl), (zwd 1260 (by decide +kernel) rfl)⟩
theorem yc9_move : zYC y9_move 9 := ⟨by decide, T9, 27, rfl⟩
abbrev b9_odds : ByteArray := prog_11_method_72_code
def y9_odds : MethodName := ⟨R9, "odds", "(I)I"⟩
theorem yy9_odds : zYV y9_odds b9_odds 4 (some .int) 1 := ⟨⟨(zwd 1181 (by decide +kernel) rfl), (zwd 11 (by decide +kernel) rfl), ⟨by decide +kernel, by decide +kernel⟩, by decide +kernel⟩, (zwd 1179 (by decide +kernel) rfl), (zwd 1180 (by decide +kernel) rfl)⟩
theorem yc9_odds : zYC y9_odds 9 := ⟨by decide, T9, 27, rfl⟩
abbrev b9_plainParts : ByteArray := prog_11_method_84_code
def y9_plainParts : MethodName := ⟨R9, "plainParts", "(II)I"⟩
theorem yy9_plainParts : zYV y9_plainParts b9_plainParts 4 (some .int) 2 := ⟨⟨(zwd 1240 (by decide +kernel) rfl), (zwd 11 (by decide +kernel) rfl), ⟨by decide +kernel, by decide +kernel⟩, by decide +kernel⟩, (zwd 1239 (by decide +kernel) rfl), (zws 71 (by decide +kernel) rfl)⟩
theorem yc9_plainParts : zYC y9_plainParts 9 := ⟨by decide, T9, 27, rfl⟩
abbrev b9_parts : ByteArray := prog_11_method_85_code
def y9_parts : MethodName := ⟨R9, "parts", "(II)I"⟩
theorem yy9_parts : zYV y9_parts b9_parts 4 (some .int) 2 := ⟨⟨(zwd 1236 (by decide +kernel) rfl), (zwd 11 (by decide +kernel) rfl), ⟨by decide +kernel, by decide +kernel⟩, by decide +kernel⟩, (zwd 1235 (by decide +kernel) rfl), (zws 70 (by decide +kernel) rfl)⟩
theorem yc9_parts : zYC y9_parts 9 := ⟨by decide, T9, 27, rfl⟩
abbrev b9_pay : ByteArray := prog_11_method_36_code
def y9_pay : MethodName := ⟨R9, "pay", "(II)I"⟩
theorem yy9_pay : zYV y9_pay b9_pay 4 (some .int) 2 := ⟨⟨(zwd 1038 (by decide +kernel) rfl), (zwd 11 (by decide +kernel) rfl), ⟨by decide +kernel, by decide +kernel⟩, by decide +kernel⟩, (zwd 1036 (by decide +kernel) rfl), (zwd 1037 (by decide +kernel) rfl)⟩
theorem yc9_pay : zYC y9_pay 9 := ⟨by decide, T9, 27, rfl⟩
abbrev b9_person : ByteArray := prog_11_method_32_code
def y9_person : MethodName := ⟨R9, "person", "(II)I"⟩
theorem yy9_person : zYV y9_person b9_person 4 (some .int) 2 := ⟨⟨(zwd 981 (by decide +kernel) rfl), (zwd 11 (by decide +kernel) rfl), ⟨by decide +kernel, by decide +kernel⟩, by decide +kernel⟩, (zwd 979 (by decide +kernel) rfl), (zwd 980 (by decide +kernel) rfl)⟩
theorem yc9_person : zYC y9_person 9 := ⟨by decide, T9, 27, rfl⟩
abbrev b9_personIs : ByteArray := prog_11_method_33_code
def y9_personIs : MethodName := ⟨R9, "personIs", "(II)I"⟩
theorem yy9_personIs : zYV y9_personIs b9_personIs 3 (some .int) 2 := ⟨⟨(zwd 985 (by decide +kernel) rfl), (zwd 11 (by decide +kernel) rfl), ⟨by decide +kernel, by decide +kernel⟩, by decide +kernel⟩, (zwd 983 (by decide +kernel) rfl), (zwd 984 (by decide +kernel) rfl)⟩
theorem yc9_personIs : zYC y9_personIs 9 := ⟨by decide, T9, 27, rfl⟩
abbrev b9_put : ByteArray := prog_11_method_91_code
def y9_put : MethodName := ⟨R9, "put", "(III)I"⟩
theorem yy9_put : zYV y9_put b9_put 5 (some .int) 3 := ⟨⟨(zwd 1253 (by decide +kernel) rfl), (zwd 11 (by decide +kernel) rfl), ⟨by decide +kernel, by decide +kernel⟩, by decide +kernel⟩, (zwd 1251 (by decide +kernel) rfl), (zwd 1252 (by decide +kernel) rfl)⟩
theorem yc9_put : zYC y9_put 9 := ⟨by decide, T9, 27, rfl⟩
abbrev b9_putsBack : ByteArray := prog_11_method_66_code
def y9_putsBack : MethodName := ⟨R9, "putsBack", "()V"⟩
theorem yy9_putsBack : zYV y9_putsBack b9_putsBack 1 none 0 := ⟨⟨(zwd 1161 (by decide +kernel) rfl), (zwd 11 (by decide +kernel) rfl), ⟨by decide +kernel, by decide +kernel⟩, by decide +kernel⟩, (zwd 1160 (by decide +kernel) rfl), (zws 57 (by decide +kernel) rfl)⟩
theorem yc9_putsBack : zYC y9_putsBack 9 := ⟨by decide, T9, 27, rfl⟩
abbrev b9_restore : ByteArray := prog_11_method_97_code
def y9_restore : MethodName := ⟨R9, "restore", "()I"⟩
theorem yy9_restore : zYV y9_restore b9_restore 1 (some .int) 0 := ⟨⟨(zwd 1281 (by decide +kernel) rfl), (zwd 11 (by decide +kernel) rfl), ⟨by decide +kernel, by decide +kernel⟩, by decide +kernel⟩, (zwd 1279 (by decide +kernel) rfl), (zwd 1280 (by decide +kernel) rfl)⟩
theorem yc9_restore : zYC y9_restore 9 := ⟨by decide, T9, 27, rfl⟩
abbrev b9_seed : ByteArray := prog_11_method_61_code
def y9_seed : MethodName := ⟨R9, "seed", "(I)I"⟩
theorem yy9_seed : zYV y9_seed b9_seed 2 (some .int) 1 := ⟨⟨(zwd 1129 (by decide +kernel) rfl), (zwd 11 (by decide +kernel) rfl), ⟨by decide +kernel, by decide +kernel⟩, by decide +kernel⟩, (zwd 1127 (by decide +kernel) rfl), (zwd 1128 (by decide +kernel) rfl)⟩
theorem yc9_seed : zYC y9_seed 9 := ⟨by decide, T9, 27, rfl⟩
abbrev b9_sees : ByteArray := prog_11_method_64_code
def y9_sees : MethodName := ⟨R9, "sees", "(I)I"⟩
theorem yy9_sees : zYV y9_sees b9_sees 4 (some .int) 1 := ⟨⟨(zwd 1142 (by decide +kernel) rfl), (zwd 11 (by decide +kernel) rfl), ⟨by decide +kernel, by decide +kernel⟩, by decide +kernel⟩, (zwd 1140 (by decide +kernel) rfl), (zwd 1141 (by decide +kernel) rfl)⟩
theorem yc9_sees : zYC y9_sees 9 := ⟨by decide, T9, 27, rfl⟩
abbrev b9_sheet : ByteArray := prog_11_method_89_code
def y9_sheet : MethodName := ⟨R9, "sheet", "(III)I"⟩
theorem yy9_sheet : zYV y9_sheet b9_sheet 5 (some .int) 3 := ⟨⟨(zwd 1249 (by decide +kernel) rfl), (zwd 11 (by decide +kernel) rfl), ⟨by decide +kernel, by decide +kernel⟩, by decide +kernel⟩, (zwd 1247 (by decide +kernel) rfl), (zwd 1248 (by decide +kernel) rfl)⟩
theorem yc9_sheet : zYC y9_sheet 9 := ⟨by decide, T9, 27, rfl⟩
abbrev b9_spin : ByteArray := prog_11_method_30_code
def y9_spin : MethodName := ⟨R9, "spin", "(II)I"⟩
theorem yy9_spin : zYV y9_spin b9_spin 3 (some .int) 2 := ⟨⟨(zwd 973 (by decide +kernel) rfl), (zwd 11 (by decide +kernel) rfl), ⟨by decide +kernel, by decide +kernel⟩, by decide +kernel⟩, (zwd 971 (by decide +kernel) rfl), (zwd 972 (by decide +kernel) rfl)⟩
theorem yc9_spin : zYC y9_spin 9 := ⟨by decide, T9, 27, rfl⟩
abbrev b9_spins : ByteArray := prog_11_method_71_code
def y9_spins : MethodName := ⟨R9, "spins", "(III)I"⟩
theorem yy9_spins : zYV y9_spins b9_spins 6 (some .int) 3 := ⟨⟨(zwd 1169 (by decide +kernel) rfl), (zwd 11 (by decide +kernel) rfl), ⟨by decide +kernel, by decide +kernel⟩, by decide +kernel⟩, (zwd 1167 (by decide +kernel) rfl), (zwd 1168 (by decide +kernel) rfl)⟩
theorem yc9_spins : zYC y9_spins 9 := ⟨by decide, T9, 27, rfl⟩
abbrev b9_stands : ByteArray := prog_11_method_34_code
def y9_stands : MethodName := ⟨R9, "stands", "(III)I"⟩
theorem yy9_stands : zYV y9_stands b9_stands 5 (some .int) 3 := ⟨⟨(zwd 1034 (by decide +kernel) rfl), (zwd 11 (by decide +kernel) rfl), ⟨by decide +kernel, by decide +kernel⟩, by decide +kernel⟩, (zwd 1033 (by decide +kernel) rfl), (zws 40 (by decide +kernel) rfl)⟩
theorem yc9_stands : zYC y9_stands 9 := ⟨by decide, T9, 27, rfl⟩
abbrev b9_stand : ByteArray := prog_11_method_35_code
def y9_stand : MethodName := ⟨R9, "stand", "(III)I"⟩
theorem yy9_stand : zYV y9_stand b9_stand 4 (some .int) 3 := ⟨⟨(zwd 1030 (by decide +kernel) rfl), (zwd 11 (by decide +kernel) rfl), ⟨by decide +kernel, by decide +kernel⟩, by decide +kernel⟩, (zwd 1028 (by decide +kernel) rfl), (zwd 1029 (by decide +kernel) rfl)⟩
theorem yc9_stand : zYC y9_stand 9 := ⟨by decide, T9, 27, rfl⟩
abbrev b9_starts : ByteArray := prog_11_method_68_code
def y9_starts : MethodName := ⟨R9, "starts", "(II)I"⟩
theorem yy9_starts : zYV y9_starts b9_starts 7 (some .int) 2 := ⟨⟨(zwd 1165 (by decide +kernel) rfl), (zwd 11 (by decide +kernel) rfl), ⟨by decide +kernel, by decide +kernel⟩, by decide +kernel⟩, (zwd 1163 (by decide +kernel) rfl), (zwd 1164 (by decide +kernel) rfl)⟩
theorem yc9_starts : zYC y9_starts 9 := ⟨by decide, T9, 27, rfl⟩
abbrev b9_tell : ByteArray := prog_11_method_98_code
def y9_tell : MethodName := ⟨R9, "tell", "(I)I"⟩
theorem yy9_tell : zYV y9_tell b9_tell 2 (some .int) 1 := ⟨⟨(zwd 1285 (by decide +kernel) rfl), (zwd 11 (by decide +kernel) rfl), ⟨by decide +kernel, by decide +kernel⟩, by decide +kernel⟩, (zwd 1283 (by decide +kernel) rfl), (zwd 1284 (by decide +kernel) rfl)⟩
theorem yc9_tell : zYC y9_tell 9 := ⟨by decide, T9, 27, rfl⟩
abbrev b9_text : ByteArray := prog_11_method_50_code
def y9_text : MethodName := ⟨R9, "text", "(I)I"⟩
theorem yy9_text : zYV y9_text b9_text 4 (some .int) 1 := ⟨⟨(zwd 1052 (by decide +kernel) rfl), (zwd 11 (by decide +kernel) rfl), ⟨by decide +kernel, by decide +kernel⟩, by decide +kernel⟩, (zwd 1050 (by decide +kernel) rfl), (zwd 1051 (by decide +kernel) rfl)⟩
theorem yc9_text : zYC y9_text 9 := ⟨by decide, T9, 27, rfl⟩
abbrev b9_thinks : ByteArray := prog_11_method_65_code
def y9_thinks : MethodName := ⟨R9, "thinks", "()V"⟩
theorem yy9_thinks : zYV y9_thinks b9_thinks 1 none 0 := ⟨⟨(zwd 1154 (by decide +kernel) rfl), (zwd 11 (by decide +kernel) rfl), ⟨by decide +kernel, by decide +kernel⟩, by decide +kernel⟩, (zwd 1153 (by decide +kernel) rfl), (zws 56 (by decide +kernel) rfl)⟩
theorem yc9_thinks : zYC y9_thinks 9 := ⟨by decide, T9, 27, rfl⟩
abbrev b9_then : ByteArray := prog_11_method_67_code
def y9_then : MethodName := ⟨R9, "then", "(II)I"⟩
theorem yy9_then : zYV y9_then b9_then 4 (some .int) 2 := ⟨⟨(zwd 1150 (by decide +kernel) rfl), (zwd 11 (by decide +kernel) rfl), ⟨by decide +kernel, by decide +kernel⟩, by decide +kernel⟩, (zwd 1148 (by decide +kernel) rfl), (zwd 1149 (by decide +kernel) rfl)⟩
theorem yc9_then : zYC y9_then 9 := ⟨by decide, T9, 27, rfl⟩
abbrev b9_throwsOn : ByteArray := prog_11_method_27_code
def y9_throwsOn : MethodName := ⟨R9, "throwsOn", "(II)I"⟩
theorem yy9_throwsOn : zYV y9_throwsOn b9_throwsOn 3 (some .int) 2 := ⟨⟨(zwd 942 (by decide +kernel) rfl), (zwd 11 (by decide +kernel) rfl), ⟨by decide +kernel, by decide +kernel⟩, by decide +kernel⟩, (zwd 940 (by decide +kernel) rfl), (zwd 941 (by decide +kernel) rfl)⟩
theorem yc9_throwsOn : zYC y9_throwsOn 9 := ⟨by decide, T9, 27, rfl⟩
abbrev b9_told : ByteArray := prog_11_method_101_code
def y9_told : MethodName := ⟨R9, "told", "(I)I"⟩
theorem yy9_told : zYV y9_told b9_told 2 (some .int) 1 := ⟨⟨(zwd 1297 (by decide +kernel) rfl), (zwd 11 (by decide +kernel) rfl), ⟨by decide +kernel, by decide +kernel⟩, by decide +kernel⟩, (zwd 1295 (by decide +kernel) rfl), (zwd 1296 (by decide +kernel) rfl)⟩
theorem yc9_told : zYC y9_told 9 := ⟨by decide, T9, 27, rfl⟩
abbrev b9_turnsOf : ByteArray := prog_11_method_94_code
def y9_turnsOf : MethodName := ⟨R9, "turnsOf", "(I)I"⟩
theorem yy9_turnsOf : zYV y9_turnsOf b9_turnsOf 4 (some .int) 1 := ⟨⟨(zwd 1269 (by decide +kernel) rfl), (zwd 11 (by decide +kernel) rfl), ⟨by decide +kernel, by decide +kernel⟩, by decide +kernel⟩, (zwd 1267 (by decide +kernel) rfl), (zwd 1268 (by decide +kernel) rfl)⟩
theorem yc9_turnsOf : zYC y9_turnsOf 9 := ⟨by decide, T9, 27, rfl⟩
abbrev b9_untell : ByteArray := prog_11_method_51_code
def y9_untell : MethodName := ⟨R9, "untell", "(I)I"⟩
theorem yy9_untell : zYV y9_untell b9_untell 2 (some .int) 1 := ⟨⟨(zwd 1100 (by decide +kernel) rfl), (zwd 11 (by decide +kernel) rfl), ⟨by decide +kernel, by decide +kernel⟩, by decide +kernel⟩, (zwd 1098 (by decide +kernel) rfl), (zwd 1099 (by decide +kernel) rfl)⟩
theorem yc9_untell : zYC y9_untell 9 := ⟨by decide, T9, 27, rfl⟩
abbrev b9_voice : ByteArray := prog_11_method_86_code
def y9_voice : MethodName := ⟨R9, "voice", "(III)I"⟩
theorem yy9_voice : zYV y9_voice b9_voice 5 (some .int) 3 := ⟨⟨(zwd 1196 (by decide +kernel) rfl), (zwd 11 (by decide +kernel) rfl), ⟨by decide +kernel, by decide +kernel⟩, by decide +kernel⟩, (zwd 1194 (by decide +kernel) rfl), (zwd 1195 (by decide +kernel) rfl)⟩
theorem yc9_voice : zYC y9_voice 9 := ⟨by decide, T9, 27, rfl⟩
-- words
theorem fl_46 : zFI R0 9 0 0 := ⟨R0, T0, 5, rfl, by decide, by decide, rfl, zwd 46 (by decide +kernel) rfl, rfl⟩
theorem fl_47 : zFI R7 15 0 0 := ⟨R0, T0, 5, rfl, by decide, by decide, rfl, zwd 47 (by decide +kernel) rfl, rfl⟩
theorem fl_48 : zFI R8 86 0 0 := ⟨R0, T0, 5, rfl, by decide, by decide, rfl, zwd 48 (by decide +kernel) rfl, rfl⟩
theorem fl_49 : zFI R5 87 0 0 := ⟨R0, T0, 5, rfl, by decide, by decide, rfl, zwd 49 (by decide +kernel) rfl, rfl⟩
theorem fl_50 : zFI R0 15 0 1 := ⟨R0, T0, 5, rfl, by decide, by decide, rfl, zwd 50 (by decide +kernel) rfl, rfl⟩
theorem fl_51 : zFI R7 25 0 1 := ⟨R0, T0, 5, rfl, by decide, by decide, rfl, zwd 51 (by decide +kernel) rfl, rfl⟩
theorem fl_52 : zFI R8 91 0 1 := ⟨R0, T0, 5, rfl, by decide, by decide, rfl, zwd 52 (by decide +kernel) rfl, rfl⟩
theorem fl_53 : zFI R5 90 0 1 := ⟨R0, T0, 5, rfl, by decide, by decide, rfl, zwd 53 (by decide +kernel) rfl, rfl⟩
theorem fl_54 : zFI R0 18 0 2 := ⟨R0, T0, 5, rfl, by decide, by decide, rfl, zwd 54 (by decide +kernel) rfl, rfl⟩
theorem fl_55 : zFI R8 94 0 2 := ⟨R0, T0, 5, rfl, by decide, by decide, rfl, zwd 55 (by decide +kernel) rfl, rfl⟩
theorem fl_56 : zFI R5 99 0 2 := ⟨R0, T0, 5, rfl, by decide, by decide, rfl, zwd 56 (by decide +kernel) rfl, rfl⟩
theorem fl_57 : zFI R0 21 0 3 := ⟨R0, T0, 5, rfl, by decide, by decide, rfl, zwd 57 (by decide +kernel) rfl, rfl⟩
theorem fl_58 : zFI R8 97 0 3 := ⟨R0, T0, 5, rfl, by decide, by decide, rfl, zwd 58 (by decide +kernel) rfl, rfl⟩
theorem fl_59 : zFI R5 93 0 3 := ⟨R0, T0, 5, rfl, by decide, by decide, rfl, zwd 59 (by decide +kernel) rfl, rfl⟩
theorem fl_60 : zFI R0 24 0 4 := ⟨R0, T0, 5, rfl, by decide, by decide, rfl, zwd 60 (by decide +kernel) rfl, rfl⟩
theorem fl_61 : zFI R8 100 0 4 := ⟨R0, T0, 5, rfl, by decide, by decide, rfl, zwd 61 (by decide +kernel) rfl, rfl⟩
theorem fl_62 : zFI R5 96 0 4 := ⟨R0, T0, 5, rfl, by decide, by decide, rfl, zwd 62 (by decide +kernel) rfl, rfl⟩
theorem fl_80 : zFI R2 7 2 0 := ⟨R2, T2, 3, rfl, by decide, by decide, rfl, zwd 80 (by decide +kernel) rfl, rfl⟩
theorem fl_81 : zFI R5 114 2 0 := ⟨R2, T2, 3, rfl, by decide, by decide, rfl, zwd 81 (by decide +kernel) rfl, rfl⟩
theorem fl_82 : zFI R8 132 2 0 := ⟨R2, T2, 3, rfl, by decide, by decide, rfl, zwd 82 (by decide +kernel) rfl, rfl⟩
theorem fl_83 : zFI R2 13 2 1 := ⟨R2, T2, 3, rfl, by decide, by decide, rfl, zwd 83 (by decide +kernel) rfl, rfl⟩
theorem fl_84 : zFI R5 115 2 1 := ⟨R2, T2, 3, rfl, by decide, by decide, rfl, zwd 84 (by decide +kernel) rfl, rfl⟩
theorem fl_85 : zFI R8 135 2 1 := ⟨R2, T2, 3, rfl, by decide, by decide, rfl, zwd 85 (by decide +kernel) rfl, rfl⟩
theorem fl_86 : zFI R2 16 2 2 := ⟨R2, T2, 3, rfl, by decide, by decide, rfl, zwd 86 (by decide +kernel) rfl, rfl⟩
theorem fl_87 : zFI R5 118 2 2 := ⟨R2, T2, 3, rfl, by decide, by decide, rfl, zwd 87 (by decide +kernel) rfl, rfl⟩
theorem fl_88 : zFI R8 138 2 2 := ⟨R2, T2, 3, rfl, by decide, by decide, rfl, zwd 88 (by decide +kernel) rfl, rfl⟩
theorem fl_101 : zFR R6 9 6 0 0 := ⟨R6, T6, 4, rfl, by decide, by decide, rfl, zwd 101 (by decide +kernel) rfl, rfl⟩
theorem fl_102 : zFR R6 15 6 1 1 := ⟨R6, T6, 4, rfl, by decide, by decide, rfl, zwd 102 (by decide +kernel) rfl, rfl⟩
theorem fl_103 : zFI R6 24 6 2 := ⟨R6, T6, 4, rfl, by decide, by decide, rfl, zwd 103 (by decide +kernel) rfl, rfl⟩
theorem fl_104 : zFI R3 32 6 2 := ⟨R6, T6, 4, rfl, by decide, by decide, rfl, zwd 104 (by decide +kernel) rfl, rfl⟩
theorem fl_105 : zFI R6 28 6 3 := ⟨R6, T6, 4, rfl, by decide, by decide, rfl, zwd 105 (by decide +kernel) rfl, rfl⟩
theorem fl_106 : zFI R3 33 6 3 := ⟨R6, T6, 4, rfl, by decide, by decide, rfl, zwd 106 (by decide +kernel) rfl, rfl⟩
theorem fl_107 : zFI R5 125 6 3 := ⟨R6, T6, 4, rfl, by decide, by decide, rfl, zwd 107 (by decide +kernel) rfl, rfl⟩
theorem fl_108 : zFI R8 182 6 3 := ⟨R6, T6, 4, rfl, by decide, by decide, rfl, zwd 108 (by decide +kernel) rfl, rfl⟩
theorem fl_118 : zFR R5 11 5 0 0 := ⟨R5, T5, 12, rfl, by decide, by decide, rfl, zwd 118 (by decide +kernel) rfl, rfl⟩
theorem fl_119 : zFR R5 19 5 1 1 := ⟨R5, T5, 12, rfl, by decide, by decide, rfl, zwd 119 (by decide +kernel) rfl, rfl⟩
theorem fl_120 : zFR R5 25 5 2 2 := ⟨R5, T5, 12, rfl, by decide, by decide, rfl, zwd 120 (by decide +kernel) rfl, rfl⟩
theorem fl_121 : zFR R5 29 5 3 3 := ⟨R5, T5, 12, rfl, by decide, by decide, rfl, zwd 121 (by decide +kernel) rfl, rfl⟩
theorem fl_122 : zFR R5 33 5 4 4 := ⟨R5, T5, 12, rfl, by decide, by decide, rfl, zwd 122 (by decide +kernel) rfl, rfl⟩
theorem fl_123 : zFR R8 165 5 4 4 := ⟨R5, T5, 12, rfl, by decide, by decide, rfl, zwd 123 (by decide +kernel) rfl, rfl⟩
theorem fl_124 : zFR R5 36 5 5 5 := ⟨R5, T5, 12, rfl, by decide, by decide, rfl, zwd 124 (by decide +kernel) rfl, rfl⟩
theorem fl_125 : zFI R8 71 5 6 := ⟨R5, T5, 12, rfl, by decide, by decide, rfl, zwd 125 (by decide +kernel) rfl, rfl⟩
theorem fl_126 : zFI R5 68 5 6 := ⟨R5, T5, 12, rfl, by decide, by decide, rfl, zwd 126 (by decide +kernel) rfl, rfl⟩
theorem fl_127 : zFI R5 71 5 7 := ⟨R5, T5, 12, rfl, by decide, by decide, rfl, zwd 127 (by decide +kernel) rfl, rfl⟩
theorem fl_128 : zFI R8 121 5 7 := ⟨R5, T5, 12, rfl, by decide, by decide, rfl, zwd 128 (by decide +kernel) rfl, rfl⟩
theorem fl_129 : zFI R5 74 5 8 := ⟨R5, T5, 12, rfl, by decide, by decide, rfl, zwd 129 (by decide +kernel) rfl, rfl⟩
theorem fl_130 : zFI R8 154 5 8 := ⟨R5, T5, 12, rfl, by decide, by decide, rfl, zwd 130 (by decide +kernel) rfl, rfl⟩
theorem fl_131 : zFI R5 77 5 9 := ⟨R5, T5, 12, rfl, by decide, by decide, rfl, zwd 131 (by decide +kernel) rfl, rfl⟩
theorem fl_132 : zFI R8 286 5 9 := ⟨R5, T5, 12, rfl, by decide, by decide, rfl, zwd 132 (by decide +kernel) rfl, rfl⟩
theorem fl_133 : zFI R5 80 5 10 := ⟨R5, T5, 12, rfl, by decide, by decide, rfl, zwd 133 (by decide +kernel) rfl, rfl⟩
theorem fl_134 : zFI R8 151 5 10 := ⟨R5, T5, 12, rfl, by decide, by decide, rfl, zwd 134 (by decide +kernel) rfl, rfl⟩
theorem fl_135 : zFI R5 39 5 11 := ⟨R5, T5, 12, rfl, by decide, by decide, rfl, zwd 135 (by decide +kernel) rfl, rfl⟩
theorem fl_136 : zFI R8 197 5 11 := ⟨R5, T5, 12, rfl, by decide, by decide, rfl, zwd 136 (by decide +kernel) rfl, rfl⟩
theorem fl_168 : zFR R1 11 1 0 0 := ⟨R1, T1, 5, rfl, by decide, by decide, rfl, zwd 168 (by decide +kernel) rfl, rfl⟩
theorem fl_169 : zFR R1 15 1 1 1 := ⟨R1, T1, 5, rfl, by decide, by decide, rfl, zwd 169 (by decide +kernel) rfl, rfl⟩
theorem fl_170 : zFI R1 24 1 2 := ⟨R1, T1, 5, rfl, by decide, by decide, rfl, zwd 170 (by decide +kernel) rfl, rfl⟩
theorem fl_171 : zFI R8 211 1 2 := ⟨R1, T1, 5, rfl, by decide, by decide, rfl, zwd 171 (by decide +kernel) rfl, rfl⟩
theorem fl_172 : zFI R1 28 1 3 := ⟨R1, T1, 5, rfl, by decide, by decide, rfl, zwd 172 (by decide +kernel) rfl, rfl⟩
theorem fl_173 : zFI R5 147 1 3 := ⟨R1, T1, 5, rfl, by decide, by decide, rfl, zwd 173 (by decide +kernel) rfl, rfl⟩
theorem fl_174 : zFI R8 217 1 3 := ⟨R1, T1, 5, rfl, by decide, by decide, rfl, zwd 174 (by decide +kernel) rfl, rfl⟩
theorem fl_175 : zFI R1 31 1 4 := ⟨R1, T1, 5, rfl, by decide, by decide, rfl, zwd 175 (by decide +kernel) rfl, rfl⟩
theorem fl_176 : zFI R5 142 1 4 := ⟨R1, T1, 5, rfl, by decide, by decide, rfl, zwd 176 (by decide +kernel) rfl, rfl⟩
theorem fl_177 : zFI R8 208 1 4 := ⟨R1, T1, 5, rfl, by decide, by decide, rfl, zwd 177 (by decide +kernel) rfl, rfl⟩
theorem fl_197 : zFR R3 12 3 0 0 := ⟨R3, T3, 5, rfl, by decide, by decide, rfl, zwd 197 (by decide +kernel) rfl, rfl⟩
theorem fl_198 : zFR R8 172 3 0 0 := ⟨R3, T3, 5, rfl, by decide, by decide, rfl, zwd 198 (by decide +kernel) rfl, rfl⟩
theorem fl_199 : zFD R3 18 3 1 := ⟨R3, T3, 5, rfl, by decide, by decide, rfl, zwd 199 (by decide +kernel) rfl, rfl⟩
theorem fl_200 : zFI R3 22 3 2 := ⟨R3, T3, 5, rfl, by decide, by decide, rfl, zwd 200 (by decide +kernel) rfl, rfl⟩
theorem fl_201 : zFI R3 26 3 3 := ⟨R3, T3, 5, rfl, by decide, by decide, rfl, zwd 201 (by decide +kernel) rfl, rfl⟩
theorem fl_202 : zFI R3 29 3 4 := ⟨R3, T3, 5, rfl, by decide, by decide, rfl, zwd 202 (by decide +kernel) rfl, rfl⟩
theorem fl_220 : zFR R7 11 7 0 0 := ⟨R7, T7, 6, rfl, by decide, by decide, rfl, zwd 220 (by decide +kernel) rfl, rfl⟩
theorem fl_221 : zFI R7 29 7 1 := ⟨R7, T7, 6, rfl, by decide, by decide, rfl, zwd 221 (by decide +kernel) rfl, rfl⟩
theorem fl_222 : zFI R8 251 7 1 := ⟨R7, T7, 6, rfl, by decide, by decide, rfl, zwd 222 (by decide +kernel) rfl, rfl⟩
theorem fl_223 : zFI R7 32 7 2 := ⟨R7, T7, 6, rfl, by decide, by decide, rfl, zwd 223 (by decide +kernel) rfl, rfl⟩
theorem fl_224 : zFI R8 248 7 2 := ⟨R7, T7, 6, rfl, by decide, by decide, rfl, zwd 224 (by decide +kernel) rfl, rfl⟩
theorem fl_225 : zFI R7 21 7 3 := ⟨R7, T7, 6, rfl, by decide, by decide, rfl, zwd 225 (by decide +kernel) rfl, rfl⟩
theorem fl_226 : zFI R7 22 7 4 := ⟨R7, T7, 6, rfl, by decide, by decide, rfl, zwd 226 (by decide +kernel) rfl, rfl⟩
theorem fl_227 : zFI R7 28 7 5 := ⟨R7, T7, 6, rfl, by decide, by decide, rfl, zwd 227 (by decide +kernel) rfl, rfl⟩
theorem fl_248 : zFR R4 9 4 0 0 := ⟨R4, T4, 3, rfl, by decide, by decide, rfl, zwd 248 (by decide +kernel) rfl, rfl⟩
theorem fl_249 : zFR R8 268 4 0 0 := ⟨R4, T4, 3, rfl, by decide, by decide, rfl, zwd 249 (by decide +kernel) rfl, rfl⟩
theorem fl_250 : zFI R4 21 4 1 := ⟨R4, T4, 3, rfl, by decide, by decide, rfl, zwd 250 (by decide +kernel) rfl, rfl⟩
theorem fl_251 : zFI R8 237 4 1 := ⟨R4, T4, 3, rfl, by decide, by decide, rfl, zwd 251 (by decide +kernel) rfl, rfl⟩
theorem fl_252 : zFI R4 25 4 2 := ⟨R4, T4, 3, rfl, by decide, by decide, rfl, zwd 252 (by decide +kernel) rfl, rfl⟩
theorem fl_253 : zFI R8 260 4 2 := ⟨R4, T4, 3, rfl, by decide, by decide, rfl, zwd 253 (by decide +kernel) rfl, rfl⟩
theorem fl_261 : zFR R8 10 8 0 0 := ⟨R8, T8, 11, rfl, by decide, by decide, rfl, zwd 261 (by decide +kernel) rfl, rfl⟩
theorem fl_262 : zFR R8 16 8 1 27 := ⟨R8, T8, 11, rfl, by decide, by decide, rfl, zwd 262 (by decide +kernel) rfl, rfl⟩
theorem fl_263 : zFR R8 19 8 2 54 := ⟨R8, T8, 11, rfl, by decide, by decide, rfl, zwd 263 (by decide +kernel) rfl, rfl⟩
theorem fl_264 : zFR R8 25 8 3 81 := ⟨R8, T8, 11, rfl, by decide, by decide, rfl, zwd 264 (by decide +kernel) rfl, rfl⟩
theorem fl_265 : zFR R8 32 8 4 84 := ⟨R8, T8, 11, rfl, by decide, by decide, rfl, zwd 265 (by decide +kernel) rfl, rfl⟩
theorem fl_266 : zFR R8 39 8 5 88 := ⟨R8, T8, 11, rfl, by decide, by decide, rfl, zwd 266 (by decide +kernel) rfl, rfl⟩
theorem fl_267 : zFR R8 45 8 6 90 := ⟨R8, T8, 11, rfl, by decide, by decide, rfl, zwd 267 (by decide +kernel) rfl, rfl⟩
theorem fl_268 : zFR R8 49 8 7 91 := ⟨R8, T8, 11, rfl, by decide, by decide, rfl, zwd 268 (by decide +kernel) rfl, rfl⟩
theorem fl_269 : zFR R8 53 8 8 92 := ⟨R8, T8, 11, rfl, by decide, by decide, rfl, zwd 269 (by decide +kernel) rfl, rfl⟩
theorem fl_270 : zFI R8 280 8 9 := ⟨R8, T8, 11, rfl, by decide, by decide, rfl, zwd 270 (by decide +kernel) rfl, rfl⟩
theorem fl_271 : zFI R8 283 8 10 := ⟨R8, T8, 11, rfl, by decide, by decide, rfl, zwd 271 (by decide +kernel) rfl, rfl⟩
theorem fl_817 : zFR R9 9 9 0 0 := ⟨R9, T9, 27, rfl, by decide, by decide, rfl, zwd 817 (by decide +kernel) rfl, rfl⟩
theorem fl_818 : zFR R9 13 9 1 1 := ⟨R9, T9, 27, rfl, by decide, by decide, rfl, zwd 818 (by decide +kernel) rfl, rfl⟩
theorem fl_819 : zFR R9 16 9 2 2 := ⟨R9, T9, 27, rfl, by decide, by decide, rfl, zwd 819 (by decide +kernel) rfl, rfl⟩
theorem fl_820 : zFI R9 295 9 3 := ⟨R9, T9, 27, rfl, by decide, by decide, rfl, zwd 820 (by decide +kernel) rfl, rfl⟩
theorem fl_821 : zFR R9 19 9 4 3 := ⟨R9, T9, 27, rfl, by decide, by decide, rfl, zwd 821 (by decide +kernel) rfl, rfl⟩
theorem fl_822 : zFR R9 22 9 5 4 := ⟨R9, T9, 27, rfl, by decide, by decide, rfl, zwd 822 (by decide +kernel) rfl, rfl⟩
theorem fl_823 : zFR R9 25 9 6 5 := ⟨R9, T9, 27, rfl, by decide, by decide, rfl, zwd 823 (by decide +kernel) rfl, rfl⟩
theorem fl_824 : zFR R9 28 9 7 6 := ⟨R9, T9, 27, rfl, by decide, by decide, rfl, zwd 824 (by decide +kernel) rfl, rfl⟩
theorem fl_825 : zFR R9 31 9 8 7 := ⟨R9, T9, 27, rfl, by decide, by decide, rfl, zwd 825 (by decide +kernel) rfl, rfl⟩
theorem fl_826 : zFI R9 93 9 9 := ⟨R9, T9, 27, rfl, by decide, by decide, rfl, zwd 826 (by decide +kernel) rfl, rfl⟩
theorem fl_827 : zFI R9 78 9 10 := ⟨R9, T9, 27, rfl, by decide, by decide, rfl, zwd 827 (by decide +kernel) rfl, rfl⟩
theorem fl_828 : zFR R9 34 9 11 8 := ⟨R9, T9, 27, rfl, by decide, by decide, rfl, zwd 828 (by decide +kernel) rfl, rfl⟩
theorem fl_829 : zFI R9 82 9 12 := ⟨R9, T9, 27, rfl, by decide, by decide, rfl, zwd 829 (by decide +kernel) rfl, rfl⟩
theorem fl_830 : zFI R9 105 9 13 := ⟨R9, T9, 27, rfl, by decide, by decide, rfl, zwd 830 (by decide +kernel) rfl, rfl⟩
theorem fl_831 : zFR R9 37 9 14 9 := ⟨R9, T9, 27, rfl, by decide, by decide, rfl, zwd 831 (by decide +kernel) rfl, rfl⟩
theorem fl_832 : zFR R9 40 9 15 10 := ⟨R9, T9, 27, rfl, by decide, by decide, rfl, zwd 832 (by decide +kernel) rfl, rfl⟩
theorem fl_833 : zFR R9 43 9 16 11 := ⟨R9, T9, 27, rfl, by decide, by decide, rfl, zwd 833 (by decide +kernel) rfl, rfl⟩
theorem fl_834 : zFR R9 46 9 17 12 := ⟨R9, T9, 27, rfl, by decide, by decide, rfl, zwd 834 (by decide +kernel) rfl, rfl⟩
theorem fl_835 : zFI R9 158 9 18 := ⟨R9, T9, 27, rfl, by decide, by decide, rfl, zwd 835 (by decide +kernel) rfl, rfl⟩
theorem fl_836 : zFI R9 155 9 19 := ⟨R9, T9, 27, rfl, by decide, by decide, rfl, zwd 836 (by decide +kernel) rfl, rfl⟩
theorem fl_837 : zFI R9 174 9 20 := ⟨R9, T9, 27, rfl, by decide, by decide, rfl, zwd 837 (by decide +kernel) rfl, rfl⟩
theorem fl_838 : zFI R9 168 9 21 := ⟨R9, T9, 27, rfl, by decide, by decide, rfl, zwd 838 (by decide +kernel) rfl, rfl⟩
theorem fl_839 : zFI R9 161 9 22 := ⟨R9, T9, 27, rfl, by decide, by decide, rfl, zwd 839 (by decide +kernel) rfl, rfl⟩
theorem fl_840 : zFR R9 49 9 23 13 := ⟨R9, T9, 27, rfl, by decide, by decide, rfl, zwd 840 (by decide +kernel) rfl, rfl⟩
theorem fl_841 : zFR R9 52 9 24 14 := ⟨R9, T9, 27, rfl, by decide, by decide, rfl, zwd 841 (by decide +kernel) rfl, rfl⟩
theorem fl_842 : zFI R9 248 9 25 := ⟨R9, T9, 27, rfl, by decide, by decide, rfl, zwd 842 (by decide +kernel) rfl, rfl⟩
theorem fl_843 : zFI R9 275 9 26 := ⟨R9, T9, 27, rfl, by decide, by decide, rfl, zwd 843 (by decide +kernel) rfl, rfl⟩
theorem ft_0_0 : zFty 0 0 .int := fun q hq => by cases hq; exact ⟨rfl, by decide +kernel⟩
theorem ft_0_1 : zFty 0 1 .int := fun q hq => by cases hq; exact ⟨rfl, by decide +kernel⟩
theorem ft_0_2 : zFty 0 2 .int := fun q hq => by cases hq; exact ⟨rfl, by decide +kernel⟩
theorem ft_0_3 : zFty 0 3 .int := fun q hq => by cases hq; exact ⟨rfl, by decide +kernel⟩
theorem ft_0_4 : zFty 0 4 .int := fun q hq => by cases hq; exact ⟨rfl, by decide +kernel⟩
theorem ft_1_2 : zFty 1 2 .int := fun q hq => by cases hq; exact ⟨rfl, by decide +kernel⟩
theorem ft_1_3 : zFty 1 3 .int := fun q hq => by cases hq; exact ⟨rfl, by decide +kernel⟩
theorem ft_1_4 : zFty 1 4 .boolean := fun q hq => by cases hq; exact ⟨rfl, by decide +kernel⟩
theorem ft_2_0 : zFty 2 0 .int := fun q hq => by cases hq; exact ⟨rfl, by decide +kernel⟩
theorem ft_2_1 : zFty 2 1 .int := fun q hq => by cases hq; exact ⟨rfl, by decide +kernel⟩
theorem ft_2_2 : zFty 2 2 .int := fun q hq => by cases hq; exact ⟨rfl, by decide +kernel⟩
theorem ft_3_1 : zFty 3 1 (.array .int) := fun q hq => by cases hq; exact ⟨rfl, by decide +kernel⟩
theorem ft_3_2 : zFty 3 2 .int := fun q hq => by cases hq; exact ⟨rfl, by decide +kernel⟩
theorem ft_3_3 : zFty 3 3 .int := fun q hq => by cases hq; exact ⟨rfl, by decide +kernel⟩
theorem ft_3_4 : zFty 3 4 .int := fun q hq => by cases hq; exact ⟨rfl, by decide +kernel⟩
theorem ft_4_1 : zFty 4 1 .int := fun q hq => by cases hq; exact ⟨rfl, by decide +kernel⟩
theorem ft_4_2 : zFty 4 2 .int := fun q hq => by cases hq; exact ⟨rfl, by decide +kernel⟩
theorem ft_5_6 : zFty 5 6 .int := fun q hq => by cases hq; exact ⟨rfl, by decide +kernel⟩
theorem ft_5_7 : zFty 5 7 .int := fun q hq => by cases hq; exact ⟨rfl, by decide +kernel⟩
theorem ft_5_8 : zFty 5 8 .int := fun q hq => by cases hq; exact ⟨rfl, by decide +kernel⟩
theorem ft_5_9 : zFty 5 9 .int := fun q hq => by cases hq; exact ⟨rfl, by decide +kernel⟩
theorem ft_5_10 : zFty 5 10 .int := fun q hq => by cases hq; exact ⟨rfl, by decide +kernel⟩
theorem ft_5_11 : zFty 5 11 .int := fun q hq => by cases hq; exact ⟨rfl, by decide +kernel⟩
theorem ft_6_2 : zFty 6 2 .int := fun q hq => by cases hq; exact ⟨rfl, by decide +kernel⟩
theorem ft_6_3 : zFty 6 3 .boolean := fun q hq => by cases hq; exact ⟨rfl, by decide +kernel⟩
theorem ft_7_1 : zFty 7 1 .int := fun q hq => by cases hq; exact ⟨rfl, by decide +kernel⟩
theorem ft_7_2 : zFty 7 2 .boolean := fun q hq => by cases hq; exact ⟨rfl, by decide +kernel⟩
theorem ft_7_3 : zFty 7 3 .int := fun q hq => by cases hq; exact ⟨rfl, by decide +kernel⟩
theorem ft_7_4 : zFty 7 4 .int := fun q hq => by cases hq; exact ⟨rfl, by decide +kernel⟩
theorem ft_7_5 : zFty 7 5 .int := fun q hq => by cases hq; exact ⟨rfl, by decide +kernel⟩
theorem ft_8_9 : zFty 8 9 .boolean := fun q hq => by cases hq; exact ⟨rfl, by decide +kernel⟩
theorem ft_8_10 : zFty 8 10 .int := fun q hq => by cases hq; exact ⟨rfl, by decide +kernel⟩
theorem ft_9_3 : zFty 9 3 .int := fun q hq => by cases hq; exact ⟨rfl, by decide +kernel⟩
theorem ft_9_9 : zFty 9 9 .int := fun q hq => by cases hq; exact ⟨rfl, by decide +kernel⟩
theorem ft_9_10 : zFty 9 10 .int := fun q hq => by cases hq; exact ⟨rfl, by decide +kernel⟩
theorem ft_9_12 : zFty 9 12 .int := fun q hq => by cases hq; exact ⟨rfl, by decide +kernel⟩
theorem ft_9_13 : zFty 9 13 .boolean := fun q hq => by cases hq; exact ⟨rfl, by decide +kernel⟩
theorem ft_9_18 : zFty 9 18 .int := fun q hq => by cases hq; exact ⟨rfl, by decide +kernel⟩
theorem ft_9_19 : zFty 9 19 .int := fun q hq => by cases hq; exact ⟨rfl, by decide +kernel⟩
theorem ft_9_20 : zFty 9 20 .int := fun q hq => by cases hq; exact ⟨rfl, by decide +kernel⟩
theorem ft_9_21 : zFty 9 21 .boolean := fun q hq => by cases hq; exact ⟨rfl, by decide +kernel⟩
theorem ft_9_22 : zFty 9 22 .int := fun q hq => by cases hq; exact ⟨rfl, by decide +kernel⟩
theorem ft_9_25 : zFty 9 25 .int := fun q hq => by cases hq; exact ⟨rfl, by decide +kernel⟩
theorem ft_9_26 : zFty 9 26 .boolean := fun q hq => by cases hq; exact ⟨rfl, by decide +kernel⟩
theorem w_299 : Cond.methodLink R8 57 y8_isNoKm ∈ lw_gd := zwd 299 (by decide +kernel) rfl
theorem w_302 : Cond.methodLink R8 61 y8_isNoCell ∈ lw_gd := zwd 302 (by decide +kernel) rfl
theorem w_305 : Cond.methodLink R8 64 y8_isNoTurn ∈ lw_gd := zwd 305 (by decide +kernel) rfl
theorem w_308 : Cond.methodLink R8 67 y8_error ∈ lw_gd := zwd 308 (by decide +kernel) rfl
theorem w_312 : Cond.constant R8 295 (-1000000000 : Int32) ∈ lw_gd := zwd 312 (by decide +kernel) rfl
theorem w_313 : Cond.methodLink R8 75 y5_glassAt ∈ lw_gd := zwd 313 (by decide +kernel) rfl
theorem w_317 : Cond.methodLink R8 78 y5_addGlass ∈ lw_gd := zwd 317 (by decide +kernel) rfl
theorem w_321 : Cond.methodLink R5 83 y5_glassOf ∈ lw_gd := zwd 321 (by decide +kernel) rfl
theorem w_325 : Cond.methodLink R5 102 y5_hangGlass ∈ lw_gd := zwd 325 (by decide +kernel) rfl
theorem w_329 : Cond.methodLinkNest R5 106 y8_isNoCell "GlassTax" ∈ lw_tbl := List.mem_append_right _ (List.mem_of_getElem? (i := 329) (by decide +kernel))
theorem w_334 : Cond.methodLink R8 82 y5_glassOf ∈ lw_gd := zwd 334 (by decide +kernel) rfl
theorem w_339 : Cond.methodLink R8 103 y8_isNoWay ∈ lw_gd := zwd 339 (by decide +kernel) rfl
theorem w_342 : Cond.methodLink R8 106 y5_isNight ∈ lw_gd := zwd 342 (by decide +kernel) rfl
theorem w_346 : Cond.methodLink R8 110 y0_onward ∈ lw_gd := zwd 346 (by decide +kernel) rfl
theorem w_350 : Cond.methodLink R0 31 y0_byTurn ∈ lw_gd := zwd 350 (by decide +kernel) rfl
theorem w_354 : Cond.methodLink R0 35 y0_roundFrom ∈ lw_gd := zwd 354 (by decide +kernel) rfl
theorem w_365 : Cond.methodLink R8 114 y0_isOne ∈ lw_gd := zwd 365 (by decide +kernel) rfl
theorem w_369 : Cond.fieldLinkNest R0 27 "GlassTax" "KIND_ABOVE" "[I" "GlassTax" ∈ lw_tbl := List.mem_append_right _ (List.mem_of_getElem? (i := 369) (by decide +kernel))
theorem w_379 : Cond.methodLink R8 117 y5_hangGlass ∈ lw_gd := zwd 379 (by decide +kernel) rfl
theorem w_384 : Cond.methodLink R8 124 y5_addPerson ∈ lw_gd := zwd 384 (by decide +kernel) rfl
theorem w_388 : Cond.methodLink R5 110 y5_personOf ∈ lw_gd := zwd 388 (by decide +kernel) rfl
theorem w_396 : Cond.methodLink R8 128 y5_personOf ∈ lw_gd := zwd 396 (by decide +kernel) rfl
theorem w_397 : Cond.methodLink R8 141 y5_dueOf ∈ lw_gd := zwd 397 (by decide +kernel) rfl
theorem w_401 : Cond.methodLink R5 158 y1_follow ∈ lw_gd := zwd 401 (by decide +kernel) rfl
theorem w_405 : Cond.methodLink R1 18 y5_isNight ∈ lw_gd := zwd 405 (by decide +kernel) rfl
theorem w_406 : Cond.methodLink R1 35 y1_enter ∈ lw_gd := zwd 406 (by decide +kernel) rfl
theorem w_410 : Cond.methodLink R1 39 y1_nextCell ∈ lw_gd := zwd 410 (by decide +kernel) rfl
theorem w_413 : Cond.methodLink R1 43 y5_glassAt ∈ lw_gd := zwd 413 (by decide +kernel) rfl
theorem w_414 : Cond.methodLink R1 47 y5_glassOf ∈ lw_gd := zwd 414 (by decide +kernel) rfl
theorem w_415 : Cond.methodLink R1 51 y0_onward ∈ lw_gd := zwd 415 (by decide +kernel) rfl
theorem w_416 : Cond.methodLink R1 57 y1_meet ∈ lw_gd := zwd 416 (by decide +kernel) rfl
theorem w_420 : Cond.methodLink R5 162 y5_taxOf ∈ lw_gd := zwd 420 (by decide +kernel) rfl
theorem w_424 : Cond.methodLink R5 150 y1_metAt ∈ lw_gd := zwd 424 (by decide +kernel) rfl
theorem w_428 : Cond.methodLink R5 154 y5_given ∈ lw_gd := zwd 428 (by decide +kernel) rfl
theorem w_432 : Cond.methodLink R5 121 y5_textOf ∈ lw_gd := zwd 432 (by decide +kernel) rfl
theorem w_436 : Cond.methodLink R5 129 y6_worth ∈ lw_gd := zwd 436 (by decide +kernel) rfl
theorem w_440 : Cond.methodLink R6 32 y6_joined ∈ lw_gd := zwd 440 (by decide +kernel) rfl
theorem w_443 : Cond.methodLink R5 133 Lib.Math.min.name ∈ lw_gd := zwd 443 (by decide +kernel) rfl
theorem w_446 : Cond.methodLink R5 139 Lib.Math.max.name ∈ lw_gd := zwd 446 (by decide +kernel) rfl
theorem w_457 : Cond.constant R8 145 (99999 : Int32) ∈ lw_gd := zwd 457 (by decide +kernel) rfl
theorem w_458 : Cond.methodLink R8 146 Lib.Math.min.name ∈ lw_gd := zwd 458 (by decide +kernel) rfl
theorem w_467 : Cond.methodLink R8 157 y5_addByte ∈ lw_gd := zwd 467 (by decide +kernel) rfl
theorem w_475 : Cond.methodLink R8 161 y5_textOf ∈ lw_gd := zwd 475 (by decide +kernel) rfl
theorem w_476 : Cond.methodLink R8 168 y3_fault ∈ lw_gd := zwd 476 (by decide +kernel) rfl
theorem w_480 : Cond.methodLink R3 37 y3_readPart ∈ lw_gd := zwd 480 (by decide +kernel) rfl
theorem w_484 : Cond.methodLink R3 41 y3_readUnit ∈ lw_gd := zwd 484 (by decide +kernel) rfl
theorem w_488 : Cond.methodLink R3 48 y3_signHere ∈ lw_gd := zwd 488 (by decide +kernel) rfl
theorem w_492 : Cond.methodLink R3 60 y3_isDigit ∈ lw_gd := zwd 492 (by decide +kernel) rfl
theorem w_495 : Cond.methodLink R3 63 y3_readNumber ∈ lw_gd := zwd 495 (by decide +kernel) rfl
theorem w_499 : Cond.methodLink R3 56 y6_add ∈ lw_gd := zwd 499 (by decide +kernel) rfl
theorem w_503 : Cond.methodLink R3 66 y3_readOpen ∈ lw_gd := zwd 503 (by decide +kernel) rfl
theorem w_508 : Cond.methodLink R3 71 yS_length ∈ lw_gd := zwd 508 (by decide +kernel) rfl
theorem w_512 : Cond.methodLink RJS 335 yS_coder ∈ lw_gd := zwd 512 (by decide +kernel) rfl
theorem w_516 : Cond.fieldLink RJS 38 "java/lang/String" "COMPACT_STRINGS" "Z" ∈ lw_gd := zwd 516 (by decide +kernel) rfl
theorem w_518 : Cond.methodLink R3 75 yS_charAt ∈ lw_gd := zwd 518 (by decide +kernel) rfl
theorem w_522 : Cond.methodLink RJS 492 yS_isLatin1 ∈ lw_gd := zwd 522 (by decide +kernel) rfl
theorem w_526 : Cond.methodLink RJS 495 yL_charAt ∈ lw_gd := zwd 526 (by decide +kernel) rfl
theorem w_529 : Cond.methodLink RJL 9 yS_checkIndex ∈ lw_gd := zwd 529 (by decide +kernel) rfl
theorem w_532 : Cond.fieldLink RJS 1053 "jdk/internal/util/Preconditions" "SIOOBE_FORMATTER" "Ljava/util/function/BiFunction;" ∈ lw_gd := zwd 532 (by decide +kernel) rfl
theorem w_534 : Cond.methodLink RJS 1059 yP_checkIndex ∈ lw_gd := zwd 534 (by decide +kernel) rfl
theorem w_556 : Cond.methodLink R3 45 y3_readLevel ∈ lw_gd := zwd 556 (by decide +kernel) rfl
theorem w_560 : Cond.methodLink R3 52 y3_levelOf ∈ lw_gd := zwd 560 (by decide +kernel) rfl
theorem w_563 : Cond.methodLink R8 176 y6_copyFrom ∈ lw_gd := zwd 563 (by decide +kernel) rfl
theorem w_567 : Cond.methodLink R6 18 arraycopyName ∈ lw_gd := zwd 567 (by decide +kernel) rfl
theorem w_579 : Cond.methodLink R8 186 y5_given ∈ lw_gd := zwd 579 (by decide +kernel) rfl
theorem w_584 : Cond.methodLink R8 190 y5_passHour ∈ lw_gd := zwd 584 (by decide +kernel) rfl
theorem w_588 : Cond.constant R5 166 (99999 : Int32) ∈ lw_gd := zwd 588 (by decide +kernel) rfl
theorem w_589 : Cond.methodLink R5 167 y5_dueOf ∈ lw_gd := zwd 589 (by decide +kernel) rfl
theorem w_590 : Cond.methodLink R5 171 y5_countMeetings ∈ lw_gd := zwd 590 (by decide +kernel) rfl
theorem w_598 : Cond.methodLink R8 194 y5_standByDraws ∈ lw_gd := zwd 598 (by decide +kernel) rfl
theorem w_602 : Cond.methodLink R5 175 y5_draw ∈ lw_gd := zwd 602 (by decide +kernel) rfl
theorem w_606 : Cond.constant R5 179 (1103515245 : Int32) ∈ lw_gd := zwd 606 (by decide +kernel) rfl
theorem w_615 : Cond.methodLink R8 200 y1_follow ∈ lw_gd := zwd 615 (by decide +kernel) rfl
theorem w_616 : Cond.methodLink R8 204 y5_taxOf ∈ lw_gd := zwd 616 (by decide +kernel) rfl
theorem w_617 : Cond.methodLink R8 214 y1_cellAt ∈ lw_gd := zwd 617 (by decide +kernel) rfl
theorem w_629 : Cond.methodLink R8 220 y1_seesCell ∈ lw_gd := zwd 629 (by decide +kernel) rfl
theorem w_637 : Cond.methodLink R8 223 y5_copyFrom ∈ lw_gd := zwd 637 (by decide +kernel) rfl
theorem w_641 : Cond.methodLink R5 52 y0_copyFrom ∈ lw_gd := zwd 641 (by decide +kernel) rfl
theorem w_645 : Cond.methodLink R5 56 y2_copyFrom ∈ lw_gd := zwd 645 (by decide +kernel) rfl
theorem w_649 : Cond.methodLink R5 59 y6_copyFrom ∈ lw_gd := zwd 649 (by decide +kernel) rfl
theorem w_650 : Cond.methodLink R5 62 arraycopyName ∈ lw_gd := zwd 650 (by decide +kernel) rfl
theorem w_655 : Cond.methodLink R8 226 y8_manyOrLeast ∈ lw_gd := zwd 655 (by decide +kernel) rfl
theorem w_663 : Cond.methodLink R8 229 y8_fewestSpins ∈ lw_gd := zwd 663 (by decide +kernel) rfl
theorem w_667 : Cond.methodLink R8 296 y8_isSeenByOneSpin ∈ lw_gd := zwd 667 (by decide +kernel) rfl
theorem w_671 : Cond.methodLink R8 304 y8_writeSpin ∈ lw_gd := zwd 671 (by decide +kernel) rfl
theorem w_675 : Cond.methodLink R8 300 y8_isSeenByTwoSpins ∈ lw_gd := zwd 675 (by decide +kernel) rfl
theorem w_687 : Cond.methodLink R8 233 y8_sheetOf ∈ lw_gd := zwd 687 (by decide +kernel) rfl
theorem w_691 : Cond.methodLink R8 240 y8_isLook ∈ lw_gd := zwd 691 (by decide +kernel) rfl
theorem w_695 : Cond.methodLink R8 277 y4_numberAt ∈ lw_gd := zwd 695 (by decide +kernel) rfl
theorem w_703 : Cond.methodLink R8 244 y7_answer ∈ lw_gd := zwd 703 (by decide +kernel) rfl
theorem w_707 : Cond.methodLink R7 36 y7_say ∈ lw_gd := zwd 707 (by decide +kernel) rfl
theorem w_711 : Cond.methodLink R7 40 y7_bodyFrom ∈ lw_gd := zwd 711 (by decide +kernel) rfl
theorem w_714 : Cond.fieldLinkNest R7 60 "GlassTax" "KIND_ABOVE" "[I" "GlassTax" ∈ lw_tbl := List.mem_append_right _ (List.mem_of_getElem? (i := 714) (by decide +kernel))
theorem w_715 : Cond.fieldLink R7 63 "GlassTax$Voices" "BODIES" "[I" ∈ lw_gd := zwd 715 (by decide +kernel) rfl
theorem w_717 : Cond.methodLink R7 44 y7_sayGlass ∈ lw_gd := zwd 717 (by decide +kernel) rfl
theorem w_721 : Cond.methodLink R7 48 y7_saySpoon ∈ lw_gd := zwd 721 (by decide +kernel) rfl
theorem w_725 : Cond.methodLink R7 51 y7_sayBowl ∈ lw_gd := zwd 725 (by decide +kernel) rfl
theorem w_729 : Cond.methodLink R7 54 y7_saySilvered ∈ lw_gd := zwd 729 (by decide +kernel) rfl
theorem w_733 : Cond.methodLink R7 57 y7_sayOnly ∈ lw_gd := zwd 733 (by decide +kernel) rfl
theorem w_741 : Cond.methodLink R8 254 y7_tracedAt ∈ lw_gd := zwd 741 (by decide +kernel) rfl
theorem w_749 : Cond.methodLink R8 257 y4_begin ∈ lw_gd := zwd 749 (by decide +kernel) rfl
theorem w_753 : Cond.methodLink R4 15 yA_fill ∈ lw_gd := zwd 753 (by decide +kernel) rfl
theorem w_758 : Cond.methodLink R8 261 y4_write ∈ lw_gd := zwd 758 (by decide +kernel) rfl
theorem w_766 : Cond.methodLink R8 264 y4_holds ∈ lw_gd := zwd 766 (by decide +kernel) rfl
theorem w_770 : Cond.methodLink R8 271 arraycopyName ∈ lw_gd := zwd 770 (by decide +kernel) rfl
theorem w_791 : Cond.methodLink R8 289 y5_addWaiting ∈ lw_gd := zwd 791 (by decide +kernel) rfl
theorem w_799 : Cond.methodLink R8 292 y5_waitingAt ∈ lw_gd := zwd 799 (by decide +kernel) rfl
theorem w_903 : Cond.methodLink R9 120 y9_isKm ∈ lw_gd := zwd 903 (by decide +kernel) rfl
theorem w_906 : Cond.methodLink R9 56 y9_in ∈ lw_gd := zwd 906 (by decide +kernel) rfl
theorem w_909 : Cond.methodLink R9 124 y9_isCell ∈ lw_gd := zwd 909 (by decide +kernel) rfl
theorem w_912 : Cond.methodLink R9 127 y9_isFour ∈ lw_gd := zwd 912 (by decide +kernel) rfl
theorem w_915 : Cond.constant R9 130 (-1000000001 : Int32) ∈ lw_gd := zwd 915 (by decide +kernel) rfl
theorem w_916 : Cond.methodLink R9 131 y9_error ∈ lw_gd := zwd 916 (by decide +kernel) rfl
theorem w_920 : Cond.constant R9 55 (-1000000000 : Int32) ∈ lw_gd := zwd 920 (by decide +kernel) rfl
theorem w_921 : Cond.constant R9 134 (-1000000004 : Int32) ∈ lw_gd := zwd 921 (by decide +kernel) rfl
theorem w_922 : Cond.methodLink R9 99 y9_glassAt ∈ lw_gd := zwd 922 (by decide +kernel) rfl
theorem w_926 : Cond.methodLink R9 60 y9_of ∈ lw_gd := zwd 926 (by decide +kernel) rfl
theorem w_930 : Cond.constant R9 135 (-1000000003 : Int32) ∈ lw_gd := zwd 930 (by decide +kernel) rfl
theorem w_935 : Cond.methodLink R9 136 y9_isGlass ∈ lw_gd := zwd 935 (by decide +kernel) rfl
theorem w_943 : Cond.methodLink R9 75 y9_onward ∈ lw_gd := zwd 943 (by decide +kernel) rfl
theorem w_947 : Cond.methodLink R9 68 y9_plainOnward ∈ lw_gd := zwd 947 (by decide +kernel) rfl
theorem w_950 : Cond.methodLink R9 64 y9_around ∈ lw_gd := zwd 950 (by decide +kernel) rfl
theorem w_953 : Cond.methodLink R9 71 y9_isNight ∈ lw_gd := zwd 953 (by decide +kernel) rfl
theorem w_961 : Cond.methodLink R9 139 y9_becomes ∈ lw_gd := zwd 961 (by decide +kernel) rfl
theorem w_969 : Cond.constant R9 142 (-1000000005 : Int32) ∈ lw_gd := zwd 969 (by decide +kernel) rfl
theorem w_986 : Cond.methodLink R9 143 y9_isPerson ∈ lw_gd := zwd 986 (by decide +kernel) rfl
theorem w_990 : Cond.methodLink R9 109 y9_about ∈ lw_gd := zwd 990 (by decide +kernel) rfl
theorem w_994 : Cond.methodLink R9 146 y9_dueOf ∈ lw_gd := zwd 994 (by decide +kernel) rfl
theorem w_998 : Cond.methodLink R9 116 y9_looksOf ∈ lw_gd := zwd 998 (by decide +kernel) rfl
theorem w_1002 : Cond.methodLink R9 112 y9_looks ∈ lw_gd := zwd 1002 (by decide +kernel) rfl
theorem w_1006 : Cond.methodLink R9 96 y9_next ∈ lw_gd := zwd 1006 (by decide +kernel) rfl
theorem w_1009 : Cond.methodLink R9 102 y9_meet ∈ lw_gd := zwd 1009 (by decide +kernel) rfl
theorem w_1013 : Cond.methodLink R9 85 y9_gives ∈ lw_gd := zwd 1013 (by decide +kernel) rfl
theorem w_1017 : Cond.methodLink R9 207 y9_works ∈ lw_gd := zwd 1017 (by decide +kernel) rfl
theorem w_1021 : Cond.methodLink R9 204 y9_twoOf ∈ lw_gd := zwd 1021 (by decide +kernel) rfl
theorem w_1024 : Cond.methodLink R9 89 y9_held ∈ lw_gd := zwd 1024 (by decide +kernel) rfl
theorem w_1031 : Cond.methodLink R9 149 y9_stands ∈ lw_gd := zwd 1031 (by decide +kernel) rfl
theorem w_1039 : Cond.constant R9 152 (99999 : Int32) ∈ lw_gd := zwd 1039 (by decide +kernel) rfl
theorem w_1048 : Cond.constantLong R9 153 (255 : Int64) ∈ lw_gd := zwd 1048 (by decide +kernel) rfl
theorem w_1053 : Cond.methodLink R9 180 y9_any ∈ lw_gd := zwd 1053 (by decide +kernel) rfl
theorem w_1057 : Cond.methodLink R9 201 y9_all ∈ lw_gd := zwd 1057 (by decide +kernel) rfl
theorem w_1061 : Cond.methodLink R9 198 y9_compares ∈ lw_gd := zwd 1061 (by decide +kernel) rfl
theorem w_1065 : Cond.methodLink R9 195 y9_sum ∈ lw_gd := zwd 1065 (by decide +kernel) rfl
theorem w_1069 : Cond.methodLink R9 192 y9_times ∈ lw_gd := zwd 1069 (by decide +kernel) rfl
theorem w_1073 : Cond.methodLink R9 177 y9_one ∈ lw_gd := zwd 1073 (by decide +kernel) rfl
theorem w_1077 : Cond.methodLink R9 164 y9_byteHere ∈ lw_gd := zwd 1077 (by decide +kernel) rfl
theorem w_1081 : Cond.methodLink R9 183 y9_nameOf ∈ lw_gd := zwd 1081 (by decide +kernel) rfl
theorem w_1085 : Cond.methodLink R9 171 y9_step ∈ lw_gd := zwd 1085 (by decide +kernel) rfl
theorem w_1089 : Cond.methodLink R9 186 y9_opens ∈ lw_gd := zwd 1089 (by decide +kernel) rfl
theorem w_1093 : Cond.methodLink R9 189 y9_number ∈ lw_gd := zwd 1093 (by decide +kernel) rfl
theorem w_1109 : Cond.methodLink R9 210 y9_goes ∈ lw_gd := zwd 1109 (by decide +kernel) rfl
theorem w_1117 : Cond.methodLink R9 217 y9_drawn ∈ lw_gd := zwd 1117 (by decide +kernel) rfl
theorem w_1121 : Cond.methodLink R9 214 y9_draw ∈ lw_gd := zwd 1121 (by decide +kernel) rfl
theorem w_1125 : Cond.constant R9 213 (1103515245 : Int32) ∈ lw_gd := zwd 1125 (by decide +kernel) rfl
theorem w_1134 : Cond.constant R9 220 (-1000000002 : Int32) ∈ lw_gd := zwd 1134 (by decide +kernel) rfl
theorem w_1143 : Cond.methodLink R9 221 y9_isSeen ∈ lw_gd := zwd 1143 (by decide +kernel) rfl
theorem w_1151 : Cond.methodLink R9 228 y9_thinks ∈ lw_gd := zwd 1151 (by decide +kernel) rfl
theorem w_1155 : Cond.methodLink R9 224 y9_copyAll ∈ lw_gd := zwd 1155 (by decide +kernel) rfl
theorem w_1158 : Cond.methodLink R9 231 y9_putsBack ∈ lw_gd := zwd 1158 (by decide +kernel) rfl
theorem w_1170 : Cond.methodLink R9 238 y9_canSee ∈ lw_gd := zwd 1170 (by decide +kernel) rfl
theorem w_1174 : Cond.methodLink R9 234 y9_doesSee ∈ lw_gd := zwd 1174 (by decide +kernel) rfl
theorem w_1186 : Cond.methodLink R9 242 y9_isSheet ∈ lw_gd := zwd 1186 (by decide +kernel) rfl
theorem w_1189 : Cond.methodLink R9 245 y9_isSo ∈ lw_gd := zwd 1189 (by decide +kernel) rfl
theorem w_1197 : Cond.methodLink R9 260 y9_gleams ∈ lw_gd := zwd 1197 (by decide +kernel) rfl
theorem w_1201 : Cond.methodLink R9 257 y9_spoonGleams ∈ lw_gd := zwd 1201 (by decide +kernel) rfl
theorem w_1205 : Cond.methodLink R9 251 y9_begins ∈ lw_gd := zwd 1205 (by decide +kernel) rfl
theorem w_1209 : Cond.methodLink R9 254 y9_plainGleams ∈ lw_gd := zwd 1209 (by decide +kernel) rfl
theorem w_1213 : Cond.methodLink R9 269 y9_glints ∈ lw_gd := zwd 1213 (by decide +kernel) rfl
theorem w_1217 : Cond.methodLink R9 266 y9_paneGlints ∈ lw_gd := zwd 1217 (by decide +kernel) rfl
theorem w_1221 : Cond.methodLink R9 263 y9_plainGlints ∈ lw_gd := zwd 1221 (by decide +kernel) rfl
theorem w_1225 : Cond.methodLink R9 281 y9_fades ∈ lw_gd := zwd 1225 (by decide +kernel) rfl
theorem w_1229 : Cond.methodLink R9 272 y9_plainFades ∈ lw_gd := zwd 1229 (by decide +kernel) rfl
theorem w_1233 : Cond.methodLink R9 284 y9_parts ∈ lw_gd := zwd 1233 (by decide +kernel) rfl
theorem w_1237 : Cond.methodLink R9 278 y9_plainParts ∈ lw_gd := zwd 1237 (by decide +kernel) rfl
theorem w_1241 : Cond.constant R9 287 (-1000000006 : Int32) ∈ lw_gd := zwd 1241 (by decide +kernel) rfl
theorem w_1254 : Cond.methodLink R9 288 y9_notThere ∈ lw_gd := zwd 1254 (by decide +kernel) rfl
theorem w_1262 : Cond.methodLink R9 291 y9_notMoved ∈ lw_gd := zwd 1262 (by decide +kernel) rfl
theorem w_1299 : Cond.fieldLink RJS 9 "java/lang/String" "value" "[B" ∈ lw_gd := zwd 1299 (by decide +kernel) rfl
theorem w_1300 : Cond.fieldLink RJS 15 "java/lang/String" "coder" "B" ∈ lw_gd := zwd 1300 (by decide +kernel) rfl
-- constants
theorem kB_m33 : (Int8.ofInt (-33)).toInt32 = (-33 : Int32) := by decide +kernel
theorem kB_m10 : (Int8.ofInt (-10)).toInt32 = (-10 : Int32) := by decide +kernel
theorem kB_m3 : (Int8.ofInt (-3)).toInt32 = (-3 : Int32) := by decide +kernel
theorem kB_m2 : (Int8.ofInt (-2)).toInt32 = (-2 : Int32) := by decide +kernel
theorem kB_6 : (Int8.ofInt 6).toInt32 = (6 : Int32) := by decide +kernel
theorem kB_7 : (Int8.ofInt 7).toInt32 = (7 : Int32) := by decide +kernel
theorem kB_8 : (Int8.ofInt 8).toInt32 = (8 : Int32) := by decide +kernel
theorem kB_9 : (Int8.ofInt 9).toInt32 = (9 : Int32) := by decide +kernel
theorem kB_10 : (Int8.ofInt 10).toInt32 = (10 : Int32) := by decide +kernel
theorem kB_11 : (Int8.ofInt 11).toInt32 = (11 : Int32) := by decide +kernel
theorem kB_12 : (Int8.ofInt 12).toInt32 = (12 : Int32) := by decide +kernel
theorem kB_13 : (Int8.ofInt 13).toInt32 = (13 : Int32) := by decide +kernel
theorem kB_16 : (Int8.ofInt 16).toInt32 = (16 : Int32) := by decide +kernel
theorem kB_18 : (Int8.ofInt 18).toInt32 = (18 : Int32) := by decide +kernel
theorem kB_20 : (Int8.ofInt 20).toInt32 = (20 : Int32) := by decide +kernel
theorem kB_21 : (Int8.ofInt 21).toInt32 = (21 : Int32) := by decide +kernel
theorem kB_24 : (Int8.ofInt 24).toInt32 = (24 : Int32) := by decide +kernel
theorem kB_30 : (Int8.ofInt 30).toInt32 = (30 : Int32) := by decide +kernel
theorem kB_32 : (Int8.ofInt 32).toInt32 = (32 : Int32) := by decide +kernel
theorem kB_33 : (Int8.ofInt 33).toInt32 = (33 : Int32) := by decide +kernel
theorem kB_37 : (Int8.ofInt 37).toInt32 = (37 : Int32) := by decide +kernel
theorem kB_38 : (Int8.ofInt 38).toInt32 = (38 : Int32) := by decide +kernel
theorem kB_40 : (Int8.ofInt 40).toInt32 = (40 : Int32) := by decide +kernel
theorem kB_41 : (Int8.ofInt 41).toInt32 = (41 : Int32) := by decide +kernel
theorem kB_42 : (Int8.ofInt 42).toInt32 = (42 : Int32) := by decide +kernel
theorem kB_43 : (Int8.ofInt 43).toInt32 = (43 : Int32) := by decide +kernel
theorem kB_45 : (Int8.ofInt 45).toInt32 = (45 : Int32) := by decide +kernel
theorem kB_46 : (Int8.ofInt 46).toInt32 = (46 : Int32) := by decide +kernel
theorem kB_47 : (Int8.ofInt 47).toInt32 = (47 : Int32) := by decide +kernel
theorem kB_48 : (Int8.ofInt 48).toInt32 = (48 : Int32) := by decide +kernel
theorem kB_50 : (Int8.ofInt 50).toInt32 = (50 : Int32) := by decide +kernel
theorem kB_51 : (Int8.ofInt 51).toInt32 = (51 : Int32) := by decide +kernel
theorem kB_55 : (Int8.ofInt 55).toInt32 = (55 : Int32) := by decide +kernel
theorem kB_56 : (Int8.ofInt 56).toInt32 = (56 : Int32) := by decide +kernel
theorem kB_57 : (Int8.ofInt 57).toInt32 = (57 : Int32) := by decide +kernel
theorem kB_60 : (Int8.ofInt 60).toInt32 = (60 : Int32) := by decide +kernel
theorem kB_61 : (Int8.ofInt 61).toInt32 = (61 : Int32) := by decide +kernel
theorem kB_62 : (Int8.ofInt 62).toInt32 = (62 : Int32) := by decide +kernel
theorem kB_63 : (Int8.ofInt 63).toInt32 = (63 : Int32) := by decide +kernel
theorem kB_64 : (Int8.ofInt 64).toInt32 = (64 : Int32) := by decide +kernel
theorem kB_69 : (Int8.ofInt 69).toInt32 = (69 : Int32) := by decide +kernel
theorem kB_70 : (Int8.ofInt 70).toInt32 = (70 : Int32) := by decide +kernel
theorem kB_71 : (Int8.ofInt 71).toInt32 = (71 : Int32) := by decide +kernel
theorem kB_99 : (Int8.ofInt 99).toInt32 = (99 : Int32) := by decide +kernel
theorem kB_104 : (Int8.ofInt 104).toInt32 = (104 : Int32) := by decide +kernel
theorem kB_107 : (Int8.ofInt 107).toInt32 = (107 : Int32) := by decide +kernel
theorem kB_110 : (Int8.ofInt 110).toInt32 = (110 : Int32) := by decide +kernel
theorem kB_116 : (Int8.ofInt 116).toInt32 = (116 : Int32) := by decide +kernel
theorem kB_121 : (Int8.ofInt 121).toInt32 = (121 : Int32) := by decide +kernel
theorem kB_124 : (Int8.ofInt 124).toInt32 = (124 : Int32) := by decide +kernel
theorem kI_m1 : Int32.ofInt (-1) = (-1 : Int32) := by decide +kernel
theorem kI_0 : Int32.ofInt 0 = (0 : Int32) := by decide +kernel
theorem kI_1 : Int32.ofInt 1 = (1 : Int32) := by decide +kernel
theorem kI_2 : Int32.ofInt 2 = (2 : Int32) := by decide +kernel
theorem kI_3 : Int32.ofInt 3 = (3 : Int32) := by decide +kernel
theorem kI_4 : Int32.ofInt 4 = (4 : Int32) := by decide +kernel
theorem kI_5 : Int32.ofInt 5 = (5 : Int32) := by decide +kernel
theorem kL_84 : zln 84 = 257 := by decide +kernel
theorem kL_85 : zln 85 = 257 := by decide +kernel
theorem kL_91 : zln 91 = 30 := by decide +kernel
theorem kL_93 : zln 93 = 4 := by decide +kernel
theorem kL_94 : zln 94 = 7 := by decide +kernel
theorem kL_104 : zln 104 = 390 := by decide +kernel
theorem kL_107 : zln 107 = 7 := by decide +kernel
theorem kL_108 : zln 108 = 4 := by decide +kernel
theorem kL_109 : zln 109 = 4 := by decide +kernel
theorem kL_110 : zln 110 = 96 := by decide +kernel
theorem kL_111 : zln 111 = 257 := by decide +kernel
theorem kL_112 : zln 112 = 8 := by decide +kernel
theorem kL_113 : zln 113 = 60 := by decide +kernel
theorem kL_114 : zln 114 = 60 := by decide +kernel
theorem kL_115 : zln 115 = 3 := by decide +kernel
theorem kL_116 : zln 116 = 60 := by decide +kernel
theorem kL_117 : zln 117 = 4 := by decide +kernel
theorem kL_118 : zln 118 = 30 := by decide +kernel
theorem kN_0 : (0 : Int32).toNatClampNeg = 0 := by decide +kernel
theorem kN_1 : (1 : Int32).toNatClampNeg = 1 := by decide +kernel
theorem kN_2 : (2 : Int32).toNatClampNeg = 2 := by decide +kernel
theorem kN_3 : (3 : Int32).toNatClampNeg = 3 := by decide +kernel
theorem kN_4 : (4 : Int32).toNatClampNeg = 4 := by decide +kernel
theorem kN_5 : (5 : Int32).toNatClampNeg = 5 := by decide +kernel
theorem kO_2 : Int32.ofNat 2 = (2 : Int32) := by decide +kernel
theorem kO_4 : Int32.ofNat 4 = (4 : Int32) := by decide +kernel
theorem kO_6 : Int32.ofNat 6 = (6 : Int32) := by decide +kernel
theorem kO_7 : Int32.ofNat 7 = (7 : Int32) := by decide +kernel
theorem kO_8 : Int32.ofNat 8 = (8 : Int32) := by decide +kernel
theorem kO_24 : Int32.ofNat 24 = (24 : Int32) := by decide +kernel
theorem kO_30 : Int32.ofNat 30 = (30 : Int32) := by decide +kernel
theorem kO_60 : Int32.ofNat 60 = (60 : Int32) := by decide +kernel
theorem kO_64 : Int32.ofNat 64 = (64 : Int32) := by decide +kernel
theorem kO_257 : Int32.ofNat 257 = (257 : Int32) := by decide +kernel
theorem kS_148 : (Int16.ofInt 148).toInt32 = (148 : Int32) := by decide +kernel
theorem kS_255 : (Int16.ofInt 255).toInt32 = (255 : Int32) := by decide +kernel
theorem kS_256 : (Int16.ofInt 256).toInt32 = (256 : Int32) := by decide +kernel
theorem kS_257 : (Int16.ofInt 257).toInt32 = (257 : Int32) := by decide +kernel
theorem kS_390 : (Int16.ofInt 390).toInt32 = (390 : Int32) := by decide +kernel
theorem kS_999 : (Int16.ofInt 999).toInt32 = (999 : Int32) := by decide +kernel
theorem kS_9999 : (Int16.ofInt 9999).toInt32 = (9999 : Int32) := by decide +kernel
theorem kS_12345 : (Int16.ofInt 12345).toInt32 = (12345 : Int32) := by decide +kernel
theorem kZ_1 : zsh 1 = 9 := by decide +kernel
theorem kZ_2 : zsh 2 = 6 := by decide +kernel
theorem kZ_7 : zsh 7 = 15 := by decide +kernel
theorem kZ_29 : zsh 29 = 6 := by decide +kernel
theorem kZ_56 : zsh 56 = 6 := by decide +kernel
theorem kZ_83 : zsh 83 = 2 := by decide +kernel
theorem kZ_84 : zsh 84 = 15 := by decide +kernel
theorem kZ_85 : zsh 85 = 15 := by decide +kernel
theorem kZ_86 : zsh 86 = 4 := by decide +kernel
theorem kZ_87 : zsh 87 = 7 := by decide +kernel
theorem kZ_90 : zsh 90 = 8 := by decide +kernel
theorem kZ_91 : zsh 91 = 15 := by decide +kernel
theorem kZ_92 : zsh 92 = 14 := by decide +kernel
theorem kZ_93 : zsh 93 = 15 := by decide +kernel
theorem kZ_94 : zsh 94 = 15 := by decide +kernel
theorem kZ_103 : zsh 103 = 10 := by decide +kernel
theorem kZ_104 : zsh 104 = 15 := by decide +kernel
theorem kZ_105 : zsh 105 = 15 := by decide +kernel
theorem kZ_106 : zsh 106 = 15 := by decide +kernel
theorem kZ_107 : zsh 107 = 15 := by decide +kernel
theorem kZ_108 : zsh 108 = 15 := by decide +kernel
theorem kZ_109 : zsh 109 = 15 := by decide +kernel
theorem kZ_110 : zsh 110 = 15 := by decide +kernel
theorem kZ_111 : zsh 111 = 15 := by decide +kernel
theorem kZ_112 : zsh 112 = 15 := by decide +kernel
theorem kZ_113 : zsh 113 = 15 := by decide +kernel
theorem kZ_114 : zsh 114 = 15 := by decide +kernel
theorem kZ_115 : zsh 115 = 15 := by decide +kernel
theorem kZ_116 : zsh 116 = 15 := by decide +kernel
theorem kZ_117 : zsh 117 = 15 := by decide +kernel
theorem kZ_118 : zsh 118 = 15 := by decide +kernel
-- shapes
theorem zD5_1 {t : Nat} (h : zsh t = 5) : zsh (t + 1) = 15 := zshape (κ := 5) (p := fun t => zsh (t + 1) = 15) (by decide +kernel) (by decide) h
theorem zD6_1 {t : Nat} (h : zsh t = 6) : zsh (t + 1) = 11 := zshape (κ := 6) (p := fun t => zsh (t + 1) = 11) (by decide +kernel) (by decide) h
theorem zD6_2 {t : Nat} (h : zsh t = 6) : zsh (t + 2) = 12 := zshape (κ := 6) (p := fun t => zsh (t + 2) = 12) (by decide +kernel) (by decide) h
theorem zD6_3 {t : Nat} (h : zsh t = 6) : zsh (t + 3) = 13 := zshape (κ := 6) (p := fun t => zsh (t + 3) = 13) (by decide +kernel) (by decide) h
theorem zD6_4 {t : Nat} (h : zsh t = 6) : zsh (t + 4) = 15 := zshape (κ := 6) (p := fun t => zsh (t + 4) = 15) (by decide +kernel) (by decide) h
theorem zD6_5 {t : Nat} (h : zsh t = 6) : zsh (t + 5) = 15 := zshape (κ := 6) (p := fun t => zsh (t + 5) = 15) (by decide +kernel) (by decide) h
theorem zD6_6 {t : Nat} (h : zsh t = 6) : zsh (t + 6) = 15 := zshape (κ := 6) (p := fun t => zsh (t + 6) = 15) (by decide +kernel) (by decide) h
theorem zD7_1 {t : Nat} (h : zsh t = 7) : zsh (t + 1) = 15 := zshape (κ := 7) (p := fun t => zsh (t + 1) = 15) (by decide +kernel) (by decide) h
theorem zD7_2 {t : Nat} (h : zsh t = 7) : zsh (t + 2) = 15 := zshape (κ := 7) (p := fun t => zsh (t + 2) = 15) (by decide +kernel) (by decide) h
theorem zE11 {t : Nat} {i : Int32} (h : zsh t = 6) (hi : zin i 8) : zsh (t + 7 + i.toNatClampNeg) = 1 := zshape (κ := 6) (p := fun t => zsh (t + 7 + i.toNatClampNeg) = 1) (zelem (n := 8) (p := fun t j => zsh (t + 7 + j) = 1) (by decide +kernel) hi) (by decide) h
theorem zE12 {t : Nat} {i : Int32} (h : zsh t = 6) (hi : zin i 6) : zsh (t + 15 + i.toNatClampNeg) = 3 := zshape (κ := 6) (p := fun t => zsh (t + 15 + i.toNatClampNeg) = 3) (zelem (n := 6) (p := fun t j => zsh (t + 15 + j) = 3) (by decide +kernel) hi) (by decide) h
theorem zE13 {t : Nat} {i : Int32} (h : zsh t = 6) (hi : zin i 2) : zsh (t + 21 + 3 * i.toNatClampNeg) = 7 := zshape (κ := 6) (p := fun t => zsh (t + 21 + 3 * i.toNatClampNeg) = 7) (zelem (n := 2) (p := fun t j => zsh (t + 21 + 3 * j) = 7) (by decide +kernel) hi) (by decide) h
theorem zE14 {i : Int32} (hi : zin i 4) : zsh (95 + 2 * i.toNatClampNeg) = 5 := zelem (n := 4) (κ := 14) (p := fun _ j => zsh (95 + 2 * j) = 5) (by decide +kernel) hi 92 (by decide) (by decide +kernel)
theorem zN5_1 {t : Nat} (h : zsh t = 5) : zln (t + 1) = 24 := zshape (κ := 5) (p := fun t => zln (t + 1) = 24) (by decide +kernel) (by decide) h
theorem zN6_4 {t : Nat} (h : zsh t = 6) : zln (t + 4) = 64 := zshape (κ := 6) (p := fun t => zln (t + 4) = 64) (by decide +kernel) (by decide) h
theorem zN6_5 {t : Nat} (h : zsh t = 6) : zln (t + 5) = 60 := zshape (κ := 6) (p := fun t => zln (t + 5) = 60) (by decide +kernel) (by decide) h
theorem zN6_6 {t : Nat} (h : zsh t = 6) : zln (t + 6) = 24 := zshape (κ := 6) (p := fun t => zln (t + 6) = 24) (by decide +kernel) (by decide) h
theorem zN7_1 {t : Nat} (h : zsh t = 7) : zln (t + 1) = 60 := zshape (κ := 7) (p := fun t => zln (t + 1) = 60) (by decide +kernel) (by decide) h
theorem zN7_2 {t : Nat} (h : zsh t = 7) : zln (t + 2) = 60 := zshape (κ := 7) (p := fun t => zln (t + 2) = 60) (by decide +kernel) (by decide) h
end
section
theorem i_vc : Claimed_1_1 ∧ Claimed_1_2 := sorry
end
