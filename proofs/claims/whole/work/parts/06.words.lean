/-! words, field facts, constants, shapes (printed by wip/whole/gen/build_parts.py) -/
def RJA : String := "java/util/Arrays"
def RJS : String := "java/lang/String"
def RJL : String := "java/lang/StringLatin1"
def RJP : String := "jdk/internal/util/Preconditions"
theorem zwc1 {w : Cond} (i : Nat) (h : tables_1_1[i]? = some w) (hg : goodWord w = true) : w ∈ lw_gd := List.mem_filter.mpr ⟨List.mem_append_right _ (List.mem_append_left _ (List.mem_of_getElem? h)), hg⟩
theorem zwc2 {w : Cond} (i : Nat) (h : tables_1_2[i]? = some w) (hg : goodWord w = true) : w ∈ lw_gd := List.mem_filter.mpr ⟨List.mem_append_right _ (List.mem_append_right _ (List.mem_append_left _ (List.mem_of_getElem? h))), hg⟩
theorem zwc3 {w : Cond} (i : Nat) (h : tables_1_3[i]? = some w) (hg : goodWord w = true) : w ∈ lw_gd := List.mem_filter.mpr ⟨List.mem_append_right _ (List.mem_append_right _ (List.mem_append_right _ (List.mem_append_left _ (List.mem_of_getElem? h)))), hg⟩
theorem zwc4 {w : Cond} (i : Nat) (h : tables_1_4[i]? = some w) (hg : goodWord w = true) : w ∈ lw_gd := List.mem_filter.mpr ⟨List.mem_append_right _ (List.mem_append_right _ (List.mem_append_right _ (List.mem_append_right _ (List.mem_append_left _ (List.mem_of_getElem? h))))), hg⟩
theorem zwc5 {w : Cond} (i : Nat) (h : tables_1_5[i]? = some w) (hg : goodWord w = true) : w ∈ lw_gd := List.mem_filter.mpr ⟨List.mem_append_right _ (List.mem_append_right _ (List.mem_append_right _ (List.mem_append_right _ (List.mem_append_right _ (List.mem_append_left _ (List.mem_of_getElem? h)))))), hg⟩
theorem zwc6 {w : Cond} (i : Nat) (h : tables_1_6[i]? = some w) (hg : goodWord w = true) : w ∈ lw_gd := List.mem_filter.mpr ⟨List.mem_append_right _ (List.mem_append_right _ (List.mem_append_right _ (List.mem_append_right _ (List.mem_append_right _ (List.mem_append_right _ (List.mem_of_getElem? h)))))), hg⟩
theorem zmaxw : Cond.static Lib.Math.max.name ∈ lw_gd ∧ Cond.initialized "java/lang/Math" ∈ lw_gd ∧ Cond.code Lib.Math.max.name Lib.Math.max.code 2 (some .int) ∈ lw_gd := ⟨zwc2 207 rfl rfl, zwc1 12 rfl rfl, zwc2 208 rfl rfl⟩
theorem zminw : Cond.static Lib.Math.min.name ∈ lw_gd ∧ Cond.initialized "java/lang/Math" ∈ lw_gd ∧ Cond.code Lib.Math.min.name Lib.Math.min.code 2 (some .int) ∈ lw_gd := ⟨zwc2 204 rfl rfl, zwc1 12 rfl rfl, zwc2 205 rfl rfl⟩
theorem zcopyw : Cond.native arraycopyName ∈ lw_gd ∧ Cond.static arraycopyName ∈ lw_gd ∧ Cond.initialized "java/lang/System" ∈ lw_gd := ⟨zwc3 89 rfl rfl, zwc3 88 rfl rfl, zwc1 17 rfl rfl⟩
theorem zshape {κ : Nat} {p : Nat → Prop} (hd : ∀ t, t < 119 → zsh t = κ → p t) (h0 : κ ≠ 0) {t : Nat} (h : zsh t = κ) : p t := hd t (zsh_lt (by omega)).2 h
theorem zelem {n : Nat} {i : Int32} {κ : Nat} {p : Nat → Nat → Prop} (hd : ∀ t, t < 119 → zsh t = κ → ∀ j, j < n → p t j) (hi : zin i n) : ∀ t, t < 119 → zsh t = κ → p t i.toNatClampNeg := fun t ht h => hd t ht h _ (by
  have : i.toNatClampNeg = i.toInt.toNat := rfl
  omega)
-- methods
abbrev b8_error : ByteArray := prog_1_method_42_code
def y8_error : MethodName := ⟨R8, "error", "(I)I"⟩
theorem yy8_error : zYV y8_error b8_error 2 (some .int) 1 := ⟨⟨zwc2 71 rfl rfl, (zwc1 1 rfl rfl), ⟨by decide +kernel, by decide +kernel⟩, by decide +kernel⟩, (zwc2 70 rfl rfl), (zws 0 rfl rfl)⟩
theorem yc8_error : zYC y8_error 8 := ⟨by decide, T8, 11, rfl⟩
abbrev b0_isOne : ByteArray := prog_2_method_3_code
def y0_isOne : MethodName := ⟨R0, "isOne", "(I)Z"⟩
theorem yy0_isOne : zYV y0_isOne b0_isOne 4 (some .boolean) 1 := ⟨⟨zwc2 128 rfl rfl, (zwc1 4 rfl rfl), ⟨by decide +kernel, by decide +kernel⟩, by decide +kernel⟩, (zwc2 126 rfl rfl), (zwc2 127 rfl rfl)⟩
theorem yc0_isOne : zYC y0_isOne 0 := ⟨by decide, T0, 5, rfl⟩
abbrev b5_glassOf : ByteArray := prog_7_method_3_code
def y5_glassOf : MethodName := ⟨R5, "glassOf", "(I)LGlassTax$Glass;"⟩
theorem yy5_glassOf : zYV y5_glassOf b5_glassOf 2 (some (.object "GlassTax$Glass")) 1 := ⟨⟨zwc2 84 rfl rfl, (zwc1 2 rfl rfl), ⟨by decide +kernel, by decide +kernel⟩, by decide +kernel⟩, (zwc2 82 rfl rfl), (zwc2 83 rfl rfl)⟩
theorem yc5_glassOf : zYC y5_glassOf 5 := ⟨by decide, T5, 12, rfl⟩
abbrev b8_as : ByteArray := prog_1_method_6_code
def y8_as : MethodName := ⟨R8, "as", "(II)I"⟩
theorem yy8_as : zYV y8_as b8_as 4 (some .int) 2 := ⟨⟨zwc2 124 rfl rfl, (zwc1 1 rfl rfl), ⟨by decide +kernel, by decide +kernel⟩, by decide +kernel⟩, (zwc2 122 rfl rfl), (zwc2 123 rfl rfl)⟩
theorem yc8_as : zYC y8_as 8 := ⟨by decide, T8, 11, rfl⟩
abbrev b8_isNoCell : ByteArray := prog_1_method_45_code
def y8_isNoCell : MethodName := ⟨R8, "isNoCell", "(I)Z"⟩
theorem yy8_isNoCell : zYS y8_isNoCell b8_isNoCell 1 (some .boolean) 1 := ⟨⟨zwc2 64 rfl rfl, (zwc1 1 rfl rfl), ⟨by decide +kernel, by decide +kernel⟩, by decide +kernel⟩, (zwc2 63 rfl rfl)⟩
abbrev b8_isNoWay : ByteArray := prog_1_method_46_code
def y8_isNoWay : MethodName := ⟨R8, "isNoWay", "(I)Z"⟩
theorem yy8_isNoWay : zYS y8_isNoWay b8_isNoWay 1 (some .boolean) 1 := ⟨⟨zwc2 101 rfl rfl, (zwc1 1 rfl rfl), ⟨by decide +kernel, by decide +kernel⟩, by decide +kernel⟩, (zwc2 100 rfl rfl)⟩
abbrev b1_cellAt : ByteArray := prog_3_method_6_code
def y1_cellAt : MethodName := ⟨R1, "cellAt", "(I)I"⟩
theorem yy1_cellAt : zYV y1_cellAt b1_cellAt 2 (some .int) 1 := ⟨⟨zwc3 140 rfl rfl, (zwc1 7 rfl rfl), ⟨by decide +kernel, by decide +kernel⟩, by decide +kernel⟩, (zwc3 138 rfl rfl), (zwc3 139 rfl rfl)⟩
theorem yc1_cellAt : zYC y1_cellAt 1 := ⟨by decide, T1, 5, rfl⟩
abbrev b0_roundFrom : ByteArray := prog_2_method_6_code
def y0_roundFrom : MethodName := ⟨R0, "roundFrom", "(I)I"⟩
theorem yy0_roundFrom : zYS y0_roundFrom b0_roundFrom 1 (some .int) 1 := ⟨⟨zwc2 116 rfl rfl, (zwc1 4 rfl rfl), ⟨by decide +kernel, by decide +kernel⟩, by decide +kernel⟩, (zwc2 115 rfl rfl)⟩
abbrev b0_byTurn : ByteArray := prog_2_method_5_code
def y0_byTurn : MethodName := ⟨R0, "byTurn", "(I)I"⟩
theorem yy0_byTurn : zYV y0_byTurn b0_byTurn 2 (some .int) 1 := ⟨⟨zwc2 113 rfl rfl, (zwc1 4 rfl rfl), ⟨by decide +kernel, by decide +kernel⟩, by decide +kernel⟩, (zwc2 112 rfl rfl), (zws 1 rfl rfl)⟩
theorem yc0_byTurn : zYC y0_byTurn 0 := ⟨by decide, T0, 5, rfl⟩
abbrev b0_onward : ByteArray := prog_2_method_4_code
def y0_onward : MethodName := ⟨R0, "onward", "(IZ)I"⟩
theorem yy0_onward : zYV y0_onward b0_onward 3 (some .int) 2 := ⟨⟨zwc2 109 rfl rfl, (zwc1 4 rfl rfl), ⟨by decide +kernel, by decide +kernel⟩, by decide +kernel⟩, (zwc2 107 rfl rfl), (zwc2 108 rfl rfl)⟩
theorem yc0_onward : zYC y0_onward 0 := ⟨by decide, T0, 5, rfl⟩
abbrev b1_enter : ByteArray := prog_3_method_3_code
def y1_enter : MethodName := ⟨R1, "enter", "(I)V"⟩
theorem yy1_enter : zYV y1_enter b1_enter 2 none 1 := ⟨⟨zwc2 169 rfl rfl, (zwc1 7 rfl rfl), ⟨by decide +kernel, by decide +kernel⟩, by decide +kernel⟩, (zwc2 168 rfl rfl), (zws 2 rfl rfl)⟩
theorem yc1_enter : zYC y1_enter 1 := ⟨by decide, T1, 5, rfl⟩
abbrev b1_meet : ByteArray := prog_3_method_4_code
def y1_meet : MethodName := ⟨R1, "meet", "(I)V"⟩
theorem yy1_meet : zYV y1_meet b1_meet 2 none 1 := ⟨⟨zwc2 179 rfl rfl, (zwc1 7 rfl rfl), ⟨by decide +kernel, by decide +kernel⟩, by decide +kernel⟩, (zwc2 178 rfl rfl), (zws 3 rfl rfl)⟩
theorem yc1_meet : zYC y1_meet 1 := ⟨by decide, T1, 5, rfl⟩
abbrev b1_nextCell : ByteArray := prog_3_method_5_code
def y1_nextCell : MethodName := ⟨R1, "nextCell", "(II)I"⟩
theorem yy1_nextCell : zYS y1_nextCell b1_nextCell 2 (some .int) 2 := ⟨⟨zwc2 172 rfl rfl, (zwc1 7 rfl rfl), ⟨by decide +kernel, by decide +kernel⟩, by decide +kernel⟩, (zwc2 171 rfl rfl)⟩
abbrev b5_glassAt : ByteArray := prog_7_method_6_code
def y5_glassAt : MethodName := ⟨R5, "glassAt", "(I)I"⟩
theorem yy5_glassAt : zYV y5_glassAt b5_glassAt 2 (some .int) 1 := ⟨⟨zwc2 76 rfl rfl, (zwc1 2 rfl rfl), ⟨by decide +kernel, by decide +kernel⟩, by decide +kernel⟩, (zwc2 74 rfl rfl), (zwc2 75 rfl rfl)⟩
theorem yc5_glassAt : zYC y5_glassAt 5 := ⟨by decide, T5, 12, rfl⟩
abbrev b5_isNight : ByteArray := prog_7_method_13_code
def y5_isNight : MethodName := ⟨R5, "isNight", "()Z"⟩
theorem yy5_isNight : zYV y5_isNight b5_isNight 1 (some .boolean) 0 := ⟨⟨zwc2 105 rfl rfl, (zwc1 2 rfl rfl), ⟨by decide +kernel, by decide +kernel⟩, by decide +kernel⟩, (zwc2 103 rfl rfl), (zwc2 104 rfl rfl)⟩
theorem yc5_isNight : zYC y5_isNight 5 := ⟨by decide, T5, 12, rfl⟩
abbrev b1_follow : ByteArray := prog_3_method_2_code
def y1_follow : MethodName := ⟨R1, "follow", "(LGlassTax$Street;II)V"⟩
theorem yy1_follow : zYV y1_follow b1_follow 11 none 3 := ⟨⟨zwc2 164 rfl rfl, (zwc1 7 rfl rfl), ⟨by decide +kernel, by decide +kernel⟩, by decide +kernel⟩, (zwc2 162 rfl rfl), (zwc2 163 rfl rfl)⟩
theorem yc1_follow : zYC y1_follow 1 := ⟨by decide, T1, 5, rfl⟩
abbrev b8_at : ByteArray := prog_1_method_22_code
def y8_at : MethodName := ⟨R8, "at", "(III)I"⟩
theorem yy8_at : zYV y8_at b8_at 4 (some .int) 3 := ⟨⟨zwc3 144 rfl rfl, (zwc1 1 rfl rfl), ⟨by decide +kernel, by decide +kernel⟩, by decide +kernel⟩, (zwc3 142 rfl rfl), (zwc3 143 rfl rfl)⟩
theorem yc8_at : zYC y8_at 8 := ⟨by decide, T8, 11, rfl⟩
abbrev b8_isNoKm : ByteArray := prog_1_method_48_code
def y8_isNoKm : MethodName := ⟨R8, "isNoKm", "(I)Z"⟩
theorem yy8_isNoKm : zYS y8_isNoKm b8_isNoKm 1 (some .boolean) 1 := ⟨⟨zwc2 61 rfl rfl, (zwc1 1 rfl rfl), ⟨by decide +kernel, by decide +kernel⟩, by decide +kernel⟩, (zwc2 60 rfl rfl)⟩
abbrev b8_become : ByteArray := prog_1_method_5_code
def y8_become : MethodName := ⟨R8, "become", "(II)I"⟩
theorem yy8_become : zYV y8_become b8_become 5 (some .int) 2 := ⟨⟨zwc2 120 rfl rfl, (zwc1 1 rfl rfl), ⟨by decide +kernel, by decide +kernel⟩, by decide +kernel⟩, (zwc2 118 rfl rfl), (zwc2 119 rfl rfl)⟩
theorem yc8_become : zYC y8_become 8 := ⟨by decide, T8, 11, rfl⟩
abbrev b7_tracedAt : ByteArray := prog_9_method_3_code
def y7_tracedAt : MethodName := ⟨R7, "tracedAt", "(I)I"⟩
theorem yy7_tracedAt : zYV y7_tracedAt b7_tracedAt 2 (some .int) 1 := ⟨⟨zwc4 24 rfl rfl, (zwc1 9 rfl rfl), ⟨by decide +kernel, by decide +kernel⟩, by decide +kernel⟩, (zwc4 22 rfl rfl), (zwc4 23 rfl rfl)⟩
theorem yc7_tracedAt : zYC y7_tracedAt 7 := ⟨by decide, T7, 6, rfl⟩
abbrev b8_body : ByteArray := prog_1_method_30_code
def y8_body : MethodName := ⟨R8, "body", "(I)I"⟩
theorem yy8_body : zYV y8_body b8_body 2 (some .int) 1 := ⟨⟨zwc4 20 rfl rfl, (zwc1 1 rfl rfl), ⟨by decide +kernel, by decide +kernel⟩, by decide +kernel⟩, (zwc4 18 rfl rfl), (zwc4 19 rfl rfl)⟩
theorem yc8_body : zYC y8_body 8 := ⟨by decide, T8, 11, rfl⟩
abbrev b5_personOf : ByteArray := prog_7_method_4_code
def y5_personOf : MethodName := ⟨R5, "personOf", "(I)LGlassTax$Person;"⟩
theorem yy5_personOf : zYV y5_personOf b5_personOf 2 (some (.object "GlassTax$Person")) 1 := ⟨⟨zwc2 151 rfl rfl, (zwc1 2 rfl rfl), ⟨by decide +kernel, by decide +kernel⟩, by decide +kernel⟩, (zwc2 149 rfl rfl), (zwc2 150 rfl rfl)⟩
theorem yc5_personOf : zYC y5_personOf 5 := ⟨by decide, T5, 12, rfl⟩
abbrev b5_waitingAt : ByteArray := prog_7_method_12_code
def y5_waitingAt : MethodName := ⟨R5, "waitingAt", "(I)I"⟩
theorem yy5_waitingAt : zYV y5_waitingAt b5_waitingAt 2 (some .int) 1 := ⟨⟨zwc4 82 rfl rfl, (zwc1 2 rfl rfl), ⟨by decide +kernel, by decide +kernel⟩, by decide +kernel⟩, (zwc4 80 rfl rfl), (zwc4 81 rfl rfl)⟩
theorem yc5_waitingAt : zYC y5_waitingAt 5 := ⟨by decide, T5, 12, rfl⟩
abbrev b8_check : ByteArray := prog_1_method_39_code
def y8_check : MethodName := ⟨R8, "check", "()I"⟩
theorem yy8_check : zYV y8_check b8_check 4 (some .int) 0 := ⟨⟨zwc4 78 rfl rfl, (zwc1 1 rfl rfl), ⟨by decide +kernel, by decide +kernel⟩, by decide +kernel⟩, (zwc4 76 rfl rfl), (zwc4 77 rfl rfl)⟩
theorem yc8_check : zYC y8_check 8 := ⟨by decide, T8, 11, rfl⟩
abbrev b8_count : ByteArray := prog_1_method_40_code
def y8_count : MethodName := ⟨R8, "count", "(I)I"⟩
theorem yy8_count : zYV y8_count b8_count 2 (some .int) 1 := ⟨⟨zwc4 86 rfl rfl, (zwc1 1 rfl rfl), ⟨by decide +kernel, by decide +kernel⟩, by decide +kernel⟩, (zwc4 84 rfl rfl), (zwc4 85 rfl rfl)⟩
theorem yc8_count : zYC y8_count 8 := ⟨by decide, T8, 11, rfl⟩
abbrev b5_addByte : ByteArray := prog_7_method_10_code
def y5_addByte : MethodName := ⟨R5, "addByte", "(I)V"⟩
theorem yy5_addByte : zYV y5_addByte b5_addByte 2 none 1 := ⟨⟨zwc2 230 rfl rfl, (zwc1 2 rfl rfl), ⟨by decide +kernel, by decide +kernel⟩, by decide +kernel⟩, (zwc2 228 rfl rfl), (zwc2 229 rfl rfl)⟩
theorem yc5_addByte : zYC y5_addByte 5 := ⟨by decide, T5, 12, rfl⟩
abbrev b8_feed : ByteArray := prog_1_method_14_code
def y8_feed : MethodName := ⟨R8, "feed", "(JI)I"⟩
theorem yy8_feed : zYV y8_feed b8_feed 5 (some .int) 2 := ⟨⟨zwc2 226 rfl rfl, (zwc1 1 rfl rfl), ⟨by decide +kernel, by decide +kernel⟩, by decide +kernel⟩, (zwc2 224 rfl rfl), (zwc2 225 rfl rfl)⟩
theorem yc8_feed : zYC y8_feed 8 := ⟨by decide, T8, 11, rfl⟩
abbrev b8_writeSpin : ByteArray := prog_1_method_53_code
def y8_writeSpin : MethodName := ⟨R8, "writeSpin", "(III)V"⟩
theorem yy8_writeSpin : zYV y8_writeSpin b8_writeSpin 4 none 3 := ⟨⟨zwc3 194 rfl rfl, (zwc1 1 rfl rfl), ⟨by decide +kernel, by decide +kernel⟩, by decide +kernel⟩, (zwc3 193 rfl rfl), (zws 15 rfl rfl)⟩
theorem yc8_writeSpin : zYC y8_writeSpin 8 := ⟨by decide, T8, 11, rfl⟩
abbrev b1_seesCell : ByteArray := prog_3_method_8_code
def y1_seesCell : MethodName := ⟨R1, "seesCell", "(I)Z"⟩
theorem yy1_seesCell : zYV y1_seesCell b1_seesCell 3 (some .boolean) 1 := ⟨⟨zwc3 152 rfl rfl, (zwc1 7 rfl rfl), ⟨by decide +kernel, by decide +kernel⟩, by decide +kernel⟩, (zwc3 150 rfl rfl), (zwc3 151 rfl rfl)⟩
theorem yc1_seesCell : zYC y1_seesCell 1 := ⟨by decide, T1, 5, rfl⟩
abbrev b8_isSeenByOneSpin : ByteArray := prog_1_method_52_code
def y8_isSeenByOneSpin : MethodName := ⟨R8, "isSeenByOneSpin", "(LGlassTax$Person;III)Z"⟩
theorem yy8_isSeenByOneSpin : zYV y8_isSeenByOneSpin b8_isSeenByOneSpin 9 (some .boolean) 4 := ⟨⟨zwc3 190 rfl rfl, (zwc1 1 rfl rfl), ⟨by decide +kernel, by decide +kernel⟩, by decide +kernel⟩, (zwc3 189 rfl rfl), (zws 14 rfl rfl)⟩
theorem yc8_isSeenByOneSpin : zYC y8_isSeenByOneSpin 8 := ⟨by decide, T8, 11, rfl⟩
abbrev b8_isSeenByTwoSpins : ByteArray := prog_1_method_51_code
def y8_isSeenByTwoSpins : MethodName := ⟨R8, "isSeenByTwoSpins", "(LGlassTax$Person;I)Z"⟩
theorem yy8_isSeenByTwoSpins : zYV y8_isSeenByTwoSpins b8_isSeenByTwoSpins 7 (some .boolean) 2 := ⟨⟨zwc3 198 rfl rfl, (zwc1 1 rfl rfl), ⟨by decide +kernel, by decide +kernel⟩, by decide +kernel⟩, (zwc3 197 rfl rfl), (zws 16 rfl rfl)⟩
theorem yc8_isSeenByTwoSpins : zYC y8_isSeenByTwoSpins 8 := ⟨by decide, T8, 11, rfl⟩
abbrev b8_fewestSpins : ByteArray := prog_1_method_50_code
def y8_fewestSpins : MethodName := ⟨R8, "fewestSpins", "(LGlassTax$Person;I)I"⟩
theorem yy8_fewestSpins : zYV y8_fewestSpins b8_fewestSpins 3 (some .int) 2 := ⟨⟨zwc3 186 rfl rfl, (zwc1 1 rfl rfl), ⟨by decide +kernel, by decide +kernel⟩, by decide +kernel⟩, (zwc3 185 rfl rfl), (zws 13 rfl rfl)⟩
theorem yc8_fewestSpins : zYC y8_fewestSpins 8 := ⟨by decide, T8, 11, rfl⟩
abbrev b4_numberAt : ByteArray := prog_6_method_5_code
def y4_numberAt : MethodName := ⟨R4, "numberAt", "(I)I"⟩
theorem yy4_numberAt : zYV y4_numberAt b4_numberAt 2 (some .int) 1 := ⟨⟨zwc3 218 rfl rfl, (zwc1 10 rfl rfl), ⟨by decide +kernel, by decide +kernel⟩, by decide +kernel⟩, (zwc3 216 rfl rfl), (zwc3 217 rfl rfl)⟩
theorem yc4_numberAt : zYC y4_numberAt 4 := ⟨by decide, T4, 3, rfl⟩
abbrev b8_isLook : ByteArray := prog_1_method_49_code
def y8_isLook : MethodName := ⟨R8, "isLook", "(LGlassTax$Sheet;)Z"⟩
theorem yy8_isLook : zYV y8_isLook b8_isLook 3 (some .boolean) 1 := ⟨⟨zwc3 214 rfl rfl, (zwc1 1 rfl rfl), ⟨by decide +kernel, by decide +kernel⟩, by decide +kernel⟩, (zwc3 213 rfl rfl), (zws 18 rfl rfl)⟩
theorem yc8_isLook : zYC y8_isLook 8 := ⟨by decide, T8, 11, rfl⟩
abbrev b8_manyOrLeast : ByteArray := prog_1_method_43_code
def y8_manyOrLeast : MethodName := ⟨R8, "manyOrLeast", "(III)I"⟩
theorem yy8_manyOrLeast : zYV y8_manyOrLeast b8_manyOrLeast 4 (some .int) 3 := ⟨⟨zwc3 178 rfl rfl, (zwc1 1 rfl rfl), ⟨by decide +kernel, by decide +kernel⟩, by decide +kernel⟩, (zwc3 177 rfl rfl), (zws 12 rfl rfl)⟩
theorem yc8_manyOrLeast : zYC y8_manyOrLeast 8 := ⟨by decide, T8, 11, rfl⟩
abbrev b8_sheetOf : ByteArray := prog_1_method_44_code
def y8_sheetOf : MethodName := ⟨R8, "sheetOf", "(I)LGlassTax$Sheet;"⟩
theorem yy8_sheetOf : zYV y8_sheetOf b8_sheetOf 2 (some (.object "GlassTax$Sheet")) 1 := ⟨⟨zwc3 210 rfl rfl, (zwc1 1 rfl rfl), ⟨by decide +kernel, by decide +kernel⟩, by decide +kernel⟩, (zwc3 209 rfl rfl), (zws 17 rfl rfl)⟩
theorem yc8_sheetOf : zYC y8_sheetOf 8 := ⟨by decide, T8, 11, rfl⟩
abbrev b8_fits : ByteArray := prog_1_method_28_code
def y8_fits : MethodName := ⟨R8, "fits", "(II)I"⟩
theorem yy8_fits : zYV y8_fits b8_fits 7 (some .int) 2 := ⟨⟨zwc3 206 rfl rfl, (zwc1 1 rfl rfl), ⟨by decide +kernel, by decide +kernel⟩, by decide +kernel⟩, (zwc3 204 rfl rfl), (zwc3 205 rfl rfl)⟩
theorem yc8_fits : zYC y8_fits 8 := ⟨by decide, T8, 11, rfl⟩
abbrev b8_isNoTurn : ByteArray := prog_1_method_47_code
def y8_isNoTurn : MethodName := ⟨R8, "isNoTurn", "(I)Z"⟩
theorem yy8_isNoTurn : zYS y8_isNoTurn b8_isNoTurn 1 (some .boolean) 1 := ⟨⟨zwc2 67 rfl rfl, (zwc1 1 rfl rfl), ⟨by decide +kernel, by decide +kernel⟩, by decide +kernel⟩, (zwc2 66 rfl rfl)⟩
abbrev b5_hangGlass : ByteArray := prog_7_method_8_code
def y5_hangGlass : MethodName := ⟨R5, "hangGlass", "(II)V"⟩
theorem yy5_hangGlass : zYV y5_hangGlass b5_hangGlass 4 none 2 := ⟨⟨zwc2 88 rfl rfl, (zwc1 2 rfl rfl), ⟨by decide +kernel, by decide +kernel⟩, by decide +kernel⟩, (zwc2 86 rfl rfl), (zwc2 87 rfl rfl)⟩
theorem yc5_hangGlass : zYC y5_hangGlass 5 := ⟨by decide, T5, 12, rfl⟩
abbrev b5_addGlass : ByteArray := prog_7_method_7_code
def y5_addGlass : MethodName := ⟨R5, "addGlass", "(III)I"⟩
theorem yy5_addGlass : zYV y5_addGlass b5_addGlass 6 (some .int) 3 := ⟨⟨zwc2 80 rfl rfl, (zwc1 2 rfl rfl), ⟨by decide +kernel, by decide +kernel⟩, by decide +kernel⟩, (zwc2 78 rfl rfl), (zwc2 79 rfl rfl)⟩
theorem yc5_addGlass : zYC y5_addGlass 5 := ⟨by decide, T5, 12, rfl⟩
abbrev b8_glass : ByteArray := prog_1_method_2_code
def y8_glass : MethodName := ⟨R8, "glass", "(III)I"⟩
theorem yy8_glass : zYV y8_glass b8_glass 4 (some .int) 3 := ⟨⟨zwc2 58 rfl rfl, (zwc1 1 rfl rfl), ⟨by decide +kernel, by decide +kernel⟩, by decide +kernel⟩, (zwc2 56 rfl rfl), (zwc2 57 rfl rfl)⟩
theorem yc8_glass : zYC y8_glass 8 := ⟨by decide, T8, 11, rfl⟩
abbrev b8_glassIs : ByteArray := prog_1_method_3_code
def y8_glassIs : MethodName := ⟨R8, "glassIs", "(II)I"⟩
theorem yy8_glassIs : zYV y8_glassIs b8_glassIs 4 (some .int) 2 := ⟨⟨zwc2 93 rfl rfl, (zwc1 1 rfl rfl), ⟨by decide +kernel, by decide +kernel⟩, by decide +kernel⟩, (zwc2 91 rfl rfl), (zwc2 92 rfl rfl)⟩
theorem yc8_glassIs : zYC y8_glassIs 8 := ⟨by decide, T8, 11, rfl⟩
abbrev b8_hang : ByteArray := prog_1_method_8_code
def y8_hang : MethodName := ⟨R8, "hang", "(II)I"⟩
theorem yy8_hang : zYV y8_hang b8_hang 6 (some .int) 2 := ⟨⟨zwc2 138 rfl rfl, (zwc1 1 rfl rfl), ⟨by decide +kernel, by decide +kernel⟩, by decide +kernel⟩, (zwc2 136 rfl rfl), (zwc2 137 rfl rfl)⟩
theorem yc8_hang : zYC y8_hang 8 := ⟨by decide, T8, 11, rfl⟩
abbrev b8_hour : ByteArray := prog_1_method_13_code
def y8_hour : MethodName := ⟨R8, "hour", "(I)I"⟩
theorem yy8_hour : zYV y8_hour b8_hour 3 (some .int) 1 := ⟨⟨zwc2 222 rfl rfl, (zwc1 1 rfl rfl), ⟨by decide +kernel, by decide +kernel⟩, by decide +kernel⟩, (zwc2 220 rfl rfl), (zwc2 221 rfl rfl)⟩
theorem yc8_hour : zYC y8_hour 8 := ⟨by decide, T8, 11, rfl⟩
abbrev b1_metAt : ByteArray := prog_3_method_7_code
def y1_metAt : MethodName := ⟨R1, "metAt", "(I)I"⟩
theorem yy1_metAt : zYV y1_metAt b1_metAt 2 (some .int) 1 := ⟨⟨zwc2 187 rfl rfl, (zwc1 7 rfl rfl), ⟨by decide +kernel, by decide +kernel⟩, by decide +kernel⟩, (zwc2 185 rfl rfl), (zwc2 186 rfl rfl)⟩
theorem yc1_metAt : zYC y1_metAt 1 := ⟨by decide, T1, 5, rfl⟩
abbrev b5_countMeetings : ByteArray := prog_7_method_18_code
def y5_countMeetings : MethodName := ⟨R5, "countMeetings", "(LGlassTax$Look;)V"⟩
theorem yy5_countMeetings : zYV y5_countMeetings b5_countMeetings 4 none 1 := ⟨⟨zwc3 113 rfl rfl, (zwc1 2 rfl rfl), ⟨by decide +kernel, by decide +kernel⟩, by decide +kernel⟩, (zwc3 112 rfl rfl), (zws 10 rfl rfl)⟩
theorem yc5_countMeetings : zYC y5_countMeetings 5 := ⟨by decide, T5, 12, rfl⟩
abbrev b5_textOf : ByteArray := prog_7_method_5_code
def y5_textOf : MethodName := ⟨R5, "textOf", "(I)LGlassTax$Text;"⟩
theorem yy5_textOf : zYV y5_textOf b5_textOf 2 (some (.object "GlassTax$Text")) 1 := ⟨⟨zwc2 195 rfl rfl, (zwc1 2 rfl rfl), ⟨by decide +kernel, by decide +kernel⟩, by decide +kernel⟩, (zwc2 193 rfl rfl), (zwc2 194 rfl rfl)⟩
theorem yc5_textOf : zYC y5_textOf 5 := ⟨by decide, T5, 12, rfl⟩
abbrev b6_joined : ByteArray := prog_8_method_5_code
def y6_joined : MethodName := ⟨R6, "joined", "(III)I"⟩
theorem yy6_joined : zYS y6_joined b6_joined 3 (some .int) 3 := ⟨⟨zwc2 202 rfl rfl, (zwc1 6 rfl rfl), ⟨by decide +kernel, by decide +kernel⟩, by decide +kernel⟩, (zwc2 201 rfl rfl)⟩
abbrev b6_worth : ByteArray := prog_8_method_4_code
def y6_worth : MethodName := ⟨R6, "worth", "(III)I"⟩
theorem yy6_worth : zYV y6_worth b6_worth 7 (some .int) 3 := ⟨⟨zwc2 199 rfl rfl, (zwc1 6 rfl rfl), ⟨by decide +kernel, by decide +kernel⟩, by decide +kernel⟩, (zwc2 197 rfl rfl), (zwc2 198 rfl rfl)⟩
theorem yc6_worth : zYC y6_worth 6 := ⟨by decide, T6, 4, rfl⟩
abbrev b5_given : ByteArray := prog_7_method_14_code
def y5_given : MethodName := ⟨R5, "given", "(IIII)I"⟩
theorem yy5_given : zYV y5_given b5_given 7 (some .int) 4 := ⟨⟨zwc2 191 rfl rfl, (zwc1 2 rfl rfl), ⟨by decide +kernel, by decide +kernel⟩, by decide +kernel⟩, (zwc2 189 rfl rfl), (zwc2 190 rfl rfl)⟩
theorem yc5_given : zYC y5_given 5 := ⟨by decide, T5, 12, rfl⟩
abbrev b5_taxOf : ByteArray := prog_7_method_15_code
def y5_taxOf : MethodName := ⟨R5, "taxOf", "(LGlassTax$Look;)I"⟩
theorem yy5_taxOf : zYV y5_taxOf b5_taxOf 5 (some .int) 1 := ⟨⟨zwc2 183 rfl rfl, (zwc1 2 rfl rfl), ⟨by decide +kernel, by decide +kernel⟩, by decide +kernel⟩, (zwc2 181 rfl rfl), (zwc2 182 rfl rfl)⟩
theorem yc5_taxOf : zYC y5_taxOf 5 := ⟨by decide, T5, 12, rfl⟩
abbrev b5_dueOf : ByteArray := prog_7_method_16_code
def y5_dueOf : MethodName := ⟨R5, "dueOf", "(ILGlassTax$Look;)I"⟩
theorem yy5_dueOf : zYV y5_dueOf b5_dueOf 4 (some .int) 2 := ⟨⟨zwc2 160 rfl rfl, (zwc1 2 rfl rfl), ⟨by decide +kernel, by decide +kernel⟩, by decide +kernel⟩, (zwc2 158 rfl rfl), (zwc2 159 rfl rfl)⟩
theorem yc5_dueOf : zYC y5_dueOf 5 := ⟨by decide, T5, 12, rfl⟩
abbrev b5_passHour : ByteArray := prog_7_method_17_code
def y5_passHour : MethodName := ⟨R5, "passHour", "(LGlassTax$Look;)V"⟩
theorem yy5_passHour : zYV y5_passHour b5_passHour 4 none 1 := ⟨⟨zwc3 107 rfl rfl, (zwc1 2 rfl rfl), ⟨by decide +kernel, by decide +kernel⟩, by decide +kernel⟩, (zwc3 105 rfl rfl), (zwc3 106 rfl rfl)⟩
theorem yc5_passHour : zYC y5_passHour 5 := ⟨by decide, T5, 12, rfl⟩
abbrev b8_hours : ByteArray := prog_1_method_18_code
def y8_hours : MethodName := ⟨R8, "hours", "(I)I"⟩
theorem yy8_hours : zYV y8_hours b8_hours 3 (some .int) 1 := ⟨⟨zwc3 103 rfl rfl, (zwc1 1 rfl rfl), ⟨by decide +kernel, by decide +kernel⟩, by decide +kernel⟩, (zwc3 101 rfl rfl), (zwc3 102 rfl rfl)⟩
theorem yc8_hours : zYC y8_hours 8 := ⟨by decide, T8, 11, rfl⟩
abbrev b0_copyFrom : ByteArray := prog_2_method_2_code
def y0_copyFrom : MethodName := ⟨R0, "copyFrom", "(LGlassTax$Glass;)V"⟩
theorem yy0_copyFrom : zYV y0_copyFrom b0_copyFrom 2 none 1 := ⟨⟨zwc3 164 rfl rfl, (zwc1 4 rfl rfl), ⟨by decide +kernel, by decide +kernel⟩, by decide +kernel⟩, (zwc3 162 rfl rfl), (zwc3 163 rfl rfl)⟩
theorem yc0_copyFrom : zYC y0_copyFrom 0 := ⟨by decide, T0, 5, rfl⟩
abbrev b2_copyFrom : ByteArray := prog_4_method_2_code
def y2_copyFrom : MethodName := ⟨R2, "copyFrom", "(LGlassTax$Person;)V"⟩
theorem yy2_copyFrom : zYV y2_copyFrom b2_copyFrom 2 none 1 := ⟨⟨zwc3 168 rfl rfl, (zwc1 5 rfl rfl), ⟨by decide +kernel, by decide +kernel⟩, by decide +kernel⟩, (zwc3 166 rfl rfl), (zwc3 167 rfl rfl)⟩
theorem yc2_copyFrom : zYC y2_copyFrom 2 := ⟨by decide, T2, 3, rfl⟩
abbrev b6_copyFrom : ByteArray := prog_8_method_2_code
def y6_copyFrom : MethodName := ⟨R6, "copyFrom", "(LGlassTax$Text;)V"⟩
theorem yy6_copyFrom : zYV y6_copyFrom b6_copyFrom 2 none 1 := ⟨⟨zwc3 86 rfl rfl, (zwc1 6 rfl rfl), ⟨by decide +kernel, by decide +kernel⟩, by decide +kernel⟩, (zwc3 84 rfl rfl), (zwc3 85 rfl rfl)⟩
theorem yc6_copyFrom : zYC y6_copyFrom 6 := ⟨by decide, T6, 4, rfl⟩
abbrev b5_copyFrom : ByteArray := prog_7_method_2_code
def y5_copyFrom : MethodName := ⟨R5, "copyFrom", "(LGlassTax$Street;)V"⟩
theorem yy5_copyFrom : zYV y5_copyFrom b5_copyFrom 3 none 1 := ⟨⟨zwc3 160 rfl rfl, (zwc1 2 rfl rfl), ⟨by decide +kernel, by decide +kernel⟩, by decide +kernel⟩, (zwc3 158 rfl rfl), (zwc3 159 rfl rfl)⟩
theorem yc5_copyFrom : zYC y5_copyFrom 5 := ⟨by decide, T5, 12, rfl⟩
abbrev b8_image : ByteArray := prog_1_method_36_code
def y8_image : MethodName := ⟨R8, "image", "()I"⟩
theorem yy8_image : zYV y8_image b8_image 1 (some .int) 0 := ⟨⟨zwc4 62 rfl rfl, (zwc1 1 rfl rfl), ⟨by decide +kernel, by decide +kernel⟩, by decide +kernel⟩, (zwc4 60 rfl rfl), (zwc4 61 rfl rfl)⟩
theorem yc8_image : zYC y8_image 8 := ⟨by decide, T8, 11, rfl⟩
abbrev b8_judge : ByteArray := prog_1_method_35_code
def y8_judge : MethodName := ⟨R8, "judge", "(I)I"⟩
theorem yy8_judge : zYV y8_judge b8_judge 5 (some .int) 1 := ⟨⟨zwc4 58 rfl rfl, (zwc1 1 rfl rfl), ⟨by decide +kernel, by decide +kernel⟩, by decide +kernel⟩, (zwc4 56 rfl rfl), (zwc4 57 rfl rfl)⟩
theorem yc8_judge : zYC y8_judge 8 := ⟨by decide, T8, 11, rfl⟩
abbrev b8_law : ByteArray := prog_1_method_17_code
def y8_law : MethodName := ⟨R8, "law", "(IIII)I"⟩
theorem yy8_law : zYV y8_law b8_law 5 (some .int) 4 := ⟨⟨zwc3 98 rfl rfl, (zwc1 1 rfl rfl), ⟨by decide +kernel, by decide +kernel⟩, by decide +kernel⟩, (zwc3 96 rfl rfl), (zwc3 97 rfl rfl)⟩
theorem yc8_law : zYC y8_law 8 := ⟨by decide, T8, 11, rfl⟩
abbrev b8_look : ByteArray := prog_1_method_21_code
def y8_look : MethodName := ⟨R8, "look", "(III)I"⟩
theorem yy8_look : zYV y8_look b8_look 4 (some .int) 3 := ⟨⟨zwc3 134 rfl rfl, (zwc1 1 rfl rfl), ⟨by decide +kernel, by decide +kernel⟩, by decide +kernel⟩, (zwc3 132 rfl rfl), (zwc3 133 rfl rfl)⟩
theorem yc8_look : zYC y8_look 8 := ⟨by decide, T8, 11, rfl⟩
abbrev b5_draw : ByteArray := prog_7_method_20_code
def y5_draw : MethodName := ⟨R5, "draw", "()I"⟩
theorem yy5_draw : zYV y5_draw b5_draw 1 (some .int) 0 := ⟨⟨zwc3 125 rfl rfl, (zwc1 2 rfl rfl), ⟨by decide +kernel, by decide +kernel⟩, by decide +kernel⟩, (zwc3 124 rfl rfl), (zws 11 rfl rfl)⟩
theorem yc5_draw : zYC y5_draw 5 := ⟨by decide, T5, 12, rfl⟩
abbrev b5_standByDraws : ByteArray := prog_7_method_19_code
def y5_standByDraws : MethodName := ⟨R5, "standByDraws", "()V"⟩
theorem yy5_standByDraws : zYV y5_standByDraws b5_standByDraws 3 none 0 := ⟨⟨zwc3 121 rfl rfl, (zwc1 2 rfl rfl), ⟨by decide +kernel, by decide +kernel⟩, by decide +kernel⟩, (zwc3 119 rfl rfl), (zwc3 120 rfl rfl)⟩
theorem yc5_standByDraws : zYC y5_standByDraws 5 := ⟨by decide, T5, 12, rfl⟩
abbrev b8_loose : ByteArray := prog_1_method_19_code
def y8_loose : MethodName := ⟨R8, "loose", "(I)I"⟩
theorem yy8_loose : zYV y8_loose b8_loose 3 (some .int) 1 := ⟨⟨zwc3 117 rfl rfl, (zwc1 1 rfl rfl), ⟨by decide +kernel, by decide +kernel⟩, by decide +kernel⟩, (zwc3 115 rfl rfl), (zwc3 116 rfl rfl)⟩
theorem yc8_loose : zYC y8_loose 8 := ⟨by decide, T8, 11, rfl⟩
abbrev b4_holds : ByteArray := prog_6_method_3_code
def y4_holds : MethodName := ⟨R4, "holds", "(II)Z"⟩
theorem yy4_holds : zYV y4_holds b4_holds 3 (some .boolean) 2 := ⟨⟨zwc4 49 rfl rfl, (zwc1 10 rfl rfl), ⟨by decide +kernel, by decide +kernel⟩, by decide +kernel⟩, (zwc4 47 rfl rfl), (zwc4 48 rfl rfl)⟩
theorem yc4_holds : zYC y4_holds 4 := ⟨by decide, T4, 3, rfl⟩
abbrev b8_move : ByteArray := prog_1_method_33_code
def y8_move : MethodName := ⟨R8, "move", "(IIIII)I"⟩
theorem yy8_move : zYV y8_move b8_move 8 (some .int) 5 := ⟨⟨zwc4 45 rfl rfl, (zwc1 1 rfl rfl), ⟨by decide +kernel, by decide +kernel⟩, by decide +kernel⟩, (zwc4 43 rfl rfl), (zwc4 44 rfl rfl)⟩
theorem yc8_move : zYC y8_move 8 := ⟨by decide, T8, 11, rfl⟩
abbrev b8_odds : ByteArray := prog_1_method_27_code
def y8_odds : MethodName := ⟨R8, "odds", "(I)I"⟩
theorem yy8_odds : zYV y8_odds b8_odds 5 (some .int) 1 := ⟨⟨zwc3 202 rfl rfl, (zwc1 1 rfl rfl), ⟨by decide +kernel, by decide +kernel⟩, by decide +kernel⟩, (zwc3 200 rfl rfl), (zwc3 201 rfl rfl)⟩
theorem yc8_odds : zYC y8_odds 8 := ⟨by decide, T8, 11, rfl⟩
abbrev b8_pay : ByteArray := prog_1_method_12_code
def y8_pay : MethodName := ⟨R8, "pay", "(II)I"⟩
theorem yy8_pay : zYV y8_pay b8_pay 5 (some .int) 2 := ⟨⟨zwc2 216 rfl rfl, (zwc1 1 rfl rfl), ⟨by decide +kernel, by decide +kernel⟩, by decide +kernel⟩, (zwc2 214 rfl rfl), (zwc2 215 rfl rfl)⟩
theorem yc8_pay : zYC y8_pay 8 := ⟨by decide, T8, 11, rfl⟩
abbrev b5_addPerson : ByteArray := prog_7_method_9_code
def y5_addPerson : MethodName := ⟨R5, "addPerson", "(II)I"⟩
theorem yy5_addPerson : zYV y5_addPerson b5_addPerson 5 (some .int) 2 := ⟨⟨zwc2 147 rfl rfl, (zwc1 2 rfl rfl), ⟨by decide +kernel, by decide +kernel⟩, by decide +kernel⟩, (zwc2 145 rfl rfl), (zwc2 146 rfl rfl)⟩
theorem yc5_addPerson : zYC y5_addPerson 5 := ⟨by decide, T5, 12, rfl⟩
abbrev b8_person : ByteArray := prog_1_method_9_code
def y8_person : MethodName := ⟨R8, "person", "(II)I"⟩
theorem yy8_person : zYV y8_person b8_person 3 (some .int) 2 := ⟨⟨zwc2 143 rfl rfl, (zwc1 1 rfl rfl), ⟨by decide +kernel, by decide +kernel⟩, by decide +kernel⟩, (zwc2 141 rfl rfl), (zwc2 142 rfl rfl)⟩
theorem yc8_person : zYC y8_person 8 := ⟨by decide, T8, 11, rfl⟩
abbrev b8_personIs : ByteArray := prog_1_method_10_code
def y8_personIs : MethodName := ⟨R8, "personIs", "(II)I"⟩
theorem yy8_personIs : zYV y8_personIs b8_personIs 4 (some .int) 2 := ⟨⟨zwc2 155 rfl rfl, (zwc1 1 rfl rfl), ⟨by decide +kernel, by decide +kernel⟩, by decide +kernel⟩, (zwc2 153 rfl rfl), (zwc2 154 rfl rfl)⟩
theorem yc8_personIs : zYC y8_personIs 8 := ⟨by decide, T8, 11, rfl⟩
abbrev b4_write : ByteArray := prog_6_method_4_code
def y4_write : MethodName := ⟨R4, "write", "(II)V"⟩
theorem yy4_write : zYV y4_write b4_write 3 none 2 := ⟨⟨zwc4 41 rfl rfl, (zwc1 10 rfl rfl), ⟨by decide +kernel, by decide +kernel⟩, by decide +kernel⟩, (zwc4 39 rfl rfl), (zwc4 40 rfl rfl)⟩
theorem yc4_write : zYC y4_write 4 := ⟨by decide, T4, 3, rfl⟩
abbrev b8_put : ByteArray := prog_1_method_32_code
def y8_put : MethodName := ⟨R8, "put", "(III)I"⟩
theorem yy8_put : zYV y8_put b8_put 5 (some .int) 3 := ⟨⟨zwc4 37 rfl rfl, (zwc1 1 rfl rfl), ⟨by decide +kernel, by decide +kernel⟩, by decide +kernel⟩, (zwc4 35 rfl rfl), (zwc4 36 rfl rfl)⟩
theorem yc8_put : zYC y8_put 8 := ⟨by decide, T8, 11, rfl⟩
abbrev b8_restore : ByteArray := prog_1_method_37_code
def y8_restore : MethodName := ⟨R8, "restore", "()I"⟩
theorem yy8_restore : zYV y8_restore b8_restore 1 (some .int) 0 := ⟨⟨zwc4 66 rfl rfl, (zwc1 1 rfl rfl), ⟨by decide +kernel, by decide +kernel⟩, by decide +kernel⟩, (zwc4 64 rfl rfl), (zwc4 65 rfl rfl)⟩
theorem yc8_restore : zYC y8_restore 8 := ⟨by decide, T8, 11, rfl⟩
abbrev b8_seed : ByteArray := prog_1_method_20_code
def y8_seed : MethodName := ⟨R8, "seed", "(I)I"⟩
theorem yy8_seed : zYV y8_seed b8_seed 3 (some .int) 1 := ⟨⟨zwc3 130 rfl rfl, (zwc1 1 rfl rfl), ⟨by decide +kernel, by decide +kernel⟩, by decide +kernel⟩, (zwc3 128 rfl rfl), (zwc3 129 rfl rfl)⟩
theorem yc8_seed : zYC y8_seed 8 := ⟨by decide, T8, 11, rfl⟩
abbrev b8_sees : ByteArray := prog_1_method_23_code
def y8_sees : MethodName := ⟨R8, "sees", "(I)I"⟩
theorem yy8_sees : zYV y8_sees b8_sees 6 (some .int) 1 := ⟨⟨zwc3 148 rfl rfl, (zwc1 1 rfl rfl), ⟨by decide +kernel, by decide +kernel⟩, by decide +kernel⟩, (zwc3 146 rfl rfl), (zwc3 147 rfl rfl)⟩
theorem yc8_sees : zYC y8_sees 8 := ⟨by decide, T8, 11, rfl⟩
abbrev bA_fill : ByteArray := prog_17_method_103_code
def yA_fill : MethodName := ⟨RJA, "fill", "([II)V"⟩
theorem yyA_fill : zYS yA_fill bA_fill 4 none 2 := ⟨⟨zwc1 40 rfl rfl, (zwc1 3 rfl rfl), ⟨by decide +kernel, by decide +kernel⟩, by decide +kernel⟩, (zwc1 39 rfl rfl)⟩
abbrev b4_begin : ByteArray := prog_6_method_2_code
def y4_begin : MethodName := ⟨R4, "begin", "(II)V"⟩
theorem yy4_begin : zYV y4_begin b4_begin 3 none 2 := ⟨⟨zwc4 32 rfl rfl, (zwc1 10 rfl rfl), ⟨by decide +kernel, by decide +kernel⟩, by decide +kernel⟩, (zwc4 30 rfl rfl), (zwc4 31 rfl rfl)⟩
theorem yc4_begin : zYC y4_begin 4 := ⟨by decide, T4, 3, rfl⟩
abbrev b8_sheet : ByteArray := prog_1_method_31_code
def y8_sheet : MethodName := ⟨R8, "sheet", "(III)I"⟩
theorem yy8_sheet : zYV y8_sheet b8_sheet 5 (some .int) 3 := ⟨⟨zwc4 28 rfl rfl, (zwc1 1 rfl rfl), ⟨by decide +kernel, by decide +kernel⟩, by decide +kernel⟩, (zwc4 26 rfl rfl), (zwc4 27 rfl rfl)⟩
theorem yc8_sheet : zYC y8_sheet 8 := ⟨by decide, T8, 11, rfl⟩
abbrev b8_spin : ByteArray := prog_1_method_7_code
def y8_spin : MethodName := ⟨R8, "spin", "(II)I"⟩
theorem yy8_spin : zYV y8_spin b8_spin 5 (some .int) 2 := ⟨⟨zwc2 134 rfl rfl, (zwc1 1 rfl rfl), ⟨by decide +kernel, by decide +kernel⟩, by decide +kernel⟩, (zwc2 132 rfl rfl), (zwc2 133 rfl rfl)⟩
theorem yc8_spin : zYC y8_spin 8 := ⟨by decide, T8, 11, rfl⟩
abbrev b8_spins : ByteArray := prog_1_method_26_code
def y8_spins : MethodName := ⟨R8, "spins", "(III)I"⟩
theorem yy8_spins : zYV y8_spins b8_spins 6 (some .int) 3 := ⟨⟨zwc3 182 rfl rfl, (zwc1 1 rfl rfl), ⟨by decide +kernel, by decide +kernel⟩, by decide +kernel⟩, (zwc3 180 rfl rfl), (zwc3 181 rfl rfl)⟩
theorem yc8_spins : zYC y8_spins 8 := ⟨by decide, T8, 11, rfl⟩
abbrev b8_stand : ByteArray := prog_1_method_11_code
def y8_stand : MethodName := ⟨R8, "stand", "(III)I"⟩
theorem yy8_stand : zYV y8_stand b8_stand 6 (some .int) 3 := ⟨⟨zwc2 212 rfl rfl, (zwc1 1 rfl rfl), ⟨by decide +kernel, by decide +kernel⟩, by decide +kernel⟩, (zwc2 210 rfl rfl), (zwc2 211 rfl rfl)⟩
theorem yc8_stand : zYC y8_stand 8 := ⟨by decide, T8, 11, rfl⟩
abbrev b8_starts : ByteArray := prog_1_method_25_code
def y8_starts : MethodName := ⟨R8, "starts", "(II)I"⟩
theorem yy8_starts : zYV y8_starts b8_starts 6 (some .int) 2 := ⟨⟨zwc3 174 rfl rfl, (zwc1 1 rfl rfl), ⟨by decide +kernel, by decide +kernel⟩, by decide +kernel⟩, (zwc3 172 rfl rfl), (zwc3 173 rfl rfl)⟩
theorem yc8_starts : zYC y8_starts 8 := ⟨by decide, T8, 11, rfl⟩
abbrev b5_addWaiting : ByteArray := prog_7_method_11_code
def y5_addWaiting : MethodName := ⟨R5, "addWaiting", "(I)V"⟩
theorem yy5_addWaiting : zYV y5_addWaiting b5_addWaiting 2 none 1 := ⟨⟨zwc4 74 rfl rfl, (zwc1 2 rfl rfl), ⟨by decide +kernel, by decide +kernel⟩, by decide +kernel⟩, (zwc4 72 rfl rfl), (zwc4 73 rfl rfl)⟩
theorem yc5_addWaiting : zYC y5_addWaiting 5 := ⟨by decide, T5, 12, rfl⟩
abbrev b8_tell : ByteArray := prog_1_method_38_code
def y8_tell : MethodName := ⟨R8, "tell", "(I)I"⟩
theorem yy8_tell : zYV y8_tell b8_tell 2 (some .int) 1 := ⟨⟨zwc4 70 rfl rfl, (zwc1 1 rfl rfl), ⟨by decide +kernel, by decide +kernel⟩, by decide +kernel⟩, (zwc4 68 rfl rfl), (zwc4 69 rfl rfl)⟩
theorem yc8_tell : zYC y8_tell 8 := ⟨by decide, T8, 11, rfl⟩
abbrev b3_levelOf : ByteArray := prog_5_method_10_code
def y3_levelOf : MethodName := ⟨R3, "levelOf", "(I)I"⟩
theorem yy3_levelOf : zYS y3_levelOf b3_levelOf 1 (some .int) 1 := ⟨⟨zwc3 82 rfl rfl, (zwc1 8 rfl rfl), ⟨by decide +kernel, by decide +kernel⟩, by decide +kernel⟩, (zwc3 81 rfl rfl)⟩
abbrev b3_signHere : ByteArray := prog_5_method_3_code
def y3_signHere : MethodName := ⟨R3, "signHere", "()I"⟩
theorem yy3_signHere : zYV y3_signHere b3_signHere 1 (some .int) 0 := ⟨⟨zwc3 11 rfl rfl, (zwc1 8 rfl rfl), ⟨by decide +kernel, by decide +kernel⟩, by decide +kernel⟩, (zwc3 10 rfl rfl), (zws 6 rfl rfl)⟩
theorem yc3_signHere : zYC y3_signHere 3 := ⟨by decide, T3, 5, rfl⟩
abbrev b6_add : ByteArray := prog_8_method_3_code
def y6_add : MethodName := ⟨R6, "add", "(I)V"⟩
theorem yy6_add : zYV y6_add b6_add 2 none 1 := ⟨⟨zwc3 22 rfl rfl, (zwc1 6 rfl rfl), ⟨by decide +kernel, by decide +kernel⟩, by decide +kernel⟩, (zwc3 20 rfl rfl), (zwc3 21 rfl rfl)⟩
theorem yc6_add : zYC y6_add 6 := ⟨by decide, T6, 4, rfl⟩
abbrev b3_isDigit : ByteArray := prog_5_method_9_code
def y3_isDigit : MethodName := ⟨R3, "isDigit", "(I)Z"⟩
theorem yy3_isDigit : zYS y3_isDigit b3_isDigit 1 (some .boolean) 1 := ⟨⟨zwc3 14 rfl rfl, (zwc1 8 rfl rfl), ⟨by decide +kernel, by decide +kernel⟩, by decide +kernel⟩, (zwc3 13 rfl rfl)⟩
abbrev b3_readNumber : ByteArray := prog_5_method_8_code
def y3_readNumber : MethodName := ⟨R3, "readNumber", "()V"⟩
theorem yy3_readNumber : zYV y3_readNumber b3_readNumber 3 none 0 := ⟨⟨zwc3 18 rfl rfl, (zwc1 8 rfl rfl), ⟨by decide +kernel, by decide +kernel⟩, by decide +kernel⟩, (zwc3 17 rfl rfl), (zws 7 rfl rfl)⟩
theorem yc3_readNumber : zYC y3_readNumber 3 := ⟨by decide, T3, 5, rfl⟩
abbrev bS_isLatin1 : ByteArray := prog_13_method_154_code
def yS_isLatin1 : MethodName := ⟨RJS, "isLatin1", "()Z"⟩
theorem yyS_isLatin1 : zYV yS_isLatin1 bS_isLatin1 1 (some .boolean) 0 := ⟨⟨zwc3 45 rfl rfl, (zwc1 13 rfl rfl), ⟨by decide +kernel, by decide +kernel⟩, by decide +kernel⟩, (zwc3 43 rfl rfl), (zwc3 44 rfl rfl)⟩
abbrev bP_checkIndex : ByteArray := prog_18_method_11_code
def yP_checkIndex : MethodName := ⟨RJP, "checkIndex", "(IILjava/util/function/BiFunction;)I"⟩
theorem yyP_checkIndex : zYS yP_checkIndex bP_checkIndex 3 (some .int) 3 := ⟨⟨zwc3 56 rfl rfl, (zwc1 15 rfl rfl), ⟨by decide +kernel, by decide +kernel⟩, by decide +kernel⟩, (zwc3 55 rfl rfl)⟩
abbrev bS_checkIndex : ByteArray := prog_13_method_155_code
def yS_checkIndex : MethodName := ⟨RJS, "checkIndex", "(II)V"⟩
theorem yyS_checkIndex : zYS yS_checkIndex bS_checkIndex 2 none 2 := ⟨⟨zwc3 51 rfl rfl, (zwc1 13 rfl rfl), ⟨by decide +kernel, by decide +kernel⟩, by decide +kernel⟩, (zwc3 50 rfl rfl)⟩
abbrev bL_charAt : ByteArray := prog_14_method_2_code
def yL_charAt : MethodName := ⟨RJL, "charAt", "([BI)C"⟩
theorem yyL_charAt : zYS yL_charAt bL_charAt 2 (some .char) 2 := ⟨⟨zwc3 48 rfl rfl, (zwc1 14 rfl rfl), ⟨by decide +kernel, by decide +kernel⟩, by decide +kernel⟩, (zwc3 47 rfl rfl)⟩
abbrev bS_charAt : ByteArray := prog_13_method_56_code
def yS_charAt : MethodName := ⟨RJS, "charAt", "(I)C"⟩
theorem yyS_charAt : zYV yS_charAt bS_charAt 2 (some .char) 1 := ⟨⟨zwc3 41 rfl rfl, (zwc1 13 rfl rfl), ⟨by decide +kernel, by decide +kernel⟩, by decide +kernel⟩, (zwc3 39 rfl rfl), (zwc3 40 rfl rfl)⟩
abbrev bS_coder : ByteArray := prog_13_method_152_code
def yS_coder : MethodName := ⟨RJS, "coder", "()B"⟩
theorem yyS_coder : zYV yS_coder bS_coder 1 (some .byte) 0 := ⟨⟨zwc3 35 rfl rfl, (zwc1 13 rfl rfl), ⟨by decide +kernel, by decide +kernel⟩, by decide +kernel⟩, (zwc3 33 rfl rfl), (zwc3 34 rfl rfl)⟩
abbrev bS_length : ByteArray := prog_13_method_54_code
def yS_length : MethodName := ⟨RJS, "length", "()I"⟩
theorem yyS_length : zYV yS_length bS_length 1 (some .int) 0 := ⟨⟨zwc3 31 rfl rfl, (zwc1 13 rfl rfl), ⟨by decide +kernel, by decide +kernel⟩, by decide +kernel⟩, (zwc3 29 rfl rfl), (zwc3 30 rfl rfl)⟩
abbrev b3_readPart : ByteArray := prog_5_method_4_code
def y3_readPart : MethodName := ⟨R3, "readPart", "(II)Z"⟩
theorem yy3_readPart : zYV y3_readPart b3_readPart 3 (some .boolean) 2 := ⟨⟨zwc3 3 rfl rfl, (zwc1 8 rfl rfl), ⟨by decide +kernel, by decide +kernel⟩, by decide +kernel⟩, (zwc3 2 rfl rfl), (zws 4 rfl rfl)⟩
theorem yc3_readPart : zYC y3_readPart 3 := ⟨by decide, T3, 5, rfl⟩
abbrev b3_readLevel : ByteArray := prog_5_method_5_code
def y3_readLevel : MethodName := ⟨R3, "readLevel", "(II)Z"⟩
theorem yy3_readLevel : zYV y3_readLevel b3_readLevel 5 (some .boolean) 2 := ⟨⟨zwc3 79 rfl rfl, (zwc1 8 rfl rfl), ⟨by decide +kernel, by decide +kernel⟩, by decide +kernel⟩, (zwc3 78 rfl rfl), (zws 9 rfl rfl)⟩
theorem yc3_readLevel : zYC y3_readLevel 3 := ⟨by decide, T3, 5, rfl⟩
abbrev b3_readUnit : ByteArray := prog_5_method_6_code
def y3_readUnit : MethodName := ⟨R3, "readUnit", "(I)Z"⟩
theorem yy3_readUnit : zYV y3_readUnit b3_readUnit 5 (some .boolean) 1 := ⟨⟨zwc3 7 rfl rfl, (zwc1 8 rfl rfl), ⟨by decide +kernel, by decide +kernel⟩, by decide +kernel⟩, (zwc3 6 rfl rfl), (zws 5 rfl rfl)⟩
theorem yc3_readUnit : zYC y3_readUnit 3 := ⟨by decide, T3, 5, rfl⟩
abbrev b3_readOpen : ByteArray := prog_5_method_7_code
def y3_readOpen : MethodName := ⟨R3, "readOpen", "(II)Z"⟩
theorem yy3_readOpen : zYV y3_readOpen b3_readOpen 4 (some .boolean) 2 := ⟨⟨zwc3 26 rfl rfl, (zwc1 8 rfl rfl), ⟨by decide +kernel, by decide +kernel⟩, by decide +kernel⟩, (zwc3 25 rfl rfl), (zws 8 rfl rfl)⟩
theorem yc3_readOpen : zYC y3_readOpen 3 := ⟨by decide, T3, 5, rfl⟩
abbrev b3_fault : ByteArray := prog_5_method_2_code
def y3_fault : MethodName := ⟨R3, "fault", "([III)I"⟩
theorem yy3_fault : zYV y3_fault b3_fault 4 (some .int) 3 := ⟨⟨zwc2 239 rfl rfl, (zwc1 8 rfl rfl), ⟨by decide +kernel, by decide +kernel⟩, by decide +kernel⟩, (zwc2 237 rfl rfl), (zwc2 238 rfl rfl)⟩
theorem yc3_fault : zYC y3_fault 3 := ⟨by decide, T3, 5, rfl⟩
abbrev b8_text : ByteArray := prog_1_method_15_code
def y8_text : MethodName := ⟨R8, "text", "(I)I"⟩
theorem yy8_text : zYV y8_text b8_text 4 (some .int) 1 := ⟨⟨zwc2 234 rfl rfl, (zwc1 1 rfl rfl), ⟨by decide +kernel, by decide +kernel⟩, by decide +kernel⟩, (zwc2 232 rfl rfl), (zwc2 233 rfl rfl)⟩
theorem yc8_text : zYC y8_text 8 := ⟨by decide, T8, 11, rfl⟩
abbrev b8_then : ByteArray := prog_1_method_24_code
def y8_then : MethodName := ⟨R8, "then", "(II)I"⟩
theorem yy8_then : zYV y8_then b8_then 4 (some .int) 2 := ⟨⟨zwc3 156 rfl rfl, (zwc1 1 rfl rfl), ⟨by decide +kernel, by decide +kernel⟩, by decide +kernel⟩, (zwc3 154 rfl rfl), (zwc3 155 rfl rfl)⟩
theorem yc8_then : zYC y8_then 8 := ⟨by decide, T8, 11, rfl⟩
abbrev b8_throwsOn : ByteArray := prog_1_method_4_code
def y8_throwsOn : MethodName := ⟨R8, "throwsOn", "(II)I"⟩
theorem yy8_throwsOn : zYV y8_throwsOn b8_throwsOn 4 (some .int) 2 := ⟨⟨zwc2 98 rfl rfl, (zwc1 1 rfl rfl), ⟨by decide +kernel, by decide +kernel⟩, by decide +kernel⟩, (zwc2 96 rfl rfl), (zwc2 97 rfl rfl)⟩
theorem yc8_throwsOn : zYC y8_throwsOn 8 := ⟨by decide, T8, 11, rfl⟩
abbrev b8_told : ByteArray := prog_1_method_41_code
def y8_told : MethodName := ⟨R8, "told", "(I)I"⟩
theorem yy8_told : zYV y8_told b8_told 2 (some .int) 1 := ⟨⟨zwc4 90 rfl rfl, (zwc1 1 rfl rfl), ⟨by decide +kernel, by decide +kernel⟩, by decide +kernel⟩, (zwc4 88 rfl rfl), (zwc4 89 rfl rfl)⟩
theorem yc8_told : zYC y8_told 8 := ⟨by decide, T8, 11, rfl⟩
abbrev b8_turnsOf : ByteArray := prog_1_method_34_code
def y8_turnsOf : MethodName := ⟨R8, "turnsOf", "(I)I"⟩
theorem yy8_turnsOf : zYV y8_turnsOf b8_turnsOf 7 (some .int) 1 := ⟨⟨zwc4 54 rfl rfl, (zwc1 1 rfl rfl), ⟨by decide +kernel, by decide +kernel⟩, by decide +kernel⟩, (zwc4 52 rfl rfl), (zwc4 53 rfl rfl)⟩
theorem yc8_turnsOf : zYC y8_turnsOf 8 := ⟨by decide, T8, 11, rfl⟩
abbrev b8_untell : ByteArray := prog_1_method_16_code
def y8_untell : MethodName := ⟨R8, "untell", "(I)I"⟩
theorem yy8_untell : zYV y8_untell b8_untell 4 (some .int) 1 := ⟨⟨zwc3 94 rfl rfl, (zwc1 1 rfl rfl), ⟨by decide +kernel, by decide +kernel⟩, by decide +kernel⟩, (zwc3 92 rfl rfl), (zwc3 93 rfl rfl)⟩
theorem yc8_untell : zYC y8_untell 8 := ⟨by decide, T8, 11, rfl⟩
abbrev b7_bodyFrom : ByteArray := prog_9_method_10_code
def y7_bodyFrom : MethodName := ⟨R7, "bodyFrom", "(II)I"⟩
theorem yy7_bodyFrom : zYS y7_bodyFrom b7_bodyFrom 5 (some .int) 2 := ⟨⟨zwc3 233 rfl rfl, (zwc1 9 rfl rfl), ⟨by decide +kernel, by decide +kernel⟩, by decide +kernel⟩, (zwc3 232 rfl rfl)⟩
abbrev b7_say : ByteArray := prog_9_method_4_code
def y7_say : MethodName := ⟨R7, "say", "(IIII)I"⟩
theorem yy7_say : zYV y7_say b7_say 6 (some .int) 4 := ⟨⟨zwc3 230 rfl rfl, (zwc1 9 rfl rfl), ⟨by decide +kernel, by decide +kernel⟩, by decide +kernel⟩, (zwc3 229 rfl rfl), (zws 19 rfl rfl)⟩
theorem yc7_say : zYC y7_say 7 := ⟨by decide, T7, 6, rfl⟩
abbrev b7_sayGlass : ByteArray := prog_9_method_5_code
def y7_sayGlass : MethodName := ⟨R7, "sayGlass", "(III)I"⟩
theorem yy7_sayGlass : zYV y7_sayGlass b7_sayGlass 5 (some .int) 3 := ⟨⟨zwc4 0 rfl rfl, (zwc1 9 rfl rfl), ⟨by decide +kernel, by decide +kernel⟩, by decide +kernel⟩, (zwc3 239 rfl rfl), (zws 20 rfl rfl)⟩
theorem yc7_sayGlass : zYC y7_sayGlass 7 := ⟨by decide, T7, 6, rfl⟩
abbrev b7_saySpoon : ByteArray := prog_9_method_6_code
def y7_saySpoon : MethodName := ⟨R7, "saySpoon", "(III)I"⟩
theorem yy7_saySpoon : zYV y7_saySpoon b7_saySpoon 5 (some .int) 3 := ⟨⟨zwc4 4 rfl rfl, (zwc1 9 rfl rfl), ⟨by decide +kernel, by decide +kernel⟩, by decide +kernel⟩, (zwc4 3 rfl rfl), (zws 21 rfl rfl)⟩
theorem yc7_saySpoon : zYC y7_saySpoon 7 := ⟨by decide, T7, 6, rfl⟩
abbrev b7_sayBowl : ByteArray := prog_9_method_7_code
def y7_sayBowl : MethodName := ⟨R7, "sayBowl", "(III)I"⟩
theorem yy7_sayBowl : zYV y7_sayBowl b7_sayBowl 4 (some .int) 3 := ⟨⟨zwc4 8 rfl rfl, (zwc1 9 rfl rfl), ⟨by decide +kernel, by decide +kernel⟩, by decide +kernel⟩, (zwc4 7 rfl rfl), (zws 22 rfl rfl)⟩
theorem yc7_sayBowl : zYC y7_sayBowl 7 := ⟨by decide, T7, 6, rfl⟩
abbrev b7_saySilvered : ByteArray := prog_9_method_8_code
def y7_saySilvered : MethodName := ⟨R7, "saySilvered", "(III)I"⟩
theorem yy7_saySilvered : zYV y7_saySilvered b7_saySilvered 4 (some .int) 3 := ⟨⟨zwc4 12 rfl rfl, (zwc1 9 rfl rfl), ⟨by decide +kernel, by decide +kernel⟩, by decide +kernel⟩, (zwc4 11 rfl rfl), (zws 23 rfl rfl)⟩
theorem yc7_saySilvered : zYC y7_saySilvered 7 := ⟨by decide, T7, 6, rfl⟩
abbrev b7_sayOnly : ByteArray := prog_9_method_9_code
def y7_sayOnly : MethodName := ⟨R7, "sayOnly", "(III)I"⟩
theorem yy7_sayOnly : zYV y7_sayOnly b7_sayOnly 4 (some .int) 3 := ⟨⟨zwc4 16 rfl rfl, (zwc1 9 rfl rfl), ⟨by decide +kernel, by decide +kernel⟩, by decide +kernel⟩, (zwc4 15 rfl rfl), (zws 24 rfl rfl)⟩
theorem yc7_sayOnly : zYC y7_sayOnly 7 := ⟨by decide, T7, 6, rfl⟩
abbrev b7_answer : ByteArray := prog_9_method_2_code
def y7_answer : MethodName := ⟨R7, "answer", "(LGlassTax$Glass;III)I"⟩
theorem yy7_answer : zYV y7_answer b7_answer 5 (some .int) 4 := ⟨⟨zwc3 226 rfl rfl, (zwc1 9 rfl rfl), ⟨by decide +kernel, by decide +kernel⟩, by decide +kernel⟩, (zwc3 224 rfl rfl), (zwc3 225 rfl rfl)⟩
theorem yc7_answer : zYC y7_answer 7 := ⟨by decide, T7, 6, rfl⟩
abbrev b8_voice : ByteArray := prog_1_method_29_code
def y8_voice : MethodName := ⟨R8, "voice", "(III)I"⟩
theorem yy8_voice : zYV y8_voice b8_voice 6 (some .int) 3 := ⟨⟨zwc3 222 rfl rfl, (zwc1 1 rfl rfl), ⟨by decide +kernel, by decide +kernel⟩, by decide +kernel⟩, (zwc3 220 rfl rfl), (zwc3 221 rfl rfl)⟩
theorem yc8_voice : zYC y8_voice 8 := ⟨by decide, T8, 11, rfl⟩
abbrev b9_about : ByteArray := prog_11_method_12_code
def y9_about : MethodName := ⟨R9, "about", "(II)I"⟩
theorem yy9_about : zYV y9_about b9_about 3 (some .int) 2 := ⟨⟨zwc5 33 rfl rfl, (zwc1 11 rfl rfl), ⟨by decide +kernel, by decide +kernel⟩, by decide +kernel⟩, (zwc5 32 rfl rfl), (zws 33 rfl rfl)⟩
theorem yc9_about : zYC y9_about 9 := ⟨by decide, T9, 27, rfl⟩
abbrev b9_byteHere : ByteArray := prog_11_method_39_code
def y9_byteHere : MethodName := ⟨R9, "byteHere", "()I"⟩
theorem yy9_byteHere : zYV y9_byteHere b9_byteHere 1 (some .int) 0 := ⟨⟨zwc5 120 rfl rfl, (zwc1 11 rfl rfl), ⟨by decide +kernel, by decide +kernel⟩, by decide +kernel⟩, (zwc5 119 rfl rfl), (zws 47 rfl rfl)⟩
theorem yc9_byteHere : zYC y9_byteHere 9 := ⟨by decide, T9, 27, rfl⟩
abbrev b9_step : ByteArray := prog_11_method_40_code
def y9_step : MethodName := ⟨R9, "step", "(II)V"⟩
theorem yy9_step : zYV y9_step b9_step 3 none 2 := ⟨⟨zwc5 128 rfl rfl, (zwc1 11 rfl rfl), ⟨by decide +kernel, by decide +kernel⟩, by decide +kernel⟩, (zwc5 127 rfl rfl), (zws 49 rfl rfl)⟩
theorem yc9_step : zYC y9_step 9 := ⟨by decide, T9, 27, rfl⟩
abbrev b9_nameOf : ByteArray := prog_11_method_41_code
def y9_nameOf : MethodName := ⟨R9, "nameOf", "(I)I"⟩
theorem yy9_nameOf : zYV y9_nameOf b9_nameOf 2 (some .int) 1 := ⟨⟨zwc5 124 rfl rfl, (zwc1 11 rfl rfl), ⟨by decide +kernel, by decide +kernel⟩, by decide +kernel⟩, (zwc5 123 rfl rfl), (zws 48 rfl rfl)⟩
theorem yc9_nameOf : zYC y9_nameOf 9 := ⟨by decide, T9, 27, rfl⟩
abbrev b9_in : ByteArray := prog_11_method_3_code
def y9_in : MethodName := ⟨R9, "in", "(III)Z"⟩
theorem yy9_in : zYS y9_in b9_in 3 (some .boolean) 3 := ⟨⟨zwc4 188 rfl rfl, (zwc1 11 rfl rfl), ⟨by decide +kernel, by decide +kernel⟩, by decide +kernel⟩, (zwc4 187 rfl rfl)⟩
abbrev b9_number : ByteArray := prog_11_method_42_code
def y9_number : MethodName := ⟨R9, "number", "()V"⟩
theorem yy9_number : zYV y9_number b9_number 3 none 0 := ⟨⟨zwc5 136 rfl rfl, (zwc1 11 rfl rfl), ⟨by decide +kernel, by decide +kernel⟩, by decide +kernel⟩, (zwc5 135 rfl rfl), (zws 51 rfl rfl)⟩
theorem yc9_number : zYC y9_number 9 := ⟨by decide, T9, 27, rfl⟩
abbrev b9_opens : ByteArray := prog_11_method_43_code
def y9_opens : MethodName := ⟨R9, "opens", "(I)V"⟩
theorem yy9_opens : zYV y9_opens b9_opens 2 none 1 := ⟨⟨zwc5 132 rfl rfl, (zwc1 11 rfl rfl), ⟨by decide +kernel, by decide +kernel⟩, by decide +kernel⟩, (zwc5 131 rfl rfl), (zws 50 rfl rfl)⟩
theorem yc9_opens : zYC y9_opens 9 := ⟨by decide, T9, 27, rfl⟩
abbrev b9_one : ByteArray := prog_11_method_44_code
def y9_one : MethodName := ⟨R9, "one", "()V"⟩
theorem yy9_one : zYV y9_one b9_one 3 none 0 := ⟨⟨zwc5 116 rfl rfl, (zwc1 11 rfl rfl), ⟨by decide +kernel, by decide +kernel⟩, by decide +kernel⟩, (zwc5 115 rfl rfl), (zws 46 rfl rfl)⟩
theorem yc9_one : zYC y9_one 9 := ⟨by decide, T9, 27, rfl⟩
abbrev b9_times : ByteArray := prog_11_method_45_code
def y9_times : MethodName := ⟨R9, "times", "()V"⟩
theorem yy9_times : zYV y9_times b9_times 2 none 0 := ⟨⟨zwc5 112 rfl rfl, (zwc1 11 rfl rfl), ⟨by decide +kernel, by decide +kernel⟩, by decide +kernel⟩, (zwc5 111 rfl rfl), (zws 45 rfl rfl)⟩
theorem yc9_times : zYC y9_times 9 := ⟨by decide, T9, 27, rfl⟩
abbrev b9_sum : ByteArray := prog_11_method_46_code
def y9_sum : MethodName := ⟨R9, "sum", "()V"⟩
theorem yy9_sum : zYV y9_sum b9_sum 2 none 0 := ⟨⟨zwc5 108 rfl rfl, (zwc1 11 rfl rfl), ⟨by decide +kernel, by decide +kernel⟩, by decide +kernel⟩, (zwc5 107 rfl rfl), (zws 44 rfl rfl)⟩
theorem yc9_sum : zYC y9_sum 9 := ⟨by decide, T9, 27, rfl⟩
abbrev b9_compares : ByteArray := prog_11_method_47_code
def y9_compares : MethodName := ⟨R9, "compares", "()V"⟩
theorem yy9_compares : zYV y9_compares b9_compares 2 none 0 := ⟨⟨zwc5 104 rfl rfl, (zwc1 11 rfl rfl), ⟨by decide +kernel, by decide +kernel⟩, by decide +kernel⟩, (zwc5 103 rfl rfl), (zws 43 rfl rfl)⟩
theorem yc9_compares : zYC y9_compares 9 := ⟨by decide, T9, 27, rfl⟩
abbrev b9_all : ByteArray := prog_11_method_48_code
def y9_all : MethodName := ⟨R9, "all", "()V"⟩
theorem yy9_all : zYV y9_all b9_all 1 none 0 := ⟨⟨zwc5 100 rfl rfl, (zwc1 11 rfl rfl), ⟨by decide +kernel, by decide +kernel⟩, by decide +kernel⟩, (zwc5 99 rfl rfl), (zws 42 rfl rfl)⟩
theorem yc9_all : zYC y9_all 9 := ⟨by decide, T9, 27, rfl⟩
abbrev b9_any : ByteArray := prog_11_method_49_code
def y9_any : MethodName := ⟨R9, "any", "()V"⟩
theorem yy9_any : zYV y9_any b9_any 1 none 0 := ⟨⟨zwc5 96 rfl rfl, (zwc1 11 rfl rfl), ⟨by decide +kernel, by decide +kernel⟩, by decide +kernel⟩, (zwc5 95 rfl rfl), (zws 41 rfl rfl)⟩
theorem yc9_any : zYC y9_any 9 := ⟨by decide, T9, 27, rfl⟩
abbrev b9_around : ByteArray := prog_11_method_15_code
def y9_around : MethodName := ⟨R9, "around", "(I)I"⟩
theorem yy9_around : zYS y9_around b9_around 1 (some .int) 1 := ⟨⟨zwc4 232 rfl rfl, (zwc1 11 rfl rfl), ⟨by decide +kernel, by decide +kernel⟩, by decide +kernel⟩, (zwc4 231 rfl rfl)⟩
abbrev b9_error : ByteArray := prog_11_method_2_code
def y9_error : MethodName := ⟨R9, "error", "(I)I"⟩
theorem yy9_error : zYV y9_error b9_error 2 (some .int) 1 := ⟨⟨zwc4 199 rfl rfl, (zwc1 11 rfl rfl), ⟨by decide +kernel, by decide +kernel⟩, by decide +kernel⟩, (zwc4 198 rfl rfl), (zws 25 rfl rfl)⟩
theorem yc9_error : zYC y9_error 9 := ⟨by decide, T9, 27, rfl⟩
abbrev b9_isGlass : ByteArray := prog_11_method_6_code
def y9_isGlass : MethodName := ⟨R9, "isGlass", "(I)Z"⟩
theorem yy9_isGlass : zYV y9_isGlass b9_isGlass 2 (some .boolean) 1 := ⟨⟨zwc4 218 rfl rfl, (zwc1 11 rfl rfl), ⟨by decide +kernel, by decide +kernel⟩, by decide +kernel⟩, (zwc4 217 rfl rfl), (zws 28 rfl rfl)⟩
theorem yc9_isGlass : zYC y9_isGlass 9 := ⟨by decide, T9, 27, rfl⟩
abbrev b9_of : ByteArray := prog_11_method_11_code
def y9_of : MethodName := ⟨R9, "of", "(II)I"⟩
theorem yy9_of : zYV y9_of b9_of 3 (some .int) 2 := ⟨⟨zwc4 209 rfl rfl, (zwc1 11 rfl rfl), ⟨by decide +kernel, by decide +kernel⟩, by decide +kernel⟩, (zwc4 208 rfl rfl), (zws 27 rfl rfl)⟩
theorem yc9_of : zYC y9_of 9 := ⟨by decide, T9, 27, rfl⟩
abbrev b9_as : ByteArray := prog_11_method_29_code
def y9_as : MethodName := ⟨R9, "as", "(II)I"⟩
theorem yy9_as : zYV y9_as b9_as 5 (some .int) 2 := ⟨⟨zwc5 8 rfl rfl, (zwc1 11 rfl rfl), ⟨by decide +kernel, by decide +kernel⟩, by decide +kernel⟩, (zwc5 6 rfl rfl), (zwc5 7 rfl rfl)⟩
theorem yc9_as : zYC y9_as 9 := ⟨by decide, T9, 27, rfl⟩
abbrev b9_isCell : ByteArray := prog_11_method_8_code
def y9_isCell : MethodName := ⟨R9, "isCell", "(I)Z"⟩
theorem yy9_isCell : zYS y9_isCell b9_isCell 1 (some .boolean) 1 := ⟨⟨zwc4 191 rfl rfl, (zwc1 11 rfl rfl), ⟨by decide +kernel, by decide +kernel⟩, by decide +kernel⟩, (zwc4 190 rfl rfl)⟩
abbrev b9_isFour : ByteArray := prog_11_method_9_code
def y9_isFour : MethodName := ⟨R9, "isFour", "(I)Z"⟩
theorem yy9_isFour : zYS y9_isFour b9_isFour 1 (some .boolean) 1 := ⟨⟨zwc4 194 rfl rfl, (zwc1 11 rfl rfl), ⟨by decide +kernel, by decide +kernel⟩, by decide +kernel⟩, (zwc4 193 rfl rfl)⟩
abbrev b9_glassAt : ByteArray := prog_11_method_13_code
def y9_glassAt : MethodName := ⟨R9, "glassAt", "(I)I"⟩
theorem yy9_glassAt : zYV y9_glassAt b9_glassAt 3 (some .int) 1 := ⟨⟨zwc4 205 rfl rfl, (zwc1 11 rfl rfl), ⟨by decide +kernel, by decide +kernel⟩, by decide +kernel⟩, (zwc4 204 rfl rfl), (zws 26 rfl rfl)⟩
theorem yc9_glassAt : zYC y9_glassAt 9 := ⟨by decide, T9, 27, rfl⟩
abbrev b9_held : ByteArray := prog_11_method_4_code
def y9_held : MethodName := ⟨R9, "held", "(III)I"⟩
theorem yy9_held : zYS y9_held b9_held 3 (some .int) 3 := ⟨⟨zwc5 66 rfl rfl, (zwc1 11 rfl rfl), ⟨by decide +kernel, by decide +kernel⟩, by decide +kernel⟩, (zwc5 65 rfl rfl)⟩
abbrev b9_twoOf : ByteArray := prog_11_method_52_code
def y9_twoOf : MethodName := ⟨R9, "twoOf", "(III)I"⟩
theorem yy9_twoOf : zYS y9_twoOf b9_twoOf 3 (some .int) 3 := ⟨⟨zwc5 63 rfl rfl, (zwc1 11 rfl rfl), ⟨by decide +kernel, by decide +kernel⟩, by decide +kernel⟩, (zwc5 62 rfl rfl)⟩
abbrev b9_works : ByteArray := prog_11_method_53_code
def y9_works : MethodName := ⟨R9, "works", "(I)I"⟩
theorem yy9_works : zYV y9_works b9_works 5 (some .int) 1 := ⟨⟨zwc5 60 rfl rfl, (zwc1 11 rfl rfl), ⟨by decide +kernel, by decide +kernel⟩, by decide +kernel⟩, (zwc5 59 rfl rfl), (zws 39 rfl rfl)⟩
theorem yc9_works : zYC y9_works 9 := ⟨by decide, T9, 27, rfl⟩
abbrev b9_gives : ByteArray := prog_11_method_54_code
def y9_gives : MethodName := ⟨R9, "gives", "(IIII)I"⟩
theorem yy9_gives : zYV y9_gives b9_gives 7 (some .int) 4 := ⟨⟨zwc5 56 rfl rfl, (zwc1 11 rfl rfl), ⟨by decide +kernel, by decide +kernel⟩, by decide +kernel⟩, (zwc5 55 rfl rfl), (zws 38 rfl rfl)⟩
theorem yc9_gives : zYC y9_gives 9 := ⟨by decide, T9, 27, rfl⟩
abbrev b9_isNight : ByteArray := prog_11_method_14_code
def y9_isNight : MethodName := ⟨R9, "isNight", "()Z"⟩
theorem yy9_isNight : zYV y9_isNight b9_isNight 2 (some .boolean) 0 := ⟨⟨zwc4 236 rfl rfl, (zwc1 11 rfl rfl), ⟨by decide +kernel, by decide +kernel⟩, by decide +kernel⟩, (zwc4 235 rfl rfl), (zws 30 rfl rfl)⟩
theorem yc9_isNight : zYC y9_isNight 9 := ⟨by decide, T9, 27, rfl⟩
abbrev b9_plainOnward : ByteArray := prog_11_method_16_code
def y9_plainOnward : MethodName := ⟨R9, "plainOnward", "(II)I"⟩
theorem yy9_plainOnward : zYS y9_plainOnward b9_plainOnward 2 (some .int) 2 := ⟨⟨zwc4 229 rfl rfl, (zwc1 11 rfl rfl), ⟨by decide +kernel, by decide +kernel⟩, by decide +kernel⟩, (zwc4 228 rfl rfl)⟩
abbrev b9_onward : ByteArray := prog_11_method_17_code
def y9_onward : MethodName := ⟨R9, "onward", "(II)I"⟩
theorem yy9_onward : zYV y9_onward b9_onward 4 (some .int) 2 := ⟨⟨zwc4 226 rfl rfl, (zwc1 11 rfl rfl), ⟨by decide +kernel, by decide +kernel⟩, by decide +kernel⟩, (zwc4 225 rfl rfl), (zws 29 rfl rfl)⟩
theorem yc9_onward : zYC y9_onward 9 := ⟨by decide, T9, 27, rfl⟩
abbrev b9_meet : ByteArray := prog_11_method_19_code
def y9_meet : MethodName := ⟨R9, "meet", "(II)I"⟩
theorem yy9_meet : zYV y9_meet b9_meet 4 (some .int) 2 := ⟨⟨zwc5 52 rfl rfl, (zwc1 11 rfl rfl), ⟨by decide +kernel, by decide +kernel⟩, by decide +kernel⟩, (zwc5 51 rfl rfl), (zws 37 rfl rfl)⟩
theorem yc9_meet : zYC y9_meet 9 := ⟨by decide, T9, 27, rfl⟩
abbrev b9_next : ByteArray := prog_11_method_18_code
def y9_next : MethodName := ⟨R9, "next", "(II)I"⟩
theorem yy9_next : zYS y9_next b9_next 2 (some .int) 2 := ⟨⟨zwc5 48 rfl rfl, (zwc1 11 rfl rfl), ⟨by decide +kernel, by decide +kernel⟩, by decide +kernel⟩, (zwc5 47 rfl rfl)⟩
abbrev b9_looks : ByteArray := prog_11_method_20_code
def y9_looks : MethodName := ⟨R9, "looks", "(II)V"⟩
theorem yy9_looks : zYV y9_looks b9_looks 6 none 2 := ⟨⟨zwc5 45 rfl rfl, (zwc1 11 rfl rfl), ⟨by decide +kernel, by decide +kernel⟩, by decide +kernel⟩, (zwc5 44 rfl rfl), (zws 36 rfl rfl)⟩
theorem yc9_looks : zYC y9_looks 9 := ⟨by decide, T9, 27, rfl⟩
abbrev b9_at : ByteArray := prog_11_method_63_code
def y9_at : MethodName := ⟨R9, "at", "(III)I"⟩
theorem yy9_at : zYV y9_at b9_at 4 (some .int) 3 := ⟨⟨zwc5 178 rfl rfl, (zwc1 11 rfl rfl), ⟨by decide +kernel, by decide +kernel⟩, by decide +kernel⟩, (zwc5 176 rfl rfl), (zwc5 177 rfl rfl)⟩
theorem yc9_at : zYC y9_at 9 := ⟨by decide, T9, 27, rfl⟩
abbrev b9_becomes : ByteArray := prog_11_method_10_code
def y9_becomes : MethodName := ⟨R9, "becomes", "(II)I"⟩
theorem yy9_becomes : zYV y9_becomes b9_becomes 4 (some .int) 2 := ⟨⟨zwc5 4 rfl rfl, (zwc1 11 rfl rfl), ⟨by decide +kernel, by decide +kernel⟩, by decide +kernel⟩, (zwc5 3 rfl rfl), (zws 31 rfl rfl)⟩
theorem yc9_becomes : zYC y9_becomes 9 := ⟨by decide, T9, 27, rfl⟩
abbrev b9_isKm : ByteArray := prog_11_method_24_code
def y9_isKm : MethodName := ⟨R9, "isKm", "(I)Z"⟩
theorem yy9_isKm : zYS y9_isKm b9_isKm 1 (some .boolean) 1 := ⟨⟨zwc4 185 rfl rfl, (zwc1 11 rfl rfl), ⟨by decide +kernel, by decide +kernel⟩, by decide +kernel⟩, (zwc4 184 rfl rfl)⟩
abbrev b9_become : ByteArray := prog_11_method_28_code
def y9_become : MethodName := ⟨R9, "become", "(II)I"⟩
theorem yy9_become : zYV y9_become b9_become 3 (some .int) 2 := ⟨⟨zwc5 0 rfl rfl, (zwc1 11 rfl rfl), ⟨by decide +kernel, by decide +kernel⟩, by decide +kernel⟩, (zwc4 238 rfl rfl), (zwc4 239 rfl rfl)⟩
theorem yc9_become : zYC y9_become 9 := ⟨by decide, T9, 27, rfl⟩
abbrev b9_begins : ByteArray := prog_11_method_75_code
def y9_begins : MethodName := ⟨R9, "begins", "(I)V"⟩
theorem yy9_begins : zYV y9_begins b9_begins 2 none 1 := ⟨⟨zwc6 8 rfl rfl, (zwc1 11 rfl rfl), ⟨by decide +kernel, by decide +kernel⟩, by decide +kernel⟩, (zwc6 7 rfl rfl), (zws 63 rfl rfl)⟩
theorem yc9_begins : zYC y9_begins 9 := ⟨by decide, T9, 27, rfl⟩
abbrev b9_body : ByteArray := prog_11_method_87_code
def y9_body : MethodName := ⟨R9, "body", "(I)I"⟩
theorem yy9_body : zYV y9_body b9_body 2 (some .int) 1 := ⟨⟨zwc6 45 rfl rfl, (zwc1 11 rfl rfl), ⟨by decide +kernel, by decide +kernel⟩, by decide +kernel⟩, (zwc6 43 rfl rfl), (zwc6 44 rfl rfl)⟩
theorem yc9_body : zYC y9_body 9 := ⟨by decide, T9, 27, rfl⟩
abbrev b9_isSeen : ByteArray := prog_11_method_21_code
def y9_isSeen : MethodName := ⟨R9, "isSeen", "(I)Z"⟩
theorem yy9_isSeen : zYV y9_isSeen b9_isSeen 3 (some .boolean) 1 := ⟨⟨zwc5 186 rfl rfl, (zwc1 11 rfl rfl), ⟨by decide +kernel, by decide +kernel⟩, by decide +kernel⟩, (zwc5 185 rfl rfl), (zws 55 rfl rfl)⟩
theorem yc9_isSeen : zYC y9_isSeen 9 := ⟨by decide, T9, 27, rfl⟩
abbrev b9_looksOf : ByteArray := prog_11_method_22_code
def y9_looksOf : MethodName := ⟨R9, "looksOf", "(I)V"⟩
theorem yy9_looksOf : zYV y9_looksOf b9_looksOf 2 none 1 := ⟨⟨zwc5 41 rfl rfl, (zwc1 11 rfl rfl), ⟨by decide +kernel, by decide +kernel⟩, by decide +kernel⟩, (zwc5 40 rfl rfl), (zws 35 rfl rfl)⟩
theorem yc9_looksOf : zYC y9_looksOf 9 := ⟨by decide, T9, 27, rfl⟩
abbrev b9_doesSee : ByteArray := prog_11_method_69_code
def y9_doesSee : MethodName := ⟨R9, "doesSee", "(II)Z"⟩
theorem yy9_doesSee : zYV y9_doesSee b9_doesSee 3 (some .boolean) 2 := ⟨⟨zwc5 217 rfl rfl, (zwc1 11 rfl rfl), ⟨by decide +kernel, by decide +kernel⟩, by decide +kernel⟩, (zwc5 216 rfl rfl), (zws 59 rfl rfl)⟩
theorem yc9_doesSee : zYC y9_doesSee 9 := ⟨by decide, T9, 27, rfl⟩
abbrev b9_canSee : ByteArray := prog_11_method_70_code
def y9_canSee : MethodName := ⟨R9, "canSee", "(IIII)Z"⟩
theorem yy9_canSee : zYV y9_canSee b9_canSee 9 (some .boolean) 4 := ⟨⟨zwc5 213 rfl rfl, (zwc1 11 rfl rfl), ⟨by decide +kernel, by decide +kernel⟩, by decide +kernel⟩, (zwc5 212 rfl rfl), (zws 58 rfl rfl)⟩
theorem yc9_canSee : zYC y9_canSee 9 := ⟨by decide, T9, 27, rfl⟩
abbrev b9_isPerson : ByteArray := prog_11_method_7_code
def y9_isPerson : MethodName := ⟨R9, "isPerson", "(I)Z"⟩
theorem yy9_isPerson : zYV y9_isPerson b9_isPerson 2 (some .boolean) 1 := ⟨⟨zwc5 29 rfl rfl, (zwc1 11 rfl rfl), ⟨by decide +kernel, by decide +kernel⟩, by decide +kernel⟩, (zwc5 28 rfl rfl), (zws 32 rfl rfl)⟩
theorem yc9_isPerson : zYC y9_isPerson 9 := ⟨by decide, T9, 27, rfl⟩
abbrev b9_check : ByteArray := prog_11_method_99_code
def y9_check : MethodName := ⟨R9, "check", "()I"⟩
theorem yy9_check : zYV y9_check b9_check 3 (some .int) 0 := ⟨⟨zwc6 89 rfl rfl, (zwc1 11 rfl rfl), ⟨by decide +kernel, by decide +kernel⟩, by decide +kernel⟩, (zwc6 87 rfl rfl), (zwc6 88 rfl rfl)⟩
theorem yc9_check : zYC y9_check 9 := ⟨by decide, T9, 27, rfl⟩
abbrev b9_copyAll : ByteArray := prog_11_method_5_code
def y9_copyAll : MethodName := ⟨R9, "copyAll", "([I[I)V"⟩
theorem yy9_copyAll : zYS y9_copyAll b9_copyAll 3 none 2 := ⟨⟨zwc5 197 rfl rfl, (zwc1 11 rfl rfl), ⟨by decide +kernel, by decide +kernel⟩, by decide +kernel⟩, (zwc5 196 rfl rfl)⟩
abbrev b9_count : ByteArray := prog_11_method_100_code
def y9_count : MethodName := ⟨R9, "count", "(I)I"⟩
theorem yy9_count : zYV y9_count b9_count 2 (some .int) 1 := ⟨⟨zwc6 93 rfl rfl, (zwc1 11 rfl rfl), ⟨by decide +kernel, by decide +kernel⟩, by decide +kernel⟩, (zwc6 91 rfl rfl), (zwc6 92 rfl rfl)⟩
theorem yc9_count : zYC y9_count 9 := ⟨by decide, T9, 27, rfl⟩
abbrev b9_draw : ByteArray := prog_11_method_58_code
def y9_draw : MethodName := ⟨R9, "draw", "()I"⟩
theorem yy9_draw : zYV y9_draw b9_draw 1 (some .int) 0 := ⟨⟨zwc5 164 rfl rfl, (zwc1 11 rfl rfl), ⟨by decide +kernel, by decide +kernel⟩, by decide +kernel⟩, (zwc5 163 rfl rfl), (zws 54 rfl rfl)⟩
theorem yc9_draw : zYC y9_draw 9 := ⟨by decide, T9, 27, rfl⟩
abbrev b9_drawn : ByteArray := prog_11_method_59_code
def y9_drawn : MethodName := ⟨R9, "drawn", "()V"⟩
theorem yy9_drawn : zYV y9_drawn b9_drawn 3 none 0 := ⟨⟨zwc5 160 rfl rfl, (zwc1 11 rfl rfl), ⟨by decide +kernel, by decide +kernel⟩, by decide +kernel⟩, (zwc5 159 rfl rfl), (zws 53 rfl rfl)⟩
theorem yc9_drawn : zYC y9_drawn 9 := ⟨by decide, T9, 27, rfl⟩
abbrev b9_dueOf : ByteArray := prog_11_method_23_code
def y9_dueOf : MethodName := ⟨R9, "dueOf", "(I)I"⟩
theorem yy9_dueOf : zYV y9_dueOf b9_dueOf 2 (some .int) 1 := ⟨⟨zwc5 37 rfl rfl, (zwc1 11 rfl rfl), ⟨by decide +kernel, by decide +kernel⟩, by decide +kernel⟩, (zwc5 36 rfl rfl), (zws 34 rfl rfl)⟩
theorem yc9_dueOf : zYC y9_dueOf 9 := ⟨by decide, T9, 27, rfl⟩
abbrev b9_plainGleams : ByteArray := prog_11_method_76_code
def y9_plainGleams : MethodName := ⟨R9, "plainGleams", "(II)I"⟩
theorem yy9_plainGleams : zYV y9_plainGleams b9_plainGleams 3 (some .int) 2 := ⟨⟨zwc6 12 rfl rfl, (zwc1 11 rfl rfl), ⟨by decide +kernel, by decide +kernel⟩, by decide +kernel⟩, (zwc6 11 rfl rfl), (zws 64 rfl rfl)⟩
theorem yc9_plainGleams : zYC y9_plainGleams 9 := ⟨by decide, T9, 27, rfl⟩
abbrev b9_spoonGleams : ByteArray := prog_11_method_77_code
def y9_spoonGleams : MethodName := ⟨R9, "spoonGleams", "(II)I"⟩
theorem yy9_spoonGleams : zYV y9_spoonGleams b9_spoonGleams 3 (some .int) 2 := ⟨⟨zwc6 4 rfl rfl, (zwc1 11 rfl rfl), ⟨by decide +kernel, by decide +kernel⟩, by decide +kernel⟩, (zwc6 3 rfl rfl), (zws 62 rfl rfl)⟩
theorem yc9_spoonGleams : zYC y9_spoonGleams 9 := ⟨by decide, T9, 27, rfl⟩
abbrev b9_gleams : ByteArray := prog_11_method_78_code
def y9_gleams : MethodName := ⟨R9, "gleams", "(II)I"⟩
theorem yy9_gleams : zYV y9_gleams b9_gleams 3 (some .int) 2 := ⟨⟨zwc6 0 rfl rfl, (zwc1 11 rfl rfl), ⟨by decide +kernel, by decide +kernel⟩, by decide +kernel⟩, (zwc5 239 rfl rfl), (zws 61 rfl rfl)⟩
theorem yc9_gleams : zYC y9_gleams 9 := ⟨by decide, T9, 27, rfl⟩
abbrev b9_plainGlints : ByteArray := prog_11_method_79_code
def y9_plainGlints : MethodName := ⟨R9, "plainGlints", "(II)I"⟩
theorem yy9_plainGlints : zYV y9_plainGlints b9_plainGlints 3 (some .int) 2 := ⟨⟨zwc6 24 rfl rfl, (zwc1 11 rfl rfl), ⟨by decide +kernel, by decide +kernel⟩, by decide +kernel⟩, (zwc6 23 rfl rfl), (zws 67 rfl rfl)⟩
theorem yc9_plainGlints : zYC y9_plainGlints 9 := ⟨by decide, T9, 27, rfl⟩
abbrev b9_paneGlints : ByteArray := prog_11_method_80_code
def y9_paneGlints : MethodName := ⟨R9, "paneGlints", "(II)I"⟩
theorem yy9_paneGlints : zYV y9_paneGlints b9_paneGlints 3 (some .int) 2 := ⟨⟨zwc6 20 rfl rfl, (zwc1 11 rfl rfl), ⟨by decide +kernel, by decide +kernel⟩, by decide +kernel⟩, (zwc6 19 rfl rfl), (zws 66 rfl rfl)⟩
theorem yc9_paneGlints : zYC y9_paneGlints 9 := ⟨by decide, T9, 27, rfl⟩
abbrev b9_glints : ByteArray := prog_11_method_81_code
def y9_glints : MethodName := ⟨R9, "glints", "(II)I"⟩
theorem yy9_glints : zYV y9_glints b9_glints 3 (some .int) 2 := ⟨⟨zwc6 16 rfl rfl, (zwc1 11 rfl rfl), ⟨by decide +kernel, by decide +kernel⟩, by decide +kernel⟩, (zwc6 15 rfl rfl), (zws 65 rfl rfl)⟩
theorem yc9_glints : zYC y9_glints 9 := ⟨by decide, T9, 27, rfl⟩
abbrev b9_plainFades : ByteArray := prog_11_method_82_code
def y9_plainFades : MethodName := ⟨R9, "plainFades", "(II)I"⟩
theorem yy9_plainFades : zYV y9_plainFades b9_plainFades 3 (some .int) 2 := ⟨⟨zwc6 32 rfl rfl, (zwc1 11 rfl rfl), ⟨by decide +kernel, by decide +kernel⟩, by decide +kernel⟩, (zwc6 31 rfl rfl), (zws 69 rfl rfl)⟩
theorem yc9_plainFades : zYC y9_plainFades 9 := ⟨by decide, T9, 27, rfl⟩
abbrev b9_fades : ByteArray := prog_11_method_83_code
def y9_fades : MethodName := ⟨R9, "fades", "(II)I"⟩
theorem yy9_fades : zYV y9_fades b9_fades 3 (some .int) 2 := ⟨⟨zwc6 28 rfl rfl, (zwc1 11 rfl rfl), ⟨by decide +kernel, by decide +kernel⟩, by decide +kernel⟩, (zwc6 27 rfl rfl), (zws 68 rfl rfl)⟩
theorem yc9_fades : zYC y9_fades 9 := ⟨by decide, T9, 27, rfl⟩
abbrev b9_feed : ByteArray := prog_11_method_38_code
def y9_feed : MethodName := ⟨R9, "feed", "(JI)I"⟩
theorem yy9_feed : zYV y9_feed b9_feed 5 (some .int) 2 := ⟨⟨zwc5 87 rfl rfl, (zwc1 11 rfl rfl), ⟨by decide +kernel, by decide +kernel⟩, by decide +kernel⟩, (zwc5 85 rfl rfl), (zwc5 86 rfl rfl)⟩
theorem yc9_feed : zYC y9_feed 9 := ⟨by decide, T9, 27, rfl⟩
abbrev b9_isSheet : ByteArray := prog_11_method_88_code
def y9_isSheet : MethodName := ⟨R9, "isSheet", "(I)Z"⟩
theorem yy9_isSheet : zYS y9_isSheet b9_isSheet 1 (some .boolean) 1 := ⟨⟨zwc5 228 rfl rfl, (zwc1 11 rfl rfl), ⟨by decide +kernel, by decide +kernel⟩, by decide +kernel⟩, (zwc5 227 rfl rfl)⟩
abbrev b9_isSo : ByteArray := prog_11_method_73_code
def y9_isSo : MethodName := ⟨R9, "isSo", "(I)Z"⟩
theorem yy9_isSo : zYV y9_isSo b9_isSo 4 (some .boolean) 1 := ⟨⟨zwc5 232 rfl rfl, (zwc1 11 rfl rfl), ⟨by decide +kernel, by decide +kernel⟩, by decide +kernel⟩, (zwc5 231 rfl rfl), (zws 60 rfl rfl)⟩
theorem yc9_isSo : zYC y9_isSo 9 := ⟨by decide, T9, 27, rfl⟩
abbrev b9_fits : ByteArray := prog_11_method_74_code
def y9_fits : MethodName := ⟨R9, "fits", "(II)I"⟩
theorem yy9_fits : zYV y9_fits b9_fits 7 (some .int) 2 := ⟨⟨zwc5 225 rfl rfl, (zwc1 11 rfl rfl), ⟨by decide +kernel, by decide +kernel⟩, by decide +kernel⟩, (zwc5 223 rfl rfl), (zwc5 224 rfl rfl)⟩
theorem yc9_fits : zYC y9_fits 9 := ⟨by decide, T9, 27, rfl⟩
abbrev b9_glass : ByteArray := prog_11_method_25_code
def y9_glass : MethodName := ⟨R9, "glass", "(III)I"⟩
theorem yy9_glass : zYV y9_glass b9_glass 6 (some .int) 3 := ⟨⟨zwc4 182 rfl rfl, (zwc1 11 rfl rfl), ⟨by decide +kernel, by decide +kernel⟩, by decide +kernel⟩, (zwc4 180 rfl rfl), (zwc4 181 rfl rfl)⟩
theorem yc9_glass : zYC y9_glass 9 := ⟨by decide, T9, 27, rfl⟩
abbrev b9_glassIs : ByteArray := prog_11_method_26_code
def y9_glassIs : MethodName := ⟨R9, "glassIs", "(II)I"⟩
theorem yy9_glassIs : zYV y9_glassIs b9_glassIs 3 (some .int) 2 := ⟨⟨zwc4 214 rfl rfl, (zwc1 11 rfl rfl), ⟨by decide +kernel, by decide +kernel⟩, by decide +kernel⟩, (zwc4 212 rfl rfl), (zwc4 213 rfl rfl)⟩
theorem yc9_glassIs : zYC y9_glassIs 9 := ⟨by decide, T9, 27, rfl⟩
abbrev b9_goes : ByteArray := prog_11_method_56_code
def y9_goes : MethodName := ⟨R9, "goes", "()V"⟩
theorem yy9_goes : zYV y9_goes b9_goes 3 none 0 := ⟨⟨zwc5 152 rfl rfl, (zwc1 11 rfl rfl), ⟨by decide +kernel, by decide +kernel⟩, by decide +kernel⟩, (zwc5 151 rfl rfl), (zws 52 rfl rfl)⟩
theorem yc9_goes : zYC y9_goes 9 := ⟨by decide, T9, 27, rfl⟩
abbrev b9_hang : ByteArray := prog_11_method_31_code
def y9_hang : MethodName := ⟨R9, "hang", "(II)I"⟩
theorem yy9_hang : zYV y9_hang b9_hang 4 (some .int) 2 := ⟨⟨zwc5 17 rfl rfl, (zwc1 11 rfl rfl), ⟨by decide +kernel, by decide +kernel⟩, by decide +kernel⟩, (zwc5 15 rfl rfl), (zwc5 16 rfl rfl)⟩
theorem yc9_hang : zYC y9_hang 9 := ⟨by decide, T9, 27, rfl⟩
abbrev b9_hour : ByteArray := prog_11_method_37_code
def y9_hour : MethodName := ⟨R9, "hour", "(I)I"⟩
theorem yy9_hour : zYV y9_hour b9_hour 2 (some .int) 1 := ⟨⟨zwc5 83 rfl rfl, (zwc1 11 rfl rfl), ⟨by decide +kernel, by decide +kernel⟩, by decide +kernel⟩, (zwc5 81 rfl rfl), (zwc5 82 rfl rfl)⟩
theorem yc9_hour : zYC y9_hour 9 := ⟨by decide, T9, 27, rfl⟩
abbrev b9_hours : ByteArray := prog_11_method_57_code
def y9_hours : MethodName := ⟨R9, "hours", "(I)I"⟩
theorem yy9_hours : zYV y9_hours b9_hours 3 (some .int) 1 := ⟨⟨zwc5 148 rfl rfl, (zwc1 11 rfl rfl), ⟨by decide +kernel, by decide +kernel⟩, by decide +kernel⟩, (zwc5 146 rfl rfl), (zwc5 147 rfl rfl)⟩
theorem yc9_hours : zYC y9_hours 9 := ⟨by decide, T9, 27, rfl⟩
abbrev b9_image : ByteArray := prog_11_method_96_code
def y9_image : MethodName := ⟨R9, "image", "()I"⟩
theorem yy9_image : zYV y9_image b9_image 1 (some .int) 0 := ⟨⟨zwc6 77 rfl rfl, (zwc1 11 rfl rfl), ⟨by decide +kernel, by decide +kernel⟩, by decide +kernel⟩, (zwc6 75 rfl rfl), (zwc6 76 rfl rfl)⟩
theorem yc9_image : zYC y9_image 9 := ⟨by decide, T9, 27, rfl⟩
abbrev b9_notThere : ByteArray := prog_11_method_90_code
def y9_notThere : MethodName := ⟨R9, "notThere", "(I)I"⟩
theorem yy9_notThere : zYV y9_notThere b9_notThere 2 (some .int) 1 := ⟨⟨zwc6 57 rfl rfl, (zwc1 11 rfl rfl), ⟨by decide +kernel, by decide +kernel⟩, by decide +kernel⟩, (zwc6 56 rfl rfl), (zws 72 rfl rfl)⟩
theorem yc9_notThere : zYC y9_notThere 9 := ⟨by decide, T9, 27, rfl⟩
abbrev b9_judge : ByteArray := prog_11_method_95_code
def y9_judge : MethodName := ⟨R9, "judge", "(I)I"⟩
theorem yy9_judge : zYV y9_judge b9_judge 4 (some .int) 1 := ⟨⟨zwc6 73 rfl rfl, (zwc1 11 rfl rfl), ⟨by decide +kernel, by decide +kernel⟩, by decide +kernel⟩, (zwc6 71 rfl rfl), (zwc6 72 rfl rfl)⟩
theorem yc9_judge : zYC y9_judge 9 := ⟨by decide, T9, 27, rfl⟩
abbrev b9_law : ByteArray := prog_11_method_55_code
def y9_law : MethodName := ⟨R9, "law", "(IIII)I"⟩
theorem yy9_law : zYV y9_law b9_law 5 (some .int) 4 := ⟨⟨zwc5 144 rfl rfl, (zwc1 11 rfl rfl), ⟨by decide +kernel, by decide +kernel⟩, by decide +kernel⟩, (zwc5 142 rfl rfl), (zwc5 143 rfl rfl)⟩
theorem yc9_law : zYC y9_law 9 := ⟨by decide, T9, 27, rfl⟩
abbrev b9_look : ByteArray := prog_11_method_62_code
def y9_look : MethodName := ⟨R9, "look", "(III)I"⟩
theorem yy9_look : zYV y9_look b9_look 4 (some .int) 3 := ⟨⟨zwc5 173 rfl rfl, (zwc1 11 rfl rfl), ⟨by decide +kernel, by decide +kernel⟩, by decide +kernel⟩, (zwc5 171 rfl rfl), (zwc5 172 rfl rfl)⟩
theorem yc9_look : zYC y9_look 9 := ⟨by decide, T9, 27, rfl⟩
abbrev b9_loose : ByteArray := prog_11_method_60_code
def y9_loose : MethodName := ⟨R9, "loose", "(I)I"⟩
theorem yy9_loose : zYV y9_loose b9_loose 3 (some .int) 1 := ⟨⟨zwc5 156 rfl rfl, (zwc1 11 rfl rfl), ⟨by decide +kernel, by decide +kernel⟩, by decide +kernel⟩, (zwc5 154 rfl rfl), (zwc5 155 rfl rfl)⟩
theorem yc9_loose : zYC y9_loose 9 := ⟨by decide, T9, 27, rfl⟩
abbrev b9_notMoved : ByteArray := prog_11_method_92_code
def y9_notMoved : MethodName := ⟨R9, "notMoved", "(IIIII)I"⟩
theorem yy9_notMoved : zYV y9_notMoved b9_notMoved 7 (some .int) 5 := ⟨⟨zwc6 65 rfl rfl, (zwc1 11 rfl rfl), ⟨by decide +kernel, by decide +kernel⟩, by decide +kernel⟩, (zwc6 64 rfl rfl), (zws 73 rfl rfl)⟩
theorem yc9_notMoved : zYC y9_notMoved 9 := ⟨by decide, T9, 27, rfl⟩
abbrev b9_move : ByteArray := prog_11_method_93_code
def y9_move : MethodName := ⟨R9, "move", "(IIIII)I"⟩
theorem yy9_move : zYV y9_move b9_move 9 (some .int) 5 := ⟨⟨zwc6 61 rfl rfl, (zwc1 11 rfl rfl), ⟨by decide +kernel, by decide +kernel⟩, by decide +kernel⟩, (zwc6 59 rfl rfl), (zwc6 60 rfl rfl)⟩
theorem yc9_move : zYC y9_move 9 := ⟨by decide, T9, 27, rfl⟩
abbrev b9_odds : ByteArray := prog_11_method_72_code
def y9_odds : MethodName := ⟨R9, "odds", "(I)I"⟩
theorem yy9_odds : zYV y9_odds b9_odds 4 (some .int) 1 := ⟨⟨zwc5 221 rfl rfl, (zwc1 11 rfl rfl), ⟨by decide +kernel, by decide +kernel⟩, by decide +kernel⟩, (zwc5 219 rfl rfl), (zwc5 220 rfl rfl)⟩
theorem yc9_odds : zYC y9_odds 9 := ⟨by decide, T9, 27, rfl⟩
abbrev b9_plainParts : ByteArray := prog_11_method_84_code
def y9_plainParts : MethodName := ⟨R9, "plainParts", "(II)I"⟩
theorem yy9_plainParts : zYV y9_plainParts b9_plainParts 4 (some .int) 2 := ⟨⟨zwc6 40 rfl rfl, (zwc1 11 rfl rfl), ⟨by decide +kernel, by decide +kernel⟩, by decide +kernel⟩, (zwc6 39 rfl rfl), (zws 71 rfl rfl)⟩
theorem yc9_plainParts : zYC y9_plainParts 9 := ⟨by decide, T9, 27, rfl⟩
abbrev b9_parts : ByteArray := prog_11_method_85_code
def y9_parts : MethodName := ⟨R9, "parts", "(II)I"⟩
theorem yy9_parts : zYV y9_parts b9_parts 4 (some .int) 2 := ⟨⟨zwc6 36 rfl rfl, (zwc1 11 rfl rfl), ⟨by decide +kernel, by decide +kernel⟩, by decide +kernel⟩, (zwc6 35 rfl rfl), (zws 70 rfl rfl)⟩
theorem yc9_parts : zYC y9_parts 9 := ⟨by decide, T9, 27, rfl⟩
abbrev b9_pay : ByteArray := prog_11_method_36_code
def y9_pay : MethodName := ⟨R9, "pay", "(II)I"⟩
theorem yy9_pay : zYV y9_pay b9_pay 4 (some .int) 2 := ⟨⟨zwc5 78 rfl rfl, (zwc1 11 rfl rfl), ⟨by decide +kernel, by decide +kernel⟩, by decide +kernel⟩, (zwc5 76 rfl rfl), (zwc5 77 rfl rfl)⟩
theorem yc9_pay : zYC y9_pay 9 := ⟨by decide, T9, 27, rfl⟩
abbrev b9_person : ByteArray := prog_11_method_32_code
def y9_person : MethodName := ⟨R9, "person", "(II)I"⟩
theorem yy9_person : zYV y9_person b9_person 4 (some .int) 2 := ⟨⟨zwc5 21 rfl rfl, (zwc1 11 rfl rfl), ⟨by decide +kernel, by decide +kernel⟩, by decide +kernel⟩, (zwc5 19 rfl rfl), (zwc5 20 rfl rfl)⟩
theorem yc9_person : zYC y9_person 9 := ⟨by decide, T9, 27, rfl⟩
abbrev b9_personIs : ByteArray := prog_11_method_33_code
def y9_personIs : MethodName := ⟨R9, "personIs", "(II)I"⟩
theorem yy9_personIs : zYV y9_personIs b9_personIs 3 (some .int) 2 := ⟨⟨zwc5 25 rfl rfl, (zwc1 11 rfl rfl), ⟨by decide +kernel, by decide +kernel⟩, by decide +kernel⟩, (zwc5 23 rfl rfl), (zwc5 24 rfl rfl)⟩
theorem yc9_personIs : zYC y9_personIs 9 := ⟨by decide, T9, 27, rfl⟩
abbrev b9_put : ByteArray := prog_11_method_91_code
def y9_put : MethodName := ⟨R9, "put", "(III)I"⟩
theorem yy9_put : zYV y9_put b9_put 5 (some .int) 3 := ⟨⟨zwc6 53 rfl rfl, (zwc1 11 rfl rfl), ⟨by decide +kernel, by decide +kernel⟩, by decide +kernel⟩, (zwc6 51 rfl rfl), (zwc6 52 rfl rfl)⟩
theorem yc9_put : zYC y9_put 9 := ⟨by decide, T9, 27, rfl⟩
abbrev b9_putsBack : ByteArray := prog_11_method_66_code
def y9_putsBack : MethodName := ⟨R9, "putsBack", "()V"⟩
theorem yy9_putsBack : zYV y9_putsBack b9_putsBack 1 none 0 := ⟨⟨zwc5 201 rfl rfl, (zwc1 11 rfl rfl), ⟨by decide +kernel, by decide +kernel⟩, by decide +kernel⟩, (zwc5 200 rfl rfl), (zws 57 rfl rfl)⟩
theorem yc9_putsBack : zYC y9_putsBack 9 := ⟨by decide, T9, 27, rfl⟩
abbrev b9_restore : ByteArray := prog_11_method_97_code
def y9_restore : MethodName := ⟨R9, "restore", "()I"⟩
theorem yy9_restore : zYV y9_restore b9_restore 1 (some .int) 0 := ⟨⟨zwc6 81 rfl rfl, (zwc1 11 rfl rfl), ⟨by decide +kernel, by decide +kernel⟩, by decide +kernel⟩, (zwc6 79 rfl rfl), (zwc6 80 rfl rfl)⟩
theorem yc9_restore : zYC y9_restore 9 := ⟨by decide, T9, 27, rfl⟩
abbrev b9_seed : ByteArray := prog_11_method_61_code
def y9_seed : MethodName := ⟨R9, "seed", "(I)I"⟩
theorem yy9_seed : zYV y9_seed b9_seed 2 (some .int) 1 := ⟨⟨zwc5 169 rfl rfl, (zwc1 11 rfl rfl), ⟨by decide +kernel, by decide +kernel⟩, by decide +kernel⟩, (zwc5 167 rfl rfl), (zwc5 168 rfl rfl)⟩
theorem yc9_seed : zYC y9_seed 9 := ⟨by decide, T9, 27, rfl⟩
abbrev b9_sees : ByteArray := prog_11_method_64_code
def y9_sees : MethodName := ⟨R9, "sees", "(I)I"⟩
theorem yy9_sees : zYV y9_sees b9_sees 4 (some .int) 1 := ⟨⟨zwc5 182 rfl rfl, (zwc1 11 rfl rfl), ⟨by decide +kernel, by decide +kernel⟩, by decide +kernel⟩, (zwc5 180 rfl rfl), (zwc5 181 rfl rfl)⟩
theorem yc9_sees : zYC y9_sees 9 := ⟨by decide, T9, 27, rfl⟩
abbrev b9_sheet : ByteArray := prog_11_method_89_code
def y9_sheet : MethodName := ⟨R9, "sheet", "(III)I"⟩
theorem yy9_sheet : zYV y9_sheet b9_sheet 5 (some .int) 3 := ⟨⟨zwc6 49 rfl rfl, (zwc1 11 rfl rfl), ⟨by decide +kernel, by decide +kernel⟩, by decide +kernel⟩, (zwc6 47 rfl rfl), (zwc6 48 rfl rfl)⟩
theorem yc9_sheet : zYC y9_sheet 9 := ⟨by decide, T9, 27, rfl⟩
abbrev b9_spin : ByteArray := prog_11_method_30_code
def y9_spin : MethodName := ⟨R9, "spin", "(II)I"⟩
theorem yy9_spin : zYV y9_spin b9_spin 3 (some .int) 2 := ⟨⟨zwc5 13 rfl rfl, (zwc1 11 rfl rfl), ⟨by decide +kernel, by decide +kernel⟩, by decide +kernel⟩, (zwc5 11 rfl rfl), (zwc5 12 rfl rfl)⟩
theorem yc9_spin : zYC y9_spin 9 := ⟨by decide, T9, 27, rfl⟩
abbrev b9_spins : ByteArray := prog_11_method_71_code
def y9_spins : MethodName := ⟨R9, "spins", "(III)I"⟩
theorem yy9_spins : zYV y9_spins b9_spins 6 (some .int) 3 := ⟨⟨zwc5 209 rfl rfl, (zwc1 11 rfl rfl), ⟨by decide +kernel, by decide +kernel⟩, by decide +kernel⟩, (zwc5 207 rfl rfl), (zwc5 208 rfl rfl)⟩
theorem yc9_spins : zYC y9_spins 9 := ⟨by decide, T9, 27, rfl⟩
abbrev b9_stands : ByteArray := prog_11_method_34_code
def y9_stands : MethodName := ⟨R9, "stands", "(III)I"⟩
theorem yy9_stands : zYV y9_stands b9_stands 5 (some .int) 3 := ⟨⟨zwc5 74 rfl rfl, (zwc1 11 rfl rfl), ⟨by decide +kernel, by decide +kernel⟩, by decide +kernel⟩, (zwc5 73 rfl rfl), (zws 40 rfl rfl)⟩
theorem yc9_stands : zYC y9_stands 9 := ⟨by decide, T9, 27, rfl⟩
abbrev b9_stand : ByteArray := prog_11_method_35_code
def y9_stand : MethodName := ⟨R9, "stand", "(III)I"⟩
theorem yy9_stand : zYV y9_stand b9_stand 4 (some .int) 3 := ⟨⟨zwc5 70 rfl rfl, (zwc1 11 rfl rfl), ⟨by decide +kernel, by decide +kernel⟩, by decide +kernel⟩, (zwc5 68 rfl rfl), (zwc5 69 rfl rfl)⟩
theorem yc9_stand : zYC y9_stand 9 := ⟨by decide, T9, 27, rfl⟩
abbrev b9_starts : ByteArray := prog_11_method_68_code
def y9_starts : MethodName := ⟨R9, "starts", "(II)I"⟩
theorem yy9_starts : zYV y9_starts b9_starts 7 (some .int) 2 := ⟨⟨zwc5 205 rfl rfl, (zwc1 11 rfl rfl), ⟨by decide +kernel, by decide +kernel⟩, by decide +kernel⟩, (zwc5 203 rfl rfl), (zwc5 204 rfl rfl)⟩
theorem yc9_starts : zYC y9_starts 9 := ⟨by decide, T9, 27, rfl⟩
abbrev b9_tell : ByteArray := prog_11_method_98_code
def y9_tell : MethodName := ⟨R9, "tell", "(I)I"⟩
theorem yy9_tell : zYV y9_tell b9_tell 2 (some .int) 1 := ⟨⟨zwc6 85 rfl rfl, (zwc1 11 rfl rfl), ⟨by decide +kernel, by decide +kernel⟩, by decide +kernel⟩, (zwc6 83 rfl rfl), (zwc6 84 rfl rfl)⟩
theorem yc9_tell : zYC y9_tell 9 := ⟨by decide, T9, 27, rfl⟩
abbrev b9_text : ByteArray := prog_11_method_50_code
def y9_text : MethodName := ⟨R9, "text", "(I)I"⟩
theorem yy9_text : zYV y9_text b9_text 4 (some .int) 1 := ⟨⟨zwc5 92 rfl rfl, (zwc1 11 rfl rfl), ⟨by decide +kernel, by decide +kernel⟩, by decide +kernel⟩, (zwc5 90 rfl rfl), (zwc5 91 rfl rfl)⟩
theorem yc9_text : zYC y9_text 9 := ⟨by decide, T9, 27, rfl⟩
abbrev b9_thinks : ByteArray := prog_11_method_65_code
def y9_thinks : MethodName := ⟨R9, "thinks", "()V"⟩
theorem yy9_thinks : zYV y9_thinks b9_thinks 1 none 0 := ⟨⟨zwc5 194 rfl rfl, (zwc1 11 rfl rfl), ⟨by decide +kernel, by decide +kernel⟩, by decide +kernel⟩, (zwc5 193 rfl rfl), (zws 56 rfl rfl)⟩
theorem yc9_thinks : zYC y9_thinks 9 := ⟨by decide, T9, 27, rfl⟩
abbrev b9_then : ByteArray := prog_11_method_67_code
def y9_then : MethodName := ⟨R9, "then", "(II)I"⟩
theorem yy9_then : zYV y9_then b9_then 4 (some .int) 2 := ⟨⟨zwc5 190 rfl rfl, (zwc1 11 rfl rfl), ⟨by decide +kernel, by decide +kernel⟩, by decide +kernel⟩, (zwc5 188 rfl rfl), (zwc5 189 rfl rfl)⟩
theorem yc9_then : zYC y9_then 9 := ⟨by decide, T9, 27, rfl⟩
abbrev b9_throwsOn : ByteArray := prog_11_method_27_code
def y9_throwsOn : MethodName := ⟨R9, "throwsOn", "(II)I"⟩
theorem yy9_throwsOn : zYV y9_throwsOn b9_throwsOn 3 (some .int) 2 := ⟨⟨zwc4 222 rfl rfl, (zwc1 11 rfl rfl), ⟨by decide +kernel, by decide +kernel⟩, by decide +kernel⟩, (zwc4 220 rfl rfl), (zwc4 221 rfl rfl)⟩
theorem yc9_throwsOn : zYC y9_throwsOn 9 := ⟨by decide, T9, 27, rfl⟩
abbrev b9_told : ByteArray := prog_11_method_101_code
def y9_told : MethodName := ⟨R9, "told", "(I)I"⟩
theorem yy9_told : zYV y9_told b9_told 2 (some .int) 1 := ⟨⟨zwc6 97 rfl rfl, (zwc1 11 rfl rfl), ⟨by decide +kernel, by decide +kernel⟩, by decide +kernel⟩, (zwc6 95 rfl rfl), (zwc6 96 rfl rfl)⟩
theorem yc9_told : zYC y9_told 9 := ⟨by decide, T9, 27, rfl⟩
abbrev b9_turnsOf : ByteArray := prog_11_method_94_code
def y9_turnsOf : MethodName := ⟨R9, "turnsOf", "(I)I"⟩
theorem yy9_turnsOf : zYV y9_turnsOf b9_turnsOf 4 (some .int) 1 := ⟨⟨zwc6 69 rfl rfl, (zwc1 11 rfl rfl), ⟨by decide +kernel, by decide +kernel⟩, by decide +kernel⟩, (zwc6 67 rfl rfl), (zwc6 68 rfl rfl)⟩
theorem yc9_turnsOf : zYC y9_turnsOf 9 := ⟨by decide, T9, 27, rfl⟩
abbrev b9_untell : ByteArray := prog_11_method_51_code
def y9_untell : MethodName := ⟨R9, "untell", "(I)I"⟩
theorem yy9_untell : zYV y9_untell b9_untell 2 (some .int) 1 := ⟨⟨zwc5 140 rfl rfl, (zwc1 11 rfl rfl), ⟨by decide +kernel, by decide +kernel⟩, by decide +kernel⟩, (zwc5 138 rfl rfl), (zwc5 139 rfl rfl)⟩
theorem yc9_untell : zYC y9_untell 9 := ⟨by decide, T9, 27, rfl⟩
abbrev b9_voice : ByteArray := prog_11_method_86_code
def y9_voice : MethodName := ⟨R9, "voice", "(III)I"⟩
theorem yy9_voice : zYV y9_voice b9_voice 5 (some .int) 3 := ⟨⟨zwc5 236 rfl rfl, (zwc1 11 rfl rfl), ⟨by decide +kernel, by decide +kernel⟩, by decide +kernel⟩, (zwc5 234 rfl rfl), (zwc5 235 rfl rfl)⟩
theorem yc9_voice : zYC y9_voice 9 := ⟨by decide, T9, 27, rfl⟩
-- words
theorem fl_46 : zFI R0 9 0 0 := ⟨R0, T0, 5, rfl, by decide, by decide, rfl, zwc1 46 rfl rfl, rfl⟩
theorem fl_47 : zFI R7 15 0 0 := ⟨R0, T0, 5, rfl, by decide, by decide, rfl, zwc1 47 rfl rfl, rfl⟩
theorem fl_48 : zFI R8 86 0 0 := ⟨R0, T0, 5, rfl, by decide, by decide, rfl, zwc1 48 rfl rfl, rfl⟩
theorem fl_49 : zFI R5 87 0 0 := ⟨R0, T0, 5, rfl, by decide, by decide, rfl, zwc1 49 rfl rfl, rfl⟩
theorem fl_50 : zFI R0 15 0 1 := ⟨R0, T0, 5, rfl, by decide, by decide, rfl, zwc1 50 rfl rfl, rfl⟩
theorem fl_51 : zFI R7 25 0 1 := ⟨R0, T0, 5, rfl, by decide, by decide, rfl, zwc1 51 rfl rfl, rfl⟩
theorem fl_52 : zFI R8 91 0 1 := ⟨R0, T0, 5, rfl, by decide, by decide, rfl, zwc1 52 rfl rfl, rfl⟩
theorem fl_53 : zFI R5 90 0 1 := ⟨R0, T0, 5, rfl, by decide, by decide, rfl, zwc1 53 rfl rfl, rfl⟩
theorem fl_54 : zFI R0 18 0 2 := ⟨R0, T0, 5, rfl, by decide, by decide, rfl, zwc1 54 rfl rfl, rfl⟩
theorem fl_55 : zFI R8 94 0 2 := ⟨R0, T0, 5, rfl, by decide, by decide, rfl, zwc1 55 rfl rfl, rfl⟩
theorem fl_56 : zFI R5 99 0 2 := ⟨R0, T0, 5, rfl, by decide, by decide, rfl, zwc1 56 rfl rfl, rfl⟩
theorem fl_57 : zFI R0 21 0 3 := ⟨R0, T0, 5, rfl, by decide, by decide, rfl, zwc1 57 rfl rfl, rfl⟩
theorem fl_58 : zFI R8 97 0 3 := ⟨R0, T0, 5, rfl, by decide, by decide, rfl, zwc1 58 rfl rfl, rfl⟩
theorem fl_59 : zFI R5 93 0 3 := ⟨R0, T0, 5, rfl, by decide, by decide, rfl, zwc1 59 rfl rfl, rfl⟩
theorem fl_60 : zFI R0 24 0 4 := ⟨R0, T0, 5, rfl, by decide, by decide, rfl, zwc1 60 rfl rfl, rfl⟩
theorem fl_61 : zFI R8 100 0 4 := ⟨R0, T0, 5, rfl, by decide, by decide, rfl, zwc1 61 rfl rfl, rfl⟩
theorem fl_62 : zFI R5 96 0 4 := ⟨R0, T0, 5, rfl, by decide, by decide, rfl, zwc1 62 rfl rfl, rfl⟩
theorem fl_80 : zFI R2 7 2 0 := ⟨R2, T2, 3, rfl, by decide, by decide, rfl, zwc1 80 rfl rfl, rfl⟩
theorem fl_81 : zFI R5 114 2 0 := ⟨R2, T2, 3, rfl, by decide, by decide, rfl, zwc1 81 rfl rfl, rfl⟩
theorem fl_82 : zFI R8 132 2 0 := ⟨R2, T2, 3, rfl, by decide, by decide, rfl, zwc1 82 rfl rfl, rfl⟩
theorem fl_83 : zFI R2 13 2 1 := ⟨R2, T2, 3, rfl, by decide, by decide, rfl, zwc1 83 rfl rfl, rfl⟩
theorem fl_84 : zFI R5 115 2 1 := ⟨R2, T2, 3, rfl, by decide, by decide, rfl, zwc1 84 rfl rfl, rfl⟩
theorem fl_85 : zFI R8 135 2 1 := ⟨R2, T2, 3, rfl, by decide, by decide, rfl, zwc1 85 rfl rfl, rfl⟩
theorem fl_86 : zFI R2 16 2 2 := ⟨R2, T2, 3, rfl, by decide, by decide, rfl, zwc1 86 rfl rfl, rfl⟩
theorem fl_87 : zFI R5 118 2 2 := ⟨R2, T2, 3, rfl, by decide, by decide, rfl, zwc1 87 rfl rfl, rfl⟩
theorem fl_88 : zFI R8 138 2 2 := ⟨R2, T2, 3, rfl, by decide, by decide, rfl, zwc1 88 rfl rfl, rfl⟩
theorem fl_101 : zFR R6 9 6 0 0 := ⟨R6, T6, 4, rfl, by decide, by decide, rfl, zwc1 101 rfl rfl, rfl⟩
theorem fl_102 : zFR R6 15 6 1 1 := ⟨R6, T6, 4, rfl, by decide, by decide, rfl, zwc1 102 rfl rfl, rfl⟩
theorem fl_103 : zFI R6 24 6 2 := ⟨R6, T6, 4, rfl, by decide, by decide, rfl, zwc1 103 rfl rfl, rfl⟩
theorem fl_104 : zFI R3 32 6 2 := ⟨R6, T6, 4, rfl, by decide, by decide, rfl, zwc1 104 rfl rfl, rfl⟩
theorem fl_105 : zFI R6 28 6 3 := ⟨R6, T6, 4, rfl, by decide, by decide, rfl, zwc1 105 rfl rfl, rfl⟩
theorem fl_106 : zFI R3 33 6 3 := ⟨R6, T6, 4, rfl, by decide, by decide, rfl, zwc1 106 rfl rfl, rfl⟩
theorem fl_107 : zFI R5 125 6 3 := ⟨R6, T6, 4, rfl, by decide, by decide, rfl, zwc1 107 rfl rfl, rfl⟩
theorem fl_108 : zFI R8 182 6 3 := ⟨R6, T6, 4, rfl, by decide, by decide, rfl, zwc1 108 rfl rfl, rfl⟩
theorem fl_118 : zFR R5 11 5 0 0 := ⟨R5, T5, 12, rfl, by decide, by decide, rfl, zwc1 118 rfl rfl, rfl⟩
theorem fl_119 : zFR R5 19 5 1 1 := ⟨R5, T5, 12, rfl, by decide, by decide, rfl, zwc1 119 rfl rfl, rfl⟩
theorem fl_120 : zFR R5 25 5 2 2 := ⟨R5, T5, 12, rfl, by decide, by decide, rfl, zwc1 120 rfl rfl, rfl⟩
theorem fl_121 : zFR R5 29 5 3 3 := ⟨R5, T5, 12, rfl, by decide, by decide, rfl, zwc1 121 rfl rfl, rfl⟩
theorem fl_122 : zFR R5 33 5 4 4 := ⟨R5, T5, 12, rfl, by decide, by decide, rfl, zwc1 122 rfl rfl, rfl⟩
theorem fl_123 : zFR R8 165 5 4 4 := ⟨R5, T5, 12, rfl, by decide, by decide, rfl, zwc1 123 rfl rfl, rfl⟩
theorem fl_124 : zFR R5 36 5 5 5 := ⟨R5, T5, 12, rfl, by decide, by decide, rfl, zwc1 124 rfl rfl, rfl⟩
theorem fl_125 : zFI R8 71 5 6 := ⟨R5, T5, 12, rfl, by decide, by decide, rfl, zwc1 125 rfl rfl, rfl⟩
theorem fl_126 : zFI R5 68 5 6 := ⟨R5, T5, 12, rfl, by decide, by decide, rfl, zwc1 126 rfl rfl, rfl⟩
theorem fl_127 : zFI R5 71 5 7 := ⟨R5, T5, 12, rfl, by decide, by decide, rfl, zwc1 127 rfl rfl, rfl⟩
theorem fl_128 : zFI R8 121 5 7 := ⟨R5, T5, 12, rfl, by decide, by decide, rfl, zwc1 128 rfl rfl, rfl⟩
theorem fl_129 : zFI R5 74 5 8 := ⟨R5, T5, 12, rfl, by decide, by decide, rfl, zwc1 129 rfl rfl, rfl⟩
theorem fl_130 : zFI R8 154 5 8 := ⟨R5, T5, 12, rfl, by decide, by decide, rfl, zwc1 130 rfl rfl, rfl⟩
theorem fl_131 : zFI R5 77 5 9 := ⟨R5, T5, 12, rfl, by decide, by decide, rfl, zwc1 131 rfl rfl, rfl⟩
theorem fl_132 : zFI R8 286 5 9 := ⟨R5, T5, 12, rfl, by decide, by decide, rfl, zwc1 132 rfl rfl, rfl⟩
theorem fl_133 : zFI R5 80 5 10 := ⟨R5, T5, 12, rfl, by decide, by decide, rfl, zwc1 133 rfl rfl, rfl⟩
theorem fl_134 : zFI R8 151 5 10 := ⟨R5, T5, 12, rfl, by decide, by decide, rfl, zwc1 134 rfl rfl, rfl⟩
theorem fl_135 : zFI R5 39 5 11 := ⟨R5, T5, 12, rfl, by decide, by decide, rfl, zwc1 135 rfl rfl, rfl⟩
theorem fl_136 : zFI R8 197 5 11 := ⟨R5, T5, 12, rfl, by decide, by decide, rfl, zwc1 136 rfl rfl, rfl⟩
theorem fl_168 : zFR R1 11 1 0 0 := ⟨R1, T1, 5, rfl, by decide, by decide, rfl, zwc1 168 rfl rfl, rfl⟩
theorem fl_169 : zFR R1 15 1 1 1 := ⟨R1, T1, 5, rfl, by decide, by decide, rfl, zwc1 169 rfl rfl, rfl⟩
theorem fl_170 : zFI R1 24 1 2 := ⟨R1, T1, 5, rfl, by decide, by decide, rfl, zwc1 170 rfl rfl, rfl⟩
theorem fl_171 : zFI R8 211 1 2 := ⟨R1, T1, 5, rfl, by decide, by decide, rfl, zwc1 171 rfl rfl, rfl⟩
theorem fl_172 : zFI R1 28 1 3 := ⟨R1, T1, 5, rfl, by decide, by decide, rfl, zwc1 172 rfl rfl, rfl⟩
theorem fl_173 : zFI R5 147 1 3 := ⟨R1, T1, 5, rfl, by decide, by decide, rfl, zwc1 173 rfl rfl, rfl⟩
theorem fl_174 : zFI R8 217 1 3 := ⟨R1, T1, 5, rfl, by decide, by decide, rfl, zwc1 174 rfl rfl, rfl⟩
theorem fl_175 : zFI R1 31 1 4 := ⟨R1, T1, 5, rfl, by decide, by decide, rfl, zwc1 175 rfl rfl, rfl⟩
theorem fl_176 : zFI R5 142 1 4 := ⟨R1, T1, 5, rfl, by decide, by decide, rfl, zwc1 176 rfl rfl, rfl⟩
theorem fl_177 : zFI R8 208 1 4 := ⟨R1, T1, 5, rfl, by decide, by decide, rfl, zwc1 177 rfl rfl, rfl⟩
theorem fl_197 : zFR R3 12 3 0 0 := ⟨R3, T3, 5, rfl, by decide, by decide, rfl, zwc1 197 rfl rfl, rfl⟩
theorem fl_198 : zFR R8 172 3 0 0 := ⟨R3, T3, 5, rfl, by decide, by decide, rfl, zwc1 198 rfl rfl, rfl⟩
theorem fl_199 : zFD R3 18 3 1 := ⟨R3, T3, 5, rfl, by decide, by decide, rfl, zwc1 199 rfl rfl, rfl⟩
theorem fl_200 : zFI R3 22 3 2 := ⟨R3, T3, 5, rfl, by decide, by decide, rfl, zwc1 200 rfl rfl, rfl⟩
theorem fl_201 : zFI R3 26 3 3 := ⟨R3, T3, 5, rfl, by decide, by decide, rfl, zwc1 201 rfl rfl, rfl⟩
theorem fl_202 : zFI R3 29 3 4 := ⟨R3, T3, 5, rfl, by decide, by decide, rfl, zwc1 202 rfl rfl, rfl⟩
theorem fl_220 : zFR R7 11 7 0 0 := ⟨R7, T7, 6, rfl, by decide, by decide, rfl, zwc1 220 rfl rfl, rfl⟩
theorem fl_221 : zFI R7 29 7 1 := ⟨R7, T7, 6, rfl, by decide, by decide, rfl, zwc1 221 rfl rfl, rfl⟩
theorem fl_222 : zFI R8 251 7 1 := ⟨R7, T7, 6, rfl, by decide, by decide, rfl, zwc1 222 rfl rfl, rfl⟩
theorem fl_223 : zFI R7 32 7 2 := ⟨R7, T7, 6, rfl, by decide, by decide, rfl, zwc1 223 rfl rfl, rfl⟩
theorem fl_224 : zFI R8 248 7 2 := ⟨R7, T7, 6, rfl, by decide, by decide, rfl, zwc1 224 rfl rfl, rfl⟩
theorem fl_225 : zFI R7 21 7 3 := ⟨R7, T7, 6, rfl, by decide, by decide, rfl, zwc1 225 rfl rfl, rfl⟩
theorem fl_226 : zFI R7 22 7 4 := ⟨R7, T7, 6, rfl, by decide, by decide, rfl, zwc1 226 rfl rfl, rfl⟩
theorem fl_227 : zFI R7 28 7 5 := ⟨R7, T7, 6, rfl, by decide, by decide, rfl, zwc1 227 rfl rfl, rfl⟩
theorem fl_248 : zFR R4 9 4 0 0 := ⟨R4, T4, 3, rfl, by decide, by decide, rfl, zwc2 8 rfl rfl, rfl⟩
theorem fl_249 : zFR R8 268 4 0 0 := ⟨R4, T4, 3, rfl, by decide, by decide, rfl, zwc2 9 rfl rfl, rfl⟩
theorem fl_250 : zFI R4 21 4 1 := ⟨R4, T4, 3, rfl, by decide, by decide, rfl, zwc2 10 rfl rfl, rfl⟩
theorem fl_251 : zFI R8 237 4 1 := ⟨R4, T4, 3, rfl, by decide, by decide, rfl, zwc2 11 rfl rfl, rfl⟩
theorem fl_252 : zFI R4 25 4 2 := ⟨R4, T4, 3, rfl, by decide, by decide, rfl, zwc2 12 rfl rfl, rfl⟩
theorem fl_253 : zFI R8 260 4 2 := ⟨R4, T4, 3, rfl, by decide, by decide, rfl, zwc2 13 rfl rfl, rfl⟩
theorem fl_261 : zFR R8 10 8 0 0 := ⟨R8, T8, 11, rfl, by decide, by decide, rfl, zwc2 21 rfl rfl, rfl⟩
theorem fl_262 : zFR R8 16 8 1 27 := ⟨R8, T8, 11, rfl, by decide, by decide, rfl, zwc2 22 rfl rfl, rfl⟩
theorem fl_263 : zFR R8 19 8 2 54 := ⟨R8, T8, 11, rfl, by decide, by decide, rfl, zwc2 23 rfl rfl, rfl⟩
theorem fl_264 : zFR R8 25 8 3 81 := ⟨R8, T8, 11, rfl, by decide, by decide, rfl, zwc2 24 rfl rfl, rfl⟩
theorem fl_265 : zFR R8 32 8 4 84 := ⟨R8, T8, 11, rfl, by decide, by decide, rfl, zwc2 25 rfl rfl, rfl⟩
theorem fl_266 : zFR R8 39 8 5 88 := ⟨R8, T8, 11, rfl, by decide, by decide, rfl, zwc2 26 rfl rfl, rfl⟩
theorem fl_267 : zFR R8 45 8 6 90 := ⟨R8, T8, 11, rfl, by decide, by decide, rfl, zwc2 27 rfl rfl, rfl⟩
theorem fl_268 : zFR R8 49 8 7 91 := ⟨R8, T8, 11, rfl, by decide, by decide, rfl, zwc2 28 rfl rfl, rfl⟩
theorem fl_269 : zFR R8 53 8 8 92 := ⟨R8, T8, 11, rfl, by decide, by decide, rfl, zwc2 29 rfl rfl, rfl⟩
theorem fl_270 : zFI R8 280 8 9 := ⟨R8, T8, 11, rfl, by decide, by decide, rfl, zwc2 30 rfl rfl, rfl⟩
theorem fl_271 : zFI R8 283 8 10 := ⟨R8, T8, 11, rfl, by decide, by decide, rfl, zwc2 31 rfl rfl, rfl⟩
theorem fl_817 : zFR R9 9 9 0 0 := ⟨R9, T9, 27, rfl, by decide, by decide, rfl, zwc4 97 rfl rfl, rfl⟩
theorem fl_818 : zFR R9 13 9 1 1 := ⟨R9, T9, 27, rfl, by decide, by decide, rfl, zwc4 98 rfl rfl, rfl⟩
theorem fl_819 : zFR R9 16 9 2 2 := ⟨R9, T9, 27, rfl, by decide, by decide, rfl, zwc4 99 rfl rfl, rfl⟩
theorem fl_820 : zFI R9 295 9 3 := ⟨R9, T9, 27, rfl, by decide, by decide, rfl, zwc4 100 rfl rfl, rfl⟩
theorem fl_821 : zFR R9 19 9 4 3 := ⟨R9, T9, 27, rfl, by decide, by decide, rfl, zwc4 101 rfl rfl, rfl⟩
theorem fl_822 : zFR R9 22 9 5 4 := ⟨R9, T9, 27, rfl, by decide, by decide, rfl, zwc4 102 rfl rfl, rfl⟩
theorem fl_823 : zFR R9 25 9 6 5 := ⟨R9, T9, 27, rfl, by decide, by decide, rfl, zwc4 103 rfl rfl, rfl⟩
theorem fl_824 : zFR R9 28 9 7 6 := ⟨R9, T9, 27, rfl, by decide, by decide, rfl, zwc4 104 rfl rfl, rfl⟩
theorem fl_825 : zFR R9 31 9 8 7 := ⟨R9, T9, 27, rfl, by decide, by decide, rfl, zwc4 105 rfl rfl, rfl⟩
theorem fl_826 : zFI R9 93 9 9 := ⟨R9, T9, 27, rfl, by decide, by decide, rfl, zwc4 106 rfl rfl, rfl⟩
theorem fl_827 : zFI R9 78 9 10 := ⟨R9, T9, 27, rfl, by decide, by decide, rfl, zwc4 107 rfl rfl, rfl⟩
theorem fl_828 : zFR R9 34 9 11 8 := ⟨R9, T9, 27, rfl, by decide, by decide, rfl, zwc4 108 rfl rfl, rfl⟩
theorem fl_829 : zFI R9 82 9 12 := ⟨R9, T9, 27, rfl, by decide, by decide, rfl, zwc4 109 rfl rfl, rfl⟩
theorem fl_830 : zFI R9 105 9 13 := ⟨R9, T9, 27, rfl, by decide, by decide, rfl, zwc4 110 rfl rfl, rfl⟩
theorem fl_831 : zFR R9 37 9 14 9 := ⟨R9, T9, 27, rfl, by decide, by decide, rfl, zwc4 111 rfl rfl, rfl⟩
theorem fl_832 : zFR R9 40 9 15 10 := ⟨R9, T9, 27, rfl, by decide, by decide, rfl, zwc4 112 rfl rfl, rfl⟩
theorem fl_833 : zFR R9 43 9 16 11 := ⟨R9, T9, 27, rfl, by decide, by decide, rfl, zwc4 113 rfl rfl, rfl⟩
theorem fl_834 : zFR R9 46 9 17 12 := ⟨R9, T9, 27, rfl, by decide, by decide, rfl, zwc4 114 rfl rfl, rfl⟩
theorem fl_835 : zFI R9 158 9 18 := ⟨R9, T9, 27, rfl, by decide, by decide, rfl, zwc4 115 rfl rfl, rfl⟩
theorem fl_836 : zFI R9 155 9 19 := ⟨R9, T9, 27, rfl, by decide, by decide, rfl, zwc4 116 rfl rfl, rfl⟩
theorem fl_837 : zFI R9 174 9 20 := ⟨R9, T9, 27, rfl, by decide, by decide, rfl, zwc4 117 rfl rfl, rfl⟩
theorem fl_838 : zFI R9 168 9 21 := ⟨R9, T9, 27, rfl, by decide, by decide, rfl, zwc4 118 rfl rfl, rfl⟩
theorem fl_839 : zFI R9 161 9 22 := ⟨R9, T9, 27, rfl, by decide, by decide, rfl, zwc4 119 rfl rfl, rfl⟩
theorem fl_840 : zFR R9 49 9 23 13 := ⟨R9, T9, 27, rfl, by decide, by decide, rfl, zwc4 120 rfl rfl, rfl⟩
theorem fl_841 : zFR R9 52 9 24 14 := ⟨R9, T9, 27, rfl, by decide, by decide, rfl, zwc4 121 rfl rfl, rfl⟩
theorem fl_842 : zFI R9 248 9 25 := ⟨R9, T9, 27, rfl, by decide, by decide, rfl, zwc4 122 rfl rfl, rfl⟩
theorem fl_843 : zFI R9 275 9 26 := ⟨R9, T9, 27, rfl, by decide, by decide, rfl, zwc4 123 rfl rfl, rfl⟩
theorem ft_0_0 : zFty 0 0 .int := fun q hq => by cases hq; exact ⟨rfl, by decide +kernel⟩
theorem ft_0_1 : zFty 0 1 .int := fun q hq => by cases hq; exact ⟨rfl, by decide +kernel⟩
theorem ft_0_2 : zFty 0 2 .int := fun q hq => by cases hq; exact ⟨rfl, by decide +kernel⟩
theorem ft_0_3 : zFty 0 3 .int := fun q hq => by cases hq; exact ⟨rfl, by decide +kernel⟩
theorem ft_0_4 : zFty 0 4 .int := fun q hq => by cases hq; exact ⟨rfl, by decide +kernel⟩
theorem ft_1_2 : zFty 1 2 .int := fun q hq => by cases hq; exact ⟨rfl, by decide +kernel⟩
theorem ft_1_3 : zFty 1 3 .int := fun q hq => by cases hq; exact ⟨rfl, by decide +kernel⟩
theorem ft_1_4 : zFty 1 4 .boolean := fun q hq => by cases hq; exact ⟨rfl, by decide +kernel⟩
theorem ft_2_0 : zFty 2 0 .int := fun q hq => by cases hq; exact ⟨rfl, by decide +kernel⟩
theorem ft_2_1 : zFty 2 1 .int := fun q hq => by cases hq; exact ⟨rfl, by decide +kernel⟩
theorem ft_2_2 : zFty 2 2 .int := fun q hq => by cases hq; exact ⟨rfl, by decide +kernel⟩
theorem ft_3_1 : zFty 3 1 (.array .int) := fun q hq => by cases hq; exact ⟨rfl, by decide +kernel⟩
theorem ft_3_2 : zFty 3 2 .int := fun q hq => by cases hq; exact ⟨rfl, by decide +kernel⟩
theorem ft_3_3 : zFty 3 3 .int := fun q hq => by cases hq; exact ⟨rfl, by decide +kernel⟩
theorem ft_3_4 : zFty 3 4 .int := fun q hq => by cases hq; exact ⟨rfl, by decide +kernel⟩
theorem ft_4_1 : zFty 4 1 .int := fun q hq => by cases hq; exact ⟨rfl, by decide +kernel⟩
theorem ft_4_2 : zFty 4 2 .int := fun q hq => by cases hq; exact ⟨rfl, by decide +kernel⟩
theorem ft_5_6 : zFty 5 6 .int := fun q hq => by cases hq; exact ⟨rfl, by decide +kernel⟩
theorem ft_5_7 : zFty 5 7 .int := fun q hq => by cases hq; exact ⟨rfl, by decide +kernel⟩
theorem ft_5_8 : zFty 5 8 .int := fun q hq => by cases hq; exact ⟨rfl, by decide +kernel⟩
theorem ft_5_9 : zFty 5 9 .int := fun q hq => by cases hq; exact ⟨rfl, by decide +kernel⟩
theorem ft_5_10 : zFty 5 10 .int := fun q hq => by cases hq; exact ⟨rfl, by decide +kernel⟩
theorem ft_5_11 : zFty 5 11 .int := fun q hq => by cases hq; exact ⟨rfl, by decide +kernel⟩
theorem ft_6_2 : zFty 6 2 .int := fun q hq => by cases hq; exact ⟨rfl, by decide +kernel⟩
theorem ft_6_3 : zFty 6 3 .boolean := fun q hq => by cases hq; exact ⟨rfl, by decide +kernel⟩
theorem ft_7_1 : zFty 7 1 .int := fun q hq => by cases hq; exact ⟨rfl, by decide +kernel⟩
theorem ft_7_2 : zFty 7 2 .boolean := fun q hq => by cases hq; exact ⟨rfl, by decide +kernel⟩
theorem ft_7_3 : zFty 7 3 .int := fun q hq => by cases hq; exact ⟨rfl, by decide +kernel⟩
theorem ft_7_4 : zFty 7 4 .int := fun q hq => by cases hq; exact ⟨rfl, by decide +kernel⟩
theorem ft_7_5 : zFty 7 5 .int := fun q hq => by cases hq; exact ⟨rfl, by decide +kernel⟩
theorem ft_8_9 : zFty 8 9 .boolean := fun q hq => by cases hq; exact ⟨rfl, by decide +kernel⟩
theorem ft_8_10 : zFty 8 10 .int := fun q hq => by cases hq; exact ⟨rfl, by decide +kernel⟩
theorem ft_9_3 : zFty 9 3 .int := fun q hq => by cases hq; exact ⟨rfl, by decide +kernel⟩
theorem ft_9_9 : zFty 9 9 .int := fun q hq => by cases hq; exact ⟨rfl, by decide +kernel⟩
theorem ft_9_10 : zFty 9 10 .int := fun q hq => by cases hq; exact ⟨rfl, by decide +kernel⟩
theorem ft_9_12 : zFty 9 12 .int := fun q hq => by cases hq; exact ⟨rfl, by decide +kernel⟩
theorem ft_9_13 : zFty 9 13 .boolean := fun q hq => by cases hq; exact ⟨rfl, by decide +kernel⟩
theorem ft_9_18 : zFty 9 18 .int := fun q hq => by cases hq; exact ⟨rfl, by decide +kernel⟩
theorem ft_9_19 : zFty 9 19 .int := fun q hq => by cases hq; exact ⟨rfl, by decide +kernel⟩
theorem ft_9_20 : zFty 9 20 .int := fun q hq => by cases hq; exact ⟨rfl, by decide +kernel⟩
theorem ft_9_21 : zFty 9 21 .boolean := fun q hq => by cases hq; exact ⟨rfl, by decide +kernel⟩
theorem ft_9_22 : zFty 9 22 .int := fun q hq => by cases hq; exact ⟨rfl, by decide +kernel⟩
theorem ft_9_25 : zFty 9 25 .int := fun q hq => by cases hq; exact ⟨rfl, by decide +kernel⟩
theorem ft_9_26 : zFty 9 26 .boolean := fun q hq => by cases hq; exact ⟨rfl, by decide +kernel⟩
theorem w_299 : Cond.methodLink R8 57 y8_isNoKm ∈ lw_gd := zwc2 59 rfl rfl
theorem w_302 : Cond.methodLink R8 61 y8_isNoCell ∈ lw_gd := zwc2 62 rfl rfl
theorem w_305 : Cond.methodLink R8 64 y8_isNoTurn ∈ lw_gd := zwc2 65 rfl rfl
theorem w_308 : Cond.methodLink R8 67 y8_error ∈ lw_gd := zwc2 68 rfl rfl
theorem w_312 : Cond.constant R8 295 (-1000000000 : Int32) ∈ lw_gd := zwc2 72 rfl rfl
theorem w_313 : Cond.methodLink R8 75 y5_glassAt ∈ lw_gd := zwc2 73 rfl rfl
theorem w_317 : Cond.methodLink R8 78 y5_addGlass ∈ lw_gd := zwc2 77 rfl rfl
theorem w_321 : Cond.methodLink R5 83 y5_glassOf ∈ lw_gd := zwc2 81 rfl rfl
theorem w_325 : Cond.methodLink R5 102 y5_hangGlass ∈ lw_gd := zwc2 85 rfl rfl
theorem w_329 : Cond.methodLinkNest R5 106 y8_isNoCell "GlassTax" ∈ lw_tbl := List.mem_append_right _ (List.mem_of_getElem? (i := 329) (by decide +kernel))
theorem w_334 : Cond.methodLink R8 82 y5_glassOf ∈ lw_gd := zwc2 94 rfl rfl
theorem w_339 : Cond.methodLink R8 103 y8_isNoWay ∈ lw_gd := zwc2 99 rfl rfl
theorem w_342 : Cond.methodLink R8 106 y5_isNight ∈ lw_gd := zwc2 102 rfl rfl
theorem w_346 : Cond.methodLink R8 110 y0_onward ∈ lw_gd := zwc2 106 rfl rfl
theorem w_350 : Cond.methodLink R0 31 y0_byTurn ∈ lw_gd := zwc2 110 rfl rfl
theorem w_354 : Cond.methodLink R0 35 y0_roundFrom ∈ lw_gd := zwc2 114 rfl rfl
theorem w_365 : Cond.methodLink R8 114 y0_isOne ∈ lw_gd := zwc2 125 rfl rfl
theorem w_369 : Cond.fieldLinkNest R0 27 "GlassTax" "KIND_ABOVE" "[I" "GlassTax" ∈ lw_tbl := List.mem_append_right _ (List.mem_of_getElem? (i := 369) (by decide +kernel))
theorem w_379 : Cond.methodLink R8 117 y5_hangGlass ∈ lw_gd := zwc2 139 rfl rfl
theorem w_384 : Cond.methodLink R8 124 y5_addPerson ∈ lw_gd := zwc2 144 rfl rfl
theorem w_388 : Cond.methodLink R5 110 y5_personOf ∈ lw_gd := zwc2 148 rfl rfl
theorem w_396 : Cond.methodLink R8 128 y5_personOf ∈ lw_gd := zwc2 156 rfl rfl
theorem w_397 : Cond.methodLink R8 141 y5_dueOf ∈ lw_gd := zwc2 157 rfl rfl
theorem w_401 : Cond.methodLink R5 158 y1_follow ∈ lw_gd := zwc2 161 rfl rfl
theorem w_405 : Cond.methodLink R1 18 y5_isNight ∈ lw_gd := zwc2 165 rfl rfl
theorem w_406 : Cond.methodLink R1 35 y1_enter ∈ lw_gd := zwc2 166 rfl rfl
theorem w_410 : Cond.methodLink R1 39 y1_nextCell ∈ lw_gd := zwc2 170 rfl rfl
theorem w_413 : Cond.methodLink R1 43 y5_glassAt ∈ lw_gd := zwc2 173 rfl rfl
theorem w_414 : Cond.methodLink R1 47 y5_glassOf ∈ lw_gd := zwc2 174 rfl rfl
theorem w_415 : Cond.methodLink R1 51 y0_onward ∈ lw_gd := zwc2 175 rfl rfl
theorem w_416 : Cond.methodLink R1 57 y1_meet ∈ lw_gd := zwc2 176 rfl rfl
theorem w_420 : Cond.methodLink R5 162 y5_taxOf ∈ lw_gd := zwc2 180 rfl rfl
theorem w_424 : Cond.methodLink R5 150 y1_metAt ∈ lw_gd := zwc2 184 rfl rfl
theorem w_428 : Cond.methodLink R5 154 y5_given ∈ lw_gd := zwc2 188 rfl rfl
theorem w_432 : Cond.methodLink R5 121 y5_textOf ∈ lw_gd := zwc2 192 rfl rfl
theorem w_436 : Cond.methodLink R5 129 y6_worth ∈ lw_gd := zwc2 196 rfl rfl
theorem w_440 : Cond.methodLink R6 32 y6_joined ∈ lw_gd := zwc2 200 rfl rfl
theorem w_443 : Cond.methodLink R5 133 Lib.Math.min.name ∈ lw_gd := zwc2 203 rfl rfl
theorem w_446 : Cond.methodLink R5 139 Lib.Math.max.name ∈ lw_gd := zwc2 206 rfl rfl
theorem w_457 : Cond.constant R8 145 (99999 : Int32) ∈ lw_gd := zwc2 217 rfl rfl
theorem w_458 : Cond.methodLink R8 146 Lib.Math.min.name ∈ lw_gd := zwc2 218 rfl rfl
theorem w_467 : Cond.methodLink R8 157 y5_addByte ∈ lw_gd := zwc2 227 rfl rfl
theorem w_475 : Cond.methodLink R8 161 y5_textOf ∈ lw_gd := zwc2 235 rfl rfl
theorem w_476 : Cond.methodLink R8 168 y3_fault ∈ lw_gd := zwc2 236 rfl rfl
theorem w_480 : Cond.methodLink R3 37 y3_readPart ∈ lw_gd := zwc3 0 rfl rfl
theorem w_484 : Cond.methodLink R3 41 y3_readUnit ∈ lw_gd := zwc3 4 rfl rfl
theorem w_488 : Cond.methodLink R3 48 y3_signHere ∈ lw_gd := zwc3 8 rfl rfl
theorem w_492 : Cond.methodLink R3 60 y3_isDigit ∈ lw_gd := zwc3 12 rfl rfl
theorem w_495 : Cond.methodLink R3 63 y3_readNumber ∈ lw_gd := zwc3 15 rfl rfl
theorem w_499 : Cond.methodLink R3 56 y6_add ∈ lw_gd := zwc3 19 rfl rfl
theorem w_503 : Cond.methodLink R3 66 y3_readOpen ∈ lw_gd := zwc3 23 rfl rfl
theorem w_508 : Cond.methodLink R3 71 yS_length ∈ lw_gd := zwc3 28 rfl rfl
theorem w_512 : Cond.methodLink RJS 335 yS_coder ∈ lw_gd := zwc3 32 rfl rfl
theorem w_516 : Cond.fieldLink RJS 38 "java/lang/String" "COMPACT_STRINGS" "Z" ∈ lw_gd := zwc3 36 rfl rfl
theorem w_518 : Cond.methodLink R3 75 yS_charAt ∈ lw_gd := zwc3 38 rfl rfl
theorem w_522 : Cond.methodLink RJS 492 yS_isLatin1 ∈ lw_gd := zwc3 42 rfl rfl
theorem w_526 : Cond.methodLink RJS 495 yL_charAt ∈ lw_gd := zwc3 46 rfl rfl
theorem w_529 : Cond.methodLink RJL 9 yS_checkIndex ∈ lw_gd := zwc3 49 rfl rfl
theorem w_532 : Cond.fieldLink RJS 1053 "jdk/internal/util/Preconditions" "SIOOBE_FORMATTER" "Ljava/util/function/BiFunction;" ∈ lw_gd := zwc3 52 rfl rfl
theorem w_534 : Cond.methodLink RJS 1059 yP_checkIndex ∈ lw_gd := zwc3 54 rfl rfl
theorem w_556 : Cond.methodLink R3 45 y3_readLevel ∈ lw_gd := zwc3 76 rfl rfl
theorem w_560 : Cond.methodLink R3 52 y3_levelOf ∈ lw_gd := zwc3 80 rfl rfl
theorem w_563 : Cond.methodLink R8 176 y6_copyFrom ∈ lw_gd := zwc3 83 rfl rfl
theorem w_567 : Cond.methodLink R6 18 arraycopyName ∈ lw_gd := zwc3 87 rfl rfl
theorem w_579 : Cond.methodLink R8 186 y5_given ∈ lw_gd := zwc3 99 rfl rfl
theorem w_584 : Cond.methodLink R8 190 y5_passHour ∈ lw_gd := zwc3 104 rfl rfl
theorem w_588 : Cond.constant R5 166 (99999 : Int32) ∈ lw_gd := zwc3 108 rfl rfl
theorem w_589 : Cond.methodLink R5 167 y5_dueOf ∈ lw_gd := zwc3 109 rfl rfl
theorem w_590 : Cond.methodLink R5 171 y5_countMeetings ∈ lw_gd := zwc3 110 rfl rfl
theorem w_598 : Cond.methodLink R8 194 y5_standByDraws ∈ lw_gd := zwc3 118 rfl rfl
theorem w_602 : Cond.methodLink R5 175 y5_draw ∈ lw_gd := zwc3 122 rfl rfl
theorem w_606 : Cond.constant R5 179 (1103515245 : Int32) ∈ lw_gd := zwc3 126 rfl rfl
theorem w_615 : Cond.methodLink R8 200 y1_follow ∈ lw_gd := zwc3 135 rfl rfl
theorem w_616 : Cond.methodLink R8 204 y5_taxOf ∈ lw_gd := zwc3 136 rfl rfl
theorem w_617 : Cond.methodLink R8 214 y1_cellAt ∈ lw_gd := zwc3 137 rfl rfl
theorem w_629 : Cond.methodLink R8 220 y1_seesCell ∈ lw_gd := zwc3 149 rfl rfl
theorem w_637 : Cond.methodLink R8 223 y5_copyFrom ∈ lw_gd := zwc3 157 rfl rfl
theorem w_641 : Cond.methodLink R5 52 y0_copyFrom ∈ lw_gd := zwc3 161 rfl rfl
theorem w_645 : Cond.methodLink R5 56 y2_copyFrom ∈ lw_gd := zwc3 165 rfl rfl
theorem w_649 : Cond.methodLink R5 59 y6_copyFrom ∈ lw_gd := zwc3 169 rfl rfl
theorem w_650 : Cond.methodLink R5 62 arraycopyName ∈ lw_gd := zwc3 170 rfl rfl
theorem w_655 : Cond.methodLink R8 226 y8_manyOrLeast ∈ lw_gd := zwc3 175 rfl rfl
theorem w_663 : Cond.methodLink R8 229 y8_fewestSpins ∈ lw_gd := zwc3 183 rfl rfl
theorem w_667 : Cond.methodLink R8 296 y8_isSeenByOneSpin ∈ lw_gd := zwc3 187 rfl rfl
theorem w_671 : Cond.methodLink R8 304 y8_writeSpin ∈ lw_gd := zwc3 191 rfl rfl
theorem w_675 : Cond.methodLink R8 300 y8_isSeenByTwoSpins ∈ lw_gd := zwc3 195 rfl rfl
theorem w_687 : Cond.methodLink R8 233 y8_sheetOf ∈ lw_gd := zwc3 207 rfl rfl
theorem w_691 : Cond.methodLink R8 240 y8_isLook ∈ lw_gd := zwc3 211 rfl rfl
theorem w_695 : Cond.methodLink R8 277 y4_numberAt ∈ lw_gd := zwc3 215 rfl rfl
theorem w_703 : Cond.methodLink R8 244 y7_answer ∈ lw_gd := zwc3 223 rfl rfl
theorem w_707 : Cond.methodLink R7 36 y7_say ∈ lw_gd := zwc3 227 rfl rfl
theorem w_711 : Cond.methodLink R7 40 y7_bodyFrom ∈ lw_gd := zwc3 231 rfl rfl
theorem w_714 : Cond.fieldLinkNest R7 60 "GlassTax" "KIND_ABOVE" "[I" "GlassTax" ∈ lw_tbl := List.mem_append_right _ (List.mem_of_getElem? (i := 714) (by decide +kernel))
theorem w_715 : Cond.fieldLink R7 63 "GlassTax$Voices" "BODIES" "[I" ∈ lw_gd := zwc3 235 rfl rfl
theorem w_717 : Cond.methodLink R7 44 y7_sayGlass ∈ lw_gd := zwc3 237 rfl rfl
theorem w_721 : Cond.methodLink R7 48 y7_saySpoon ∈ lw_gd := zwc4 1 rfl rfl
theorem w_725 : Cond.methodLink R7 51 y7_sayBowl ∈ lw_gd := zwc4 5 rfl rfl
theorem w_729 : Cond.methodLink R7 54 y7_saySilvered ∈ lw_gd := zwc4 9 rfl rfl
theorem w_733 : Cond.methodLink R7 57 y7_sayOnly ∈ lw_gd := zwc4 13 rfl rfl
theorem w_741 : Cond.methodLink R8 254 y7_tracedAt ∈ lw_gd := zwc4 21 rfl rfl
theorem w_749 : Cond.methodLink R8 257 y4_begin ∈ lw_gd := zwc4 29 rfl rfl
theorem w_753 : Cond.methodLink R4 15 yA_fill ∈ lw_gd := zwc4 33 rfl rfl
theorem w_758 : Cond.methodLink R8 261 y4_write ∈ lw_gd := zwc4 38 rfl rfl
theorem w_766 : Cond.methodLink R8 264 y4_holds ∈ lw_gd := zwc4 46 rfl rfl
theorem w_770 : Cond.methodLink R8 271 arraycopyName ∈ lw_gd := zwc4 50 rfl rfl
theorem w_791 : Cond.methodLink R8 289 y5_addWaiting ∈ lw_gd := zwc4 71 rfl rfl
theorem w_799 : Cond.methodLink R8 292 y5_waitingAt ∈ lw_gd := zwc4 79 rfl rfl
theorem w_903 : Cond.methodLink R9 120 y9_isKm ∈ lw_gd := zwc4 183 rfl rfl
theorem w_906 : Cond.methodLink R9 56 y9_in ∈ lw_gd := zwc4 186 rfl rfl
theorem w_909 : Cond.methodLink R9 124 y9_isCell ∈ lw_gd := zwc4 189 rfl rfl
theorem w_912 : Cond.methodLink R9 127 y9_isFour ∈ lw_gd := zwc4 192 rfl rfl
theorem w_915 : Cond.constant R9 130 (-1000000001 : Int32) ∈ lw_gd := zwc4 195 rfl rfl
theorem w_916 : Cond.methodLink R9 131 y9_error ∈ lw_gd := zwc4 196 rfl rfl
theorem w_920 : Cond.constant R9 55 (-1000000000 : Int32) ∈ lw_gd := zwc4 200 rfl rfl
theorem w_921 : Cond.constant R9 134 (-1000000004 : Int32) ∈ lw_gd := zwc4 201 rfl rfl
theorem w_922 : Cond.methodLink R9 99 y9_glassAt ∈ lw_gd := zwc4 202 rfl rfl
theorem w_926 : Cond.methodLink R9 60 y9_of ∈ lw_gd := zwc4 206 rfl rfl
theorem w_930 : Cond.constant R9 135 (-1000000003 : Int32) ∈ lw_gd := zwc4 210 rfl rfl
theorem w_935 : Cond.methodLink R9 136 y9_isGlass ∈ lw_gd := zwc4 215 rfl rfl
theorem w_943 : Cond.methodLink R9 75 y9_onward ∈ lw_gd := zwc4 223 rfl rfl
theorem w_947 : Cond.methodLink R9 68 y9_plainOnward ∈ lw_gd := zwc4 227 rfl rfl
theorem w_950 : Cond.methodLink R9 64 y9_around ∈ lw_gd := zwc4 230 rfl rfl
theorem w_953 : Cond.methodLink R9 71 y9_isNight ∈ lw_gd := zwc4 233 rfl rfl
theorem w_961 : Cond.methodLink R9 139 y9_becomes ∈ lw_gd := zwc5 1 rfl rfl
theorem w_969 : Cond.constant R9 142 (-1000000005 : Int32) ∈ lw_gd := zwc5 9 rfl rfl
theorem w_986 : Cond.methodLink R9 143 y9_isPerson ∈ lw_gd := zwc5 26 rfl rfl
theorem w_990 : Cond.methodLink R9 109 y9_about ∈ lw_gd := zwc5 30 rfl rfl
theorem w_994 : Cond.methodLink R9 146 y9_dueOf ∈ lw_gd := zwc5 34 rfl rfl
theorem w_998 : Cond.methodLink R9 116 y9_looksOf ∈ lw_gd := zwc5 38 rfl rfl
theorem w_1002 : Cond.methodLink R9 112 y9_looks ∈ lw_gd := zwc5 42 rfl rfl
theorem w_1006 : Cond.methodLink R9 96 y9_next ∈ lw_gd := zwc5 46 rfl rfl
theorem w_1009 : Cond.methodLink R9 102 y9_meet ∈ lw_gd := zwc5 49 rfl rfl
theorem w_1013 : Cond.methodLink R9 85 y9_gives ∈ lw_gd := zwc5 53 rfl rfl
theorem w_1017 : Cond.methodLink R9 207 y9_works ∈ lw_gd := zwc5 57 rfl rfl
theorem w_1021 : Cond.methodLink R9 204 y9_twoOf ∈ lw_gd := zwc5 61 rfl rfl
theorem w_1024 : Cond.methodLink R9 89 y9_held ∈ lw_gd := zwc5 64 rfl rfl
theorem w_1031 : Cond.methodLink R9 149 y9_stands ∈ lw_gd := zwc5 71 rfl rfl
theorem w_1039 : Cond.constant R9 152 (99999 : Int32) ∈ lw_gd := zwc5 79 rfl rfl
theorem w_1048 : Cond.constantLong R9 153 (255 : Int64) ∈ lw_gd := zwc5 88 rfl rfl
theorem w_1053 : Cond.methodLink R9 180 y9_any ∈ lw_gd := zwc5 93 rfl rfl
theorem w_1057 : Cond.methodLink R9 201 y9_all ∈ lw_gd := zwc5 97 rfl rfl
theorem w_1061 : Cond.methodLink R9 198 y9_compares ∈ lw_gd := zwc5 101 rfl rfl
theorem w_1065 : Cond.methodLink R9 195 y9_sum ∈ lw_gd := zwc5 105 rfl rfl
theorem w_1069 : Cond.methodLink R9 192 y9_times ∈ lw_gd := zwc5 109 rfl rfl
theorem w_1073 : Cond.methodLink R9 177 y9_one ∈ lw_gd := zwc5 113 rfl rfl
theorem w_1077 : Cond.methodLink R9 164 y9_byteHere ∈ lw_gd := zwc5 117 rfl rfl
theorem w_1081 : Cond.methodLink R9 183 y9_nameOf ∈ lw_gd := zwc5 121 rfl rfl
theorem w_1085 : Cond.methodLink R9 171 y9_step ∈ lw_gd := zwc5 125 rfl rfl
theorem w_1089 : Cond.methodLink R9 186 y9_opens ∈ lw_gd := zwc5 129 rfl rfl
theorem w_1093 : Cond.methodLink R9 189 y9_number ∈ lw_gd := zwc5 133 rfl rfl
theorem w_1109 : Cond.methodLink R9 210 y9_goes ∈ lw_gd := zwc5 149 rfl rfl
theorem w_1117 : Cond.methodLink R9 217 y9_drawn ∈ lw_gd := zwc5 157 rfl rfl
theorem w_1121 : Cond.methodLink R9 214 y9_draw ∈ lw_gd := zwc5 161 rfl rfl
theorem w_1125 : Cond.constant R9 213 (1103515245 : Int32) ∈ lw_gd := zwc5 165 rfl rfl
theorem w_1134 : Cond.constant R9 220 (-1000000002 : Int32) ∈ lw_gd := zwc5 174 rfl rfl
theorem w_1143 : Cond.methodLink R9 221 y9_isSeen ∈ lw_gd := zwc5 183 rfl rfl
theorem w_1151 : Cond.methodLink R9 228 y9_thinks ∈ lw_gd := zwc5 191 rfl rfl
theorem w_1155 : Cond.methodLink R9 224 y9_copyAll ∈ lw_gd := zwc5 195 rfl rfl
theorem w_1158 : Cond.methodLink R9 231 y9_putsBack ∈ lw_gd := zwc5 198 rfl rfl
theorem w_1170 : Cond.methodLink R9 238 y9_canSee ∈ lw_gd := zwc5 210 rfl rfl
theorem w_1174 : Cond.methodLink R9 234 y9_doesSee ∈ lw_gd := zwc5 214 rfl rfl
theorem w_1186 : Cond.methodLink R9 242 y9_isSheet ∈ lw_gd := zwc5 226 rfl rfl
theorem w_1189 : Cond.methodLink R9 245 y9_isSo ∈ lw_gd := zwc5 229 rfl rfl
theorem w_1197 : Cond.methodLink R9 260 y9_gleams ∈ lw_gd := zwc5 237 rfl rfl
theorem w_1201 : Cond.methodLink R9 257 y9_spoonGleams ∈ lw_gd := zwc6 1 rfl rfl
theorem w_1205 : Cond.methodLink R9 251 y9_begins ∈ lw_gd := zwc6 5 rfl rfl
theorem w_1209 : Cond.methodLink R9 254 y9_plainGleams ∈ lw_gd := zwc6 9 rfl rfl
theorem w_1213 : Cond.methodLink R9 269 y9_glints ∈ lw_gd := zwc6 13 rfl rfl
theorem w_1217 : Cond.methodLink R9 266 y9_paneGlints ∈ lw_gd := zwc6 17 rfl rfl
theorem w_1221 : Cond.methodLink R9 263 y9_plainGlints ∈ lw_gd := zwc6 21 rfl rfl
theorem w_1225 : Cond.methodLink R9 281 y9_fades ∈ lw_gd := zwc6 25 rfl rfl
theorem w_1229 : Cond.methodLink R9 272 y9_plainFades ∈ lw_gd := zwc6 29 rfl rfl
theorem w_1233 : Cond.methodLink R9 284 y9_parts ∈ lw_gd := zwc6 33 rfl rfl
theorem w_1237 : Cond.methodLink R9 278 y9_plainParts ∈ lw_gd := zwc6 37 rfl rfl
theorem w_1241 : Cond.constant R9 287 (-1000000006 : Int32) ∈ lw_gd := zwc6 41 rfl rfl
theorem w_1254 : Cond.methodLink R9 288 y9_notThere ∈ lw_gd := zwc6 54 rfl rfl
theorem w_1262 : Cond.methodLink R9 291 y9_notMoved ∈ lw_gd := zwc6 62 rfl rfl
theorem w_1299 : Cond.fieldLink RJS 9 "java/lang/String" "value" "[B" ∈ lw_gd := zwc6 99 rfl rfl
theorem w_1300 : Cond.fieldLink RJS 15 "java/lang/String" "coder" "B" ∈ lw_gd := zwc6 100 rfl rfl
-- constants
theorem kB_m33 : (Int8.ofInt (-33)).toInt32 = (-33 : Int32) := by decide +kernel
theorem kB_m10 : (Int8.ofInt (-10)).toInt32 = (-10 : Int32) := by decide +kernel
theorem kB_m3 : (Int8.ofInt (-3)).toInt32 = (-3 : Int32) := by decide +kernel
theorem kB_m2 : (Int8.ofInt (-2)).toInt32 = (-2 : Int32) := by decide +kernel
theorem kB_6 : (Int8.ofInt 6).toInt32 = (6 : Int32) := by decide +kernel
theorem kB_7 : (Int8.ofInt 7).toInt32 = (7 : Int32) := by decide +kernel
theorem kB_8 : (Int8.ofInt 8).toInt32 = (8 : Int32) := by decide +kernel
theorem kB_9 : (Int8.ofInt 9).toInt32 = (9 : Int32) := by decide +kernel
theorem kB_10 : (Int8.ofInt 10).toInt32 = (10 : Int32) := by decide +kernel
theorem kB_11 : (Int8.ofInt 11).toInt32 = (11 : Int32) := by decide +kernel
theorem kB_12 : (Int8.ofInt 12).toInt32 = (12 : Int32) := by decide +kernel
theorem kB_13 : (Int8.ofInt 13).toInt32 = (13 : Int32) := by decide +kernel
theorem kB_16 : (Int8.ofInt 16).toInt32 = (16 : Int32) := by decide +kernel
theorem kB_18 : (Int8.ofInt 18).toInt32 = (18 : Int32) := by decide +kernel
theorem kB_20 : (Int8.ofInt 20).toInt32 = (20 : Int32) := by decide +kernel
theorem kB_21 : (Int8.ofInt 21).toInt32 = (21 : Int32) := by decide +kernel
theorem kB_24 : (Int8.ofInt 24).toInt32 = (24 : Int32) := by decide +kernel
theorem kB_30 : (Int8.ofInt 30).toInt32 = (30 : Int32) := by decide +kernel
theorem kB_32 : (Int8.ofInt 32).toInt32 = (32 : Int32) := by decide +kernel
theorem kB_33 : (Int8.ofInt 33).toInt32 = (33 : Int32) := by decide +kernel
theorem kB_37 : (Int8.ofInt 37).toInt32 = (37 : Int32) := by decide +kernel
theorem kB_38 : (Int8.ofInt 38).toInt32 = (38 : Int32) := by decide +kernel
theorem kB_40 : (Int8.ofInt 40).toInt32 = (40 : Int32) := by decide +kernel
theorem kB_41 : (Int8.ofInt 41).toInt32 = (41 : Int32) := by decide +kernel
theorem kB_42 : (Int8.ofInt 42).toInt32 = (42 : Int32) := by decide +kernel
theorem kB_43 : (Int8.ofInt 43).toInt32 = (43 : Int32) := by decide +kernel
theorem kB_45 : (Int8.ofInt 45).toInt32 = (45 : Int32) := by decide +kernel
theorem kB_46 : (Int8.ofInt 46).toInt32 = (46 : Int32) := by decide +kernel
theorem kB_47 : (Int8.ofInt 47).toInt32 = (47 : Int32) := by decide +kernel
theorem kB_48 : (Int8.ofInt 48).toInt32 = (48 : Int32) := by decide +kernel
theorem kB_50 : (Int8.ofInt 50).toInt32 = (50 : Int32) := by decide +kernel
theorem kB_51 : (Int8.ofInt 51).toInt32 = (51 : Int32) := by decide +kernel
theorem kB_55 : (Int8.ofInt 55).toInt32 = (55 : Int32) := by decide +kernel
theorem kB_56 : (Int8.ofInt 56).toInt32 = (56 : Int32) := by decide +kernel
theorem kB_57 : (Int8.ofInt 57).toInt32 = (57 : Int32) := by decide +kernel
theorem kB_60 : (Int8.ofInt 60).toInt32 = (60 : Int32) := by decide +kernel
theorem kB_61 : (Int8.ofInt 61).toInt32 = (61 : Int32) := by decide +kernel
theorem kB_62 : (Int8.ofInt 62).toInt32 = (62 : Int32) := by decide +kernel
theorem kB_63 : (Int8.ofInt 63).toInt32 = (63 : Int32) := by decide +kernel
theorem kB_64 : (Int8.ofInt 64).toInt32 = (64 : Int32) := by decide +kernel
theorem kB_69 : (Int8.ofInt 69).toInt32 = (69 : Int32) := by decide +kernel
theorem kB_70 : (Int8.ofInt 70).toInt32 = (70 : Int32) := by decide +kernel
theorem kB_71 : (Int8.ofInt 71).toInt32 = (71 : Int32) := by decide +kernel
theorem kB_99 : (Int8.ofInt 99).toInt32 = (99 : Int32) := by decide +kernel
theorem kB_104 : (Int8.ofInt 104).toInt32 = (104 : Int32) := by decide +kernel
theorem kB_107 : (Int8.ofInt 107).toInt32 = (107 : Int32) := by decide +kernel
theorem kB_110 : (Int8.ofInt 110).toInt32 = (110 : Int32) := by decide +kernel
theorem kB_116 : (Int8.ofInt 116).toInt32 = (116 : Int32) := by decide +kernel
theorem kB_121 : (Int8.ofInt 121).toInt32 = (121 : Int32) := by decide +kernel
theorem kB_124 : (Int8.ofInt 124).toInt32 = (124 : Int32) := by decide +kernel
theorem kI_m1 : Int32.ofInt (-1) = (-1 : Int32) := by decide +kernel
theorem kI_0 : Int32.ofInt 0 = (0 : Int32) := by decide +kernel
theorem kI_1 : Int32.ofInt 1 = (1 : Int32) := by decide +kernel
theorem kI_2 : Int32.ofInt 2 = (2 : Int32) := by decide +kernel
theorem kI_3 : Int32.ofInt 3 = (3 : Int32) := by decide +kernel
theorem kI_4 : Int32.ofInt 4 = (4 : Int32) := by decide +kernel
theorem kI_5 : Int32.ofInt 5 = (5 : Int32) := by decide +kernel
theorem kL_84 : zln 84 = 257 := by decide +kernel
theorem kL_85 : zln 85 = 257 := by decide +kernel
theorem kL_91 : zln 91 = 30 := by decide +kernel
theorem kL_93 : zln 93 = 4 := by decide +kernel
theorem kL_94 : zln 94 = 7 := by decide +kernel
theorem kL_104 : zln 104 = 390 := by decide +kernel
theorem kL_107 : zln 107 = 7 := by decide +kernel
theorem kL_108 : zln 108 = 4 := by decide +kernel
theorem kL_109 : zln 109 = 4 := by decide +kernel
theorem kL_110 : zln 110 = 96 := by decide +kernel
theorem kL_111 : zln 111 = 257 := by decide +kernel
theorem kL_112 : zln 112 = 8 := by decide +kernel
theorem kL_113 : zln 113 = 60 := by decide +kernel
theorem kL_114 : zln 114 = 60 := by decide +kernel
theorem kL_115 : zln 115 = 3 := by decide +kernel
theorem kL_116 : zln 116 = 60 := by decide +kernel
theorem kL_117 : zln 117 = 4 := by decide +kernel
theorem kL_118 : zln 118 = 30 := by decide +kernel
theorem kN_0 : (0 : Int32).toNatClampNeg = 0 := by decide +kernel
theorem kN_1 : (1 : Int32).toNatClampNeg = 1 := by decide +kernel
theorem kN_2 : (2 : Int32).toNatClampNeg = 2 := by decide +kernel
theorem kN_3 : (3 : Int32).toNatClampNeg = 3 := by decide +kernel
theorem kN_4 : (4 : Int32).toNatClampNeg = 4 := by decide +kernel
theorem kN_5 : (5 : Int32).toNatClampNeg = 5 := by decide +kernel
theorem kO_2 : Int32.ofNat 2 = (2 : Int32) := by decide +kernel
theorem kO_4 : Int32.ofNat 4 = (4 : Int32) := by decide +kernel
theorem kO_6 : Int32.ofNat 6 = (6 : Int32) := by decide +kernel
theorem kO_7 : Int32.ofNat 7 = (7 : Int32) := by decide +kernel
theorem kO_8 : Int32.ofNat 8 = (8 : Int32) := by decide +kernel
theorem kO_24 : Int32.ofNat 24 = (24 : Int32) := by decide +kernel
theorem kO_30 : Int32.ofNat 30 = (30 : Int32) := by decide +kernel
theorem kO_60 : Int32.ofNat 60 = (60 : Int32) := by decide +kernel
theorem kO_64 : Int32.ofNat 64 = (64 : Int32) := by decide +kernel
theorem kO_257 : Int32.ofNat 257 = (257 : Int32) := by decide +kernel
theorem kS_148 : (Int16.ofInt 148).toInt32 = (148 : Int32) := by decide +kernel
theorem kS_255 : (Int16.ofInt 255).toInt32 = (255 : Int32) := by decide +kernel
theorem kS_256 : (Int16.ofInt 256).toInt32 = (256 : Int32) := by decide +kernel
theorem kS_257 : (Int16.ofInt 257).toInt32 = (257 : Int32) := by decide +kernel
theorem kS_390 : (Int16.ofInt 390).toInt32 = (390 : Int32) := by decide +kernel
theorem kS_999 : (Int16.ofInt 999).toInt32 = (999 : Int32) := by decide +kernel
theorem kS_9999 : (Int16.ofInt 9999).toInt32 = (9999 : Int32) := by decide +kernel
theorem kS_12345 : (Int16.ofInt 12345).toInt32 = (12345 : Int32) := by decide +kernel
theorem kZ_1 : zsh 1 = 9 := by decide +kernel
theorem kZ_2 : zsh 2 = 6 := by decide +kernel
theorem kZ_7 : zsh 7 = 15 := by decide +kernel
theorem kZ_29 : zsh 29 = 6 := by decide +kernel
theorem kZ_56 : zsh 56 = 6 := by decide +kernel
theorem kZ_83 : zsh 83 = 2 := by decide +kernel
theorem kZ_84 : zsh 84 = 15 := by decide +kernel
theorem kZ_85 : zsh 85 = 15 := by decide +kernel
theorem kZ_86 : zsh 86 = 4 := by decide +kernel
theorem kZ_87 : zsh 87 = 7 := by decide +kernel
theorem kZ_90 : zsh 90 = 8 := by decide +kernel
theorem kZ_91 : zsh 91 = 15 := by decide +kernel
theorem kZ_92 : zsh 92 = 14 := by decide +kernel
theorem kZ_93 : zsh 93 = 15 := by decide +kernel
theorem kZ_94 : zsh 94 = 15 := by decide +kernel
theorem kZ_103 : zsh 103 = 10 := by decide +kernel
theorem kZ_104 : zsh 104 = 15 := by decide +kernel
theorem kZ_105 : zsh 105 = 15 := by decide +kernel
theorem kZ_106 : zsh 106 = 15 := by decide +kernel
theorem kZ_107 : zsh 107 = 15 := by decide +kernel
theorem kZ_108 : zsh 108 = 15 := by decide +kernel
theorem kZ_109 : zsh 109 = 15 := by decide +kernel
theorem kZ_110 : zsh 110 = 15 := by decide +kernel
theorem kZ_111 : zsh 111 = 15 := by decide +kernel
theorem kZ_112 : zsh 112 = 15 := by decide +kernel
theorem kZ_113 : zsh 113 = 15 := by decide +kernel
theorem kZ_114 : zsh 114 = 15 := by decide +kernel
theorem kZ_115 : zsh 115 = 15 := by decide +kernel
theorem kZ_116 : zsh 116 = 15 := by decide +kernel
theorem kZ_117 : zsh 117 = 15 := by decide +kernel
theorem kZ_118 : zsh 118 = 15 := by decide +kernel
-- shapes
theorem zD5_1 {t : Nat} (h : zsh t = 5) : zsh (t + 1) = 15 := zshape (κ := 5) (p := fun t => zsh (t + 1) = 15) (by decide +kernel) (by decide) h
theorem zD6_1 {t : Nat} (h : zsh t = 6) : zsh (t + 1) = 11 := zshape (κ := 6) (p := fun t => zsh (t + 1) = 11) (by decide +kernel) (by decide) h
theorem zD6_2 {t : Nat} (h : zsh t = 6) : zsh (t + 2) = 12 := zshape (κ := 6) (p := fun t => zsh (t + 2) = 12) (by decide +kernel) (by decide) h
theorem zD6_3 {t : Nat} (h : zsh t = 6) : zsh (t + 3) = 13 := zshape (κ := 6) (p := fun t => zsh (t + 3) = 13) (by decide +kernel) (by decide) h
theorem zD6_4 {t : Nat} (h : zsh t = 6) : zsh (t + 4) = 15 := zshape (κ := 6) (p := fun t => zsh (t + 4) = 15) (by decide +kernel) (by decide) h
theorem zD6_5 {t : Nat} (h : zsh t = 6) : zsh (t + 5) = 15 := zshape (κ := 6) (p := fun t => zsh (t + 5) = 15) (by decide +kernel) (by decide) h
theorem zD6_6 {t : Nat} (h : zsh t = 6) : zsh (t + 6) = 15 := zshape (κ := 6) (p := fun t => zsh (t + 6) = 15) (by decide +kernel) (by decide) h
theorem zD7_1 {t : Nat} (h : zsh t = 7) : zsh (t + 1) = 15 := zshape (κ := 7) (p := fun t => zsh (t + 1) = 15) (by decide +kernel) (by decide) h
theorem zD7_2 {t : Nat} (h : zsh t = 7) : zsh (t + 2) = 15 := zshape (κ := 7) (p := fun t => zsh (t + 2) = 15) (by decide +kernel) (by decide) h
theorem zE11 {t : Nat} {i : Int32} (h : zsh t = 6) (hi : zin i 8) : zsh (t + 7 + i.toNatClampNeg) = 1 := zshape (κ := 6) (p := fun t => zsh (t + 7 + i.toNatClampNeg) = 1) (zelem (n := 8) (p := fun t j => zsh (t + 7 + j) = 1) (by decide +kernel) hi) (by decide) h
theorem zE12 {t : Nat} {i : Int32} (h : zsh t = 6) (hi : zin i 6) : zsh (t + 15 + i.toNatClampNeg) = 3 := zshape (κ := 6) (p := fun t => zsh (t + 15 + i.toNatClampNeg) = 3) (zelem (n := 6) (p := fun t j => zsh (t + 15 + j) = 3) (by decide +kernel) hi) (by decide) h
theorem zE13 {t : Nat} {i : Int32} (h : zsh t = 6) (hi : zin i 2) : zsh (t + 21 + 3 * i.toNatClampNeg) = 7 := zshape (κ := 6) (p := fun t => zsh (t + 21 + 3 * i.toNatClampNeg) = 7) (zelem (n := 2) (p := fun t j => zsh (t + 21 + 3 * j) = 7) (by decide +kernel) hi) (by decide) h
theorem zE14 {i : Int32} (hi : zin i 4) : zsh (95 + 2 * i.toNatClampNeg) = 5 := zelem (n := 4) (κ := 14) (p := fun _ j => zsh (95 + 2 * j) = 5) (by decide +kernel) hi 92 (by decide) (by decide +kernel)
theorem zN5_1 {t : Nat} (h : zsh t = 5) : zln (t + 1) = 24 := zshape (κ := 5) (p := fun t => zln (t + 1) = 24) (by decide +kernel) (by decide) h
theorem zN6_4 {t : Nat} (h : zsh t = 6) : zln (t + 4) = 64 := zshape (κ := 6) (p := fun t => zln (t + 4) = 64) (by decide +kernel) (by decide) h
theorem zN6_5 {t : Nat} (h : zsh t = 6) : zln (t + 5) = 60 := zshape (κ := 6) (p := fun t => zln (t + 5) = 60) (by decide +kernel) (by decide) h
theorem zN6_6 {t : Nat} (h : zsh t = 6) : zln (t + 6) = 24 := zshape (κ := 6) (p := fun t => zln (t + 6) = 24) (by decide +kernel) (by decide) h
theorem zN7_1 {t : Nat} (h : zsh t = 7) : zln (t + 1) = 60 := zshape (κ := 7) (p := fun t => zln (t + 1) = 60) (by decide +kernel) (by decide) h
theorem zN7_2 {t : Nat} (h : zsh t = 7) : zln (t + 2) = 60 := zshape (κ := 7) (p := fun t => zln (t + 2) = 60) (by decide +kernel) (by decide) h
