/-! THE LAW: its loop as a function (fW_law_18), and the walk of it (printed by wip/whole/gen/law.py) -/
def R_law : String := "GlassTaxLaw"
def zX (g : ZG) (N : Nat) (xs : Nat → Int32) (x : ZX) : Prop := va_X (g.2.2.2 4) N xs x.2.2.2.2.1 x.2.2.2.2.1.heap ∧ g.2.2.2 4 < x.2.2.2.2.1.heap.size ∧ ¬ zA g (g.2.2.2 4) ∧ N < 2 ^ 31
section
variable {x : ZX} {g : ZG} {cc : ByteArray} {own : String} {ret : Option FieldType} {nL fr lo kc ks : Nat} {Q : State → Prop} {σ : ZS} {pc q t : Nat} {L : List (Option ZV)} {st : List ZV}
theorem z_sld (C : zC x g cc own ret nL fr lo) {N : Nat} {xs : Nat → Int32} (X : zX g N xs x) {i : Int32} (hd : zd cc pc .iaload 1 q) (hi : zin i N) (K : zw x g nL kc ks Q σ q L (zi (xs i.toNatClampNeg) :: st)) : zw x g nL kc ks Q σ pc L (zi i :: zr 1004 :: st) := by
  obtain ⟨d, rfl⟩ := hd
  exact fun H locs ls hP hS hl => va_sld C.1 C.2.1 X.1 X.2.1 X.2.2.1 hS (zin_vp hi) d (K H locs ls hP hS hl)
theorem z_slen (C : zC x g cc own ret nL fr lo) {N : Nat} {xs : Nat → Int32} (X : zX g N xs x) (hd : zd cc pc .arraylength 1 q) (K : zw x g nL kc ks Q σ q L (zi (nI N) :: st)) : zw x g nL kc ks Q σ pc L (zr 1004 :: st) := by
  obtain ⟨d, rfl⟩ := hd
  exact fun H locs ls hP hS hl => va_slen C.1 C.2.1 X.1 X.2.1 X.2.2.1 hS d (K H locs ls hP hS hl)
theorem z_lwret {v : Int32} {σr : ZS} (hR : ∀ (pc q : Nat) (σ : ZS) (L : List (Option ZV)), zd code pc .ireturn 1 q → zw x g nL kc ks Q σ pc L [zi 1]) (hd : zd code pc .ireturn 1 q) (hf : some (v, σ) = some (1, σr)) : zw x g nL kc ks Q σ pc L [zi v] := by
  cases hf
  exact hR _ _ _ _ hd
end
theorem w_1027 : Cond.methodLink R_law 54 y9_stand ∈ lw_gd := zwc5 67 rfl rfl
theorem w_1035 : Cond.methodLink R_law 58 y9_pay ∈ lw_gd := zwc5 75 rfl rfl
theorem w_1040 : Cond.methodLink R_law 63 y9_hour ∈ lw_gd := zwc5 80 rfl rfl
theorem w_1044 : Cond.methodLink R_law 70 y9_feed ∈ lw_gd := zwc5 84 rfl rfl
theorem w_1049 : Cond.methodLink R_law 74 y9_text ∈ lw_gd := zwc5 89 rfl rfl
theorem w_1097 : Cond.methodLink R_law 78 y9_untell ∈ lw_gd := zwc5 137 rfl rfl
theorem w_1101 : Cond.methodLink R_law 83 y9_law ∈ lw_gd := zwc5 141 rfl rfl
theorem w_1105 : Cond.methodLink R_law 87 y9_hours ∈ lw_gd := zwc5 145 rfl rfl
theorem w_1113 : Cond.methodLink R_law 91 y9_loose ∈ lw_gd := zwc5 153 rfl rfl
theorem w_1126 : Cond.methodLink R_law 95 y9_seed ∈ lw_gd := zwc5 166 rfl rfl
theorem w_1130 : Cond.methodLink R_law 99 y9_look ∈ lw_gd := zwc5 170 rfl rfl
theorem w_1135 : Cond.methodLink R_law 103 y9_at ∈ lw_gd := zwc5 175 rfl rfl
theorem w_1139 : Cond.methodLink R_law 107 y9_sees ∈ lw_gd := zwc5 179 rfl rfl
theorem w_1147 : Cond.methodLink R_law 111 y9_then ∈ lw_gd := zwc5 187 rfl rfl
theorem w_1162 : Cond.methodLink R_law 115 y9_starts ∈ lw_gd := zwc5 202 rfl rfl
theorem w_1166 : Cond.methodLink R_law 119 y9_spins ∈ lw_gd := zwc5 206 rfl rfl
theorem w_1178 : Cond.methodLink R_law 123 y9_odds ∈ lw_gd := zwc5 218 rfl rfl
theorem w_1182 : Cond.methodLink R_law 127 y9_fits ∈ lw_gd := zwc5 222 rfl rfl
theorem w_1193 : Cond.methodLink R_law 131 y9_voice ∈ lw_gd := zwc5 233 rfl rfl
theorem w_1242 : Cond.methodLink R_law 135 y9_body ∈ lw_gd := zwc6 42 rfl rfl
theorem w_1246 : Cond.methodLink R_law 139 y9_sheet ∈ lw_gd := zwc6 46 rfl rfl
theorem w_1250 : Cond.methodLink R_law 143 y9_put ∈ lw_gd := zwc6 50 rfl rfl
theorem w_1258 : Cond.methodLink R_law 148 y9_move ∈ lw_gd := zwc6 58 rfl rfl
theorem w_1266 : Cond.methodLink R_law 152 y9_turnsOf ∈ lw_gd := zwc6 66 rfl rfl
theorem w_1270 : Cond.methodLink R_law 156 y9_judge ∈ lw_gd := zwc6 70 rfl rfl
theorem w_1274 : Cond.methodLink R_law 161 y9_image ∈ lw_gd := zwc6 74 rfl rfl
theorem w_1278 : Cond.methodLink R_law 165 y9_restore ∈ lw_gd := zwc6 78 rfl rfl
theorem w_1282 : Cond.methodLink R_law 169 y9_tell ∈ lw_gd := zwc6 82 rfl rfl
theorem w_1286 : Cond.methodLink R_law 173 y9_check ∈ lw_gd := zwc6 86 rfl rfl
theorem w_1290 : Cond.methodLink R_law 177 y9_count ∈ lw_gd := zwc6 90 rfl rfl
theorem w_1294 : Cond.methodLink R_law 181 y9_told ∈ lw_gd := zwc6 94 rfl rfl
theorem w_1298 : Cond.constantLong R_law 64 (4294967295 : Int64) ∈ lw_gd := zwc6 98 rfl rfl
theorem w_295 : Cond.methodLink R_law 13 y8_glass ∈ lw_gd := zwc2 55 rfl rfl
theorem w_330 : Cond.methodLink R_law 18 y8_glassIs ∈ lw_gd := zwc2 90 rfl rfl
theorem w_335 : Cond.methodLink R_law 23 y8_throwsOn ∈ lw_gd := zwc2 95 rfl rfl
theorem w_357 : Cond.methodLink R_law 27 y8_become ∈ lw_gd := zwc2 117 rfl rfl
theorem w_361 : Cond.methodLink R_law 31 y8_as ∈ lw_gd := zwc2 121 rfl rfl
theorem w_371 : Cond.methodLink R_law 35 y8_spin ∈ lw_gd := zwc2 131 rfl rfl
theorem w_375 : Cond.methodLink R_law 39 y8_hang ∈ lw_gd := zwc2 135 rfl rfl
theorem w_380 : Cond.methodLink R_law 43 y8_person ∈ lw_gd := zwc2 140 rfl rfl
theorem w_392 : Cond.methodLink R_law 47 y8_personIs ∈ lw_gd := zwc2 152 rfl rfl
theorem w_449 : Cond.methodLink R_law 51 y8_stand ∈ lw_gd := zwc2 209 rfl rfl
theorem w_453 : Cond.methodLink R_law 55 y8_pay ∈ lw_gd := zwc2 213 rfl rfl
theorem w_459 : Cond.methodLink R_law 59 y8_hour ∈ lw_gd := zwc2 219 rfl rfl
theorem w_463 : Cond.methodLink R_law 66 y8_feed ∈ lw_gd := zwc2 223 rfl rfl
theorem w_471 : Cond.methodLink R_law 71 y8_text ∈ lw_gd := zwc2 231 rfl rfl
theorem w_571 : Cond.methodLink R_law 75 y8_untell ∈ lw_gd := zwc3 91 rfl rfl
theorem w_575 : Cond.methodLink R_law 79 y8_law ∈ lw_gd := zwc3 95 rfl rfl
theorem w_580 : Cond.methodLink R_law 84 y8_hours ∈ lw_gd := zwc3 100 rfl rfl
theorem w_594 : Cond.methodLink R_law 88 y8_loose ∈ lw_gd := zwc3 114 rfl rfl
theorem w_607 : Cond.methodLink R_law 92 y8_seed ∈ lw_gd := zwc3 127 rfl rfl
theorem w_611 : Cond.methodLink R_law 96 y8_look ∈ lw_gd := zwc3 131 rfl rfl
theorem w_621 : Cond.methodLink R_law 100 y8_at ∈ lw_gd := zwc3 141 rfl rfl
theorem w_625 : Cond.methodLink R_law 104 y8_sees ∈ lw_gd := zwc3 145 rfl rfl
theorem w_633 : Cond.methodLink R_law 108 y8_then ∈ lw_gd := zwc3 153 rfl rfl
theorem w_651 : Cond.methodLink R_law 112 y8_starts ∈ lw_gd := zwc3 171 rfl rfl
theorem w_659 : Cond.methodLink R_law 116 y8_spins ∈ lw_gd := zwc3 179 rfl rfl
theorem w_679 : Cond.methodLink R_law 120 y8_odds ∈ lw_gd := zwc3 199 rfl rfl
theorem w_683 : Cond.methodLink R_law 124 y8_fits ∈ lw_gd := zwc3 203 rfl rfl
theorem w_699 : Cond.methodLink R_law 128 y8_voice ∈ lw_gd := zwc3 219 rfl rfl
theorem w_737 : Cond.methodLink R_law 132 y8_body ∈ lw_gd := zwc4 17 rfl rfl
theorem w_745 : Cond.methodLink R_law 136 y8_sheet ∈ lw_gd := zwc4 25 rfl rfl
theorem w_754 : Cond.methodLink R_law 140 y8_put ∈ lw_gd := zwc4 34 rfl rfl
theorem w_762 : Cond.methodLink R_law 144 y8_move ∈ lw_gd := zwc4 42 rfl rfl
theorem w_771 : Cond.methodLink R_law 149 y8_turnsOf ∈ lw_gd := zwc4 51 rfl rfl
theorem w_775 : Cond.methodLink R_law 153 y8_judge ∈ lw_gd := zwc4 55 rfl rfl
theorem w_779 : Cond.methodLink R_law 157 y8_image ∈ lw_gd := zwc4 59 rfl rfl
theorem w_783 : Cond.methodLink R_law 162 y8_restore ∈ lw_gd := zwc4 63 rfl rfl
theorem w_787 : Cond.methodLink R_law 166 y8_tell ∈ lw_gd := zwc4 67 rfl rfl
theorem w_795 : Cond.methodLink R_law 170 y8_check ∈ lw_gd := zwc4 75 rfl rfl
theorem w_803 : Cond.methodLink R_law 174 y8_count ∈ lw_gd := zwc4 83 rfl rfl
theorem w_807 : Cond.methodLink R_law 178 y8_told ∈ lw_gd := zwc4 87 rfl rfl
theorem w_899 : Cond.methodLink R_law 17 y9_glass ∈ lw_gd := zwc4 179 rfl rfl
theorem w_931 : Cond.methodLink R_law 22 y9_glassIs ∈ lw_gd := zwc4 211 rfl rfl
theorem w_939 : Cond.methodLink R_law 26 y9_throwsOn ∈ lw_gd := zwc4 219 rfl rfl
theorem w_957 : Cond.methodLink R_law 30 y9_become ∈ lw_gd := zwc4 237 rfl rfl
theorem w_965 : Cond.methodLink R_law 34 y9_as ∈ lw_gd := zwc5 5 rfl rfl
theorem w_970 : Cond.methodLink R_law 38 y9_spin ∈ lw_gd := zwc5 10 rfl rfl
theorem w_974 : Cond.methodLink R_law 42 y9_hang ∈ lw_gd := zwc5 14 rfl rfl
theorem w_978 : Cond.methodLink R_law 46 y9_person ∈ lw_gd := zwc5 18 rfl rfl
theorem w_982 : Cond.methodLink R_law 50 y9_personIs ∈ lw_gd := zwc5 22 rfl rfl
theorem kI_6 : Int32.ofInt 6 = (6 : Int32) := by decide +kernel
theorem dW_law_18 : zd code 18 (.iload_n 3) 1 19 := ⟨by decide +kernel, rfl⟩
theorem dW_law_19 : zd code 19 (.aload_n 0) 1 20 := ⟨by decide +kernel, rfl⟩
theorem dW_law_20 : zd code 20 .arraylength 1 21 := ⟨by decide +kernel, rfl⟩
theorem dW_law_21 : zd code 21 (.bipush 6) 2 23 := ⟨by decide +kernel, rfl⟩
theorem dW_law_23 : zd code 23 .isub 1 24 := ⟨by decide +kernel, rfl⟩
theorem dW_law_24 : zdb code 24 (.if_icmp .gt 1470) 1470 27 1494 := ⟨by decide +kernel, rfl, by decide⟩
theorem dW_law_27 : zd code 27 (.aload_n 0) 1 28 := ⟨by decide +kernel, rfl⟩
theorem dW_law_28 : zd code 28 (.iload_n 3) 1 29 := ⟨by decide +kernel, rfl⟩
theorem dW_law_29 : zd code 29 .iaload 1 30 := ⟨by decide +kernel, rfl⟩
theorem dW_law_30 : zd code 30 (.bipush 63) 2 32 := ⟨by decide +kernel, rfl⟩
theorem dW_law_32 : zd code 32 .iand 1 33 := ⟨by decide +kernel, rfl⟩
theorem dW_law_33 : decode code 33 = .ok ((.tableswitch 1455 0 39 #[175, 218, 251, 284, 317, 350, 383, 416, 449, 482, 525, 558, 581, 644, 667, 690, 743, 766, 789, 812, 855, 898, 921, 954, 987, 1030, 1053, 1086, 1129, 1152, 1195, 1238, 1301, 1324, 1347, 1360, 1373, 1396, 1409, 1432]), 175) := by decide +kernel
theorem dW_law_208 : zd code 208 (.aload_n 1) 1 209 := ⟨by decide +kernel, rfl⟩
theorem dW_law_209 : zd code 209 (.aload_n 0) 1 210 := ⟨by decide +kernel, rfl⟩
theorem dW_law_210 : zd code 210 (.iload_n 3) 1 211 := ⟨by decide +kernel, rfl⟩
theorem dW_law_211 : zd code 211 (.iconst 1) 1 212 := ⟨by decide +kernel, rfl⟩
theorem dW_law_212 : zd code 212 .iadd 1 213 := ⟨by decide +kernel, rfl⟩
theorem dW_law_213 : zd code 213 .iaload 1 214 := ⟨by decide +kernel, rfl⟩
theorem dW_law_214 : zd code 214 (.aload_n 0) 1 215 := ⟨by decide +kernel, rfl⟩
theorem dW_law_215 : zd code 215 (.iload_n 3) 1 216 := ⟨by decide +kernel, rfl⟩
theorem dW_law_216 : zd code 216 (.iconst 2) 1 217 := ⟨by decide +kernel, rfl⟩
theorem dW_law_217 : zd code 217 .iadd 1 218 := ⟨by decide +kernel, rfl⟩
theorem dW_law_218 : zd code 218 .iaload 1 219 := ⟨by decide +kernel, rfl⟩
theorem dW_law_219 : zd code 219 (.aload_n 0) 1 220 := ⟨by decide +kernel, rfl⟩
theorem dW_law_220 : zd code 220 (.iload_n 3) 1 221 := ⟨by decide +kernel, rfl⟩
theorem dW_law_221 : zd code 221 (.iconst 3) 1 222 := ⟨by decide +kernel, rfl⟩
theorem dW_law_222 : zd code 222 .iadd 1 223 := ⟨by decide +kernel, rfl⟩
theorem dW_law_223 : zd code 223 .iaload 1 224 := ⟨by decide +kernel, rfl⟩
theorem dW_law_224 : zd code 224 (.invokevirtual 13) 3 227 := ⟨by decide +kernel, rfl⟩
theorem dW_law_227 : zd code 227 (.aload_n 2) 1 228 := ⟨by decide +kernel, rfl⟩
theorem dW_law_228 : zd code 228 (.aload_n 0) 1 229 := ⟨by decide +kernel, rfl⟩
theorem dW_law_229 : zd code 229 (.iload_n 3) 1 230 := ⟨by decide +kernel, rfl⟩
theorem dW_law_230 : zd code 230 (.iconst 1) 1 231 := ⟨by decide +kernel, rfl⟩
theorem dW_law_231 : zd code 231 .iadd 1 232 := ⟨by decide +kernel, rfl⟩
theorem dW_law_232 : zd code 232 .iaload 1 233 := ⟨by decide +kernel, rfl⟩
theorem dW_law_233 : zd code 233 (.aload_n 0) 1 234 := ⟨by decide +kernel, rfl⟩
theorem dW_law_234 : zd code 234 (.iload_n 3) 1 235 := ⟨by decide +kernel, rfl⟩
theorem dW_law_235 : zd code 235 (.iconst 2) 1 236 := ⟨by decide +kernel, rfl⟩
theorem dW_law_236 : zd code 236 .iadd 1 237 := ⟨by decide +kernel, rfl⟩
theorem dW_law_237 : zd code 237 .iaload 1 238 := ⟨by decide +kernel, rfl⟩
theorem dW_law_238 : zd code 238 (.aload_n 0) 1 239 := ⟨by decide +kernel, rfl⟩
theorem dW_law_239 : zd code 239 (.iload_n 3) 1 240 := ⟨by decide +kernel, rfl⟩
theorem dW_law_240 : zd code 240 (.iconst 3) 1 241 := ⟨by decide +kernel, rfl⟩
theorem dW_law_241 : zd code 241 .iadd 1 242 := ⟨by decide +kernel, rfl⟩
theorem dW_law_242 : zd code 242 .iaload 1 243 := ⟨by decide +kernel, rfl⟩
theorem dW_law_243 : zd code 243 (.invokevirtual 17) 3 246 := ⟨by decide +kernel, rfl⟩
theorem dW_law_246 : zdb code 246 (.if_icmp .eq 1242) 1242 249 1488 := ⟨by decide +kernel, rfl, by decide⟩
theorem dW_law_249 : zd code 249 (.iconst 0) 1 250 := ⟨by decide +kernel, rfl⟩
theorem dW_law_250 : zd code 250 .ireturn 1 251 := ⟨by decide +kernel, rfl⟩
theorem dW_law_251 : zd code 251 (.aload_n 1) 1 252 := ⟨by decide +kernel, rfl⟩
theorem dW_law_252 : zd code 252 (.aload_n 0) 1 253 := ⟨by decide +kernel, rfl⟩
theorem dW_law_253 : zd code 253 (.iload_n 3) 1 254 := ⟨by decide +kernel, rfl⟩
theorem dW_law_254 : zd code 254 (.iconst 1) 1 255 := ⟨by decide +kernel, rfl⟩
theorem dW_law_255 : zd code 255 .iadd 1 256 := ⟨by decide +kernel, rfl⟩
theorem dW_law_256 : zd code 256 .iaload 1 257 := ⟨by decide +kernel, rfl⟩
theorem dW_law_257 : zd code 257 (.aload_n 0) 1 258 := ⟨by decide +kernel, rfl⟩
theorem dW_law_258 : zd code 258 (.iload_n 3) 1 259 := ⟨by decide +kernel, rfl⟩
theorem dW_law_259 : zd code 259 (.iconst 2) 1 260 := ⟨by decide +kernel, rfl⟩
theorem dW_law_260 : zd code 260 .iadd 1 261 := ⟨by decide +kernel, rfl⟩
theorem dW_law_261 : zd code 261 .iaload 1 262 := ⟨by decide +kernel, rfl⟩
theorem dW_law_262 : zd code 262 (.invokevirtual 18) 3 265 := ⟨by decide +kernel, rfl⟩
theorem dW_law_265 : zd code 265 (.aload_n 2) 1 266 := ⟨by decide +kernel, rfl⟩
theorem dW_law_266 : zd code 266 (.aload_n 0) 1 267 := ⟨by decide +kernel, rfl⟩
theorem dW_law_267 : zd code 267 (.iload_n 3) 1 268 := ⟨by decide +kernel, rfl⟩
theorem dW_law_268 : zd code 268 (.iconst 1) 1 269 := ⟨by decide +kernel, rfl⟩
theorem dW_law_269 : zd code 269 .iadd 1 270 := ⟨by decide +kernel, rfl⟩
theorem dW_law_270 : zd code 270 .iaload 1 271 := ⟨by decide +kernel, rfl⟩
theorem dW_law_271 : zd code 271 (.aload_n 0) 1 272 := ⟨by decide +kernel, rfl⟩
theorem dW_law_272 : zd code 272 (.iload_n 3) 1 273 := ⟨by decide +kernel, rfl⟩
theorem dW_law_273 : zd code 273 (.iconst 2) 1 274 := ⟨by decide +kernel, rfl⟩
theorem dW_law_274 : zd code 274 .iadd 1 275 := ⟨by decide +kernel, rfl⟩
theorem dW_law_275 : zd code 275 .iaload 1 276 := ⟨by decide +kernel, rfl⟩
theorem dW_law_276 : zd code 276 (.invokevirtual 22) 3 279 := ⟨by decide +kernel, rfl⟩
theorem dW_law_279 : zdb code 279 (.if_icmp .eq 1209) 1209 282 1488 := ⟨by decide +kernel, rfl, by decide⟩
theorem dW_law_282 : zd code 282 (.iconst 0) 1 283 := ⟨by decide +kernel, rfl⟩
theorem dW_law_283 : zd code 283 .ireturn 1 284 := ⟨by decide +kernel, rfl⟩
theorem dW_law_284 : zd code 284 (.aload_n 1) 1 285 := ⟨by decide +kernel, rfl⟩
theorem dW_law_285 : zd code 285 (.aload_n 0) 1 286 := ⟨by decide +kernel, rfl⟩
theorem dW_law_286 : zd code 286 (.iload_n 3) 1 287 := ⟨by decide +kernel, rfl⟩
theorem dW_law_287 : zd code 287 (.iconst 1) 1 288 := ⟨by decide +kernel, rfl⟩
theorem dW_law_288 : zd code 288 .iadd 1 289 := ⟨by decide +kernel, rfl⟩
theorem dW_law_289 : zd code 289 .iaload 1 290 := ⟨by decide +kernel, rfl⟩
theorem dW_law_290 : zd code 290 (.aload_n 0) 1 291 := ⟨by decide +kernel, rfl⟩
theorem dW_law_291 : zd code 291 (.iload_n 3) 1 292 := ⟨by decide +kernel, rfl⟩
theorem dW_law_292 : zd code 292 (.iconst 2) 1 293 := ⟨by decide +kernel, rfl⟩
theorem dW_law_293 : zd code 293 .iadd 1 294 := ⟨by decide +kernel, rfl⟩
theorem dW_law_294 : zd code 294 .iaload 1 295 := ⟨by decide +kernel, rfl⟩
theorem dW_law_295 : zd code 295 (.invokevirtual 23) 3 298 := ⟨by decide +kernel, rfl⟩
theorem dW_law_298 : zd code 298 (.aload_n 2) 1 299 := ⟨by decide +kernel, rfl⟩
theorem dW_law_299 : zd code 299 (.aload_n 0) 1 300 := ⟨by decide +kernel, rfl⟩
theorem dW_law_300 : zd code 300 (.iload_n 3) 1 301 := ⟨by decide +kernel, rfl⟩
theorem dW_law_301 : zd code 301 (.iconst 1) 1 302 := ⟨by decide +kernel, rfl⟩
theorem dW_law_302 : zd code 302 .iadd 1 303 := ⟨by decide +kernel, rfl⟩
theorem dW_law_303 : zd code 303 .iaload 1 304 := ⟨by decide +kernel, rfl⟩
theorem dW_law_304 : zd code 304 (.aload_n 0) 1 305 := ⟨by decide +kernel, rfl⟩
theorem dW_law_305 : zd code 305 (.iload_n 3) 1 306 := ⟨by decide +kernel, rfl⟩
theorem dW_law_306 : zd code 306 (.iconst 2) 1 307 := ⟨by decide +kernel, rfl⟩
theorem dW_law_307 : zd code 307 .iadd 1 308 := ⟨by decide +kernel, rfl⟩
theorem dW_law_308 : zd code 308 .iaload 1 309 := ⟨by decide +kernel, rfl⟩
theorem dW_law_309 : zd code 309 (.invokevirtual 26) 3 312 := ⟨by decide +kernel, rfl⟩
theorem dW_law_312 : zdb code 312 (.if_icmp .eq 1176) 1176 315 1488 := ⟨by decide +kernel, rfl, by decide⟩
theorem dW_law_315 : zd code 315 (.iconst 0) 1 316 := ⟨by decide +kernel, rfl⟩
theorem dW_law_316 : zd code 316 .ireturn 1 317 := ⟨by decide +kernel, rfl⟩
theorem dW_law_317 : zd code 317 (.aload_n 1) 1 318 := ⟨by decide +kernel, rfl⟩
theorem dW_law_318 : zd code 318 (.aload_n 0) 1 319 := ⟨by decide +kernel, rfl⟩
theorem dW_law_319 : zd code 319 (.iload_n 3) 1 320 := ⟨by decide +kernel, rfl⟩
theorem dW_law_320 : zd code 320 (.iconst 1) 1 321 := ⟨by decide +kernel, rfl⟩
theorem dW_law_321 : zd code 321 .iadd 1 322 := ⟨by decide +kernel, rfl⟩
theorem dW_law_322 : zd code 322 .iaload 1 323 := ⟨by decide +kernel, rfl⟩
theorem dW_law_323 : zd code 323 (.aload_n 0) 1 324 := ⟨by decide +kernel, rfl⟩
theorem dW_law_324 : zd code 324 (.iload_n 3) 1 325 := ⟨by decide +kernel, rfl⟩
theorem dW_law_325 : zd code 325 (.iconst 2) 1 326 := ⟨by decide +kernel, rfl⟩
theorem dW_law_326 : zd code 326 .iadd 1 327 := ⟨by decide +kernel, rfl⟩
theorem dW_law_327 : zd code 327 .iaload 1 328 := ⟨by decide +kernel, rfl⟩
theorem dW_law_328 : zd code 328 (.invokevirtual 27) 3 331 := ⟨by decide +kernel, rfl⟩
theorem dW_law_331 : zd code 331 (.aload_n 2) 1 332 := ⟨by decide +kernel, rfl⟩
theorem dW_law_332 : zd code 332 (.aload_n 0) 1 333 := ⟨by decide +kernel, rfl⟩
theorem dW_law_333 : zd code 333 (.iload_n 3) 1 334 := ⟨by decide +kernel, rfl⟩
theorem dW_law_334 : zd code 334 (.iconst 1) 1 335 := ⟨by decide +kernel, rfl⟩
theorem dW_law_335 : zd code 335 .iadd 1 336 := ⟨by decide +kernel, rfl⟩
theorem dW_law_336 : zd code 336 .iaload 1 337 := ⟨by decide +kernel, rfl⟩
theorem dW_law_337 : zd code 337 (.aload_n 0) 1 338 := ⟨by decide +kernel, rfl⟩
theorem dW_law_338 : zd code 338 (.iload_n 3) 1 339 := ⟨by decide +kernel, rfl⟩
theorem dW_law_339 : zd code 339 (.iconst 2) 1 340 := ⟨by decide +kernel, rfl⟩
theorem dW_law_340 : zd code 340 .iadd 1 341 := ⟨by decide +kernel, rfl⟩
theorem dW_law_341 : zd code 341 .iaload 1 342 := ⟨by decide +kernel, rfl⟩
theorem dW_law_342 : zd code 342 (.invokevirtual 30) 3 345 := ⟨by decide +kernel, rfl⟩
theorem dW_law_345 : zdb code 345 (.if_icmp .eq 1143) 1143 348 1488 := ⟨by decide +kernel, rfl, by decide⟩
theorem dW_law_348 : zd code 348 (.iconst 0) 1 349 := ⟨by decide +kernel, rfl⟩
theorem dW_law_349 : zd code 349 .ireturn 1 350 := ⟨by decide +kernel, rfl⟩
theorem dW_law_350 : zd code 350 (.aload_n 1) 1 351 := ⟨by decide +kernel, rfl⟩
theorem dW_law_351 : zd code 351 (.aload_n 0) 1 352 := ⟨by decide +kernel, rfl⟩
theorem dW_law_352 : zd code 352 (.iload_n 3) 1 353 := ⟨by decide +kernel, rfl⟩
theorem dW_law_353 : zd code 353 (.iconst 1) 1 354 := ⟨by decide +kernel, rfl⟩
theorem dW_law_354 : zd code 354 .iadd 1 355 := ⟨by decide +kernel, rfl⟩
theorem dW_law_355 : zd code 355 .iaload 1 356 := ⟨by decide +kernel, rfl⟩
theorem dW_law_356 : zd code 356 (.aload_n 0) 1 357 := ⟨by decide +kernel, rfl⟩
theorem dW_law_357 : zd code 357 (.iload_n 3) 1 358 := ⟨by decide +kernel, rfl⟩
theorem dW_law_358 : zd code 358 (.iconst 2) 1 359 := ⟨by decide +kernel, rfl⟩
theorem dW_law_359 : zd code 359 .iadd 1 360 := ⟨by decide +kernel, rfl⟩
theorem dW_law_360 : zd code 360 .iaload 1 361 := ⟨by decide +kernel, rfl⟩
theorem dW_law_361 : zd code 361 (.invokevirtual 31) 3 364 := ⟨by decide +kernel, rfl⟩
theorem dW_law_364 : zd code 364 (.aload_n 2) 1 365 := ⟨by decide +kernel, rfl⟩
theorem dW_law_365 : zd code 365 (.aload_n 0) 1 366 := ⟨by decide +kernel, rfl⟩
theorem dW_law_366 : zd code 366 (.iload_n 3) 1 367 := ⟨by decide +kernel, rfl⟩
theorem dW_law_367 : zd code 367 (.iconst 1) 1 368 := ⟨by decide +kernel, rfl⟩
theorem dW_law_368 : zd code 368 .iadd 1 369 := ⟨by decide +kernel, rfl⟩
theorem dW_law_369 : zd code 369 .iaload 1 370 := ⟨by decide +kernel, rfl⟩
theorem dW_law_370 : zd code 370 (.aload_n 0) 1 371 := ⟨by decide +kernel, rfl⟩
theorem dW_law_371 : zd code 371 (.iload_n 3) 1 372 := ⟨by decide +kernel, rfl⟩
theorem dW_law_372 : zd code 372 (.iconst 2) 1 373 := ⟨by decide +kernel, rfl⟩
theorem dW_law_373 : zd code 373 .iadd 1 374 := ⟨by decide +kernel, rfl⟩
theorem dW_law_374 : zd code 374 .iaload 1 375 := ⟨by decide +kernel, rfl⟩
theorem dW_law_375 : zd code 375 (.invokevirtual 34) 3 378 := ⟨by decide +kernel, rfl⟩
theorem dW_law_378 : zdb code 378 (.if_icmp .eq 1110) 1110 381 1488 := ⟨by decide +kernel, rfl, by decide⟩
theorem dW_law_381 : zd code 381 (.iconst 0) 1 382 := ⟨by decide +kernel, rfl⟩
theorem dW_law_382 : zd code 382 .ireturn 1 383 := ⟨by decide +kernel, rfl⟩
theorem dW_law_383 : zd code 383 (.aload_n 1) 1 384 := ⟨by decide +kernel, rfl⟩
theorem dW_law_384 : zd code 384 (.aload_n 0) 1 385 := ⟨by decide +kernel, rfl⟩
theorem dW_law_385 : zd code 385 (.iload_n 3) 1 386 := ⟨by decide +kernel, rfl⟩
theorem dW_law_386 : zd code 386 (.iconst 1) 1 387 := ⟨by decide +kernel, rfl⟩
theorem dW_law_387 : zd code 387 .iadd 1 388 := ⟨by decide +kernel, rfl⟩
theorem dW_law_388 : zd code 388 .iaload 1 389 := ⟨by decide +kernel, rfl⟩
theorem dW_law_389 : zd code 389 (.aload_n 0) 1 390 := ⟨by decide +kernel, rfl⟩
theorem dW_law_390 : zd code 390 (.iload_n 3) 1 391 := ⟨by decide +kernel, rfl⟩
theorem dW_law_391 : zd code 391 (.iconst 2) 1 392 := ⟨by decide +kernel, rfl⟩
theorem dW_law_392 : zd code 392 .iadd 1 393 := ⟨by decide +kernel, rfl⟩
theorem dW_law_393 : zd code 393 .iaload 1 394 := ⟨by decide +kernel, rfl⟩
theorem dW_law_394 : zd code 394 (.invokevirtual 35) 3 397 := ⟨by decide +kernel, rfl⟩
theorem dW_law_397 : zd code 397 (.aload_n 2) 1 398 := ⟨by decide +kernel, rfl⟩
theorem dW_law_398 : zd code 398 (.aload_n 0) 1 399 := ⟨by decide +kernel, rfl⟩
theorem dW_law_399 : zd code 399 (.iload_n 3) 1 400 := ⟨by decide +kernel, rfl⟩
theorem dW_law_400 : zd code 400 (.iconst 1) 1 401 := ⟨by decide +kernel, rfl⟩
theorem dW_law_401 : zd code 401 .iadd 1 402 := ⟨by decide +kernel, rfl⟩
theorem dW_law_402 : zd code 402 .iaload 1 403 := ⟨by decide +kernel, rfl⟩
theorem dW_law_403 : zd code 403 (.aload_n 0) 1 404 := ⟨by decide +kernel, rfl⟩
theorem dW_law_404 : zd code 404 (.iload_n 3) 1 405 := ⟨by decide +kernel, rfl⟩
theorem dW_law_405 : zd code 405 (.iconst 2) 1 406 := ⟨by decide +kernel, rfl⟩
theorem dW_law_406 : zd code 406 .iadd 1 407 := ⟨by decide +kernel, rfl⟩
theorem dW_law_407 : zd code 407 .iaload 1 408 := ⟨by decide +kernel, rfl⟩
theorem dW_law_408 : zd code 408 (.invokevirtual 38) 3 411 := ⟨by decide +kernel, rfl⟩
theorem dW_law_411 : zdb code 411 (.if_icmp .eq 1077) 1077 414 1488 := ⟨by decide +kernel, rfl, by decide⟩
theorem dW_law_414 : zd code 414 (.iconst 0) 1 415 := ⟨by decide +kernel, rfl⟩
theorem dW_law_415 : zd code 415 .ireturn 1 416 := ⟨by decide +kernel, rfl⟩
theorem dW_law_416 : zd code 416 (.aload_n 1) 1 417 := ⟨by decide +kernel, rfl⟩
theorem dW_law_417 : zd code 417 (.aload_n 0) 1 418 := ⟨by decide +kernel, rfl⟩
theorem dW_law_418 : zd code 418 (.iload_n 3) 1 419 := ⟨by decide +kernel, rfl⟩
theorem dW_law_419 : zd code 419 (.iconst 1) 1 420 := ⟨by decide +kernel, rfl⟩
theorem dW_law_420 : zd code 420 .iadd 1 421 := ⟨by decide +kernel, rfl⟩
theorem dW_law_421 : zd code 421 .iaload 1 422 := ⟨by decide +kernel, rfl⟩
theorem dW_law_422 : zd code 422 (.aload_n 0) 1 423 := ⟨by decide +kernel, rfl⟩
theorem dW_law_423 : zd code 423 (.iload_n 3) 1 424 := ⟨by decide +kernel, rfl⟩
theorem dW_law_424 : zd code 424 (.iconst 2) 1 425 := ⟨by decide +kernel, rfl⟩
theorem dW_law_425 : zd code 425 .iadd 1 426 := ⟨by decide +kernel, rfl⟩
theorem dW_law_426 : zd code 426 .iaload 1 427 := ⟨by decide +kernel, rfl⟩
theorem dW_law_427 : zd code 427 (.invokevirtual 39) 3 430 := ⟨by decide +kernel, rfl⟩
theorem dW_law_430 : zd code 430 (.aload_n 2) 1 431 := ⟨by decide +kernel, rfl⟩
theorem dW_law_431 : zd code 431 (.aload_n 0) 1 432 := ⟨by decide +kernel, rfl⟩
theorem dW_law_432 : zd code 432 (.iload_n 3) 1 433 := ⟨by decide +kernel, rfl⟩
theorem dW_law_433 : zd code 433 (.iconst 1) 1 434 := ⟨by decide +kernel, rfl⟩
theorem dW_law_434 : zd code 434 .iadd 1 435 := ⟨by decide +kernel, rfl⟩
theorem dW_law_435 : zd code 435 .iaload 1 436 := ⟨by decide +kernel, rfl⟩
theorem dW_law_436 : zd code 436 (.aload_n 0) 1 437 := ⟨by decide +kernel, rfl⟩
theorem dW_law_437 : zd code 437 (.iload_n 3) 1 438 := ⟨by decide +kernel, rfl⟩
theorem dW_law_438 : zd code 438 (.iconst 2) 1 439 := ⟨by decide +kernel, rfl⟩
theorem dW_law_439 : zd code 439 .iadd 1 440 := ⟨by decide +kernel, rfl⟩
theorem dW_law_440 : zd code 440 .iaload 1 441 := ⟨by decide +kernel, rfl⟩
theorem dW_law_441 : zd code 441 (.invokevirtual 42) 3 444 := ⟨by decide +kernel, rfl⟩
theorem dW_law_444 : zdb code 444 (.if_icmp .eq 1044) 1044 447 1488 := ⟨by decide +kernel, rfl, by decide⟩
theorem dW_law_447 : zd code 447 (.iconst 0) 1 448 := ⟨by decide +kernel, rfl⟩
theorem dW_law_448 : zd code 448 .ireturn 1 449 := ⟨by decide +kernel, rfl⟩
theorem dW_law_449 : zd code 449 (.aload_n 1) 1 450 := ⟨by decide +kernel, rfl⟩
theorem dW_law_450 : zd code 450 (.aload_n 0) 1 451 := ⟨by decide +kernel, rfl⟩
theorem dW_law_451 : zd code 451 (.iload_n 3) 1 452 := ⟨by decide +kernel, rfl⟩
theorem dW_law_452 : zd code 452 (.iconst 1) 1 453 := ⟨by decide +kernel, rfl⟩
theorem dW_law_453 : zd code 453 .iadd 1 454 := ⟨by decide +kernel, rfl⟩
theorem dW_law_454 : zd code 454 .iaload 1 455 := ⟨by decide +kernel, rfl⟩
theorem dW_law_455 : zd code 455 (.aload_n 0) 1 456 := ⟨by decide +kernel, rfl⟩
theorem dW_law_456 : zd code 456 (.iload_n 3) 1 457 := ⟨by decide +kernel, rfl⟩
theorem dW_law_457 : zd code 457 (.iconst 2) 1 458 := ⟨by decide +kernel, rfl⟩
theorem dW_law_458 : zd code 458 .iadd 1 459 := ⟨by decide +kernel, rfl⟩
theorem dW_law_459 : zd code 459 .iaload 1 460 := ⟨by decide +kernel, rfl⟩
theorem dW_law_460 : zd code 460 (.invokevirtual 43) 3 463 := ⟨by decide +kernel, rfl⟩
theorem dW_law_463 : zd code 463 (.aload_n 2) 1 464 := ⟨by decide +kernel, rfl⟩
theorem dW_law_464 : zd code 464 (.aload_n 0) 1 465 := ⟨by decide +kernel, rfl⟩
theorem dW_law_465 : zd code 465 (.iload_n 3) 1 466 := ⟨by decide +kernel, rfl⟩
theorem dW_law_466 : zd code 466 (.iconst 1) 1 467 := ⟨by decide +kernel, rfl⟩
theorem dW_law_467 : zd code 467 .iadd 1 468 := ⟨by decide +kernel, rfl⟩
theorem dW_law_468 : zd code 468 .iaload 1 469 := ⟨by decide +kernel, rfl⟩
theorem dW_law_469 : zd code 469 (.aload_n 0) 1 470 := ⟨by decide +kernel, rfl⟩
theorem dW_law_470 : zd code 470 (.iload_n 3) 1 471 := ⟨by decide +kernel, rfl⟩
theorem dW_law_471 : zd code 471 (.iconst 2) 1 472 := ⟨by decide +kernel, rfl⟩
theorem dW_law_472 : zd code 472 .iadd 1 473 := ⟨by decide +kernel, rfl⟩
theorem dW_law_473 : zd code 473 .iaload 1 474 := ⟨by decide +kernel, rfl⟩
theorem dW_law_474 : zd code 474 (.invokevirtual 46) 3 477 := ⟨by decide +kernel, rfl⟩
theorem dW_law_477 : zdb code 477 (.if_icmp .eq 1011) 1011 480 1488 := ⟨by decide +kernel, rfl, by decide⟩
theorem dW_law_480 : zd code 480 (.iconst 0) 1 481 := ⟨by decide +kernel, rfl⟩
theorem dW_law_481 : zd code 481 .ireturn 1 482 := ⟨by decide +kernel, rfl⟩
theorem dW_law_482 : zd code 482 (.aload_n 1) 1 483 := ⟨by decide +kernel, rfl⟩
theorem dW_law_483 : zd code 483 (.aload_n 0) 1 484 := ⟨by decide +kernel, rfl⟩
theorem dW_law_484 : zd code 484 (.iload_n 3) 1 485 := ⟨by decide +kernel, rfl⟩
theorem dW_law_485 : zd code 485 (.iconst 1) 1 486 := ⟨by decide +kernel, rfl⟩
theorem dW_law_486 : zd code 486 .iadd 1 487 := ⟨by decide +kernel, rfl⟩
theorem dW_law_487 : zd code 487 .iaload 1 488 := ⟨by decide +kernel, rfl⟩
theorem dW_law_488 : zd code 488 (.aload_n 0) 1 489 := ⟨by decide +kernel, rfl⟩
theorem dW_law_489 : zd code 489 (.iload_n 3) 1 490 := ⟨by decide +kernel, rfl⟩
theorem dW_law_490 : zd code 490 (.iconst 2) 1 491 := ⟨by decide +kernel, rfl⟩
theorem dW_law_491 : zd code 491 .iadd 1 492 := ⟨by decide +kernel, rfl⟩
theorem dW_law_492 : zd code 492 .iaload 1 493 := ⟨by decide +kernel, rfl⟩
theorem dW_law_493 : zd code 493 (.invokevirtual 47) 3 496 := ⟨by decide +kernel, rfl⟩
theorem dW_law_496 : zd code 496 (.aload_n 2) 1 497 := ⟨by decide +kernel, rfl⟩
theorem dW_law_497 : zd code 497 (.aload_n 0) 1 498 := ⟨by decide +kernel, rfl⟩
theorem dW_law_498 : zd code 498 (.iload_n 3) 1 499 := ⟨by decide +kernel, rfl⟩
theorem dW_law_499 : zd code 499 (.iconst 1) 1 500 := ⟨by decide +kernel, rfl⟩
theorem dW_law_500 : zd code 500 .iadd 1 501 := ⟨by decide +kernel, rfl⟩
theorem dW_law_501 : zd code 501 .iaload 1 502 := ⟨by decide +kernel, rfl⟩
theorem dW_law_502 : zd code 502 (.aload_n 0) 1 503 := ⟨by decide +kernel, rfl⟩
theorem dW_law_503 : zd code 503 (.iload_n 3) 1 504 := ⟨by decide +kernel, rfl⟩
theorem dW_law_504 : zd code 504 (.iconst 2) 1 505 := ⟨by decide +kernel, rfl⟩
theorem dW_law_505 : zd code 505 .iadd 1 506 := ⟨by decide +kernel, rfl⟩
theorem dW_law_506 : zd code 506 .iaload 1 507 := ⟨by decide +kernel, rfl⟩
theorem dW_law_507 : zd code 507 (.invokevirtual 50) 3 510 := ⟨by decide +kernel, rfl⟩
theorem dW_law_510 : zdb code 510 (.if_icmp .eq 978) 978 513 1488 := ⟨by decide +kernel, rfl, by decide⟩
theorem dW_law_513 : zd code 513 (.iconst 0) 1 514 := ⟨by decide +kernel, rfl⟩
theorem dW_law_514 : zd code 514 .ireturn 1 515 := ⟨by decide +kernel, rfl⟩
theorem dW_law_515 : zd code 515 (.aload_n 1) 1 516 := ⟨by decide +kernel, rfl⟩
theorem dW_law_516 : zd code 516 (.aload_n 0) 1 517 := ⟨by decide +kernel, rfl⟩
theorem dW_law_517 : zd code 517 (.iload_n 3) 1 518 := ⟨by decide +kernel, rfl⟩
theorem dW_law_518 : zd code 518 (.iconst 1) 1 519 := ⟨by decide +kernel, rfl⟩
theorem dW_law_519 : zd code 519 .iadd 1 520 := ⟨by decide +kernel, rfl⟩
theorem dW_law_520 : zd code 520 .iaload 1 521 := ⟨by decide +kernel, rfl⟩
theorem dW_law_521 : zd code 521 (.aload_n 0) 1 522 := ⟨by decide +kernel, rfl⟩
theorem dW_law_522 : zd code 522 (.iload_n 3) 1 523 := ⟨by decide +kernel, rfl⟩
theorem dW_law_523 : zd code 523 (.iconst 2) 1 524 := ⟨by decide +kernel, rfl⟩
theorem dW_law_524 : zd code 524 .iadd 1 525 := ⟨by decide +kernel, rfl⟩
theorem dW_law_525 : zd code 525 .iaload 1 526 := ⟨by decide +kernel, rfl⟩
theorem dW_law_526 : zd code 526 (.aload_n 0) 1 527 := ⟨by decide +kernel, rfl⟩
theorem dW_law_527 : zd code 527 (.iload_n 3) 1 528 := ⟨by decide +kernel, rfl⟩
theorem dW_law_528 : zd code 528 (.iconst 3) 1 529 := ⟨by decide +kernel, rfl⟩
theorem dW_law_529 : zd code 529 .iadd 1 530 := ⟨by decide +kernel, rfl⟩
theorem dW_law_530 : zd code 530 .iaload 1 531 := ⟨by decide +kernel, rfl⟩
theorem dW_law_531 : zd code 531 (.invokevirtual 51) 3 534 := ⟨by decide +kernel, rfl⟩
theorem dW_law_534 : zd code 534 (.aload_n 2) 1 535 := ⟨by decide +kernel, rfl⟩
theorem dW_law_535 : zd code 535 (.aload_n 0) 1 536 := ⟨by decide +kernel, rfl⟩
theorem dW_law_536 : zd code 536 (.iload_n 3) 1 537 := ⟨by decide +kernel, rfl⟩
theorem dW_law_537 : zd code 537 (.iconst 1) 1 538 := ⟨by decide +kernel, rfl⟩
theorem dW_law_538 : zd code 538 .iadd 1 539 := ⟨by decide +kernel, rfl⟩
theorem dW_law_539 : zd code 539 .iaload 1 540 := ⟨by decide +kernel, rfl⟩
theorem dW_law_540 : zd code 540 (.aload_n 0) 1 541 := ⟨by decide +kernel, rfl⟩
theorem dW_law_541 : zd code 541 (.iload_n 3) 1 542 := ⟨by decide +kernel, rfl⟩
theorem dW_law_542 : zd code 542 (.iconst 2) 1 543 := ⟨by decide +kernel, rfl⟩
theorem dW_law_543 : zd code 543 .iadd 1 544 := ⟨by decide +kernel, rfl⟩
theorem dW_law_544 : zd code 544 .iaload 1 545 := ⟨by decide +kernel, rfl⟩
theorem dW_law_545 : zd code 545 (.aload_n 0) 1 546 := ⟨by decide +kernel, rfl⟩
theorem dW_law_546 : zd code 546 (.iload_n 3) 1 547 := ⟨by decide +kernel, rfl⟩
theorem dW_law_547 : zd code 547 (.iconst 3) 1 548 := ⟨by decide +kernel, rfl⟩
theorem dW_law_548 : zd code 548 .iadd 1 549 := ⟨by decide +kernel, rfl⟩
theorem dW_law_549 : zd code 549 .iaload 1 550 := ⟨by decide +kernel, rfl⟩
theorem dW_law_550 : zd code 550 (.invokevirtual 54) 3 553 := ⟨by decide +kernel, rfl⟩
theorem dW_law_553 : zdb code 553 (.if_icmp .eq 935) 935 556 1488 := ⟨by decide +kernel, rfl, by decide⟩
theorem dW_law_556 : zd code 556 (.iconst 0) 1 557 := ⟨by decide +kernel, rfl⟩
theorem dW_law_557 : zd code 557 .ireturn 1 558 := ⟨by decide +kernel, rfl⟩
theorem dW_law_558 : zd code 558 (.aload_n 1) 1 559 := ⟨by decide +kernel, rfl⟩
theorem dW_law_559 : zd code 559 (.aload_n 0) 1 560 := ⟨by decide +kernel, rfl⟩
theorem dW_law_560 : zd code 560 (.iload_n 3) 1 561 := ⟨by decide +kernel, rfl⟩
theorem dW_law_561 : zd code 561 (.iconst 1) 1 562 := ⟨by decide +kernel, rfl⟩
theorem dW_law_562 : zd code 562 .iadd 1 563 := ⟨by decide +kernel, rfl⟩
theorem dW_law_563 : zd code 563 .iaload 1 564 := ⟨by decide +kernel, rfl⟩
theorem dW_law_564 : zd code 564 (.aload_n 0) 1 565 := ⟨by decide +kernel, rfl⟩
theorem dW_law_565 : zd code 565 (.iload_n 3) 1 566 := ⟨by decide +kernel, rfl⟩
theorem dW_law_566 : zd code 566 (.iconst 2) 1 567 := ⟨by decide +kernel, rfl⟩
theorem dW_law_567 : zd code 567 .iadd 1 568 := ⟨by decide +kernel, rfl⟩
theorem dW_law_568 : zd code 568 .iaload 1 569 := ⟨by decide +kernel, rfl⟩
theorem dW_law_569 : zd code 569 (.invokevirtual 55) 3 572 := ⟨by decide +kernel, rfl⟩
theorem dW_law_572 : zd code 572 (.aload_n 2) 1 573 := ⟨by decide +kernel, rfl⟩
theorem dW_law_573 : zd code 573 (.aload_n 0) 1 574 := ⟨by decide +kernel, rfl⟩
theorem dW_law_574 : zd code 574 (.iload_n 3) 1 575 := ⟨by decide +kernel, rfl⟩
theorem dW_law_575 : zd code 575 (.iconst 1) 1 576 := ⟨by decide +kernel, rfl⟩
theorem dW_law_576 : zd code 576 .iadd 1 577 := ⟨by decide +kernel, rfl⟩
theorem dW_law_577 : zd code 577 .iaload 1 578 := ⟨by decide +kernel, rfl⟩
theorem dW_law_578 : zd code 578 (.aload_n 0) 1 579 := ⟨by decide +kernel, rfl⟩
theorem dW_law_579 : zd code 579 (.iload_n 3) 1 580 := ⟨by decide +kernel, rfl⟩
theorem dW_law_580 : zd code 580 (.iconst 2) 1 581 := ⟨by decide +kernel, rfl⟩
theorem dW_law_581 : zd code 581 .iadd 1 582 := ⟨by decide +kernel, rfl⟩
theorem dW_law_582 : zd code 582 .iaload 1 583 := ⟨by decide +kernel, rfl⟩
theorem dW_law_583 : zd code 583 (.invokevirtual 58) 3 586 := ⟨by decide +kernel, rfl⟩
theorem dW_law_586 : zdb code 586 (.if_icmp .eq 902) 902 589 1488 := ⟨by decide +kernel, rfl, by decide⟩
theorem dW_law_589 : zd code 589 (.iconst 0) 1 590 := ⟨by decide +kernel, rfl⟩
theorem dW_law_590 : zd code 590 .ireturn 1 591 := ⟨by decide +kernel, rfl⟩
theorem dW_law_591 : zd code 591 (.aload_n 1) 1 592 := ⟨by decide +kernel, rfl⟩
theorem dW_law_592 : zd code 592 (.aload_n 0) 1 593 := ⟨by decide +kernel, rfl⟩
theorem dW_law_593 : zd code 593 (.iload_n 3) 1 594 := ⟨by decide +kernel, rfl⟩
theorem dW_law_594 : zd code 594 (.iconst 1) 1 595 := ⟨by decide +kernel, rfl⟩
theorem dW_law_595 : zd code 595 .iadd 1 596 := ⟨by decide +kernel, rfl⟩
theorem dW_law_596 : zd code 596 .iaload 1 597 := ⟨by decide +kernel, rfl⟩
theorem dW_law_597 : zd code 597 (.invokevirtual 59) 3 600 := ⟨by decide +kernel, rfl⟩
theorem dW_law_600 : zd code 600 (.aload_n 2) 1 601 := ⟨by decide +kernel, rfl⟩
theorem dW_law_601 : zd code 601 (.aload_n 0) 1 602 := ⟨by decide +kernel, rfl⟩
theorem dW_law_602 : zd code 602 (.iload_n 3) 1 603 := ⟨by decide +kernel, rfl⟩
theorem dW_law_603 : zd code 603 (.iconst 1) 1 604 := ⟨by decide +kernel, rfl⟩
theorem dW_law_604 : zd code 604 .iadd 1 605 := ⟨by decide +kernel, rfl⟩
theorem dW_law_605 : zd code 605 .iaload 1 606 := ⟨by decide +kernel, rfl⟩
theorem dW_law_606 : zd code 606 (.invokevirtual 63) 3 609 := ⟨by decide +kernel, rfl⟩
theorem dW_law_609 : zdb code 609 (.if_icmp .eq 879) 879 612 1488 := ⟨by decide +kernel, rfl, by decide⟩
theorem dW_law_612 : zd code 612 (.iconst 0) 1 613 := ⟨by decide +kernel, rfl⟩
theorem dW_law_613 : zd code 613 .ireturn 1 614 := ⟨by decide +kernel, rfl⟩
theorem dW_law_614 : zd code 614 (.aload_n 1) 1 615 := ⟨by decide +kernel, rfl⟩
theorem dW_law_615 : zd code 615 (.aload_n 0) 1 616 := ⟨by decide +kernel, rfl⟩
theorem dW_law_616 : zd code 616 (.iload_n 3) 1 617 := ⟨by decide +kernel, rfl⟩
theorem dW_law_617 : zd code 617 (.iconst 1) 1 618 := ⟨by decide +kernel, rfl⟩
theorem dW_law_618 : zd code 618 .iadd 1 619 := ⟨by decide +kernel, rfl⟩
theorem dW_law_619 : zd code 619 .iaload 1 620 := ⟨by decide +kernel, rfl⟩
theorem dW_law_620 : zd code 620 .i2l 1 621 := ⟨by decide +kernel, rfl⟩
theorem dW_law_621 : zd code 621 (.bipush 32) 2 623 := ⟨by decide +kernel, rfl⟩
theorem dW_law_623 : zd code 623 .lshl 1 624 := ⟨by decide +kernel, rfl⟩
theorem dW_law_624 : zd code 624 (.aload_n 0) 1 625 := ⟨by decide +kernel, rfl⟩
theorem dW_law_625 : zd code 625 (.iload_n 3) 1 626 := ⟨by decide +kernel, rfl⟩
theorem dW_law_626 : zd code 626 (.iconst 2) 1 627 := ⟨by decide +kernel, rfl⟩
theorem dW_law_627 : zd code 627 .iadd 1 628 := ⟨by decide +kernel, rfl⟩
theorem dW_law_628 : zd code 628 .iaload 1 629 := ⟨by decide +kernel, rfl⟩
theorem dW_law_629 : zd code 629 .i2l 1 630 := ⟨by decide +kernel, rfl⟩
theorem dW_law_630 : zd code 630 (.ldc2_w 64) 3 633 := ⟨by decide +kernel, rfl⟩
theorem dW_law_633 : zd code 633 .land 1 634 := ⟨by decide +kernel, rfl⟩
theorem dW_law_634 : zd code 634 .lor 1 635 := ⟨by decide +kernel, rfl⟩
theorem dW_law_635 : zd code 635 (.aload_n 0) 1 636 := ⟨by decide +kernel, rfl⟩
theorem dW_law_636 : zd code 636 (.iload_n 3) 1 637 := ⟨by decide +kernel, rfl⟩
theorem dW_law_637 : zd code 637 (.iconst 3) 1 638 := ⟨by decide +kernel, rfl⟩
theorem dW_law_638 : zd code 638 .iadd 1 639 := ⟨by decide +kernel, rfl⟩
theorem dW_law_639 : zd code 639 .iaload 1 640 := ⟨by decide +kernel, rfl⟩
theorem dW_law_640 : zd code 640 (.invokevirtual 66) 3 643 := ⟨by decide +kernel, rfl⟩
theorem dW_law_643 : zd code 643 (.aload_n 2) 1 644 := ⟨by decide +kernel, rfl⟩
theorem dW_law_644 : zd code 644 (.aload_n 0) 1 645 := ⟨by decide +kernel, rfl⟩
theorem dW_law_645 : zd code 645 (.iload_n 3) 1 646 := ⟨by decide +kernel, rfl⟩
theorem dW_law_646 : zd code 646 (.iconst 1) 1 647 := ⟨by decide +kernel, rfl⟩
theorem dW_law_647 : zd code 647 .iadd 1 648 := ⟨by decide +kernel, rfl⟩
theorem dW_law_648 : zd code 648 .iaload 1 649 := ⟨by decide +kernel, rfl⟩
theorem dW_law_649 : zd code 649 .i2l 1 650 := ⟨by decide +kernel, rfl⟩
theorem dW_law_650 : zd code 650 (.bipush 32) 2 652 := ⟨by decide +kernel, rfl⟩
theorem dW_law_652 : zd code 652 .lshl 1 653 := ⟨by decide +kernel, rfl⟩
theorem dW_law_653 : zd code 653 (.aload_n 0) 1 654 := ⟨by decide +kernel, rfl⟩
theorem dW_law_654 : zd code 654 (.iload_n 3) 1 655 := ⟨by decide +kernel, rfl⟩
theorem dW_law_655 : zd code 655 (.iconst 2) 1 656 := ⟨by decide +kernel, rfl⟩
theorem dW_law_656 : zd code 656 .iadd 1 657 := ⟨by decide +kernel, rfl⟩
theorem dW_law_657 : zd code 657 .iaload 1 658 := ⟨by decide +kernel, rfl⟩
theorem dW_law_658 : zd code 658 .i2l 1 659 := ⟨by decide +kernel, rfl⟩
theorem dW_law_659 : zd code 659 (.ldc2_w 64) 3 662 := ⟨by decide +kernel, rfl⟩
theorem dW_law_662 : zd code 662 .land 1 663 := ⟨by decide +kernel, rfl⟩
theorem dW_law_663 : zd code 663 .lor 1 664 := ⟨by decide +kernel, rfl⟩
theorem dW_law_664 : zd code 664 (.aload_n 0) 1 665 := ⟨by decide +kernel, rfl⟩
theorem dW_law_665 : zd code 665 (.iload_n 3) 1 666 := ⟨by decide +kernel, rfl⟩
theorem dW_law_666 : zd code 666 (.iconst 3) 1 667 := ⟨by decide +kernel, rfl⟩
theorem dW_law_667 : zd code 667 .iadd 1 668 := ⟨by decide +kernel, rfl⟩
theorem dW_law_668 : zd code 668 .iaload 1 669 := ⟨by decide +kernel, rfl⟩
theorem dW_law_669 : zd code 669 (.invokevirtual 70) 3 672 := ⟨by decide +kernel, rfl⟩
theorem dW_law_672 : zdb code 672 (.if_icmp .eq 816) 816 675 1488 := ⟨by decide +kernel, rfl, by decide⟩
theorem dW_law_675 : zd code 675 (.iconst 0) 1 676 := ⟨by decide +kernel, rfl⟩
theorem dW_law_676 : zd code 676 .ireturn 1 677 := ⟨by decide +kernel, rfl⟩
theorem dW_law_677 : zd code 677 (.aload_n 1) 1 678 := ⟨by decide +kernel, rfl⟩
theorem dW_law_678 : zd code 678 (.aload_n 0) 1 679 := ⟨by decide +kernel, rfl⟩
theorem dW_law_679 : zd code 679 (.iload_n 3) 1 680 := ⟨by decide +kernel, rfl⟩
theorem dW_law_680 : zd code 680 (.iconst 1) 1 681 := ⟨by decide +kernel, rfl⟩
theorem dW_law_681 : zd code 681 .iadd 1 682 := ⟨by decide +kernel, rfl⟩
theorem dW_law_682 : zd code 682 .iaload 1 683 := ⟨by decide +kernel, rfl⟩
theorem dW_law_683 : zd code 683 (.invokevirtual 71) 3 686 := ⟨by decide +kernel, rfl⟩
theorem dW_law_686 : zd code 686 (.aload_n 2) 1 687 := ⟨by decide +kernel, rfl⟩
theorem dW_law_687 : zd code 687 (.aload_n 0) 1 688 := ⟨by decide +kernel, rfl⟩
theorem dW_law_688 : zd code 688 (.iload_n 3) 1 689 := ⟨by decide +kernel, rfl⟩
theorem dW_law_689 : zd code 689 (.iconst 1) 1 690 := ⟨by decide +kernel, rfl⟩
theorem dW_law_690 : zd code 690 .iadd 1 691 := ⟨by decide +kernel, rfl⟩
theorem dW_law_691 : zd code 691 .iaload 1 692 := ⟨by decide +kernel, rfl⟩
theorem dW_law_692 : zd code 692 (.invokevirtual 74) 3 695 := ⟨by decide +kernel, rfl⟩
theorem dW_law_695 : zdb code 695 (.if_icmp .eq 793) 793 698 1488 := ⟨by decide +kernel, rfl, by decide⟩
theorem dW_law_698 : zd code 698 (.iconst 0) 1 699 := ⟨by decide +kernel, rfl⟩
theorem dW_law_699 : zd code 699 .ireturn 1 700 := ⟨by decide +kernel, rfl⟩
theorem dW_law_700 : zd code 700 (.aload_n 1) 1 701 := ⟨by decide +kernel, rfl⟩
theorem dW_law_701 : zd code 701 (.aload_n 0) 1 702 := ⟨by decide +kernel, rfl⟩
theorem dW_law_702 : zd code 702 (.iload_n 3) 1 703 := ⟨by decide +kernel, rfl⟩
theorem dW_law_703 : zd code 703 (.iconst 1) 1 704 := ⟨by decide +kernel, rfl⟩
theorem dW_law_704 : zd code 704 .iadd 1 705 := ⟨by decide +kernel, rfl⟩
theorem dW_law_705 : zd code 705 .iaload 1 706 := ⟨by decide +kernel, rfl⟩
theorem dW_law_706 : zd code 706 (.invokevirtual 75) 3 709 := ⟨by decide +kernel, rfl⟩
theorem dW_law_709 : zd code 709 (.aload_n 2) 1 710 := ⟨by decide +kernel, rfl⟩
theorem dW_law_710 : zd code 710 (.aload_n 0) 1 711 := ⟨by decide +kernel, rfl⟩
theorem dW_law_711 : zd code 711 (.iload_n 3) 1 712 := ⟨by decide +kernel, rfl⟩
theorem dW_law_712 : zd code 712 (.iconst 1) 1 713 := ⟨by decide +kernel, rfl⟩
theorem dW_law_713 : zd code 713 .iadd 1 714 := ⟨by decide +kernel, rfl⟩
theorem dW_law_714 : zd code 714 .iaload 1 715 := ⟨by decide +kernel, rfl⟩
theorem dW_law_715 : zd code 715 (.invokevirtual 78) 3 718 := ⟨by decide +kernel, rfl⟩
theorem dW_law_718 : zdb code 718 (.if_icmp .eq 770) 770 721 1488 := ⟨by decide +kernel, rfl, by decide⟩
theorem dW_law_721 : zd code 721 (.iconst 0) 1 722 := ⟨by decide +kernel, rfl⟩
theorem dW_law_722 : zd code 722 .ireturn 1 723 := ⟨by decide +kernel, rfl⟩
theorem dW_law_723 : zd code 723 (.aload_n 1) 1 724 := ⟨by decide +kernel, rfl⟩
theorem dW_law_724 : zd code 724 (.aload_n 0) 1 725 := ⟨by decide +kernel, rfl⟩
theorem dW_law_725 : zd code 725 (.iload_n 3) 1 726 := ⟨by decide +kernel, rfl⟩
theorem dW_law_726 : zd code 726 (.iconst 1) 1 727 := ⟨by decide +kernel, rfl⟩
theorem dW_law_727 : zd code 727 .iadd 1 728 := ⟨by decide +kernel, rfl⟩
theorem dW_law_728 : zd code 728 .iaload 1 729 := ⟨by decide +kernel, rfl⟩
theorem dW_law_729 : zd code 729 (.aload_n 0) 1 730 := ⟨by decide +kernel, rfl⟩
theorem dW_law_730 : zd code 730 (.iload_n 3) 1 731 := ⟨by decide +kernel, rfl⟩
theorem dW_law_731 : zd code 731 (.iconst 2) 1 732 := ⟨by decide +kernel, rfl⟩
theorem dW_law_732 : zd code 732 .iadd 1 733 := ⟨by decide +kernel, rfl⟩
theorem dW_law_733 : zd code 733 .iaload 1 734 := ⟨by decide +kernel, rfl⟩
theorem dW_law_734 : zd code 734 (.aload_n 0) 1 735 := ⟨by decide +kernel, rfl⟩
theorem dW_law_735 : zd code 735 (.iload_n 3) 1 736 := ⟨by decide +kernel, rfl⟩
theorem dW_law_736 : zd code 736 (.iconst 3) 1 737 := ⟨by decide +kernel, rfl⟩
theorem dW_law_737 : zd code 737 .iadd 1 738 := ⟨by decide +kernel, rfl⟩
theorem dW_law_738 : zd code 738 .iaload 1 739 := ⟨by decide +kernel, rfl⟩
theorem dW_law_739 : zd code 739 (.aload_n 0) 1 740 := ⟨by decide +kernel, rfl⟩
theorem dW_law_740 : zd code 740 (.iload_n 3) 1 741 := ⟨by decide +kernel, rfl⟩
theorem dW_law_741 : zd code 741 (.iconst 4) 1 742 := ⟨by decide +kernel, rfl⟩
theorem dW_law_742 : zd code 742 .iadd 1 743 := ⟨by decide +kernel, rfl⟩
theorem dW_law_743 : zd code 743 .iaload 1 744 := ⟨by decide +kernel, rfl⟩
theorem dW_law_744 : zd code 744 (.invokevirtual 79) 3 747 := ⟨by decide +kernel, rfl⟩
theorem dW_law_747 : zd code 747 (.aload_n 2) 1 748 := ⟨by decide +kernel, rfl⟩
theorem dW_law_748 : zd code 748 (.aload_n 0) 1 749 := ⟨by decide +kernel, rfl⟩
theorem dW_law_749 : zd code 749 (.iload_n 3) 1 750 := ⟨by decide +kernel, rfl⟩
theorem dW_law_750 : zd code 750 (.iconst 1) 1 751 := ⟨by decide +kernel, rfl⟩
theorem dW_law_751 : zd code 751 .iadd 1 752 := ⟨by decide +kernel, rfl⟩
theorem dW_law_752 : zd code 752 .iaload 1 753 := ⟨by decide +kernel, rfl⟩
theorem dW_law_753 : zd code 753 (.aload_n 0) 1 754 := ⟨by decide +kernel, rfl⟩
theorem dW_law_754 : zd code 754 (.iload_n 3) 1 755 := ⟨by decide +kernel, rfl⟩
theorem dW_law_755 : zd code 755 (.iconst 2) 1 756 := ⟨by decide +kernel, rfl⟩
theorem dW_law_756 : zd code 756 .iadd 1 757 := ⟨by decide +kernel, rfl⟩
theorem dW_law_757 : zd code 757 .iaload 1 758 := ⟨by decide +kernel, rfl⟩
theorem dW_law_758 : zd code 758 (.aload_n 0) 1 759 := ⟨by decide +kernel, rfl⟩
theorem dW_law_759 : zd code 759 (.iload_n 3) 1 760 := ⟨by decide +kernel, rfl⟩
theorem dW_law_760 : zd code 760 (.iconst 3) 1 761 := ⟨by decide +kernel, rfl⟩
theorem dW_law_761 : zd code 761 .iadd 1 762 := ⟨by decide +kernel, rfl⟩
theorem dW_law_762 : zd code 762 .iaload 1 763 := ⟨by decide +kernel, rfl⟩
theorem dW_law_763 : zd code 763 (.aload_n 0) 1 764 := ⟨by decide +kernel, rfl⟩
theorem dW_law_764 : zd code 764 (.iload_n 3) 1 765 := ⟨by decide +kernel, rfl⟩
theorem dW_law_765 : zd code 765 (.iconst 4) 1 766 := ⟨by decide +kernel, rfl⟩
theorem dW_law_766 : zd code 766 .iadd 1 767 := ⟨by decide +kernel, rfl⟩
theorem dW_law_767 : zd code 767 .iaload 1 768 := ⟨by decide +kernel, rfl⟩
theorem dW_law_768 : zd code 768 (.invokevirtual 83) 3 771 := ⟨by decide +kernel, rfl⟩
theorem dW_law_771 : zdb code 771 (.if_icmp .eq 717) 717 774 1488 := ⟨by decide +kernel, rfl, by decide⟩
theorem dW_law_774 : zd code 774 (.iconst 0) 1 775 := ⟨by decide +kernel, rfl⟩
theorem dW_law_775 : zd code 775 .ireturn 1 776 := ⟨by decide +kernel, rfl⟩
theorem dW_law_776 : zd code 776 (.aload_n 1) 1 777 := ⟨by decide +kernel, rfl⟩
theorem dW_law_777 : zd code 777 (.aload_n 0) 1 778 := ⟨by decide +kernel, rfl⟩
theorem dW_law_778 : zd code 778 (.iload_n 3) 1 779 := ⟨by decide +kernel, rfl⟩
theorem dW_law_779 : zd code 779 (.iconst 1) 1 780 := ⟨by decide +kernel, rfl⟩
theorem dW_law_780 : zd code 780 .iadd 1 781 := ⟨by decide +kernel, rfl⟩
theorem dW_law_781 : zd code 781 .iaload 1 782 := ⟨by decide +kernel, rfl⟩
theorem dW_law_782 : zd code 782 (.invokevirtual 84) 3 785 := ⟨by decide +kernel, rfl⟩
theorem dW_law_785 : zd code 785 (.aload_n 2) 1 786 := ⟨by decide +kernel, rfl⟩
theorem dW_law_786 : zd code 786 (.aload_n 0) 1 787 := ⟨by decide +kernel, rfl⟩
theorem dW_law_787 : zd code 787 (.iload_n 3) 1 788 := ⟨by decide +kernel, rfl⟩
theorem dW_law_788 : zd code 788 (.iconst 1) 1 789 := ⟨by decide +kernel, rfl⟩
theorem dW_law_789 : zd code 789 .iadd 1 790 := ⟨by decide +kernel, rfl⟩
theorem dW_law_790 : zd code 790 .iaload 1 791 := ⟨by decide +kernel, rfl⟩
theorem dW_law_791 : zd code 791 (.invokevirtual 87) 3 794 := ⟨by decide +kernel, rfl⟩
theorem dW_law_794 : zdb code 794 (.if_icmp .eq 694) 694 797 1488 := ⟨by decide +kernel, rfl, by decide⟩
theorem dW_law_797 : zd code 797 (.iconst 0) 1 798 := ⟨by decide +kernel, rfl⟩
theorem dW_law_798 : zd code 798 .ireturn 1 799 := ⟨by decide +kernel, rfl⟩
theorem dW_law_799 : zd code 799 (.aload_n 1) 1 800 := ⟨by decide +kernel, rfl⟩
theorem dW_law_800 : zd code 800 (.aload_n 0) 1 801 := ⟨by decide +kernel, rfl⟩
theorem dW_law_801 : zd code 801 (.iload_n 3) 1 802 := ⟨by decide +kernel, rfl⟩
theorem dW_law_802 : zd code 802 (.iconst 1) 1 803 := ⟨by decide +kernel, rfl⟩
theorem dW_law_803 : zd code 803 .iadd 1 804 := ⟨by decide +kernel, rfl⟩
theorem dW_law_804 : zd code 804 .iaload 1 805 := ⟨by decide +kernel, rfl⟩
theorem dW_law_805 : zd code 805 (.invokevirtual 88) 3 808 := ⟨by decide +kernel, rfl⟩
theorem dW_law_808 : zd code 808 (.aload_n 2) 1 809 := ⟨by decide +kernel, rfl⟩
theorem dW_law_809 : zd code 809 (.aload_n 0) 1 810 := ⟨by decide +kernel, rfl⟩
theorem dW_law_810 : zd code 810 (.iload_n 3) 1 811 := ⟨by decide +kernel, rfl⟩
theorem dW_law_811 : zd code 811 (.iconst 1) 1 812 := ⟨by decide +kernel, rfl⟩
theorem dW_law_812 : zd code 812 .iadd 1 813 := ⟨by decide +kernel, rfl⟩
theorem dW_law_813 : zd code 813 .iaload 1 814 := ⟨by decide +kernel, rfl⟩
theorem dW_law_814 : zd code 814 (.invokevirtual 91) 3 817 := ⟨by decide +kernel, rfl⟩
theorem dW_law_817 : zdb code 817 (.if_icmp .eq 671) 671 820 1488 := ⟨by decide +kernel, rfl, by decide⟩
theorem dW_law_820 : zd code 820 (.iconst 0) 1 821 := ⟨by decide +kernel, rfl⟩
theorem dW_law_821 : zd code 821 .ireturn 1 822 := ⟨by decide +kernel, rfl⟩
theorem dW_law_822 : zd code 822 (.aload_n 1) 1 823 := ⟨by decide +kernel, rfl⟩
theorem dW_law_823 : zd code 823 (.aload_n 0) 1 824 := ⟨by decide +kernel, rfl⟩
theorem dW_law_824 : zd code 824 (.iload_n 3) 1 825 := ⟨by decide +kernel, rfl⟩
theorem dW_law_825 : zd code 825 (.iconst 1) 1 826 := ⟨by decide +kernel, rfl⟩
theorem dW_law_826 : zd code 826 .iadd 1 827 := ⟨by decide +kernel, rfl⟩
theorem dW_law_827 : zd code 827 .iaload 1 828 := ⟨by decide +kernel, rfl⟩
theorem dW_law_828 : zd code 828 (.invokevirtual 92) 3 831 := ⟨by decide +kernel, rfl⟩
theorem dW_law_831 : zd code 831 (.aload_n 2) 1 832 := ⟨by decide +kernel, rfl⟩
theorem dW_law_832 : zd code 832 (.aload_n 0) 1 833 := ⟨by decide +kernel, rfl⟩
theorem dW_law_833 : zd code 833 (.iload_n 3) 1 834 := ⟨by decide +kernel, rfl⟩
theorem dW_law_834 : zd code 834 (.iconst 1) 1 835 := ⟨by decide +kernel, rfl⟩
theorem dW_law_835 : zd code 835 .iadd 1 836 := ⟨by decide +kernel, rfl⟩
theorem dW_law_836 : zd code 836 .iaload 1 837 := ⟨by decide +kernel, rfl⟩
theorem dW_law_837 : zd code 837 (.invokevirtual 95) 3 840 := ⟨by decide +kernel, rfl⟩
theorem dW_law_840 : zdb code 840 (.if_icmp .eq 648) 648 843 1488 := ⟨by decide +kernel, rfl, by decide⟩
theorem dW_law_843 : zd code 843 (.iconst 0) 1 844 := ⟨by decide +kernel, rfl⟩
theorem dW_law_844 : zd code 844 .ireturn 1 845 := ⟨by decide +kernel, rfl⟩
theorem dW_law_845 : zd code 845 (.aload_n 1) 1 846 := ⟨by decide +kernel, rfl⟩
theorem dW_law_846 : zd code 846 (.aload_n 0) 1 847 := ⟨by decide +kernel, rfl⟩
theorem dW_law_847 : zd code 847 (.iload_n 3) 1 848 := ⟨by decide +kernel, rfl⟩
theorem dW_law_848 : zd code 848 (.iconst 1) 1 849 := ⟨by decide +kernel, rfl⟩
theorem dW_law_849 : zd code 849 .iadd 1 850 := ⟨by decide +kernel, rfl⟩
theorem dW_law_850 : zd code 850 .iaload 1 851 := ⟨by decide +kernel, rfl⟩
theorem dW_law_851 : zd code 851 (.aload_n 0) 1 852 := ⟨by decide +kernel, rfl⟩
theorem dW_law_852 : zd code 852 (.iload_n 3) 1 853 := ⟨by decide +kernel, rfl⟩
theorem dW_law_853 : zd code 853 (.iconst 2) 1 854 := ⟨by decide +kernel, rfl⟩
theorem dW_law_854 : zd code 854 .iadd 1 855 := ⟨by decide +kernel, rfl⟩
theorem dW_law_855 : zd code 855 .iaload 1 856 := ⟨by decide +kernel, rfl⟩
theorem dW_law_856 : zd code 856 (.aload_n 0) 1 857 := ⟨by decide +kernel, rfl⟩
theorem dW_law_857 : zd code 857 (.iload_n 3) 1 858 := ⟨by decide +kernel, rfl⟩
theorem dW_law_858 : zd code 858 (.iconst 3) 1 859 := ⟨by decide +kernel, rfl⟩
theorem dW_law_859 : zd code 859 .iadd 1 860 := ⟨by decide +kernel, rfl⟩
theorem dW_law_860 : zd code 860 .iaload 1 861 := ⟨by decide +kernel, rfl⟩
theorem dW_law_861 : zd code 861 (.invokevirtual 96) 3 864 := ⟨by decide +kernel, rfl⟩
theorem dW_law_864 : zd code 864 (.aload_n 2) 1 865 := ⟨by decide +kernel, rfl⟩
theorem dW_law_865 : zd code 865 (.aload_n 0) 1 866 := ⟨by decide +kernel, rfl⟩
theorem dW_law_866 : zd code 866 (.iload_n 3) 1 867 := ⟨by decide +kernel, rfl⟩
theorem dW_law_867 : zd code 867 (.iconst 1) 1 868 := ⟨by decide +kernel, rfl⟩
theorem dW_law_868 : zd code 868 .iadd 1 869 := ⟨by decide +kernel, rfl⟩
theorem dW_law_869 : zd code 869 .iaload 1 870 := ⟨by decide +kernel, rfl⟩
theorem dW_law_870 : zd code 870 (.aload_n 0) 1 871 := ⟨by decide +kernel, rfl⟩
theorem dW_law_871 : zd code 871 (.iload_n 3) 1 872 := ⟨by decide +kernel, rfl⟩
theorem dW_law_872 : zd code 872 (.iconst 2) 1 873 := ⟨by decide +kernel, rfl⟩
theorem dW_law_873 : zd code 873 .iadd 1 874 := ⟨by decide +kernel, rfl⟩
theorem dW_law_874 : zd code 874 .iaload 1 875 := ⟨by decide +kernel, rfl⟩
theorem dW_law_875 : zd code 875 (.aload_n 0) 1 876 := ⟨by decide +kernel, rfl⟩
theorem dW_law_876 : zd code 876 (.iload_n 3) 1 877 := ⟨by decide +kernel, rfl⟩
theorem dW_law_877 : zd code 877 (.iconst 3) 1 878 := ⟨by decide +kernel, rfl⟩
theorem dW_law_878 : zd code 878 .iadd 1 879 := ⟨by decide +kernel, rfl⟩
theorem dW_law_879 : zd code 879 .iaload 1 880 := ⟨by decide +kernel, rfl⟩
theorem dW_law_880 : zd code 880 (.invokevirtual 99) 3 883 := ⟨by decide +kernel, rfl⟩
theorem dW_law_883 : zdb code 883 (.if_icmp .eq 605) 605 886 1488 := ⟨by decide +kernel, rfl, by decide⟩
theorem dW_law_886 : zd code 886 (.iconst 0) 1 887 := ⟨by decide +kernel, rfl⟩
theorem dW_law_887 : zd code 887 .ireturn 1 888 := ⟨by decide +kernel, rfl⟩
theorem dW_law_888 : zd code 888 (.aload_n 1) 1 889 := ⟨by decide +kernel, rfl⟩
theorem dW_law_889 : zd code 889 (.aload_n 0) 1 890 := ⟨by decide +kernel, rfl⟩
theorem dW_law_890 : zd code 890 (.iload_n 3) 1 891 := ⟨by decide +kernel, rfl⟩
theorem dW_law_891 : zd code 891 (.iconst 1) 1 892 := ⟨by decide +kernel, rfl⟩
theorem dW_law_892 : zd code 892 .iadd 1 893 := ⟨by decide +kernel, rfl⟩
theorem dW_law_893 : zd code 893 .iaload 1 894 := ⟨by decide +kernel, rfl⟩
theorem dW_law_894 : zd code 894 (.aload_n 0) 1 895 := ⟨by decide +kernel, rfl⟩
theorem dW_law_895 : zd code 895 (.iload_n 3) 1 896 := ⟨by decide +kernel, rfl⟩
theorem dW_law_896 : zd code 896 (.iconst 2) 1 897 := ⟨by decide +kernel, rfl⟩
theorem dW_law_897 : zd code 897 .iadd 1 898 := ⟨by decide +kernel, rfl⟩
theorem dW_law_898 : zd code 898 .iaload 1 899 := ⟨by decide +kernel, rfl⟩
theorem dW_law_899 : zd code 899 (.aload_n 0) 1 900 := ⟨by decide +kernel, rfl⟩
theorem dW_law_900 : zd code 900 (.iload_n 3) 1 901 := ⟨by decide +kernel, rfl⟩
theorem dW_law_901 : zd code 901 (.iconst 3) 1 902 := ⟨by decide +kernel, rfl⟩
theorem dW_law_902 : zd code 902 .iadd 1 903 := ⟨by decide +kernel, rfl⟩
theorem dW_law_903 : zd code 903 .iaload 1 904 := ⟨by decide +kernel, rfl⟩
theorem dW_law_904 : zd code 904 (.invokevirtual 100) 3 907 := ⟨by decide +kernel, rfl⟩
theorem dW_law_907 : zd code 907 (.aload_n 2) 1 908 := ⟨by decide +kernel, rfl⟩
theorem dW_law_908 : zd code 908 (.aload_n 0) 1 909 := ⟨by decide +kernel, rfl⟩
theorem dW_law_909 : zd code 909 (.iload_n 3) 1 910 := ⟨by decide +kernel, rfl⟩
theorem dW_law_910 : zd code 910 (.iconst 1) 1 911 := ⟨by decide +kernel, rfl⟩
theorem dW_law_911 : zd code 911 .iadd 1 912 := ⟨by decide +kernel, rfl⟩
theorem dW_law_912 : zd code 912 .iaload 1 913 := ⟨by decide +kernel, rfl⟩
theorem dW_law_913 : zd code 913 (.aload_n 0) 1 914 := ⟨by decide +kernel, rfl⟩
theorem dW_law_914 : zd code 914 (.iload_n 3) 1 915 := ⟨by decide +kernel, rfl⟩
theorem dW_law_915 : zd code 915 (.iconst 2) 1 916 := ⟨by decide +kernel, rfl⟩
theorem dW_law_916 : zd code 916 .iadd 1 917 := ⟨by decide +kernel, rfl⟩
theorem dW_law_917 : zd code 917 .iaload 1 918 := ⟨by decide +kernel, rfl⟩
theorem dW_law_918 : zd code 918 (.aload_n 0) 1 919 := ⟨by decide +kernel, rfl⟩
theorem dW_law_919 : zd code 919 (.iload_n 3) 1 920 := ⟨by decide +kernel, rfl⟩
theorem dW_law_920 : zd code 920 (.iconst 3) 1 921 := ⟨by decide +kernel, rfl⟩
theorem dW_law_921 : zd code 921 .iadd 1 922 := ⟨by decide +kernel, rfl⟩
theorem dW_law_922 : zd code 922 .iaload 1 923 := ⟨by decide +kernel, rfl⟩
theorem dW_law_923 : zd code 923 (.invokevirtual 103) 3 926 := ⟨by decide +kernel, rfl⟩
theorem dW_law_926 : zdb code 926 (.if_icmp .eq 562) 562 929 1488 := ⟨by decide +kernel, rfl, by decide⟩
theorem dW_law_929 : zd code 929 (.iconst 0) 1 930 := ⟨by decide +kernel, rfl⟩
theorem dW_law_930 : zd code 930 .ireturn 1 931 := ⟨by decide +kernel, rfl⟩
theorem dW_law_931 : zd code 931 (.aload_n 1) 1 932 := ⟨by decide +kernel, rfl⟩
theorem dW_law_932 : zd code 932 (.aload_n 0) 1 933 := ⟨by decide +kernel, rfl⟩
theorem dW_law_933 : zd code 933 (.iload_n 3) 1 934 := ⟨by decide +kernel, rfl⟩
theorem dW_law_934 : zd code 934 (.iconst 1) 1 935 := ⟨by decide +kernel, rfl⟩
theorem dW_law_935 : zd code 935 .iadd 1 936 := ⟨by decide +kernel, rfl⟩
theorem dW_law_936 : zd code 936 .iaload 1 937 := ⟨by decide +kernel, rfl⟩
theorem dW_law_937 : zd code 937 (.invokevirtual 104) 3 940 := ⟨by decide +kernel, rfl⟩
theorem dW_law_940 : zd code 940 (.aload_n 2) 1 941 := ⟨by decide +kernel, rfl⟩
theorem dW_law_941 : zd code 941 (.aload_n 0) 1 942 := ⟨by decide +kernel, rfl⟩
theorem dW_law_942 : zd code 942 (.iload_n 3) 1 943 := ⟨by decide +kernel, rfl⟩
theorem dW_law_943 : zd code 943 (.iconst 1) 1 944 := ⟨by decide +kernel, rfl⟩
theorem dW_law_944 : zd code 944 .iadd 1 945 := ⟨by decide +kernel, rfl⟩
theorem dW_law_945 : zd code 945 .iaload 1 946 := ⟨by decide +kernel, rfl⟩
theorem dW_law_946 : zd code 946 (.invokevirtual 107) 3 949 := ⟨by decide +kernel, rfl⟩
theorem dW_law_949 : zdb code 949 (.if_icmp .eq 539) 539 952 1488 := ⟨by decide +kernel, rfl, by decide⟩
theorem dW_law_952 : zd code 952 (.iconst 0) 1 953 := ⟨by decide +kernel, rfl⟩
theorem dW_law_953 : zd code 953 .ireturn 1 954 := ⟨by decide +kernel, rfl⟩
theorem dW_law_954 : zd code 954 (.aload_n 1) 1 955 := ⟨by decide +kernel, rfl⟩
theorem dW_law_955 : zd code 955 (.aload_n 0) 1 956 := ⟨by decide +kernel, rfl⟩
theorem dW_law_956 : zd code 956 (.iload_n 3) 1 957 := ⟨by decide +kernel, rfl⟩
theorem dW_law_957 : zd code 957 (.iconst 1) 1 958 := ⟨by decide +kernel, rfl⟩
theorem dW_law_958 : zd code 958 .iadd 1 959 := ⟨by decide +kernel, rfl⟩
theorem dW_law_959 : zd code 959 .iaload 1 960 := ⟨by decide +kernel, rfl⟩
theorem dW_law_960 : zd code 960 (.aload_n 0) 1 961 := ⟨by decide +kernel, rfl⟩
theorem dW_law_961 : zd code 961 (.iload_n 3) 1 962 := ⟨by decide +kernel, rfl⟩
theorem dW_law_962 : zd code 962 (.iconst 2) 1 963 := ⟨by decide +kernel, rfl⟩
theorem dW_law_963 : zd code 963 .iadd 1 964 := ⟨by decide +kernel, rfl⟩
theorem dW_law_964 : zd code 964 .iaload 1 965 := ⟨by decide +kernel, rfl⟩
theorem dW_law_965 : zd code 965 (.invokevirtual 108) 3 968 := ⟨by decide +kernel, rfl⟩
theorem dW_law_968 : zd code 968 (.aload_n 2) 1 969 := ⟨by decide +kernel, rfl⟩
theorem dW_law_969 : zd code 969 (.aload_n 0) 1 970 := ⟨by decide +kernel, rfl⟩
theorem dW_law_970 : zd code 970 (.iload_n 3) 1 971 := ⟨by decide +kernel, rfl⟩
theorem dW_law_971 : zd code 971 (.iconst 1) 1 972 := ⟨by decide +kernel, rfl⟩
theorem dW_law_972 : zd code 972 .iadd 1 973 := ⟨by decide +kernel, rfl⟩
theorem dW_law_973 : zd code 973 .iaload 1 974 := ⟨by decide +kernel, rfl⟩
theorem dW_law_974 : zd code 974 (.aload_n 0) 1 975 := ⟨by decide +kernel, rfl⟩
theorem dW_law_975 : zd code 975 (.iload_n 3) 1 976 := ⟨by decide +kernel, rfl⟩
theorem dW_law_976 : zd code 976 (.iconst 2) 1 977 := ⟨by decide +kernel, rfl⟩
theorem dW_law_977 : zd code 977 .iadd 1 978 := ⟨by decide +kernel, rfl⟩
theorem dW_law_978 : zd code 978 .iaload 1 979 := ⟨by decide +kernel, rfl⟩
theorem dW_law_979 : zd code 979 (.invokevirtual 111) 3 982 := ⟨by decide +kernel, rfl⟩
theorem dW_law_982 : zdb code 982 (.if_icmp .eq 506) 506 985 1488 := ⟨by decide +kernel, rfl, by decide⟩
theorem dW_law_985 : zd code 985 (.iconst 0) 1 986 := ⟨by decide +kernel, rfl⟩
theorem dW_law_986 : zd code 986 .ireturn 1 987 := ⟨by decide +kernel, rfl⟩
theorem dW_law_987 : zd code 987 (.aload_n 1) 1 988 := ⟨by decide +kernel, rfl⟩
theorem dW_law_988 : zd code 988 (.aload_n 0) 1 989 := ⟨by decide +kernel, rfl⟩
theorem dW_law_989 : zd code 989 (.iload_n 3) 1 990 := ⟨by decide +kernel, rfl⟩
theorem dW_law_990 : zd code 990 (.iconst 1) 1 991 := ⟨by decide +kernel, rfl⟩
theorem dW_law_991 : zd code 991 .iadd 1 992 := ⟨by decide +kernel, rfl⟩
theorem dW_law_992 : zd code 992 .iaload 1 993 := ⟨by decide +kernel, rfl⟩
theorem dW_law_993 : zd code 993 (.aload_n 0) 1 994 := ⟨by decide +kernel, rfl⟩
theorem dW_law_994 : zd code 994 (.iload_n 3) 1 995 := ⟨by decide +kernel, rfl⟩
theorem dW_law_995 : zd code 995 (.iconst 2) 1 996 := ⟨by decide +kernel, rfl⟩
theorem dW_law_996 : zd code 996 .iadd 1 997 := ⟨by decide +kernel, rfl⟩
theorem dW_law_997 : zd code 997 .iaload 1 998 := ⟨by decide +kernel, rfl⟩
theorem dW_law_998 : zd code 998 (.invokevirtual 112) 3 1001 := ⟨by decide +kernel, rfl⟩
theorem dW_law_1001 : zd code 1001 (.aload_n 2) 1 1002 := ⟨by decide +kernel, rfl⟩
theorem dW_law_1002 : zd code 1002 (.aload_n 0) 1 1003 := ⟨by decide +kernel, rfl⟩
theorem dW_law_1003 : zd code 1003 (.iload_n 3) 1 1004 := ⟨by decide +kernel, rfl⟩
theorem dW_law_1004 : zd code 1004 (.iconst 1) 1 1005 := ⟨by decide +kernel, rfl⟩
theorem dW_law_1005 : zd code 1005 .iadd 1 1006 := ⟨by decide +kernel, rfl⟩
theorem dW_law_1006 : zd code 1006 .iaload 1 1007 := ⟨by decide +kernel, rfl⟩
theorem dW_law_1007 : zd code 1007 (.aload_n 0) 1 1008 := ⟨by decide +kernel, rfl⟩
theorem dW_law_1008 : zd code 1008 (.iload_n 3) 1 1009 := ⟨by decide +kernel, rfl⟩
theorem dW_law_1009 : zd code 1009 (.iconst 2) 1 1010 := ⟨by decide +kernel, rfl⟩
theorem dW_law_1010 : zd code 1010 .iadd 1 1011 := ⟨by decide +kernel, rfl⟩
theorem dW_law_1011 : zd code 1011 .iaload 1 1012 := ⟨by decide +kernel, rfl⟩
theorem dW_law_1012 : zd code 1012 (.invokevirtual 115) 3 1015 := ⟨by decide +kernel, rfl⟩
theorem dW_law_1015 : zdb code 1015 (.if_icmp .eq 473) 473 1018 1488 := ⟨by decide +kernel, rfl, by decide⟩
theorem dW_law_1018 : zd code 1018 (.iconst 0) 1 1019 := ⟨by decide +kernel, rfl⟩
theorem dW_law_1019 : zd code 1019 .ireturn 1 1020 := ⟨by decide +kernel, rfl⟩
theorem dW_law_1020 : zd code 1020 (.aload_n 1) 1 1021 := ⟨by decide +kernel, rfl⟩
theorem dW_law_1021 : zd code 1021 (.aload_n 0) 1 1022 := ⟨by decide +kernel, rfl⟩
theorem dW_law_1022 : zd code 1022 (.iload_n 3) 1 1023 := ⟨by decide +kernel, rfl⟩
theorem dW_law_1023 : zd code 1023 (.iconst 1) 1 1024 := ⟨by decide +kernel, rfl⟩
theorem dW_law_1024 : zd code 1024 .iadd 1 1025 := ⟨by decide +kernel, rfl⟩
theorem dW_law_1025 : zd code 1025 .iaload 1 1026 := ⟨by decide +kernel, rfl⟩
theorem dW_law_1026 : zd code 1026 (.aload_n 0) 1 1027 := ⟨by decide +kernel, rfl⟩
theorem dW_law_1027 : zd code 1027 (.iload_n 3) 1 1028 := ⟨by decide +kernel, rfl⟩
theorem dW_law_1028 : zd code 1028 (.iconst 2) 1 1029 := ⟨by decide +kernel, rfl⟩
theorem dW_law_1029 : zd code 1029 .iadd 1 1030 := ⟨by decide +kernel, rfl⟩
theorem dW_law_1030 : zd code 1030 .iaload 1 1031 := ⟨by decide +kernel, rfl⟩
theorem dW_law_1031 : zd code 1031 (.aload_n 0) 1 1032 := ⟨by decide +kernel, rfl⟩
theorem dW_law_1032 : zd code 1032 (.iload_n 3) 1 1033 := ⟨by decide +kernel, rfl⟩
theorem dW_law_1033 : zd code 1033 (.iconst 3) 1 1034 := ⟨by decide +kernel, rfl⟩
theorem dW_law_1034 : zd code 1034 .iadd 1 1035 := ⟨by decide +kernel, rfl⟩
theorem dW_law_1035 : zd code 1035 .iaload 1 1036 := ⟨by decide +kernel, rfl⟩
theorem dW_law_1036 : zd code 1036 (.invokevirtual 116) 3 1039 := ⟨by decide +kernel, rfl⟩
theorem dW_law_1039 : zd code 1039 (.aload_n 2) 1 1040 := ⟨by decide +kernel, rfl⟩
theorem dW_law_1040 : zd code 1040 (.aload_n 0) 1 1041 := ⟨by decide +kernel, rfl⟩
theorem dW_law_1041 : zd code 1041 (.iload_n 3) 1 1042 := ⟨by decide +kernel, rfl⟩
theorem dW_law_1042 : zd code 1042 (.iconst 1) 1 1043 := ⟨by decide +kernel, rfl⟩
theorem dW_law_1043 : zd code 1043 .iadd 1 1044 := ⟨by decide +kernel, rfl⟩
theorem dW_law_1044 : zd code 1044 .iaload 1 1045 := ⟨by decide +kernel, rfl⟩
theorem dW_law_1045 : zd code 1045 (.aload_n 0) 1 1046 := ⟨by decide +kernel, rfl⟩
theorem dW_law_1046 : zd code 1046 (.iload_n 3) 1 1047 := ⟨by decide +kernel, rfl⟩
theorem dW_law_1047 : zd code 1047 (.iconst 2) 1 1048 := ⟨by decide +kernel, rfl⟩
theorem dW_law_1048 : zd code 1048 .iadd 1 1049 := ⟨by decide +kernel, rfl⟩
theorem dW_law_1049 : zd code 1049 .iaload 1 1050 := ⟨by decide +kernel, rfl⟩
theorem dW_law_1050 : zd code 1050 (.aload_n 0) 1 1051 := ⟨by decide +kernel, rfl⟩
theorem dW_law_1051 : zd code 1051 (.iload_n 3) 1 1052 := ⟨by decide +kernel, rfl⟩
theorem dW_law_1052 : zd code 1052 (.iconst 3) 1 1053 := ⟨by decide +kernel, rfl⟩
theorem dW_law_1053 : zd code 1053 .iadd 1 1054 := ⟨by decide +kernel, rfl⟩
theorem dW_law_1054 : zd code 1054 .iaload 1 1055 := ⟨by decide +kernel, rfl⟩
theorem dW_law_1055 : zd code 1055 (.invokevirtual 119) 3 1058 := ⟨by decide +kernel, rfl⟩
theorem dW_law_1058 : zdb code 1058 (.if_icmp .eq 430) 430 1061 1488 := ⟨by decide +kernel, rfl, by decide⟩
theorem dW_law_1061 : zd code 1061 (.iconst 0) 1 1062 := ⟨by decide +kernel, rfl⟩
theorem dW_law_1062 : zd code 1062 .ireturn 1 1063 := ⟨by decide +kernel, rfl⟩
theorem dW_law_1063 : zd code 1063 (.aload_n 1) 1 1064 := ⟨by decide +kernel, rfl⟩
theorem dW_law_1064 : zd code 1064 (.aload_n 0) 1 1065 := ⟨by decide +kernel, rfl⟩
theorem dW_law_1065 : zd code 1065 (.iload_n 3) 1 1066 := ⟨by decide +kernel, rfl⟩
theorem dW_law_1066 : zd code 1066 (.iconst 1) 1 1067 := ⟨by decide +kernel, rfl⟩
theorem dW_law_1067 : zd code 1067 .iadd 1 1068 := ⟨by decide +kernel, rfl⟩
theorem dW_law_1068 : zd code 1068 .iaload 1 1069 := ⟨by decide +kernel, rfl⟩
theorem dW_law_1069 : zd code 1069 (.invokevirtual 120) 3 1072 := ⟨by decide +kernel, rfl⟩
theorem dW_law_1072 : zd code 1072 (.aload_n 2) 1 1073 := ⟨by decide +kernel, rfl⟩
theorem dW_law_1073 : zd code 1073 (.aload_n 0) 1 1074 := ⟨by decide +kernel, rfl⟩
theorem dW_law_1074 : zd code 1074 (.iload_n 3) 1 1075 := ⟨by decide +kernel, rfl⟩
theorem dW_law_1075 : zd code 1075 (.iconst 1) 1 1076 := ⟨by decide +kernel, rfl⟩
theorem dW_law_1076 : zd code 1076 .iadd 1 1077 := ⟨by decide +kernel, rfl⟩
theorem dW_law_1077 : zd code 1077 .iaload 1 1078 := ⟨by decide +kernel, rfl⟩
theorem dW_law_1078 : zd code 1078 (.invokevirtual 123) 3 1081 := ⟨by decide +kernel, rfl⟩
theorem dW_law_1081 : zdb code 1081 (.if_icmp .eq 407) 407 1084 1488 := ⟨by decide +kernel, rfl, by decide⟩
theorem dW_law_1084 : zd code 1084 (.iconst 0) 1 1085 := ⟨by decide +kernel, rfl⟩
theorem dW_law_1085 : zd code 1085 .ireturn 1 1086 := ⟨by decide +kernel, rfl⟩
theorem dW_law_1086 : zd code 1086 (.aload_n 1) 1 1087 := ⟨by decide +kernel, rfl⟩
theorem dW_law_1087 : zd code 1087 (.aload_n 0) 1 1088 := ⟨by decide +kernel, rfl⟩
theorem dW_law_1088 : zd code 1088 (.iload_n 3) 1 1089 := ⟨by decide +kernel, rfl⟩
theorem dW_law_1089 : zd code 1089 (.iconst 1) 1 1090 := ⟨by decide +kernel, rfl⟩
theorem dW_law_1090 : zd code 1090 .iadd 1 1091 := ⟨by decide +kernel, rfl⟩
theorem dW_law_1091 : zd code 1091 .iaload 1 1092 := ⟨by decide +kernel, rfl⟩
theorem dW_law_1092 : zd code 1092 (.aload_n 0) 1 1093 := ⟨by decide +kernel, rfl⟩
theorem dW_law_1093 : zd code 1093 (.iload_n 3) 1 1094 := ⟨by decide +kernel, rfl⟩
theorem dW_law_1094 : zd code 1094 (.iconst 2) 1 1095 := ⟨by decide +kernel, rfl⟩
theorem dW_law_1095 : zd code 1095 .iadd 1 1096 := ⟨by decide +kernel, rfl⟩
theorem dW_law_1096 : zd code 1096 .iaload 1 1097 := ⟨by decide +kernel, rfl⟩
theorem dW_law_1097 : zd code 1097 (.invokevirtual 124) 3 1100 := ⟨by decide +kernel, rfl⟩
theorem dW_law_1100 : zd code 1100 (.aload_n 2) 1 1101 := ⟨by decide +kernel, rfl⟩
theorem dW_law_1101 : zd code 1101 (.aload_n 0) 1 1102 := ⟨by decide +kernel, rfl⟩
theorem dW_law_1102 : zd code 1102 (.iload_n 3) 1 1103 := ⟨by decide +kernel, rfl⟩
theorem dW_law_1103 : zd code 1103 (.iconst 1) 1 1104 := ⟨by decide +kernel, rfl⟩
theorem dW_law_1104 : zd code 1104 .iadd 1 1105 := ⟨by decide +kernel, rfl⟩
theorem dW_law_1105 : zd code 1105 .iaload 1 1106 := ⟨by decide +kernel, rfl⟩
theorem dW_law_1106 : zd code 1106 (.aload_n 0) 1 1107 := ⟨by decide +kernel, rfl⟩
theorem dW_law_1107 : zd code 1107 (.iload_n 3) 1 1108 := ⟨by decide +kernel, rfl⟩
theorem dW_law_1108 : zd code 1108 (.iconst 2) 1 1109 := ⟨by decide +kernel, rfl⟩
theorem dW_law_1109 : zd code 1109 .iadd 1 1110 := ⟨by decide +kernel, rfl⟩
theorem dW_law_1110 : zd code 1110 .iaload 1 1111 := ⟨by decide +kernel, rfl⟩
theorem dW_law_1111 : zd code 1111 (.invokevirtual 127) 3 1114 := ⟨by decide +kernel, rfl⟩
theorem dW_law_1114 : zdb code 1114 (.if_icmp .eq 374) 374 1117 1488 := ⟨by decide +kernel, rfl, by decide⟩
theorem dW_law_1117 : zd code 1117 (.iconst 0) 1 1118 := ⟨by decide +kernel, rfl⟩
theorem dW_law_1118 : zd code 1118 .ireturn 1 1119 := ⟨by decide +kernel, rfl⟩
theorem dW_law_1119 : zd code 1119 (.aload_n 1) 1 1120 := ⟨by decide +kernel, rfl⟩
theorem dW_law_1120 : zd code 1120 (.aload_n 0) 1 1121 := ⟨by decide +kernel, rfl⟩
theorem dW_law_1121 : zd code 1121 (.iload_n 3) 1 1122 := ⟨by decide +kernel, rfl⟩
theorem dW_law_1122 : zd code 1122 (.iconst 1) 1 1123 := ⟨by decide +kernel, rfl⟩
theorem dW_law_1123 : zd code 1123 .iadd 1 1124 := ⟨by decide +kernel, rfl⟩
theorem dW_law_1124 : zd code 1124 .iaload 1 1125 := ⟨by decide +kernel, rfl⟩
theorem dW_law_1125 : zd code 1125 (.aload_n 0) 1 1126 := ⟨by decide +kernel, rfl⟩
theorem dW_law_1126 : zd code 1126 (.iload_n 3) 1 1127 := ⟨by decide +kernel, rfl⟩
theorem dW_law_1127 : zd code 1127 (.iconst 2) 1 1128 := ⟨by decide +kernel, rfl⟩
theorem dW_law_1128 : zd code 1128 .iadd 1 1129 := ⟨by decide +kernel, rfl⟩
theorem dW_law_1129 : zd code 1129 .iaload 1 1130 := ⟨by decide +kernel, rfl⟩
theorem dW_law_1130 : zd code 1130 (.aload_n 0) 1 1131 := ⟨by decide +kernel, rfl⟩
theorem dW_law_1131 : zd code 1131 (.iload_n 3) 1 1132 := ⟨by decide +kernel, rfl⟩
theorem dW_law_1132 : zd code 1132 (.iconst 3) 1 1133 := ⟨by decide +kernel, rfl⟩
theorem dW_law_1133 : zd code 1133 .iadd 1 1134 := ⟨by decide +kernel, rfl⟩
theorem dW_law_1134 : zd code 1134 .iaload 1 1135 := ⟨by decide +kernel, rfl⟩
theorem dW_law_1135 : zd code 1135 (.invokevirtual 128) 3 1138 := ⟨by decide +kernel, rfl⟩
theorem dW_law_1138 : zd code 1138 (.aload_n 2) 1 1139 := ⟨by decide +kernel, rfl⟩
theorem dW_law_1139 : zd code 1139 (.aload_n 0) 1 1140 := ⟨by decide +kernel, rfl⟩
theorem dW_law_1140 : zd code 1140 (.iload_n 3) 1 1141 := ⟨by decide +kernel, rfl⟩
theorem dW_law_1141 : zd code 1141 (.iconst 1) 1 1142 := ⟨by decide +kernel, rfl⟩
theorem dW_law_1142 : zd code 1142 .iadd 1 1143 := ⟨by decide +kernel, rfl⟩
theorem dW_law_1143 : zd code 1143 .iaload 1 1144 := ⟨by decide +kernel, rfl⟩
theorem dW_law_1144 : zd code 1144 (.aload_n 0) 1 1145 := ⟨by decide +kernel, rfl⟩
theorem dW_law_1145 : zd code 1145 (.iload_n 3) 1 1146 := ⟨by decide +kernel, rfl⟩
theorem dW_law_1146 : zd code 1146 (.iconst 2) 1 1147 := ⟨by decide +kernel, rfl⟩
theorem dW_law_1147 : zd code 1147 .iadd 1 1148 := ⟨by decide +kernel, rfl⟩
theorem dW_law_1148 : zd code 1148 .iaload 1 1149 := ⟨by decide +kernel, rfl⟩
theorem dW_law_1149 : zd code 1149 (.aload_n 0) 1 1150 := ⟨by decide +kernel, rfl⟩
theorem dW_law_1150 : zd code 1150 (.iload_n 3) 1 1151 := ⟨by decide +kernel, rfl⟩
theorem dW_law_1151 : zd code 1151 (.iconst 3) 1 1152 := ⟨by decide +kernel, rfl⟩
theorem dW_law_1152 : zd code 1152 .iadd 1 1153 := ⟨by decide +kernel, rfl⟩
theorem dW_law_1153 : zd code 1153 .iaload 1 1154 := ⟨by decide +kernel, rfl⟩
theorem dW_law_1154 : zd code 1154 (.invokevirtual 131) 3 1157 := ⟨by decide +kernel, rfl⟩
theorem dW_law_1157 : zdb code 1157 (.if_icmp .eq 331) 331 1160 1488 := ⟨by decide +kernel, rfl, by decide⟩
theorem dW_law_1160 : zd code 1160 (.iconst 0) 1 1161 := ⟨by decide +kernel, rfl⟩
theorem dW_law_1161 : zd code 1161 .ireturn 1 1162 := ⟨by decide +kernel, rfl⟩
theorem dW_law_1162 : zd code 1162 (.aload_n 1) 1 1163 := ⟨by decide +kernel, rfl⟩
theorem dW_law_1163 : zd code 1163 (.aload_n 0) 1 1164 := ⟨by decide +kernel, rfl⟩
theorem dW_law_1164 : zd code 1164 (.iload_n 3) 1 1165 := ⟨by decide +kernel, rfl⟩
theorem dW_law_1165 : zd code 1165 (.iconst 1) 1 1166 := ⟨by decide +kernel, rfl⟩
theorem dW_law_1166 : zd code 1166 .iadd 1 1167 := ⟨by decide +kernel, rfl⟩
theorem dW_law_1167 : zd code 1167 .iaload 1 1168 := ⟨by decide +kernel, rfl⟩
theorem dW_law_1168 : zd code 1168 (.invokevirtual 132) 3 1171 := ⟨by decide +kernel, rfl⟩
theorem dW_law_1171 : zd code 1171 (.aload_n 2) 1 1172 := ⟨by decide +kernel, rfl⟩
theorem dW_law_1172 : zd code 1172 (.aload_n 0) 1 1173 := ⟨by decide +kernel, rfl⟩
theorem dW_law_1173 : zd code 1173 (.iload_n 3) 1 1174 := ⟨by decide +kernel, rfl⟩
theorem dW_law_1174 : zd code 1174 (.iconst 1) 1 1175 := ⟨by decide +kernel, rfl⟩
theorem dW_law_1175 : zd code 1175 .iadd 1 1176 := ⟨by decide +kernel, rfl⟩
theorem dW_law_1176 : zd code 1176 .iaload 1 1177 := ⟨by decide +kernel, rfl⟩
theorem dW_law_1177 : zd code 1177 (.invokevirtual 135) 3 1180 := ⟨by decide +kernel, rfl⟩
theorem dW_law_1180 : zdb code 1180 (.if_icmp .eq 308) 308 1183 1488 := ⟨by decide +kernel, rfl, by decide⟩
theorem dW_law_1183 : zd code 1183 (.iconst 0) 1 1184 := ⟨by decide +kernel, rfl⟩
theorem dW_law_1184 : zd code 1184 .ireturn 1 1185 := ⟨by decide +kernel, rfl⟩
theorem dW_law_1185 : zd code 1185 (.aload_n 1) 1 1186 := ⟨by decide +kernel, rfl⟩
theorem dW_law_1186 : zd code 1186 (.aload_n 0) 1 1187 := ⟨by decide +kernel, rfl⟩
theorem dW_law_1187 : zd code 1187 (.iload_n 3) 1 1188 := ⟨by decide +kernel, rfl⟩
theorem dW_law_1188 : zd code 1188 (.iconst 1) 1 1189 := ⟨by decide +kernel, rfl⟩
theorem dW_law_1189 : zd code 1189 .iadd 1 1190 := ⟨by decide +kernel, rfl⟩
theorem dW_law_1190 : zd code 1190 .iaload 1 1191 := ⟨by decide +kernel, rfl⟩
theorem dW_law_1191 : zd code 1191 (.aload_n 0) 1 1192 := ⟨by decide +kernel, rfl⟩
theorem dW_law_1192 : zd code 1192 (.iload_n 3) 1 1193 := ⟨by decide +kernel, rfl⟩
theorem dW_law_1193 : zd code 1193 (.iconst 2) 1 1194 := ⟨by decide +kernel, rfl⟩
theorem dW_law_1194 : zd code 1194 .iadd 1 1195 := ⟨by decide +kernel, rfl⟩
theorem dW_law_1195 : zd code 1195 .iaload 1 1196 := ⟨by decide +kernel, rfl⟩
theorem dW_law_1196 : zd code 1196 (.aload_n 0) 1 1197 := ⟨by decide +kernel, rfl⟩
theorem dW_law_1197 : zd code 1197 (.iload_n 3) 1 1198 := ⟨by decide +kernel, rfl⟩
theorem dW_law_1198 : zd code 1198 (.iconst 3) 1 1199 := ⟨by decide +kernel, rfl⟩
theorem dW_law_1199 : zd code 1199 .iadd 1 1200 := ⟨by decide +kernel, rfl⟩
theorem dW_law_1200 : zd code 1200 .iaload 1 1201 := ⟨by decide +kernel, rfl⟩
theorem dW_law_1201 : zd code 1201 (.invokevirtual 136) 3 1204 := ⟨by decide +kernel, rfl⟩
theorem dW_law_1204 : zd code 1204 (.aload_n 2) 1 1205 := ⟨by decide +kernel, rfl⟩
theorem dW_law_1205 : zd code 1205 (.aload_n 0) 1 1206 := ⟨by decide +kernel, rfl⟩
theorem dW_law_1206 : zd code 1206 (.iload_n 3) 1 1207 := ⟨by decide +kernel, rfl⟩
theorem dW_law_1207 : zd code 1207 (.iconst 1) 1 1208 := ⟨by decide +kernel, rfl⟩
theorem dW_law_1208 : zd code 1208 .iadd 1 1209 := ⟨by decide +kernel, rfl⟩
theorem dW_law_1209 : zd code 1209 .iaload 1 1210 := ⟨by decide +kernel, rfl⟩
theorem dW_law_1210 : zd code 1210 (.aload_n 0) 1 1211 := ⟨by decide +kernel, rfl⟩
theorem dW_law_1211 : zd code 1211 (.iload_n 3) 1 1212 := ⟨by decide +kernel, rfl⟩
theorem dW_law_1212 : zd code 1212 (.iconst 2) 1 1213 := ⟨by decide +kernel, rfl⟩
theorem dW_law_1213 : zd code 1213 .iadd 1 1214 := ⟨by decide +kernel, rfl⟩
theorem dW_law_1214 : zd code 1214 .iaload 1 1215 := ⟨by decide +kernel, rfl⟩
theorem dW_law_1215 : zd code 1215 (.aload_n 0) 1 1216 := ⟨by decide +kernel, rfl⟩
theorem dW_law_1216 : zd code 1216 (.iload_n 3) 1 1217 := ⟨by decide +kernel, rfl⟩
theorem dW_law_1217 : zd code 1217 (.iconst 3) 1 1218 := ⟨by decide +kernel, rfl⟩
theorem dW_law_1218 : zd code 1218 .iadd 1 1219 := ⟨by decide +kernel, rfl⟩
theorem dW_law_1219 : zd code 1219 .iaload 1 1220 := ⟨by decide +kernel, rfl⟩
theorem dW_law_1220 : zd code 1220 (.invokevirtual 139) 3 1223 := ⟨by decide +kernel, rfl⟩
theorem dW_law_1223 : zdb code 1223 (.if_icmp .eq 265) 265 1226 1488 := ⟨by decide +kernel, rfl, by decide⟩
theorem dW_law_1226 : zd code 1226 (.iconst 0) 1 1227 := ⟨by decide +kernel, rfl⟩
theorem dW_law_1227 : zd code 1227 .ireturn 1 1228 := ⟨by decide +kernel, rfl⟩
theorem dW_law_1228 : zd code 1228 (.aload_n 1) 1 1229 := ⟨by decide +kernel, rfl⟩
theorem dW_law_1229 : zd code 1229 (.aload_n 0) 1 1230 := ⟨by decide +kernel, rfl⟩
theorem dW_law_1230 : zd code 1230 (.iload_n 3) 1 1231 := ⟨by decide +kernel, rfl⟩
theorem dW_law_1231 : zd code 1231 (.iconst 1) 1 1232 := ⟨by decide +kernel, rfl⟩
theorem dW_law_1232 : zd code 1232 .iadd 1 1233 := ⟨by decide +kernel, rfl⟩
theorem dW_law_1233 : zd code 1233 .iaload 1 1234 := ⟨by decide +kernel, rfl⟩
theorem dW_law_1234 : zd code 1234 (.aload_n 0) 1 1235 := ⟨by decide +kernel, rfl⟩
theorem dW_law_1235 : zd code 1235 (.iload_n 3) 1 1236 := ⟨by decide +kernel, rfl⟩
theorem dW_law_1236 : zd code 1236 (.iconst 2) 1 1237 := ⟨by decide +kernel, rfl⟩
theorem dW_law_1237 : zd code 1237 .iadd 1 1238 := ⟨by decide +kernel, rfl⟩
theorem dW_law_1238 : zd code 1238 .iaload 1 1239 := ⟨by decide +kernel, rfl⟩
theorem dW_law_1239 : zd code 1239 (.aload_n 0) 1 1240 := ⟨by decide +kernel, rfl⟩
theorem dW_law_1240 : zd code 1240 (.iload_n 3) 1 1241 := ⟨by decide +kernel, rfl⟩
theorem dW_law_1241 : zd code 1241 (.iconst 3) 1 1242 := ⟨by decide +kernel, rfl⟩
theorem dW_law_1242 : zd code 1242 .iadd 1 1243 := ⟨by decide +kernel, rfl⟩
theorem dW_law_1243 : zd code 1243 .iaload 1 1244 := ⟨by decide +kernel, rfl⟩
theorem dW_law_1244 : zd code 1244 (.invokevirtual 140) 3 1247 := ⟨by decide +kernel, rfl⟩
theorem dW_law_1247 : zd code 1247 (.aload_n 2) 1 1248 := ⟨by decide +kernel, rfl⟩
theorem dW_law_1248 : zd code 1248 (.aload_n 0) 1 1249 := ⟨by decide +kernel, rfl⟩
theorem dW_law_1249 : zd code 1249 (.iload_n 3) 1 1250 := ⟨by decide +kernel, rfl⟩
theorem dW_law_1250 : zd code 1250 (.iconst 1) 1 1251 := ⟨by decide +kernel, rfl⟩
theorem dW_law_1251 : zd code 1251 .iadd 1 1252 := ⟨by decide +kernel, rfl⟩
theorem dW_law_1252 : zd code 1252 .iaload 1 1253 := ⟨by decide +kernel, rfl⟩
theorem dW_law_1253 : zd code 1253 (.aload_n 0) 1 1254 := ⟨by decide +kernel, rfl⟩
theorem dW_law_1254 : zd code 1254 (.iload_n 3) 1 1255 := ⟨by decide +kernel, rfl⟩
theorem dW_law_1255 : zd code 1255 (.iconst 2) 1 1256 := ⟨by decide +kernel, rfl⟩
theorem dW_law_1256 : zd code 1256 .iadd 1 1257 := ⟨by decide +kernel, rfl⟩
theorem dW_law_1257 : zd code 1257 .iaload 1 1258 := ⟨by decide +kernel, rfl⟩
theorem dW_law_1258 : zd code 1258 (.aload_n 0) 1 1259 := ⟨by decide +kernel, rfl⟩
theorem dW_law_1259 : zd code 1259 (.iload_n 3) 1 1260 := ⟨by decide +kernel, rfl⟩
theorem dW_law_1260 : zd code 1260 (.iconst 3) 1 1261 := ⟨by decide +kernel, rfl⟩
theorem dW_law_1261 : zd code 1261 .iadd 1 1262 := ⟨by decide +kernel, rfl⟩
theorem dW_law_1262 : zd code 1262 .iaload 1 1263 := ⟨by decide +kernel, rfl⟩
theorem dW_law_1263 : zd code 1263 (.invokevirtual 143) 3 1266 := ⟨by decide +kernel, rfl⟩
theorem dW_law_1266 : zdb code 1266 (.if_icmp .eq 222) 222 1269 1488 := ⟨by decide +kernel, rfl, by decide⟩
theorem dW_law_1269 : zd code 1269 (.iconst 0) 1 1270 := ⟨by decide +kernel, rfl⟩
theorem dW_law_1270 : zd code 1270 .ireturn 1 1271 := ⟨by decide +kernel, rfl⟩
theorem dW_law_1271 : zd code 1271 (.aload_n 1) 1 1272 := ⟨by decide +kernel, rfl⟩
theorem dW_law_1272 : zd code 1272 (.aload_n 0) 1 1273 := ⟨by decide +kernel, rfl⟩
theorem dW_law_1273 : zd code 1273 (.iload_n 3) 1 1274 := ⟨by decide +kernel, rfl⟩
theorem dW_law_1274 : zd code 1274 (.iconst 1) 1 1275 := ⟨by decide +kernel, rfl⟩
theorem dW_law_1275 : zd code 1275 .iadd 1 1276 := ⟨by decide +kernel, rfl⟩
theorem dW_law_1276 : zd code 1276 .iaload 1 1277 := ⟨by decide +kernel, rfl⟩
theorem dW_law_1277 : zd code 1277 (.aload_n 0) 1 1278 := ⟨by decide +kernel, rfl⟩
theorem dW_law_1278 : zd code 1278 (.iload_n 3) 1 1279 := ⟨by decide +kernel, rfl⟩
theorem dW_law_1279 : zd code 1279 (.iconst 2) 1 1280 := ⟨by decide +kernel, rfl⟩
theorem dW_law_1280 : zd code 1280 .iadd 1 1281 := ⟨by decide +kernel, rfl⟩
theorem dW_law_1281 : zd code 1281 .iaload 1 1282 := ⟨by decide +kernel, rfl⟩
theorem dW_law_1282 : zd code 1282 (.aload_n 0) 1 1283 := ⟨by decide +kernel, rfl⟩
theorem dW_law_1283 : zd code 1283 (.iload_n 3) 1 1284 := ⟨by decide +kernel, rfl⟩
theorem dW_law_1284 : zd code 1284 (.iconst 3) 1 1285 := ⟨by decide +kernel, rfl⟩
theorem dW_law_1285 : zd code 1285 .iadd 1 1286 := ⟨by decide +kernel, rfl⟩
theorem dW_law_1286 : zd code 1286 .iaload 1 1287 := ⟨by decide +kernel, rfl⟩
theorem dW_law_1287 : zd code 1287 (.aload_n 0) 1 1288 := ⟨by decide +kernel, rfl⟩
theorem dW_law_1288 : zd code 1288 (.iload_n 3) 1 1289 := ⟨by decide +kernel, rfl⟩
theorem dW_law_1289 : zd code 1289 (.iconst 4) 1 1290 := ⟨by decide +kernel, rfl⟩
theorem dW_law_1290 : zd code 1290 .iadd 1 1291 := ⟨by decide +kernel, rfl⟩
theorem dW_law_1291 : zd code 1291 .iaload 1 1292 := ⟨by decide +kernel, rfl⟩
theorem dW_law_1292 : zd code 1292 (.aload_n 0) 1 1293 := ⟨by decide +kernel, rfl⟩
theorem dW_law_1293 : zd code 1293 (.iload_n 3) 1 1294 := ⟨by decide +kernel, rfl⟩
theorem dW_law_1294 : zd code 1294 (.iconst 5) 1 1295 := ⟨by decide +kernel, rfl⟩
theorem dW_law_1295 : zd code 1295 .iadd 1 1296 := ⟨by decide +kernel, rfl⟩
theorem dW_law_1296 : zd code 1296 .iaload 1 1297 := ⟨by decide +kernel, rfl⟩
theorem dW_law_1297 : zd code 1297 (.invokevirtual 144) 3 1300 := ⟨by decide +kernel, rfl⟩
theorem dW_law_1300 : zd code 1300 (.aload_n 2) 1 1301 := ⟨by decide +kernel, rfl⟩
theorem dW_law_1301 : zd code 1301 (.aload_n 0) 1 1302 := ⟨by decide +kernel, rfl⟩
theorem dW_law_1302 : zd code 1302 (.iload_n 3) 1 1303 := ⟨by decide +kernel, rfl⟩
theorem dW_law_1303 : zd code 1303 (.iconst 1) 1 1304 := ⟨by decide +kernel, rfl⟩
theorem dW_law_1304 : zd code 1304 .iadd 1 1305 := ⟨by decide +kernel, rfl⟩
theorem dW_law_1305 : zd code 1305 .iaload 1 1306 := ⟨by decide +kernel, rfl⟩
theorem dW_law_1306 : zd code 1306 (.aload_n 0) 1 1307 := ⟨by decide +kernel, rfl⟩
theorem dW_law_1307 : zd code 1307 (.iload_n 3) 1 1308 := ⟨by decide +kernel, rfl⟩
theorem dW_law_1308 : zd code 1308 (.iconst 2) 1 1309 := ⟨by decide +kernel, rfl⟩
theorem dW_law_1309 : zd code 1309 .iadd 1 1310 := ⟨by decide +kernel, rfl⟩
theorem dW_law_1310 : zd code 1310 .iaload 1 1311 := ⟨by decide +kernel, rfl⟩
theorem dW_law_1311 : zd code 1311 (.aload_n 0) 1 1312 := ⟨by decide +kernel, rfl⟩
theorem dW_law_1312 : zd code 1312 (.iload_n 3) 1 1313 := ⟨by decide +kernel, rfl⟩
theorem dW_law_1313 : zd code 1313 (.iconst 3) 1 1314 := ⟨by decide +kernel, rfl⟩
theorem dW_law_1314 : zd code 1314 .iadd 1 1315 := ⟨by decide +kernel, rfl⟩
theorem dW_law_1315 : zd code 1315 .iaload 1 1316 := ⟨by decide +kernel, rfl⟩
theorem dW_law_1316 : zd code 1316 (.aload_n 0) 1 1317 := ⟨by decide +kernel, rfl⟩
theorem dW_law_1317 : zd code 1317 (.iload_n 3) 1 1318 := ⟨by decide +kernel, rfl⟩
theorem dW_law_1318 : zd code 1318 (.iconst 4) 1 1319 := ⟨by decide +kernel, rfl⟩
theorem dW_law_1319 : zd code 1319 .iadd 1 1320 := ⟨by decide +kernel, rfl⟩
theorem dW_law_1320 : zd code 1320 .iaload 1 1321 := ⟨by decide +kernel, rfl⟩
theorem dW_law_1321 : zd code 1321 (.aload_n 0) 1 1322 := ⟨by decide +kernel, rfl⟩
theorem dW_law_1322 : zd code 1322 (.iload_n 3) 1 1323 := ⟨by decide +kernel, rfl⟩
theorem dW_law_1323 : zd code 1323 (.iconst 5) 1 1324 := ⟨by decide +kernel, rfl⟩
theorem dW_law_1324 : zd code 1324 .iadd 1 1325 := ⟨by decide +kernel, rfl⟩
theorem dW_law_1325 : zd code 1325 .iaload 1 1326 := ⟨by decide +kernel, rfl⟩
theorem dW_law_1326 : zd code 1326 (.invokevirtual 148) 3 1329 := ⟨by decide +kernel, rfl⟩
theorem dW_law_1329 : zdb code 1329 (.if_icmp .eq 159) 159 1332 1488 := ⟨by decide +kernel, rfl, by decide⟩
theorem dW_law_1332 : zd code 1332 (.iconst 0) 1 1333 := ⟨by decide +kernel, rfl⟩
theorem dW_law_1333 : zd code 1333 .ireturn 1 1334 := ⟨by decide +kernel, rfl⟩
theorem dW_law_1334 : zd code 1334 (.aload_n 1) 1 1335 := ⟨by decide +kernel, rfl⟩
theorem dW_law_1335 : zd code 1335 (.aload_n 0) 1 1336 := ⟨by decide +kernel, rfl⟩
theorem dW_law_1336 : zd code 1336 (.iload_n 3) 1 1337 := ⟨by decide +kernel, rfl⟩
theorem dW_law_1337 : zd code 1337 (.iconst 1) 1 1338 := ⟨by decide +kernel, rfl⟩
theorem dW_law_1338 : zd code 1338 .iadd 1 1339 := ⟨by decide +kernel, rfl⟩
theorem dW_law_1339 : zd code 1339 .iaload 1 1340 := ⟨by decide +kernel, rfl⟩
theorem dW_law_1340 : zd code 1340 (.invokevirtual 149) 3 1343 := ⟨by decide +kernel, rfl⟩
theorem dW_law_1343 : zd code 1343 (.aload_n 2) 1 1344 := ⟨by decide +kernel, rfl⟩
theorem dW_law_1344 : zd code 1344 (.aload_n 0) 1 1345 := ⟨by decide +kernel, rfl⟩
theorem dW_law_1345 : zd code 1345 (.iload_n 3) 1 1346 := ⟨by decide +kernel, rfl⟩
theorem dW_law_1346 : zd code 1346 (.iconst 1) 1 1347 := ⟨by decide +kernel, rfl⟩
theorem dW_law_1347 : zd code 1347 .iadd 1 1348 := ⟨by decide +kernel, rfl⟩
theorem dW_law_1348 : zd code 1348 .iaload 1 1349 := ⟨by decide +kernel, rfl⟩
theorem dW_law_1349 : zd code 1349 (.invokevirtual 152) 3 1352 := ⟨by decide +kernel, rfl⟩
theorem dW_law_1352 : zdb code 1352 (.if_icmp .eq 136) 136 1355 1488 := ⟨by decide +kernel, rfl, by decide⟩
theorem dW_law_1355 : zd code 1355 (.iconst 0) 1 1356 := ⟨by decide +kernel, rfl⟩
theorem dW_law_1356 : zd code 1356 .ireturn 1 1357 := ⟨by decide +kernel, rfl⟩
theorem dW_law_1357 : zd code 1357 (.aload_n 1) 1 1358 := ⟨by decide +kernel, rfl⟩
theorem dW_law_1358 : zd code 1358 (.aload_n 0) 1 1359 := ⟨by decide +kernel, rfl⟩
theorem dW_law_1359 : zd code 1359 (.iload_n 3) 1 1360 := ⟨by decide +kernel, rfl⟩
theorem dW_law_1360 : zd code 1360 (.iconst 1) 1 1361 := ⟨by decide +kernel, rfl⟩
theorem dW_law_1361 : zd code 1361 .iadd 1 1362 := ⟨by decide +kernel, rfl⟩
theorem dW_law_1362 : zd code 1362 .iaload 1 1363 := ⟨by decide +kernel, rfl⟩
theorem dW_law_1363 : zd code 1363 (.invokevirtual 153) 3 1366 := ⟨by decide +kernel, rfl⟩
theorem dW_law_1366 : zd code 1366 (.aload_n 2) 1 1367 := ⟨by decide +kernel, rfl⟩
theorem dW_law_1367 : zd code 1367 (.aload_n 0) 1 1368 := ⟨by decide +kernel, rfl⟩
theorem dW_law_1368 : zd code 1368 (.iload_n 3) 1 1369 := ⟨by decide +kernel, rfl⟩
theorem dW_law_1369 : zd code 1369 (.iconst 1) 1 1370 := ⟨by decide +kernel, rfl⟩
theorem dW_law_1370 : zd code 1370 .iadd 1 1371 := ⟨by decide +kernel, rfl⟩
theorem dW_law_1371 : zd code 1371 .iaload 1 1372 := ⟨by decide +kernel, rfl⟩
theorem dW_law_1372 : zd code 1372 (.invokevirtual 156) 3 1375 := ⟨by decide +kernel, rfl⟩
theorem dW_law_1375 : zdb code 1375 (.if_icmp .eq 113) 113 1378 1488 := ⟨by decide +kernel, rfl, by decide⟩
theorem dW_law_1378 : zd code 1378 (.iconst 0) 1 1379 := ⟨by decide +kernel, rfl⟩
theorem dW_law_1379 : zd code 1379 .ireturn 1 1380 := ⟨by decide +kernel, rfl⟩
theorem dW_law_1380 : zd code 1380 (.aload_n 1) 1 1381 := ⟨by decide +kernel, rfl⟩
theorem dW_law_1381 : zd code 1381 (.invokevirtual 157) 3 1384 := ⟨by decide +kernel, rfl⟩
theorem dW_law_1384 : zd code 1384 (.aload_n 2) 1 1385 := ⟨by decide +kernel, rfl⟩
theorem dW_law_1385 : zd code 1385 (.invokevirtual 161) 3 1388 := ⟨by decide +kernel, rfl⟩
theorem dW_law_1388 : zdb code 1388 (.if_icmp .eq 100) 100 1391 1488 := ⟨by decide +kernel, rfl, by decide⟩
theorem dW_law_1391 : zd code 1391 (.iconst 0) 1 1392 := ⟨by decide +kernel, rfl⟩
theorem dW_law_1392 : zd code 1392 .ireturn 1 1393 := ⟨by decide +kernel, rfl⟩
theorem dW_law_1393 : zd code 1393 (.aload_n 1) 1 1394 := ⟨by decide +kernel, rfl⟩
theorem dW_law_1394 : zd code 1394 (.invokevirtual 162) 3 1397 := ⟨by decide +kernel, rfl⟩
theorem dW_law_1397 : zd code 1397 (.aload_n 2) 1 1398 := ⟨by decide +kernel, rfl⟩
theorem dW_law_1398 : zd code 1398 (.invokevirtual 165) 3 1401 := ⟨by decide +kernel, rfl⟩
theorem dW_law_1401 : zdb code 1401 (.if_icmp .eq 87) 87 1404 1488 := ⟨by decide +kernel, rfl, by decide⟩
theorem dW_law_1404 : zd code 1404 (.iconst 0) 1 1405 := ⟨by decide +kernel, rfl⟩
theorem dW_law_1405 : zd code 1405 .ireturn 1 1406 := ⟨by decide +kernel, rfl⟩
theorem dW_law_1406 : zd code 1406 (.aload_n 1) 1 1407 := ⟨by decide +kernel, rfl⟩
theorem dW_law_1407 : zd code 1407 (.aload_n 0) 1 1408 := ⟨by decide +kernel, rfl⟩
theorem dW_law_1408 : zd code 1408 (.iload_n 3) 1 1409 := ⟨by decide +kernel, rfl⟩
theorem dW_law_1409 : zd code 1409 (.iconst 1) 1 1410 := ⟨by decide +kernel, rfl⟩
theorem dW_law_1410 : zd code 1410 .iadd 1 1411 := ⟨by decide +kernel, rfl⟩
theorem dW_law_1411 : zd code 1411 .iaload 1 1412 := ⟨by decide +kernel, rfl⟩
theorem dW_law_1412 : zd code 1412 (.invokevirtual 166) 3 1415 := ⟨by decide +kernel, rfl⟩
theorem dW_law_1415 : zd code 1415 (.aload_n 2) 1 1416 := ⟨by decide +kernel, rfl⟩
theorem dW_law_1416 : zd code 1416 (.aload_n 0) 1 1417 := ⟨by decide +kernel, rfl⟩
theorem dW_law_1417 : zd code 1417 (.iload_n 3) 1 1418 := ⟨by decide +kernel, rfl⟩
theorem dW_law_1418 : zd code 1418 (.iconst 1) 1 1419 := ⟨by decide +kernel, rfl⟩
theorem dW_law_1419 : zd code 1419 .iadd 1 1420 := ⟨by decide +kernel, rfl⟩
theorem dW_law_1420 : zd code 1420 .iaload 1 1421 := ⟨by decide +kernel, rfl⟩
theorem dW_law_1421 : zd code 1421 (.invokevirtual 169) 3 1424 := ⟨by decide +kernel, rfl⟩
theorem dW_law_1424 : zdb code 1424 (.if_icmp .eq 64) 64 1427 1488 := ⟨by decide +kernel, rfl, by decide⟩
theorem dW_law_1427 : zd code 1427 (.iconst 0) 1 1428 := ⟨by decide +kernel, rfl⟩
theorem dW_law_1428 : zd code 1428 .ireturn 1 1429 := ⟨by decide +kernel, rfl⟩
theorem dW_law_1429 : zd code 1429 (.aload_n 1) 1 1430 := ⟨by decide +kernel, rfl⟩
theorem dW_law_1430 : zd code 1430 (.invokevirtual 170) 3 1433 := ⟨by decide +kernel, rfl⟩
theorem dW_law_1433 : zd code 1433 (.aload_n 2) 1 1434 := ⟨by decide +kernel, rfl⟩
theorem dW_law_1434 : zd code 1434 (.invokevirtual 173) 3 1437 := ⟨by decide +kernel, rfl⟩
theorem dW_law_1437 : zdb code 1437 (.if_icmp .eq 51) 51 1440 1488 := ⟨by decide +kernel, rfl, by decide⟩
theorem dW_law_1440 : zd code 1440 (.iconst 0) 1 1441 := ⟨by decide +kernel, rfl⟩
theorem dW_law_1441 : zd code 1441 .ireturn 1 1442 := ⟨by decide +kernel, rfl⟩
theorem dW_law_1442 : zd code 1442 (.aload_n 1) 1 1443 := ⟨by decide +kernel, rfl⟩
theorem dW_law_1443 : zd code 1443 (.aload_n 0) 1 1444 := ⟨by decide +kernel, rfl⟩
theorem dW_law_1444 : zd code 1444 (.iload_n 3) 1 1445 := ⟨by decide +kernel, rfl⟩
theorem dW_law_1445 : zd code 1445 (.iconst 1) 1 1446 := ⟨by decide +kernel, rfl⟩
theorem dW_law_1446 : zd code 1446 .iadd 1 1447 := ⟨by decide +kernel, rfl⟩
theorem dW_law_1447 : zd code 1447 .iaload 1 1448 := ⟨by decide +kernel, rfl⟩
theorem dW_law_1448 : zd code 1448 (.invokevirtual 174) 3 1451 := ⟨by decide +kernel, rfl⟩
theorem dW_law_1451 : zd code 1451 (.aload_n 2) 1 1452 := ⟨by decide +kernel, rfl⟩
theorem dW_law_1452 : zd code 1452 (.aload_n 0) 1 1453 := ⟨by decide +kernel, rfl⟩
theorem dW_law_1453 : zd code 1453 (.iload_n 3) 1 1454 := ⟨by decide +kernel, rfl⟩
theorem dW_law_1454 : zd code 1454 (.iconst 1) 1 1455 := ⟨by decide +kernel, rfl⟩
theorem dW_law_1455 : zd code 1455 .iadd 1 1456 := ⟨by decide +kernel, rfl⟩
theorem dW_law_1456 : zd code 1456 .iaload 1 1457 := ⟨by decide +kernel, rfl⟩
theorem dW_law_1457 : zd code 1457 (.invokevirtual 177) 3 1460 := ⟨by decide +kernel, rfl⟩
theorem dW_law_1460 : zdb code 1460 (.if_icmp .eq 28) 28 1463 1488 := ⟨by decide +kernel, rfl, by decide⟩
theorem dW_law_1463 : zd code 1463 (.iconst 0) 1 1464 := ⟨by decide +kernel, rfl⟩
theorem dW_law_1464 : zd code 1464 .ireturn 1 1465 := ⟨by decide +kernel, rfl⟩
theorem dW_law_1465 : zd code 1465 (.aload_n 1) 1 1466 := ⟨by decide +kernel, rfl⟩
theorem dW_law_1466 : zd code 1466 (.aload_n 0) 1 1467 := ⟨by decide +kernel, rfl⟩
theorem dW_law_1467 : zd code 1467 (.iload_n 3) 1 1468 := ⟨by decide +kernel, rfl⟩
theorem dW_law_1468 : zd code 1468 (.iconst 1) 1 1469 := ⟨by decide +kernel, rfl⟩
theorem dW_law_1469 : zd code 1469 .iadd 1 1470 := ⟨by decide +kernel, rfl⟩
theorem dW_law_1470 : zd code 1470 .iaload 1 1471 := ⟨by decide +kernel, rfl⟩
theorem dW_law_1471 : zd code 1471 (.invokevirtual 178) 3 1474 := ⟨by decide +kernel, rfl⟩
theorem dW_law_1474 : zd code 1474 (.aload_n 2) 1 1475 := ⟨by decide +kernel, rfl⟩
theorem dW_law_1475 : zd code 1475 (.aload_n 0) 1 1476 := ⟨by decide +kernel, rfl⟩
theorem dW_law_1476 : zd code 1476 (.iload_n 3) 1 1477 := ⟨by decide +kernel, rfl⟩
theorem dW_law_1477 : zd code 1477 (.iconst 1) 1 1478 := ⟨by decide +kernel, rfl⟩
theorem dW_law_1478 : zd code 1478 .iadd 1 1479 := ⟨by decide +kernel, rfl⟩
theorem dW_law_1479 : zd code 1479 .iaload 1 1480 := ⟨by decide +kernel, rfl⟩
theorem dW_law_1480 : zd code 1480 (.invokevirtual 181) 3 1483 := ⟨by decide +kernel, rfl⟩
theorem dW_law_1483 : zdb code 1483 (.if_icmp .eq 5) 5 1486 1488 := ⟨by decide +kernel, rfl, by decide⟩
theorem dW_law_1486 : zd code 1486 (.iconst 0) 1 1487 := ⟨by decide +kernel, rfl⟩
theorem dW_law_1487 : zd code 1487 .ireturn 1 1488 := ⟨by decide +kernel, rfl⟩
theorem dW_law_1488 : zd code 1488 (.iinc 3 6) 3 1491 := ⟨by decide +kernel, rfl⟩
theorem dW_law_1491 : zdb code 1491 (.goto (-1473)) (-1473) 1494 18 := ⟨by decide +kernel, rfl, by decide⟩
theorem dW_law_1494 : zd code 1494 (.iconst 1) 1 1495 := ⟨by decide +kernel, rfl⟩
theorem dW_law_1495 : zd code 1495 .ireturn 1 1496 := ⟨by decide +kernel, rfl⟩
def bW_law_1465 (k N : Nat) (xs : Nat → Int32) (q18 : Int32 → ZS → Option (Int32 × ZS)) (x3 : Int32) (σ : ZS) : Option (Int32 × ZS) :=
  if zin (x3 + (1 : Int32)) N then (
  zbd (f8_told k (xs (x3 + (1 : Int32)).toNatClampNeg) σ) fun r2 s2 =>
  if zin (x3 + (1 : Int32)) N then (
  zbd (f9_told k (xs (x3 + (1 : Int32)).toNatClampNeg) s2) fun r4 s4 =>
  if r2 = r4 then (
  q18 (x3 + (6 : Int32)) s4)
  else (
  some ((0 : Int32), s4))) else none) else none
theorem jW_law_1465 {x : ZX} {g : ZG} (C : zC x g code R_law ret 4 2048 84000) {N : Nat} {xs : Nat → Int32} (X : zX g N xs x) {kc ks : Nat} {Q : State → Prop} (hR : ∀ (pc q : Nat) (σ : ZS) (L : List (Option ZV)), zd code pc .ireturn 1 q → zw x g 4 kc ks Q σ pc L [zi 1]) (hk : kc ≤ x.2.2.2.1.cells ∧ ks ≤ x.2.2.2.1.slots) {k : Nat} {σr : ZS} {q18 : Int32 → ZS → Option (Int32 × ZS)} (hq18 : ∀ (x3 : Int32) (σ : ZS), q18 x3 σ = some (1, σr) → zw x g 4 kc ks Q σ 18 [some (zr 1004), some (zr 1), some (zr 103), some (zi x3)] []) {x3 : Int32} {σ : ZS} (hf : bW_law_1465 k N xs q18 x3 σ = some (1, σr)) : zw x g 4 kc ks Q σ 1465 [some (zr 1004), some (zr 1), some (zr 103), some (zi x3)] [] := by
  unfold bW_law_1465 at hf
  refine z_aload_n C dW_law_1465 rfl ?_
  refine z_aload_n C dW_law_1466 rfl ?_
  refine z_iload_n C dW_law_1467 rfl ?_
  refine z_iconst C (1 : Int32) dW_law_1468 kI_1 ?_
  refine z_iadd C dW_law_1469 ?_
  obtain ⟨g1, hf⟩ := zgo hf
  refine z_sld C X dW_law_1470 g1 ?_
  obtain ⟨r2, s2, h2, hf⟩ := zbx hf
  refine z_callVi C (as := [zi (xs (x3 + (1 : Int32)).toNatClampNeg)]) dW_law_1471 w_807 yy8_told (c8_told x.2.1 g h2) yc8_told kZ_1 rfl rfl (Nat.le_of_ble_eq_true rfl) ⟨Nat.le_of_ble_eq_true rfl, Nat.le_of_ble_eq_true rfl⟩ hk ?_
  refine z_aload_n C dW_law_1474 rfl ?_
  refine z_aload_n C dW_law_1475 rfl ?_
  refine z_iload_n C dW_law_1476 rfl ?_
  refine z_iconst C (1 : Int32) dW_law_1477 kI_1 ?_
  refine z_iadd C dW_law_1478 ?_
  obtain ⟨g3, hf⟩ := zgo hf
  refine z_sld C X dW_law_1479 g3 ?_
  obtain ⟨r4, s4, h4, hf⟩ := zbx hf
  refine z_callVi C (as := [zi (xs (x3 + (1 : Int32)).toNatClampNeg)]) dW_law_1480 w_1294 yy9_told (c9_told x.2.1 g h4) yc9_told kZ_103 rfl rfl (Nat.le_of_ble_eq_true rfl) ⟨Nat.le_of_ble_eq_true rfl, Nat.le_of_ble_eq_true rfl⟩ hk ?_
  refine z_icmp_eq C dW_law_1483 (fun c5 => ?_) (fun c5 => ?_)
  · have hf := zit c5 hf
    refine z_iinc C dW_law_1488 rfl kI_6 (Nat.le_of_ble_eq_true rfl) rfl (L' := [some (zr 1004), some (zr 1), some (zr 103), some (zi (x3 + (6 : Int32)))]) rfl ?_
    refine z_goto C dW_law_1491 ?_
    exact hq18 _ _ hf
  · have hf := zie c5 hf
    refine z_iconst C (0 : Int32) dW_law_1486 kI_0 ?_
    exact z_lwret hR dW_law_1487 hf
def bW_law_1442 (k N : Nat) (xs : Nat → Int32) (q18 : Int32 → ZS → Option (Int32 × ZS)) (x3 : Int32) (σ : ZS) : Option (Int32 × ZS) :=
  if zin (x3 + (1 : Int32)) N then (
  zbd (f8_count k (xs (x3 + (1 : Int32)).toNatClampNeg) σ) fun r2 s2 =>
  if zin (x3 + (1 : Int32)) N then (
  zbd (f9_count k (xs (x3 + (1 : Int32)).toNatClampNeg) s2) fun r4 s4 =>
  if r2 = r4 then (
  q18 (x3 + (6 : Int32)) s4)
  else (
  some ((0 : Int32), s4))) else none) else none
theorem jW_law_1442 {x : ZX} {g : ZG} (C : zC x g code R_law ret 4 2048 84000) {N : Nat} {xs : Nat → Int32} (X : zX g N xs x) {kc ks : Nat} {Q : State → Prop} (hR : ∀ (pc q : Nat) (σ : ZS) (L : List (Option ZV)), zd code pc .ireturn 1 q → zw x g 4 kc ks Q σ pc L [zi 1]) (hk : kc ≤ x.2.2.2.1.cells ∧ ks ≤ x.2.2.2.1.slots) {k : Nat} {σr : ZS} {q18 : Int32 → ZS → Option (Int32 × ZS)} (hq18 : ∀ (x3 : Int32) (σ : ZS), q18 x3 σ = some (1, σr) → zw x g 4 kc ks Q σ 18 [some (zr 1004), some (zr 1), some (zr 103), some (zi x3)] []) {x3 : Int32} {σ : ZS} (hf : bW_law_1442 k N xs q18 x3 σ = some (1, σr)) : zw x g 4 kc ks Q σ 1442 [some (zr 1004), some (zr 1), some (zr 103), some (zi x3)] [] := by
  unfold bW_law_1442 at hf
  refine z_aload_n C dW_law_1442 rfl ?_
  refine z_aload_n C dW_law_1443 rfl ?_
  refine z_iload_n C dW_law_1444 rfl ?_
  refine z_iconst C (1 : Int32) dW_law_1445 kI_1 ?_
  refine z_iadd C dW_law_1446 ?_
  obtain ⟨g1, hf⟩ := zgo hf
  refine z_sld C X dW_law_1447 g1 ?_
  obtain ⟨r2, s2, h2, hf⟩ := zbx hf
  refine z_callVi C (as := [zi (xs (x3 + (1 : Int32)).toNatClampNeg)]) dW_law_1448 w_803 yy8_count (c8_count x.2.1 g h2) yc8_count kZ_1 rfl rfl (Nat.le_of_ble_eq_true rfl) ⟨Nat.le_of_ble_eq_true rfl, Nat.le_of_ble_eq_true rfl⟩ hk ?_
  refine z_aload_n C dW_law_1451 rfl ?_
  refine z_aload_n C dW_law_1452 rfl ?_
  refine z_iload_n C dW_law_1453 rfl ?_
  refine z_iconst C (1 : Int32) dW_law_1454 kI_1 ?_
  refine z_iadd C dW_law_1455 ?_
  obtain ⟨g3, hf⟩ := zgo hf
  refine z_sld C X dW_law_1456 g3 ?_
  obtain ⟨r4, s4, h4, hf⟩ := zbx hf
  refine z_callVi C (as := [zi (xs (x3 + (1 : Int32)).toNatClampNeg)]) dW_law_1457 w_1290 yy9_count (c9_count x.2.1 g h4) yc9_count kZ_103 rfl rfl (Nat.le_of_ble_eq_true rfl) ⟨Nat.le_of_ble_eq_true rfl, Nat.le_of_ble_eq_true rfl⟩ hk ?_
  refine z_icmp_eq C dW_law_1460 (fun c5 => ?_) (fun c5 => ?_)
  · have hf := zit c5 hf
    refine z_iinc C dW_law_1488 rfl kI_6 (Nat.le_of_ble_eq_true rfl) rfl (L' := [some (zr 1004), some (zr 1), some (zr 103), some (zi (x3 + (6 : Int32)))]) rfl ?_
    refine z_goto C dW_law_1491 ?_
    exact hq18 _ _ hf
  · have hf := zie c5 hf
    refine z_iconst C (0 : Int32) dW_law_1463 kI_0 ?_
    exact z_lwret hR dW_law_1464 hf
def bW_law_1429 (k N : Nat) (xs : Nat → Int32) (q18 : Int32 → ZS → Option (Int32 × ZS)) (x3 : Int32) (σ : ZS) : Option (Int32 × ZS) :=
  zbd (f8_check k σ) fun r1 s1 =>
  zbd (f9_check k s1) fun r2 s2 =>
  if r1 = r2 then (
  q18 (x3 + (6 : Int32)) s2)
  else (
  some ((0 : Int32), s2))
theorem jW_law_1429 {x : ZX} {g : ZG} (C : zC x g code R_law ret 4 2048 84000) {N : Nat} {xs : Nat → Int32} (X : zX g N xs x) {kc ks : Nat} {Q : State → Prop} (hR : ∀ (pc q : Nat) (σ : ZS) (L : List (Option ZV)), zd code pc .ireturn 1 q → zw x g 4 kc ks Q σ pc L [zi 1]) (hk : kc ≤ x.2.2.2.1.cells ∧ ks ≤ x.2.2.2.1.slots) {k : Nat} {σr : ZS} {q18 : Int32 → ZS → Option (Int32 × ZS)} (hq18 : ∀ (x3 : Int32) (σ : ZS), q18 x3 σ = some (1, σr) → zw x g 4 kc ks Q σ 18 [some (zr 1004), some (zr 1), some (zr 103), some (zi x3)] []) {x3 : Int32} {σ : ZS} (hf : bW_law_1429 k N xs q18 x3 σ = some (1, σr)) : zw x g 4 kc ks Q σ 1429 [some (zr 1004), some (zr 1), some (zr 103), some (zi x3)] [] := by
  unfold bW_law_1429 at hf
  refine z_aload_n C dW_law_1429 rfl ?_
  obtain ⟨r1, s1, h1, hf⟩ := zbx hf
  refine z_callVi C (as := []) dW_law_1430 w_795 yy8_check (c8_check x.2.1 g h1) yc8_check kZ_1 rfl rfl (Nat.le_of_ble_eq_true rfl) ⟨Nat.le_of_ble_eq_true rfl, Nat.le_of_ble_eq_true rfl⟩ hk ?_
  refine z_aload_n C dW_law_1433 rfl ?_
  obtain ⟨r2, s2, h2, hf⟩ := zbx hf
  refine z_callVi C (as := []) dW_law_1434 w_1286 yy9_check (c9_check x.2.1 g h2) yc9_check kZ_103 rfl rfl (Nat.le_of_ble_eq_true rfl) ⟨Nat.le_of_ble_eq_true rfl, Nat.le_of_ble_eq_true rfl⟩ hk ?_
  refine z_icmp_eq C dW_law_1437 (fun c3 => ?_) (fun c3 => ?_)
  · have hf := zit c3 hf
    refine z_iinc C dW_law_1488 rfl kI_6 (Nat.le_of_ble_eq_true rfl) rfl (L' := [some (zr 1004), some (zr 1), some (zr 103), some (zi (x3 + (6 : Int32)))]) rfl ?_
    refine z_goto C dW_law_1491 ?_
    exact hq18 _ _ hf
  · have hf := zie c3 hf
    refine z_iconst C (0 : Int32) dW_law_1440 kI_0 ?_
    exact z_lwret hR dW_law_1441 hf
def bW_law_1406 (k N : Nat) (xs : Nat → Int32) (q18 : Int32 → ZS → Option (Int32 × ZS)) (x3 : Int32) (σ : ZS) : Option (Int32 × ZS) :=
  if zin (x3 + (1 : Int32)) N then (
  zbd (f8_tell k (xs (x3 + (1 : Int32)).toNatClampNeg) σ) fun r2 s2 =>
  if zin (x3 + (1 : Int32)) N then (
  zbd (f9_tell k (xs (x3 + (1 : Int32)).toNatClampNeg) s2) fun r4 s4 =>
  if r2 = r4 then (
  q18 (x3 + (6 : Int32)) s4)
  else (
  some ((0 : Int32), s4))) else none) else none
theorem jW_law_1406 {x : ZX} {g : ZG} (C : zC x g code R_law ret 4 2048 84000) {N : Nat} {xs : Nat → Int32} (X : zX g N xs x) {kc ks : Nat} {Q : State → Prop} (hR : ∀ (pc q : Nat) (σ : ZS) (L : List (Option ZV)), zd code pc .ireturn 1 q → zw x g 4 kc ks Q σ pc L [zi 1]) (hk : kc ≤ x.2.2.2.1.cells ∧ ks ≤ x.2.2.2.1.slots) {k : Nat} {σr : ZS} {q18 : Int32 → ZS → Option (Int32 × ZS)} (hq18 : ∀ (x3 : Int32) (σ : ZS), q18 x3 σ = some (1, σr) → zw x g 4 kc ks Q σ 18 [some (zr 1004), some (zr 1), some (zr 103), some (zi x3)] []) {x3 : Int32} {σ : ZS} (hf : bW_law_1406 k N xs q18 x3 σ = some (1, σr)) : zw x g 4 kc ks Q σ 1406 [some (zr 1004), some (zr 1), some (zr 103), some (zi x3)] [] := by
  unfold bW_law_1406 at hf
  refine z_aload_n C dW_law_1406 rfl ?_
  refine z_aload_n C dW_law_1407 rfl ?_
  refine z_iload_n C dW_law_1408 rfl ?_
  refine z_iconst C (1 : Int32) dW_law_1409 kI_1 ?_
  refine z_iadd C dW_law_1410 ?_
  obtain ⟨g1, hf⟩ := zgo hf
  refine z_sld C X dW_law_1411 g1 ?_
  obtain ⟨r2, s2, h2, hf⟩ := zbx hf
  refine z_callVi C (as := [zi (xs (x3 + (1 : Int32)).toNatClampNeg)]) dW_law_1412 w_787 yy8_tell (c8_tell x.2.1 g h2) yc8_tell kZ_1 rfl rfl (Nat.le_of_ble_eq_true rfl) ⟨Nat.le_of_ble_eq_true rfl, Nat.le_of_ble_eq_true rfl⟩ hk ?_
  refine z_aload_n C dW_law_1415 rfl ?_
  refine z_aload_n C dW_law_1416 rfl ?_
  refine z_iload_n C dW_law_1417 rfl ?_
  refine z_iconst C (1 : Int32) dW_law_1418 kI_1 ?_
  refine z_iadd C dW_law_1419 ?_
  obtain ⟨g3, hf⟩ := zgo hf
  refine z_sld C X dW_law_1420 g3 ?_
  obtain ⟨r4, s4, h4, hf⟩ := zbx hf
  refine z_callVi C (as := [zi (xs (x3 + (1 : Int32)).toNatClampNeg)]) dW_law_1421 w_1282 yy9_tell (c9_tell x.2.1 g h4) yc9_tell kZ_103 rfl rfl (Nat.le_of_ble_eq_true rfl) ⟨Nat.le_of_ble_eq_true rfl, Nat.le_of_ble_eq_true rfl⟩ hk ?_
  refine z_icmp_eq C dW_law_1424 (fun c5 => ?_) (fun c5 => ?_)
  · have hf := zit c5 hf
    refine z_iinc C dW_law_1488 rfl kI_6 (Nat.le_of_ble_eq_true rfl) rfl (L' := [some (zr 1004), some (zr 1), some (zr 103), some (zi (x3 + (6 : Int32)))]) rfl ?_
    refine z_goto C dW_law_1491 ?_
    exact hq18 _ _ hf
  · have hf := zie c5 hf
    refine z_iconst C (0 : Int32) dW_law_1427 kI_0 ?_
    exact z_lwret hR dW_law_1428 hf
def bW_law_1393 (k N : Nat) (xs : Nat → Int32) (q18 : Int32 → ZS → Option (Int32 × ZS)) (x3 : Int32) (σ : ZS) : Option (Int32 × ZS) :=
  zbd (f8_restore k σ) fun r1 s1 =>
  zbd (f9_restore k s1) fun r2 s2 =>
  if r1 = r2 then (
  q18 (x3 + (6 : Int32)) s2)
  else (
  some ((0 : Int32), s2))
theorem jW_law_1393 {x : ZX} {g : ZG} (C : zC x g code R_law ret 4 2048 84000) {N : Nat} {xs : Nat → Int32} (X : zX g N xs x) {kc ks : Nat} {Q : State → Prop} (hR : ∀ (pc q : Nat) (σ : ZS) (L : List (Option ZV)), zd code pc .ireturn 1 q → zw x g 4 kc ks Q σ pc L [zi 1]) (hk : kc ≤ x.2.2.2.1.cells ∧ ks ≤ x.2.2.2.1.slots) {k : Nat} {σr : ZS} {q18 : Int32 → ZS → Option (Int32 × ZS)} (hq18 : ∀ (x3 : Int32) (σ : ZS), q18 x3 σ = some (1, σr) → zw x g 4 kc ks Q σ 18 [some (zr 1004), some (zr 1), some (zr 103), some (zi x3)] []) {x3 : Int32} {σ : ZS} (hf : bW_law_1393 k N xs q18 x3 σ = some (1, σr)) : zw x g 4 kc ks Q σ 1393 [some (zr 1004), some (zr 1), some (zr 103), some (zi x3)] [] := by
  unfold bW_law_1393 at hf
  refine z_aload_n C dW_law_1393 rfl ?_
  obtain ⟨r1, s1, h1, hf⟩ := zbx hf
  refine z_callVi C (as := []) dW_law_1394 w_783 yy8_restore (c8_restore x.2.1 g h1) yc8_restore kZ_1 rfl rfl (Nat.le_of_ble_eq_true rfl) ⟨Nat.le_of_ble_eq_true rfl, Nat.le_of_ble_eq_true rfl⟩ hk ?_
  refine z_aload_n C dW_law_1397 rfl ?_
  obtain ⟨r2, s2, h2, hf⟩ := zbx hf
  refine z_callVi C (as := []) dW_law_1398 w_1278 yy9_restore (c9_restore x.2.1 g h2) yc9_restore kZ_103 rfl rfl (Nat.le_of_ble_eq_true rfl) ⟨Nat.le_of_ble_eq_true rfl, Nat.le_of_ble_eq_true rfl⟩ hk ?_
  refine z_icmp_eq C dW_law_1401 (fun c3 => ?_) (fun c3 => ?_)
  · have hf := zit c3 hf
    refine z_iinc C dW_law_1488 rfl kI_6 (Nat.le_of_ble_eq_true rfl) rfl (L' := [some (zr 1004), some (zr 1), some (zr 103), some (zi (x3 + (6 : Int32)))]) rfl ?_
    refine z_goto C dW_law_1491 ?_
    exact hq18 _ _ hf
  · have hf := zie c3 hf
    refine z_iconst C (0 : Int32) dW_law_1404 kI_0 ?_
    exact z_lwret hR dW_law_1405 hf
def bW_law_1380 (k N : Nat) (xs : Nat → Int32) (q18 : Int32 → ZS → Option (Int32 × ZS)) (x3 : Int32) (σ : ZS) : Option (Int32 × ZS) :=
  zbd (f8_image k σ) fun r1 s1 =>
  zbd (f9_image k s1) fun r2 s2 =>
  if r1 = r2 then (
  q18 (x3 + (6 : Int32)) s2)
  else (
  some ((0 : Int32), s2))
theorem jW_law_1380 {x : ZX} {g : ZG} (C : zC x g code R_law ret 4 2048 84000) {N : Nat} {xs : Nat → Int32} (X : zX g N xs x) {kc ks : Nat} {Q : State → Prop} (hR : ∀ (pc q : Nat) (σ : ZS) (L : List (Option ZV)), zd code pc .ireturn 1 q → zw x g 4 kc ks Q σ pc L [zi 1]) (hk : kc ≤ x.2.2.2.1.cells ∧ ks ≤ x.2.2.2.1.slots) {k : Nat} {σr : ZS} {q18 : Int32 → ZS → Option (Int32 × ZS)} (hq18 : ∀ (x3 : Int32) (σ : ZS), q18 x3 σ = some (1, σr) → zw x g 4 kc ks Q σ 18 [some (zr 1004), some (zr 1), some (zr 103), some (zi x3)] []) {x3 : Int32} {σ : ZS} (hf : bW_law_1380 k N xs q18 x3 σ = some (1, σr)) : zw x g 4 kc ks Q σ 1380 [some (zr 1004), some (zr 1), some (zr 103), some (zi x3)] [] := by
  unfold bW_law_1380 at hf
  refine z_aload_n C dW_law_1380 rfl ?_
  obtain ⟨r1, s1, h1, hf⟩ := zbx hf
  refine z_callVi C (as := []) dW_law_1381 w_779 yy8_image (c8_image x.2.1 g h1) yc8_image kZ_1 rfl rfl (Nat.le_of_ble_eq_true rfl) ⟨Nat.le_of_ble_eq_true rfl, Nat.le_of_ble_eq_true rfl⟩ hk ?_
  refine z_aload_n C dW_law_1384 rfl ?_
  obtain ⟨r2, s2, h2, hf⟩ := zbx hf
  refine z_callVi C (as := []) dW_law_1385 w_1274 yy9_image (c9_image x.2.1 g h2) yc9_image kZ_103 rfl rfl (Nat.le_of_ble_eq_true rfl) ⟨Nat.le_of_ble_eq_true rfl, Nat.le_of_ble_eq_true rfl⟩ hk ?_
  refine z_icmp_eq C dW_law_1388 (fun c3 => ?_) (fun c3 => ?_)
  · have hf := zit c3 hf
    refine z_iinc C dW_law_1488 rfl kI_6 (Nat.le_of_ble_eq_true rfl) rfl (L' := [some (zr 1004), some (zr 1), some (zr 103), some (zi (x3 + (6 : Int32)))]) rfl ?_
    refine z_goto C dW_law_1491 ?_
    exact hq18 _ _ hf
  · have hf := zie c3 hf
    refine z_iconst C (0 : Int32) dW_law_1391 kI_0 ?_
    exact z_lwret hR dW_law_1392 hf
def bW_law_1357 (k N : Nat) (xs : Nat → Int32) (q18 : Int32 → ZS → Option (Int32 × ZS)) (x3 : Int32) (σ : ZS) : Option (Int32 × ZS) :=
  if zin (x3 + (1 : Int32)) N then (
  zbd (f8_judge k (xs (x3 + (1 : Int32)).toNatClampNeg) σ) fun r2 s2 =>
  if zin (x3 + (1 : Int32)) N then (
  zbd (f9_judge k (xs (x3 + (1 : Int32)).toNatClampNeg) s2) fun r4 s4 =>
  if r2 = r4 then (
  q18 (x3 + (6 : Int32)) s4)
  else (
  some ((0 : Int32), s4))) else none) else none
theorem jW_law_1357 {x : ZX} {g : ZG} (C : zC x g code R_law ret 4 2048 84000) {N : Nat} {xs : Nat → Int32} (X : zX g N xs x) {kc ks : Nat} {Q : State → Prop} (hR : ∀ (pc q : Nat) (σ : ZS) (L : List (Option ZV)), zd code pc .ireturn 1 q → zw x g 4 kc ks Q σ pc L [zi 1]) (hk : kc ≤ x.2.2.2.1.cells ∧ ks ≤ x.2.2.2.1.slots) {k : Nat} {σr : ZS} {q18 : Int32 → ZS → Option (Int32 × ZS)} (hq18 : ∀ (x3 : Int32) (σ : ZS), q18 x3 σ = some (1, σr) → zw x g 4 kc ks Q σ 18 [some (zr 1004), some (zr 1), some (zr 103), some (zi x3)] []) {x3 : Int32} {σ : ZS} (hf : bW_law_1357 k N xs q18 x3 σ = some (1, σr)) : zw x g 4 kc ks Q σ 1357 [some (zr 1004), some (zr 1), some (zr 103), some (zi x3)] [] := by
  unfold bW_law_1357 at hf
  refine z_aload_n C dW_law_1357 rfl ?_
  refine z_aload_n C dW_law_1358 rfl ?_
  refine z_iload_n C dW_law_1359 rfl ?_
  refine z_iconst C (1 : Int32) dW_law_1360 kI_1 ?_
  refine z_iadd C dW_law_1361 ?_
  obtain ⟨g1, hf⟩ := zgo hf
  refine z_sld C X dW_law_1362 g1 ?_
  obtain ⟨r2, s2, h2, hf⟩ := zbx hf
  refine z_callVi C (as := [zi (xs (x3 + (1 : Int32)).toNatClampNeg)]) dW_law_1363 w_775 yy8_judge (c8_judge x.2.1 g h2) yc8_judge kZ_1 rfl rfl (Nat.le_of_ble_eq_true rfl) ⟨Nat.le_of_ble_eq_true rfl, Nat.le_of_ble_eq_true rfl⟩ hk ?_
  refine z_aload_n C dW_law_1366 rfl ?_
  refine z_aload_n C dW_law_1367 rfl ?_
  refine z_iload_n C dW_law_1368 rfl ?_
  refine z_iconst C (1 : Int32) dW_law_1369 kI_1 ?_
  refine z_iadd C dW_law_1370 ?_
  obtain ⟨g3, hf⟩ := zgo hf
  refine z_sld C X dW_law_1371 g3 ?_
  obtain ⟨r4, s4, h4, hf⟩ := zbx hf
  refine z_callVi C (as := [zi (xs (x3 + (1 : Int32)).toNatClampNeg)]) dW_law_1372 w_1270 yy9_judge (c9_judge x.2.1 g h4) yc9_judge kZ_103 rfl rfl (Nat.le_of_ble_eq_true rfl) ⟨Nat.le_of_ble_eq_true rfl, Nat.le_of_ble_eq_true rfl⟩ hk ?_
  refine z_icmp_eq C dW_law_1375 (fun c5 => ?_) (fun c5 => ?_)
  · have hf := zit c5 hf
    refine z_iinc C dW_law_1488 rfl kI_6 (Nat.le_of_ble_eq_true rfl) rfl (L' := [some (zr 1004), some (zr 1), some (zr 103), some (zi (x3 + (6 : Int32)))]) rfl ?_
    refine z_goto C dW_law_1491 ?_
    exact hq18 _ _ hf
  · have hf := zie c5 hf
    refine z_iconst C (0 : Int32) dW_law_1378 kI_0 ?_
    exact z_lwret hR dW_law_1379 hf
def bW_law_1334 (k N : Nat) (xs : Nat → Int32) (q18 : Int32 → ZS → Option (Int32 × ZS)) (x3 : Int32) (σ : ZS) : Option (Int32 × ZS) :=
  if zin (x3 + (1 : Int32)) N then (
  zbd (f8_turnsOf k (xs (x3 + (1 : Int32)).toNatClampNeg) σ) fun r2 s2 =>
  if zin (x3 + (1 : Int32)) N then (
  zbd (f9_turnsOf k (xs (x3 + (1 : Int32)).toNatClampNeg) s2) fun r4 s4 =>
  if r2 = r4 then (
  q18 (x3 + (6 : Int32)) s4)
  else (
  some ((0 : Int32), s4))) else none) else none
theorem jW_law_1334 {x : ZX} {g : ZG} (C : zC x g code R_law ret 4 2048 84000) {N : Nat} {xs : Nat → Int32} (X : zX g N xs x) {kc ks : Nat} {Q : State → Prop} (hR : ∀ (pc q : Nat) (σ : ZS) (L : List (Option ZV)), zd code pc .ireturn 1 q → zw x g 4 kc ks Q σ pc L [zi 1]) (hk : kc ≤ x.2.2.2.1.cells ∧ ks ≤ x.2.2.2.1.slots) {k : Nat} {σr : ZS} {q18 : Int32 → ZS → Option (Int32 × ZS)} (hq18 : ∀ (x3 : Int32) (σ : ZS), q18 x3 σ = some (1, σr) → zw x g 4 kc ks Q σ 18 [some (zr 1004), some (zr 1), some (zr 103), some (zi x3)] []) {x3 : Int32} {σ : ZS} (hf : bW_law_1334 k N xs q18 x3 σ = some (1, σr)) : zw x g 4 kc ks Q σ 1334 [some (zr 1004), some (zr 1), some (zr 103), some (zi x3)] [] := by
  unfold bW_law_1334 at hf
  refine z_aload_n C dW_law_1334 rfl ?_
  refine z_aload_n C dW_law_1335 rfl ?_
  refine z_iload_n C dW_law_1336 rfl ?_
  refine z_iconst C (1 : Int32) dW_law_1337 kI_1 ?_
  refine z_iadd C dW_law_1338 ?_
  obtain ⟨g1, hf⟩ := zgo hf
  refine z_sld C X dW_law_1339 g1 ?_
  obtain ⟨r2, s2, h2, hf⟩ := zbx hf
  refine z_callVi C (as := [zi (xs (x3 + (1 : Int32)).toNatClampNeg)]) dW_law_1340 w_771 yy8_turnsOf (c8_turnsOf x.2.1 g h2) yc8_turnsOf kZ_1 rfl rfl (Nat.le_of_ble_eq_true rfl) ⟨Nat.le_of_ble_eq_true rfl, Nat.le_of_ble_eq_true rfl⟩ hk ?_
  refine z_aload_n C dW_law_1343 rfl ?_
  refine z_aload_n C dW_law_1344 rfl ?_
  refine z_iload_n C dW_law_1345 rfl ?_
  refine z_iconst C (1 : Int32) dW_law_1346 kI_1 ?_
  refine z_iadd C dW_law_1347 ?_
  obtain ⟨g3, hf⟩ := zgo hf
  refine z_sld C X dW_law_1348 g3 ?_
  obtain ⟨r4, s4, h4, hf⟩ := zbx hf
  refine z_callVi C (as := [zi (xs (x3 + (1 : Int32)).toNatClampNeg)]) dW_law_1349 w_1266 yy9_turnsOf (c9_turnsOf x.2.1 g h4) yc9_turnsOf kZ_103 rfl rfl (Nat.le_of_ble_eq_true rfl) ⟨Nat.le_of_ble_eq_true rfl, Nat.le_of_ble_eq_true rfl⟩ hk ?_
  refine z_icmp_eq C dW_law_1352 (fun c5 => ?_) (fun c5 => ?_)
  · have hf := zit c5 hf
    refine z_iinc C dW_law_1488 rfl kI_6 (Nat.le_of_ble_eq_true rfl) rfl (L' := [some (zr 1004), some (zr 1), some (zr 103), some (zi (x3 + (6 : Int32)))]) rfl ?_
    refine z_goto C dW_law_1491 ?_
    exact hq18 _ _ hf
  · have hf := zie c5 hf
    refine z_iconst C (0 : Int32) dW_law_1355 kI_0 ?_
    exact z_lwret hR dW_law_1356 hf
def bW_law_1271 (k N : Nat) (xs : Nat → Int32) (q18 : Int32 → ZS → Option (Int32 × ZS)) (x3 : Int32) (σ : ZS) : Option (Int32 × ZS) :=
  if zin (x3 + (1 : Int32)) N then (
  if zin (x3 + (2 : Int32)) N then (
  if zin (x3 + (3 : Int32)) N then (
  if zin (x3 + (4 : Int32)) N then (
  if zin (x3 + (5 : Int32)) N then (
  zbd (f8_move k (xs (x3 + (1 : Int32)).toNatClampNeg) (xs (x3 + (2 : Int32)).toNatClampNeg) (xs (x3 + (3 : Int32)).toNatClampNeg) (xs (x3 + (4 : Int32)).toNatClampNeg) (xs (x3 + (5 : Int32)).toNatClampNeg) σ) fun r6 s6 =>
  if zin (x3 + (1 : Int32)) N then (
  if zin (x3 + (2 : Int32)) N then (
  if zin (x3 + (3 : Int32)) N then (
  if zin (x3 + (4 : Int32)) N then (
  if zin (x3 + (5 : Int32)) N then (
  zbd (f9_move k (xs (x3 + (1 : Int32)).toNatClampNeg) (xs (x3 + (2 : Int32)).toNatClampNeg) (xs (x3 + (3 : Int32)).toNatClampNeg) (xs (x3 + (4 : Int32)).toNatClampNeg) (xs (x3 + (5 : Int32)).toNatClampNeg) s6) fun r12 s12 =>
  if r6 = r12 then (
  q18 (x3 + (6 : Int32)) s12)
  else (
  some ((0 : Int32), s12))) else none) else none) else none) else none) else none) else none) else none) else none) else none) else none
theorem jW_law_1271 {x : ZX} {g : ZG} (C : zC x g code R_law ret 4 2048 84000) {N : Nat} {xs : Nat → Int32} (X : zX g N xs x) {kc ks : Nat} {Q : State → Prop} (hR : ∀ (pc q : Nat) (σ : ZS) (L : List (Option ZV)), zd code pc .ireturn 1 q → zw x g 4 kc ks Q σ pc L [zi 1]) (hk : kc ≤ x.2.2.2.1.cells ∧ ks ≤ x.2.2.2.1.slots) {k : Nat} {σr : ZS} {q18 : Int32 → ZS → Option (Int32 × ZS)} (hq18 : ∀ (x3 : Int32) (σ : ZS), q18 x3 σ = some (1, σr) → zw x g 4 kc ks Q σ 18 [some (zr 1004), some (zr 1), some (zr 103), some (zi x3)] []) {x3 : Int32} {σ : ZS} (hf : bW_law_1271 k N xs q18 x3 σ = some (1, σr)) : zw x g 4 kc ks Q σ 1271 [some (zr 1004), some (zr 1), some (zr 103), some (zi x3)] [] := by
  unfold bW_law_1271 at hf
  refine z_aload_n C dW_law_1271 rfl ?_
  refine z_aload_n C dW_law_1272 rfl ?_
  refine z_iload_n C dW_law_1273 rfl ?_
  refine z_iconst C (1 : Int32) dW_law_1274 kI_1 ?_
  refine z_iadd C dW_law_1275 ?_
  obtain ⟨g1, hf⟩ := zgo hf
  refine z_sld C X dW_law_1276 g1 ?_
  refine z_aload_n C dW_law_1277 rfl ?_
  refine z_iload_n C dW_law_1278 rfl ?_
  refine z_iconst C (2 : Int32) dW_law_1279 kI_2 ?_
  refine z_iadd C dW_law_1280 ?_
  obtain ⟨g2, hf⟩ := zgo hf
  refine z_sld C X dW_law_1281 g2 ?_
  refine z_aload_n C dW_law_1282 rfl ?_
  refine z_iload_n C dW_law_1283 rfl ?_
  refine z_iconst C (3 : Int32) dW_law_1284 kI_3 ?_
  refine z_iadd C dW_law_1285 ?_
  obtain ⟨g3, hf⟩ := zgo hf
  refine z_sld C X dW_law_1286 g3 ?_
  refine z_aload_n C dW_law_1287 rfl ?_
  refine z_iload_n C dW_law_1288 rfl ?_
  refine z_iconst C (4 : Int32) dW_law_1289 kI_4 ?_
  refine z_iadd C dW_law_1290 ?_
  obtain ⟨g4, hf⟩ := zgo hf
  refine z_sld C X dW_law_1291 g4 ?_
  refine z_aload_n C dW_law_1292 rfl ?_
  refine z_iload_n C dW_law_1293 rfl ?_
  refine z_iconst C (5 : Int32) dW_law_1294 kI_5 ?_
  refine z_iadd C dW_law_1295 ?_
  obtain ⟨g5, hf⟩ := zgo hf
  refine z_sld C X dW_law_1296 g5 ?_
  obtain ⟨r6, s6, h6, hf⟩ := zbx hf
  refine z_callVi C (as := [zi (xs (x3 + (1 : Int32)).toNatClampNeg), zi (xs (x3 + (2 : Int32)).toNatClampNeg), zi (xs (x3 + (3 : Int32)).toNatClampNeg), zi (xs (x3 + (4 : Int32)).toNatClampNeg), zi (xs (x3 + (5 : Int32)).toNatClampNeg)]) dW_law_1297 w_762 yy8_move (c8_move x.2.1 g h6) yc8_move kZ_1 rfl rfl (Nat.le_of_ble_eq_true rfl) ⟨Nat.le_of_ble_eq_true rfl, Nat.le_of_ble_eq_true rfl⟩ hk ?_
  refine z_aload_n C dW_law_1300 rfl ?_
  refine z_aload_n C dW_law_1301 rfl ?_
  refine z_iload_n C dW_law_1302 rfl ?_
  refine z_iconst C (1 : Int32) dW_law_1303 kI_1 ?_
  refine z_iadd C dW_law_1304 ?_
  obtain ⟨g7, hf⟩ := zgo hf
  refine z_sld C X dW_law_1305 g7 ?_
  refine z_aload_n C dW_law_1306 rfl ?_
  refine z_iload_n C dW_law_1307 rfl ?_
  refine z_iconst C (2 : Int32) dW_law_1308 kI_2 ?_
  refine z_iadd C dW_law_1309 ?_
  obtain ⟨g8, hf⟩ := zgo hf
  refine z_sld C X dW_law_1310 g8 ?_
  refine z_aload_n C dW_law_1311 rfl ?_
  refine z_iload_n C dW_law_1312 rfl ?_
  refine z_iconst C (3 : Int32) dW_law_1313 kI_3 ?_
  refine z_iadd C dW_law_1314 ?_
  obtain ⟨g9, hf⟩ := zgo hf
  refine z_sld C X dW_law_1315 g9 ?_
  refine z_aload_n C dW_law_1316 rfl ?_
  refine z_iload_n C dW_law_1317 rfl ?_
  refine z_iconst C (4 : Int32) dW_law_1318 kI_4 ?_
  refine z_iadd C dW_law_1319 ?_
  obtain ⟨g10, hf⟩ := zgo hf
  refine z_sld C X dW_law_1320 g10 ?_
  refine z_aload_n C dW_law_1321 rfl ?_
  refine z_iload_n C dW_law_1322 rfl ?_
  refine z_iconst C (5 : Int32) dW_law_1323 kI_5 ?_
  refine z_iadd C dW_law_1324 ?_
  obtain ⟨g11, hf⟩ := zgo hf
  refine z_sld C X dW_law_1325 g11 ?_
  obtain ⟨r12, s12, h12, hf⟩ := zbx hf
  refine z_callVi C (as := [zi (xs (x3 + (1 : Int32)).toNatClampNeg), zi (xs (x3 + (2 : Int32)).toNatClampNeg), zi (xs (x3 + (3 : Int32)).toNatClampNeg), zi (xs (x3 + (4 : Int32)).toNatClampNeg), zi (xs (x3 + (5 : Int32)).toNatClampNeg)]) dW_law_1326 w_1258 yy9_move (c9_move x.2.1 g h12) yc9_move kZ_103 rfl rfl (Nat.le_of_ble_eq_true rfl) ⟨Nat.le_of_ble_eq_true rfl, Nat.le_of_ble_eq_true rfl⟩ hk ?_
  refine z_icmp_eq C dW_law_1329 (fun c13 => ?_) (fun c13 => ?_)
  · have hf := zit c13 hf
    refine z_iinc C dW_law_1488 rfl kI_6 (Nat.le_of_ble_eq_true rfl) rfl (L' := [some (zr 1004), some (zr 1), some (zr 103), some (zi (x3 + (6 : Int32)))]) rfl ?_
    refine z_goto C dW_law_1491 ?_
    exact hq18 _ _ hf
  · have hf := zie c13 hf
    refine z_iconst C (0 : Int32) dW_law_1332 kI_0 ?_
    exact z_lwret hR dW_law_1333 hf
def bW_law_1228 (k N : Nat) (xs : Nat → Int32) (q18 : Int32 → ZS → Option (Int32 × ZS)) (x3 : Int32) (σ : ZS) : Option (Int32 × ZS) :=
  if zin (x3 + (1 : Int32)) N then (
  if zin (x3 + (2 : Int32)) N then (
  if zin (x3 + (3 : Int32)) N then (
  zbd (f8_put k (xs (x3 + (1 : Int32)).toNatClampNeg) (xs (x3 + (2 : Int32)).toNatClampNeg) (xs (x3 + (3 : Int32)).toNatClampNeg) σ) fun r4 s4 =>
  if zin (x3 + (1 : Int32)) N then (
  if zin (x3 + (2 : Int32)) N then (
  if zin (x3 + (3 : Int32)) N then (
  zbd (f9_put k (xs (x3 + (1 : Int32)).toNatClampNeg) (xs (x3 + (2 : Int32)).toNatClampNeg) (xs (x3 + (3 : Int32)).toNatClampNeg) s4) fun r8 s8 =>
  if r4 = r8 then (
  q18 (x3 + (6 : Int32)) s8)
  else (
  some ((0 : Int32), s8))) else none) else none) else none) else none) else none) else none
theorem jW_law_1228 {x : ZX} {g : ZG} (C : zC x g code R_law ret 4 2048 84000) {N : Nat} {xs : Nat → Int32} (X : zX g N xs x) {kc ks : Nat} {Q : State → Prop} (hR : ∀ (pc q : Nat) (σ : ZS) (L : List (Option ZV)), zd code pc .ireturn 1 q → zw x g 4 kc ks Q σ pc L [zi 1]) (hk : kc ≤ x.2.2.2.1.cells ∧ ks ≤ x.2.2.2.1.slots) {k : Nat} {σr : ZS} {q18 : Int32 → ZS → Option (Int32 × ZS)} (hq18 : ∀ (x3 : Int32) (σ : ZS), q18 x3 σ = some (1, σr) → zw x g 4 kc ks Q σ 18 [some (zr 1004), some (zr 1), some (zr 103), some (zi x3)] []) {x3 : Int32} {σ : ZS} (hf : bW_law_1228 k N xs q18 x3 σ = some (1, σr)) : zw x g 4 kc ks Q σ 1228 [some (zr 1004), some (zr 1), some (zr 103), some (zi x3)] [] := by
  unfold bW_law_1228 at hf
  refine z_aload_n C dW_law_1228 rfl ?_
  refine z_aload_n C dW_law_1229 rfl ?_
  refine z_iload_n C dW_law_1230 rfl ?_
  refine z_iconst C (1 : Int32) dW_law_1231 kI_1 ?_
  refine z_iadd C dW_law_1232 ?_
  obtain ⟨g1, hf⟩ := zgo hf
  refine z_sld C X dW_law_1233 g1 ?_
  refine z_aload_n C dW_law_1234 rfl ?_
  refine z_iload_n C dW_law_1235 rfl ?_
  refine z_iconst C (2 : Int32) dW_law_1236 kI_2 ?_
  refine z_iadd C dW_law_1237 ?_
  obtain ⟨g2, hf⟩ := zgo hf
  refine z_sld C X dW_law_1238 g2 ?_
  refine z_aload_n C dW_law_1239 rfl ?_
  refine z_iload_n C dW_law_1240 rfl ?_
  refine z_iconst C (3 : Int32) dW_law_1241 kI_3 ?_
  refine z_iadd C dW_law_1242 ?_
  obtain ⟨g3, hf⟩ := zgo hf
  refine z_sld C X dW_law_1243 g3 ?_
  obtain ⟨r4, s4, h4, hf⟩ := zbx hf
  refine z_callVi C (as := [zi (xs (x3 + (1 : Int32)).toNatClampNeg), zi (xs (x3 + (2 : Int32)).toNatClampNeg), zi (xs (x3 + (3 : Int32)).toNatClampNeg)]) dW_law_1244 w_754 yy8_put (c8_put x.2.1 g h4) yc8_put kZ_1 rfl rfl (Nat.le_of_ble_eq_true rfl) ⟨Nat.le_of_ble_eq_true rfl, Nat.le_of_ble_eq_true rfl⟩ hk ?_
  refine z_aload_n C dW_law_1247 rfl ?_
  refine z_aload_n C dW_law_1248 rfl ?_
  refine z_iload_n C dW_law_1249 rfl ?_
  refine z_iconst C (1 : Int32) dW_law_1250 kI_1 ?_
  refine z_iadd C dW_law_1251 ?_
  obtain ⟨g5, hf⟩ := zgo hf
  refine z_sld C X dW_law_1252 g5 ?_
  refine z_aload_n C dW_law_1253 rfl ?_
  refine z_iload_n C dW_law_1254 rfl ?_
  refine z_iconst C (2 : Int32) dW_law_1255 kI_2 ?_
  refine z_iadd C dW_law_1256 ?_
  obtain ⟨g6, hf⟩ := zgo hf
  refine z_sld C X dW_law_1257 g6 ?_
  refine z_aload_n C dW_law_1258 rfl ?_
  refine z_iload_n C dW_law_1259 rfl ?_
  refine z_iconst C (3 : Int32) dW_law_1260 kI_3 ?_
  refine z_iadd C dW_law_1261 ?_
  obtain ⟨g7, hf⟩ := zgo hf
  refine z_sld C X dW_law_1262 g7 ?_
  obtain ⟨r8, s8, h8, hf⟩ := zbx hf
  refine z_callVi C (as := [zi (xs (x3 + (1 : Int32)).toNatClampNeg), zi (xs (x3 + (2 : Int32)).toNatClampNeg), zi (xs (x3 + (3 : Int32)).toNatClampNeg)]) dW_law_1263 w_1250 yy9_put (c9_put x.2.1 g h8) yc9_put kZ_103 rfl rfl (Nat.le_of_ble_eq_true rfl) ⟨Nat.le_of_ble_eq_true rfl, Nat.le_of_ble_eq_true rfl⟩ hk ?_
  refine z_icmp_eq C dW_law_1266 (fun c9 => ?_) (fun c9 => ?_)
  · have hf := zit c9 hf
    refine z_iinc C dW_law_1488 rfl kI_6 (Nat.le_of_ble_eq_true rfl) rfl (L' := [some (zr 1004), some (zr 1), some (zr 103), some (zi (x3 + (6 : Int32)))]) rfl ?_
    refine z_goto C dW_law_1491 ?_
    exact hq18 _ _ hf
  · have hf := zie c9 hf
    refine z_iconst C (0 : Int32) dW_law_1269 kI_0 ?_
    exact z_lwret hR dW_law_1270 hf
def bW_law_1185 (k N : Nat) (xs : Nat → Int32) (q18 : Int32 → ZS → Option (Int32 × ZS)) (x3 : Int32) (σ : ZS) : Option (Int32 × ZS) :=
  if zin (x3 + (1 : Int32)) N then (
  if zin (x3 + (2 : Int32)) N then (
  if zin (x3 + (3 : Int32)) N then (
  zbd (f8_sheet k (xs (x3 + (1 : Int32)).toNatClampNeg) (xs (x3 + (2 : Int32)).toNatClampNeg) (xs (x3 + (3 : Int32)).toNatClampNeg) σ) fun r4 s4 =>
  if zin (x3 + (1 : Int32)) N then (
  if zin (x3 + (2 : Int32)) N then (
  if zin (x3 + (3 : Int32)) N then (
  zbd (f9_sheet k (xs (x3 + (1 : Int32)).toNatClampNeg) (xs (x3 + (2 : Int32)).toNatClampNeg) (xs (x3 + (3 : Int32)).toNatClampNeg) s4) fun r8 s8 =>
  if r4 = r8 then (
  q18 (x3 + (6 : Int32)) s8)
  else (
  some ((0 : Int32), s8))) else none) else none) else none) else none) else none) else none
theorem jW_law_1185 {x : ZX} {g : ZG} (C : zC x g code R_law ret 4 2048 84000) {N : Nat} {xs : Nat → Int32} (X : zX g N xs x) {kc ks : Nat} {Q : State → Prop} (hR : ∀ (pc q : Nat) (σ : ZS) (L : List (Option ZV)), zd code pc .ireturn 1 q → zw x g 4 kc ks Q σ pc L [zi 1]) (hk : kc ≤ x.2.2.2.1.cells ∧ ks ≤ x.2.2.2.1.slots) {k : Nat} {σr : ZS} {q18 : Int32 → ZS → Option (Int32 × ZS)} (hq18 : ∀ (x3 : Int32) (σ : ZS), q18 x3 σ = some (1, σr) → zw x g 4 kc ks Q σ 18 [some (zr 1004), some (zr 1), some (zr 103), some (zi x3)] []) {x3 : Int32} {σ : ZS} (hf : bW_law_1185 k N xs q18 x3 σ = some (1, σr)) : zw x g 4 kc ks Q σ 1185 [some (zr 1004), some (zr 1), some (zr 103), some (zi x3)] [] := by
  unfold bW_law_1185 at hf
  refine z_aload_n C dW_law_1185 rfl ?_
  refine z_aload_n C dW_law_1186 rfl ?_
  refine z_iload_n C dW_law_1187 rfl ?_
  refine z_iconst C (1 : Int32) dW_law_1188 kI_1 ?_
  refine z_iadd C dW_law_1189 ?_
  obtain ⟨g1, hf⟩ := zgo hf
  refine z_sld C X dW_law_1190 g1 ?_
  refine z_aload_n C dW_law_1191 rfl ?_
  refine z_iload_n C dW_law_1192 rfl ?_
  refine z_iconst C (2 : Int32) dW_law_1193 kI_2 ?_
  refine z_iadd C dW_law_1194 ?_
  obtain ⟨g2, hf⟩ := zgo hf
  refine z_sld C X dW_law_1195 g2 ?_
  refine z_aload_n C dW_law_1196 rfl ?_
  refine z_iload_n C dW_law_1197 rfl ?_
  refine z_iconst C (3 : Int32) dW_law_1198 kI_3 ?_
  refine z_iadd C dW_law_1199 ?_
  obtain ⟨g3, hf⟩ := zgo hf
  refine z_sld C X dW_law_1200 g3 ?_
  obtain ⟨r4, s4, h4, hf⟩ := zbx hf
  refine z_callVi C (as := [zi (xs (x3 + (1 : Int32)).toNatClampNeg), zi (xs (x3 + (2 : Int32)).toNatClampNeg), zi (xs (x3 + (3 : Int32)).toNatClampNeg)]) dW_law_1201 w_745 yy8_sheet (c8_sheet x.2.1 g h4) yc8_sheet kZ_1 rfl rfl (Nat.le_of_ble_eq_true rfl) ⟨Nat.le_of_ble_eq_true rfl, Nat.le_of_ble_eq_true rfl⟩ hk ?_
  refine z_aload_n C dW_law_1204 rfl ?_
  refine z_aload_n C dW_law_1205 rfl ?_
  refine z_iload_n C dW_law_1206 rfl ?_
  refine z_iconst C (1 : Int32) dW_law_1207 kI_1 ?_
  refine z_iadd C dW_law_1208 ?_
  obtain ⟨g5, hf⟩ := zgo hf
  refine z_sld C X dW_law_1209 g5 ?_
  refine z_aload_n C dW_law_1210 rfl ?_
  refine z_iload_n C dW_law_1211 rfl ?_
  refine z_iconst C (2 : Int32) dW_law_1212 kI_2 ?_
  refine z_iadd C dW_law_1213 ?_
  obtain ⟨g6, hf⟩ := zgo hf
  refine z_sld C X dW_law_1214 g6 ?_
  refine z_aload_n C dW_law_1215 rfl ?_
  refine z_iload_n C dW_law_1216 rfl ?_
  refine z_iconst C (3 : Int32) dW_law_1217 kI_3 ?_
  refine z_iadd C dW_law_1218 ?_
  obtain ⟨g7, hf⟩ := zgo hf
  refine z_sld C X dW_law_1219 g7 ?_
  obtain ⟨r8, s8, h8, hf⟩ := zbx hf
  refine z_callVi C (as := [zi (xs (x3 + (1 : Int32)).toNatClampNeg), zi (xs (x3 + (2 : Int32)).toNatClampNeg), zi (xs (x3 + (3 : Int32)).toNatClampNeg)]) dW_law_1220 w_1246 yy9_sheet (c9_sheet x.2.1 g h8) yc9_sheet kZ_103 rfl rfl (Nat.le_of_ble_eq_true rfl) ⟨Nat.le_of_ble_eq_true rfl, Nat.le_of_ble_eq_true rfl⟩ hk ?_
  refine z_icmp_eq C dW_law_1223 (fun c9 => ?_) (fun c9 => ?_)
  · have hf := zit c9 hf
    refine z_iinc C dW_law_1488 rfl kI_6 (Nat.le_of_ble_eq_true rfl) rfl (L' := [some (zr 1004), some (zr 1), some (zr 103), some (zi (x3 + (6 : Int32)))]) rfl ?_
    refine z_goto C dW_law_1491 ?_
    exact hq18 _ _ hf
  · have hf := zie c9 hf
    refine z_iconst C (0 : Int32) dW_law_1226 kI_0 ?_
    exact z_lwret hR dW_law_1227 hf
def bW_law_1162 (k N : Nat) (xs : Nat → Int32) (q18 : Int32 → ZS → Option (Int32 × ZS)) (x3 : Int32) (σ : ZS) : Option (Int32 × ZS) :=
  if zin (x3 + (1 : Int32)) N then (
  zbd (f8_body k (xs (x3 + (1 : Int32)).toNatClampNeg) σ) fun r2 s2 =>
  if zin (x3 + (1 : Int32)) N then (
  zbd (f9_body k (xs (x3 + (1 : Int32)).toNatClampNeg) s2) fun r4 s4 =>
  if r2 = r4 then (
  q18 (x3 + (6 : Int32)) s4)
  else (
  some ((0 : Int32), s4))) else none) else none
theorem jW_law_1162 {x : ZX} {g : ZG} (C : zC x g code R_law ret 4 2048 84000) {N : Nat} {xs : Nat → Int32} (X : zX g N xs x) {kc ks : Nat} {Q : State → Prop} (hR : ∀ (pc q : Nat) (σ : ZS) (L : List (Option ZV)), zd code pc .ireturn 1 q → zw x g 4 kc ks Q σ pc L [zi 1]) (hk : kc ≤ x.2.2.2.1.cells ∧ ks ≤ x.2.2.2.1.slots) {k : Nat} {σr : ZS} {q18 : Int32 → ZS → Option (Int32 × ZS)} (hq18 : ∀ (x3 : Int32) (σ : ZS), q18 x3 σ = some (1, σr) → zw x g 4 kc ks Q σ 18 [some (zr 1004), some (zr 1), some (zr 103), some (zi x3)] []) {x3 : Int32} {σ : ZS} (hf : bW_law_1162 k N xs q18 x3 σ = some (1, σr)) : zw x g 4 kc ks Q σ 1162 [some (zr 1004), some (zr 1), some (zr 103), some (zi x3)] [] := by
  unfold bW_law_1162 at hf
  refine z_aload_n C dW_law_1162 rfl ?_
  refine z_aload_n C dW_law_1163 rfl ?_
  refine z_iload_n C dW_law_1164 rfl ?_
  refine z_iconst C (1 : Int32) dW_law_1165 kI_1 ?_
  refine z_iadd C dW_law_1166 ?_
  obtain ⟨g1, hf⟩ := zgo hf
  refine z_sld C X dW_law_1167 g1 ?_
  obtain ⟨r2, s2, h2, hf⟩ := zbx hf
  refine z_callVi C (as := [zi (xs (x3 + (1 : Int32)).toNatClampNeg)]) dW_law_1168 w_737 yy8_body (c8_body x.2.1 g h2) yc8_body kZ_1 rfl rfl (Nat.le_of_ble_eq_true rfl) ⟨Nat.le_of_ble_eq_true rfl, Nat.le_of_ble_eq_true rfl⟩ hk ?_
  refine z_aload_n C dW_law_1171 rfl ?_
  refine z_aload_n C dW_law_1172 rfl ?_
  refine z_iload_n C dW_law_1173 rfl ?_
  refine z_iconst C (1 : Int32) dW_law_1174 kI_1 ?_
  refine z_iadd C dW_law_1175 ?_
  obtain ⟨g3, hf⟩ := zgo hf
  refine z_sld C X dW_law_1176 g3 ?_
  obtain ⟨r4, s4, h4, hf⟩ := zbx hf
  refine z_callVi C (as := [zi (xs (x3 + (1 : Int32)).toNatClampNeg)]) dW_law_1177 w_1242 yy9_body (c9_body x.2.1 g h4) yc9_body kZ_103 rfl rfl (Nat.le_of_ble_eq_true rfl) ⟨Nat.le_of_ble_eq_true rfl, Nat.le_of_ble_eq_true rfl⟩ hk ?_
  refine z_icmp_eq C dW_law_1180 (fun c5 => ?_) (fun c5 => ?_)
  · have hf := zit c5 hf
    refine z_iinc C dW_law_1488 rfl kI_6 (Nat.le_of_ble_eq_true rfl) rfl (L' := [some (zr 1004), some (zr 1), some (zr 103), some (zi (x3 + (6 : Int32)))]) rfl ?_
    refine z_goto C dW_law_1491 ?_
    exact hq18 _ _ hf
  · have hf := zie c5 hf
    refine z_iconst C (0 : Int32) dW_law_1183 kI_0 ?_
    exact z_lwret hR dW_law_1184 hf
def bW_law_1119 (k N : Nat) (xs : Nat → Int32) (q18 : Int32 → ZS → Option (Int32 × ZS)) (x3 : Int32) (σ : ZS) : Option (Int32 × ZS) :=
  if zin (x3 + (1 : Int32)) N then (
  if zin (x3 + (2 : Int32)) N then (
  if zin (x3 + (3 : Int32)) N then (
  zbd (f8_voice k (xs (x3 + (1 : Int32)).toNatClampNeg) (xs (x3 + (2 : Int32)).toNatClampNeg) (xs (x3 + (3 : Int32)).toNatClampNeg) σ) fun r4 s4 =>
  if zin (x3 + (1 : Int32)) N then (
  if zin (x3 + (2 : Int32)) N then (
  if zin (x3 + (3 : Int32)) N then (
  zbd (f9_voice k (xs (x3 + (1 : Int32)).toNatClampNeg) (xs (x3 + (2 : Int32)).toNatClampNeg) (xs (x3 + (3 : Int32)).toNatClampNeg) s4) fun r8 s8 =>
  if r4 = r8 then (
  q18 (x3 + (6 : Int32)) s8)
  else (
  some ((0 : Int32), s8))) else none) else none) else none) else none) else none) else none
theorem jW_law_1119 {x : ZX} {g : ZG} (C : zC x g code R_law ret 4 2048 84000) {N : Nat} {xs : Nat → Int32} (X : zX g N xs x) {kc ks : Nat} {Q : State → Prop} (hR : ∀ (pc q : Nat) (σ : ZS) (L : List (Option ZV)), zd code pc .ireturn 1 q → zw x g 4 kc ks Q σ pc L [zi 1]) (hk : kc ≤ x.2.2.2.1.cells ∧ ks ≤ x.2.2.2.1.slots) {k : Nat} {σr : ZS} {q18 : Int32 → ZS → Option (Int32 × ZS)} (hq18 : ∀ (x3 : Int32) (σ : ZS), q18 x3 σ = some (1, σr) → zw x g 4 kc ks Q σ 18 [some (zr 1004), some (zr 1), some (zr 103), some (zi x3)] []) {x3 : Int32} {σ : ZS} (hf : bW_law_1119 k N xs q18 x3 σ = some (1, σr)) : zw x g 4 kc ks Q σ 1119 [some (zr 1004), some (zr 1), some (zr 103), some (zi x3)] [] := by
  unfold bW_law_1119 at hf
  refine z_aload_n C dW_law_1119 rfl ?_
  refine z_aload_n C dW_law_1120 rfl ?_
  refine z_iload_n C dW_law_1121 rfl ?_
  refine z_iconst C (1 : Int32) dW_law_1122 kI_1 ?_
  refine z_iadd C dW_law_1123 ?_
  obtain ⟨g1, hf⟩ := zgo hf
  refine z_sld C X dW_law_1124 g1 ?_
  refine z_aload_n C dW_law_1125 rfl ?_
  refine z_iload_n C dW_law_1126 rfl ?_
  refine z_iconst C (2 : Int32) dW_law_1127 kI_2 ?_
  refine z_iadd C dW_law_1128 ?_
  obtain ⟨g2, hf⟩ := zgo hf
  refine z_sld C X dW_law_1129 g2 ?_
  refine z_aload_n C dW_law_1130 rfl ?_
  refine z_iload_n C dW_law_1131 rfl ?_
  refine z_iconst C (3 : Int32) dW_law_1132 kI_3 ?_
  refine z_iadd C dW_law_1133 ?_
  obtain ⟨g3, hf⟩ := zgo hf
  refine z_sld C X dW_law_1134 g3 ?_
  obtain ⟨r4, s4, h4, hf⟩ := zbx hf
  refine z_callVi C (as := [zi (xs (x3 + (1 : Int32)).toNatClampNeg), zi (xs (x3 + (2 : Int32)).toNatClampNeg), zi (xs (x3 + (3 : Int32)).toNatClampNeg)]) dW_law_1135 w_699 yy8_voice (c8_voice x.2.1 g h4) yc8_voice kZ_1 rfl rfl (Nat.le_of_ble_eq_true rfl) ⟨Nat.le_of_ble_eq_true rfl, Nat.le_of_ble_eq_true rfl⟩ hk ?_
  refine z_aload_n C dW_law_1138 rfl ?_
  refine z_aload_n C dW_law_1139 rfl ?_
  refine z_iload_n C dW_law_1140 rfl ?_
  refine z_iconst C (1 : Int32) dW_law_1141 kI_1 ?_
  refine z_iadd C dW_law_1142 ?_
  obtain ⟨g5, hf⟩ := zgo hf
  refine z_sld C X dW_law_1143 g5 ?_
  refine z_aload_n C dW_law_1144 rfl ?_
  refine z_iload_n C dW_law_1145 rfl ?_
  refine z_iconst C (2 : Int32) dW_law_1146 kI_2 ?_
  refine z_iadd C dW_law_1147 ?_
  obtain ⟨g6, hf⟩ := zgo hf
  refine z_sld C X dW_law_1148 g6 ?_
  refine z_aload_n C dW_law_1149 rfl ?_
  refine z_iload_n C dW_law_1150 rfl ?_
  refine z_iconst C (3 : Int32) dW_law_1151 kI_3 ?_
  refine z_iadd C dW_law_1152 ?_
  obtain ⟨g7, hf⟩ := zgo hf
  refine z_sld C X dW_law_1153 g7 ?_
  obtain ⟨r8, s8, h8, hf⟩ := zbx hf
  refine z_callVi C (as := [zi (xs (x3 + (1 : Int32)).toNatClampNeg), zi (xs (x3 + (2 : Int32)).toNatClampNeg), zi (xs (x3 + (3 : Int32)).toNatClampNeg)]) dW_law_1154 w_1193 yy9_voice (c9_voice x.2.1 g h8) yc9_voice kZ_103 rfl rfl (Nat.le_of_ble_eq_true rfl) ⟨Nat.le_of_ble_eq_true rfl, Nat.le_of_ble_eq_true rfl⟩ hk ?_
  refine z_icmp_eq C dW_law_1157 (fun c9 => ?_) (fun c9 => ?_)
  · have hf := zit c9 hf
    refine z_iinc C dW_law_1488 rfl kI_6 (Nat.le_of_ble_eq_true rfl) rfl (L' := [some (zr 1004), some (zr 1), some (zr 103), some (zi (x3 + (6 : Int32)))]) rfl ?_
    refine z_goto C dW_law_1491 ?_
    exact hq18 _ _ hf
  · have hf := zie c9 hf
    refine z_iconst C (0 : Int32) dW_law_1160 kI_0 ?_
    exact z_lwret hR dW_law_1161 hf
def bW_law_1086 (k N : Nat) (xs : Nat → Int32) (q18 : Int32 → ZS → Option (Int32 × ZS)) (x3 : Int32) (σ : ZS) : Option (Int32 × ZS) :=
  if zin (x3 + (1 : Int32)) N then (
  if zin (x3 + (2 : Int32)) N then (
  zbd (f8_fits k (xs (x3 + (1 : Int32)).toNatClampNeg) (xs (x3 + (2 : Int32)).toNatClampNeg) σ) fun r3 s3 =>
  if zin (x3 + (1 : Int32)) N then (
  if zin (x3 + (2 : Int32)) N then (
  zbd (f9_fits k (xs (x3 + (1 : Int32)).toNatClampNeg) (xs (x3 + (2 : Int32)).toNatClampNeg) s3) fun r6 s6 =>
  if r3 = r6 then (
  q18 (x3 + (6 : Int32)) s6)
  else (
  some ((0 : Int32), s6))) else none) else none) else none) else none
theorem jW_law_1086 {x : ZX} {g : ZG} (C : zC x g code R_law ret 4 2048 84000) {N : Nat} {xs : Nat → Int32} (X : zX g N xs x) {kc ks : Nat} {Q : State → Prop} (hR : ∀ (pc q : Nat) (σ : ZS) (L : List (Option ZV)), zd code pc .ireturn 1 q → zw x g 4 kc ks Q σ pc L [zi 1]) (hk : kc ≤ x.2.2.2.1.cells ∧ ks ≤ x.2.2.2.1.slots) {k : Nat} {σr : ZS} {q18 : Int32 → ZS → Option (Int32 × ZS)} (hq18 : ∀ (x3 : Int32) (σ : ZS), q18 x3 σ = some (1, σr) → zw x g 4 kc ks Q σ 18 [some (zr 1004), some (zr 1), some (zr 103), some (zi x3)] []) {x3 : Int32} {σ : ZS} (hf : bW_law_1086 k N xs q18 x3 σ = some (1, σr)) : zw x g 4 kc ks Q σ 1086 [some (zr 1004), some (zr 1), some (zr 103), some (zi x3)] [] := by
  unfold bW_law_1086 at hf
  refine z_aload_n C dW_law_1086 rfl ?_
  refine z_aload_n C dW_law_1087 rfl ?_
  refine z_iload_n C dW_law_1088 rfl ?_
  refine z_iconst C (1 : Int32) dW_law_1089 kI_1 ?_
  refine z_iadd C dW_law_1090 ?_
  obtain ⟨g1, hf⟩ := zgo hf
  refine z_sld C X dW_law_1091 g1 ?_
  refine z_aload_n C dW_law_1092 rfl ?_
  refine z_iload_n C dW_law_1093 rfl ?_
  refine z_iconst C (2 : Int32) dW_law_1094 kI_2 ?_
  refine z_iadd C dW_law_1095 ?_
  obtain ⟨g2, hf⟩ := zgo hf
  refine z_sld C X dW_law_1096 g2 ?_
  obtain ⟨r3, s3, h3, hf⟩ := zbx hf
  refine z_callVi C (as := [zi (xs (x3 + (1 : Int32)).toNatClampNeg), zi (xs (x3 + (2 : Int32)).toNatClampNeg)]) dW_law_1097 w_683 yy8_fits (c8_fits x.2.1 g h3) yc8_fits kZ_1 rfl rfl (Nat.le_of_ble_eq_true rfl) ⟨Nat.le_of_ble_eq_true rfl, Nat.le_of_ble_eq_true rfl⟩ hk ?_
  refine z_aload_n C dW_law_1100 rfl ?_
  refine z_aload_n C dW_law_1101 rfl ?_
  refine z_iload_n C dW_law_1102 rfl ?_
  refine z_iconst C (1 : Int32) dW_law_1103 kI_1 ?_
  refine z_iadd C dW_law_1104 ?_
  obtain ⟨g4, hf⟩ := zgo hf
  refine z_sld C X dW_law_1105 g4 ?_
  refine z_aload_n C dW_law_1106 rfl ?_
  refine z_iload_n C dW_law_1107 rfl ?_
  refine z_iconst C (2 : Int32) dW_law_1108 kI_2 ?_
  refine z_iadd C dW_law_1109 ?_
  obtain ⟨g5, hf⟩ := zgo hf
  refine z_sld C X dW_law_1110 g5 ?_
  obtain ⟨r6, s6, h6, hf⟩ := zbx hf
  refine z_callVi C (as := [zi (xs (x3 + (1 : Int32)).toNatClampNeg), zi (xs (x3 + (2 : Int32)).toNatClampNeg)]) dW_law_1111 w_1182 yy9_fits (c9_fits x.2.1 g h6) yc9_fits kZ_103 rfl rfl (Nat.le_of_ble_eq_true rfl) ⟨Nat.le_of_ble_eq_true rfl, Nat.le_of_ble_eq_true rfl⟩ hk ?_
  refine z_icmp_eq C dW_law_1114 (fun c7 => ?_) (fun c7 => ?_)
  · have hf := zit c7 hf
    refine z_iinc C dW_law_1488 rfl kI_6 (Nat.le_of_ble_eq_true rfl) rfl (L' := [some (zr 1004), some (zr 1), some (zr 103), some (zi (x3 + (6 : Int32)))]) rfl ?_
    refine z_goto C dW_law_1491 ?_
    exact hq18 _ _ hf
  · have hf := zie c7 hf
    refine z_iconst C (0 : Int32) dW_law_1117 kI_0 ?_
    exact z_lwret hR dW_law_1118 hf
def bW_law_1063 (k N : Nat) (xs : Nat → Int32) (q18 : Int32 → ZS → Option (Int32 × ZS)) (x3 : Int32) (σ : ZS) : Option (Int32 × ZS) :=
  if zin (x3 + (1 : Int32)) N then (
  zbd (f8_odds k (xs (x3 + (1 : Int32)).toNatClampNeg) σ) fun r2 s2 =>
  if zin (x3 + (1 : Int32)) N then (
  zbd (f9_odds k (xs (x3 + (1 : Int32)).toNatClampNeg) s2) fun r4 s4 =>
  if r2 = r4 then (
  q18 (x3 + (6 : Int32)) s4)
  else (
  some ((0 : Int32), s4))) else none) else none
theorem jW_law_1063 {x : ZX} {g : ZG} (C : zC x g code R_law ret 4 2048 84000) {N : Nat} {xs : Nat → Int32} (X : zX g N xs x) {kc ks : Nat} {Q : State → Prop} (hR : ∀ (pc q : Nat) (σ : ZS) (L : List (Option ZV)), zd code pc .ireturn 1 q → zw x g 4 kc ks Q σ pc L [zi 1]) (hk : kc ≤ x.2.2.2.1.cells ∧ ks ≤ x.2.2.2.1.slots) {k : Nat} {σr : ZS} {q18 : Int32 → ZS → Option (Int32 × ZS)} (hq18 : ∀ (x3 : Int32) (σ : ZS), q18 x3 σ = some (1, σr) → zw x g 4 kc ks Q σ 18 [some (zr 1004), some (zr 1), some (zr 103), some (zi x3)] []) {x3 : Int32} {σ : ZS} (hf : bW_law_1063 k N xs q18 x3 σ = some (1, σr)) : zw x g 4 kc ks Q σ 1063 [some (zr 1004), some (zr 1), some (zr 103), some (zi x3)] [] := by
  unfold bW_law_1063 at hf
  refine z_aload_n C dW_law_1063 rfl ?_
  refine z_aload_n C dW_law_1064 rfl ?_
  refine z_iload_n C dW_law_1065 rfl ?_
  refine z_iconst C (1 : Int32) dW_law_1066 kI_1 ?_
  refine z_iadd C dW_law_1067 ?_
  obtain ⟨g1, hf⟩ := zgo hf
  refine z_sld C X dW_law_1068 g1 ?_
  obtain ⟨r2, s2, h2, hf⟩ := zbx hf
  refine z_callVi C (as := [zi (xs (x3 + (1 : Int32)).toNatClampNeg)]) dW_law_1069 w_679 yy8_odds (c8_odds x.2.1 g h2) yc8_odds kZ_1 rfl rfl (Nat.le_of_ble_eq_true rfl) ⟨Nat.le_of_ble_eq_true rfl, Nat.le_of_ble_eq_true rfl⟩ hk ?_
  refine z_aload_n C dW_law_1072 rfl ?_
  refine z_aload_n C dW_law_1073 rfl ?_
  refine z_iload_n C dW_law_1074 rfl ?_
  refine z_iconst C (1 : Int32) dW_law_1075 kI_1 ?_
  refine z_iadd C dW_law_1076 ?_
  obtain ⟨g3, hf⟩ := zgo hf
  refine z_sld C X dW_law_1077 g3 ?_
  obtain ⟨r4, s4, h4, hf⟩ := zbx hf
  refine z_callVi C (as := [zi (xs (x3 + (1 : Int32)).toNatClampNeg)]) dW_law_1078 w_1178 yy9_odds (c9_odds x.2.1 g h4) yc9_odds kZ_103 rfl rfl (Nat.le_of_ble_eq_true rfl) ⟨Nat.le_of_ble_eq_true rfl, Nat.le_of_ble_eq_true rfl⟩ hk ?_
  refine z_icmp_eq C dW_law_1081 (fun c5 => ?_) (fun c5 => ?_)
  · have hf := zit c5 hf
    refine z_iinc C dW_law_1488 rfl kI_6 (Nat.le_of_ble_eq_true rfl) rfl (L' := [some (zr 1004), some (zr 1), some (zr 103), some (zi (x3 + (6 : Int32)))]) rfl ?_
    refine z_goto C dW_law_1491 ?_
    exact hq18 _ _ hf
  · have hf := zie c5 hf
    refine z_iconst C (0 : Int32) dW_law_1084 kI_0 ?_
    exact z_lwret hR dW_law_1085 hf
def bW_law_1020 (k N : Nat) (xs : Nat → Int32) (q18 : Int32 → ZS → Option (Int32 × ZS)) (x3 : Int32) (σ : ZS) : Option (Int32 × ZS) :=
  if zin (x3 + (1 : Int32)) N then (
  if zin (x3 + (2 : Int32)) N then (
  if zin (x3 + (3 : Int32)) N then (
  zbd (f8_spins k (xs (x3 + (1 : Int32)).toNatClampNeg) (xs (x3 + (2 : Int32)).toNatClampNeg) (xs (x3 + (3 : Int32)).toNatClampNeg) σ) fun r4 s4 =>
  if zin (x3 + (1 : Int32)) N then (
  if zin (x3 + (2 : Int32)) N then (
  if zin (x3 + (3 : Int32)) N then (
  zbd (f9_spins k (xs (x3 + (1 : Int32)).toNatClampNeg) (xs (x3 + (2 : Int32)).toNatClampNeg) (xs (x3 + (3 : Int32)).toNatClampNeg) s4) fun r8 s8 =>
  if r4 = r8 then (
  q18 (x3 + (6 : Int32)) s8)
  else (
  some ((0 : Int32), s8))) else none) else none) else none) else none) else none) else none
theorem jW_law_1020 {x : ZX} {g : ZG} (C : zC x g code R_law ret 4 2048 84000) {N : Nat} {xs : Nat → Int32} (X : zX g N xs x) {kc ks : Nat} {Q : State → Prop} (hR : ∀ (pc q : Nat) (σ : ZS) (L : List (Option ZV)), zd code pc .ireturn 1 q → zw x g 4 kc ks Q σ pc L [zi 1]) (hk : kc ≤ x.2.2.2.1.cells ∧ ks ≤ x.2.2.2.1.slots) {k : Nat} {σr : ZS} {q18 : Int32 → ZS → Option (Int32 × ZS)} (hq18 : ∀ (x3 : Int32) (σ : ZS), q18 x3 σ = some (1, σr) → zw x g 4 kc ks Q σ 18 [some (zr 1004), some (zr 1), some (zr 103), some (zi x3)] []) {x3 : Int32} {σ : ZS} (hf : bW_law_1020 k N xs q18 x3 σ = some (1, σr)) : zw x g 4 kc ks Q σ 1020 [some (zr 1004), some (zr 1), some (zr 103), some (zi x3)] [] := by
  unfold bW_law_1020 at hf
  refine z_aload_n C dW_law_1020 rfl ?_
  refine z_aload_n C dW_law_1021 rfl ?_
  refine z_iload_n C dW_law_1022 rfl ?_
  refine z_iconst C (1 : Int32) dW_law_1023 kI_1 ?_
  refine z_iadd C dW_law_1024 ?_
  obtain ⟨g1, hf⟩ := zgo hf
  refine z_sld C X dW_law_1025 g1 ?_
  refine z_aload_n C dW_law_1026 rfl ?_
  refine z_iload_n C dW_law_1027 rfl ?_
  refine z_iconst C (2 : Int32) dW_law_1028 kI_2 ?_
  refine z_iadd C dW_law_1029 ?_
  obtain ⟨g2, hf⟩ := zgo hf
  refine z_sld C X dW_law_1030 g2 ?_
  refine z_aload_n C dW_law_1031 rfl ?_
  refine z_iload_n C dW_law_1032 rfl ?_
  refine z_iconst C (3 : Int32) dW_law_1033 kI_3 ?_
  refine z_iadd C dW_law_1034 ?_
  obtain ⟨g3, hf⟩ := zgo hf
  refine z_sld C X dW_law_1035 g3 ?_
  obtain ⟨r4, s4, h4, hf⟩ := zbx hf
  refine z_callVi C (as := [zi (xs (x3 + (1 : Int32)).toNatClampNeg), zi (xs (x3 + (2 : Int32)).toNatClampNeg), zi (xs (x3 + (3 : Int32)).toNatClampNeg)]) dW_law_1036 w_659 yy8_spins (c8_spins x.2.1 g h4) yc8_spins kZ_1 rfl rfl (Nat.le_of_ble_eq_true rfl) ⟨Nat.le_of_ble_eq_true rfl, Nat.le_of_ble_eq_true rfl⟩ hk ?_
  refine z_aload_n C dW_law_1039 rfl ?_
  refine z_aload_n C dW_law_1040 rfl ?_
  refine z_iload_n C dW_law_1041 rfl ?_
  refine z_iconst C (1 : Int32) dW_law_1042 kI_1 ?_
  refine z_iadd C dW_law_1043 ?_
  obtain ⟨g5, hf⟩ := zgo hf
  refine z_sld C X dW_law_1044 g5 ?_
  refine z_aload_n C dW_law_1045 rfl ?_
  refine z_iload_n C dW_law_1046 rfl ?_
  refine z_iconst C (2 : Int32) dW_law_1047 kI_2 ?_
  refine z_iadd C dW_law_1048 ?_
  obtain ⟨g6, hf⟩ := zgo hf
  refine z_sld C X dW_law_1049 g6 ?_
  refine z_aload_n C dW_law_1050 rfl ?_
  refine z_iload_n C dW_law_1051 rfl ?_
  refine z_iconst C (3 : Int32) dW_law_1052 kI_3 ?_
  refine z_iadd C dW_law_1053 ?_
  obtain ⟨g7, hf⟩ := zgo hf
  refine z_sld C X dW_law_1054 g7 ?_
  obtain ⟨r8, s8, h8, hf⟩ := zbx hf
  refine z_callVi C (as := [zi (xs (x3 + (1 : Int32)).toNatClampNeg), zi (xs (x3 + (2 : Int32)).toNatClampNeg), zi (xs (x3 + (3 : Int32)).toNatClampNeg)]) dW_law_1055 w_1166 yy9_spins (c9_spins x.2.1 g h8) yc9_spins kZ_103 rfl rfl (Nat.le_of_ble_eq_true rfl) ⟨Nat.le_of_ble_eq_true rfl, Nat.le_of_ble_eq_true rfl⟩ hk ?_
  refine z_icmp_eq C dW_law_1058 (fun c9 => ?_) (fun c9 => ?_)
  · have hf := zit c9 hf
    refine z_iinc C dW_law_1488 rfl kI_6 (Nat.le_of_ble_eq_true rfl) rfl (L' := [some (zr 1004), some (zr 1), some (zr 103), some (zi (x3 + (6 : Int32)))]) rfl ?_
    refine z_goto C dW_law_1491 ?_
    exact hq18 _ _ hf
  · have hf := zie c9 hf
    refine z_iconst C (0 : Int32) dW_law_1061 kI_0 ?_
    exact z_lwret hR dW_law_1062 hf
def bW_law_987 (k N : Nat) (xs : Nat → Int32) (q18 : Int32 → ZS → Option (Int32 × ZS)) (x3 : Int32) (σ : ZS) : Option (Int32 × ZS) :=
  if zin (x3 + (1 : Int32)) N then (
  if zin (x3 + (2 : Int32)) N then (
  zbd (f8_starts k (xs (x3 + (1 : Int32)).toNatClampNeg) (xs (x3 + (2 : Int32)).toNatClampNeg) σ) fun r3 s3 =>
  if zin (x3 + (1 : Int32)) N then (
  if zin (x3 + (2 : Int32)) N then (
  zbd (f9_starts k (xs (x3 + (1 : Int32)).toNatClampNeg) (xs (x3 + (2 : Int32)).toNatClampNeg) s3) fun r6 s6 =>
  if r3 = r6 then (
  q18 (x3 + (6 : Int32)) s6)
  else (
  some ((0 : Int32), s6))) else none) else none) else none) else none
theorem jW_law_987 {x : ZX} {g : ZG} (C : zC x g code R_law ret 4 2048 84000) {N : Nat} {xs : Nat → Int32} (X : zX g N xs x) {kc ks : Nat} {Q : State → Prop} (hR : ∀ (pc q : Nat) (σ : ZS) (L : List (Option ZV)), zd code pc .ireturn 1 q → zw x g 4 kc ks Q σ pc L [zi 1]) (hk : kc ≤ x.2.2.2.1.cells ∧ ks ≤ x.2.2.2.1.slots) {k : Nat} {σr : ZS} {q18 : Int32 → ZS → Option (Int32 × ZS)} (hq18 : ∀ (x3 : Int32) (σ : ZS), q18 x3 σ = some (1, σr) → zw x g 4 kc ks Q σ 18 [some (zr 1004), some (zr 1), some (zr 103), some (zi x3)] []) {x3 : Int32} {σ : ZS} (hf : bW_law_987 k N xs q18 x3 σ = some (1, σr)) : zw x g 4 kc ks Q σ 987 [some (zr 1004), some (zr 1), some (zr 103), some (zi x3)] [] := by
  unfold bW_law_987 at hf
  refine z_aload_n C dW_law_987 rfl ?_
  refine z_aload_n C dW_law_988 rfl ?_
  refine z_iload_n C dW_law_989 rfl ?_
  refine z_iconst C (1 : Int32) dW_law_990 kI_1 ?_
  refine z_iadd C dW_law_991 ?_
  obtain ⟨g1, hf⟩ := zgo hf
  refine z_sld C X dW_law_992 g1 ?_
  refine z_aload_n C dW_law_993 rfl ?_
  refine z_iload_n C dW_law_994 rfl ?_
  refine z_iconst C (2 : Int32) dW_law_995 kI_2 ?_
  refine z_iadd C dW_law_996 ?_
  obtain ⟨g2, hf⟩ := zgo hf
  refine z_sld C X dW_law_997 g2 ?_
  obtain ⟨r3, s3, h3, hf⟩ := zbx hf
  refine z_callVi C (as := [zi (xs (x3 + (1 : Int32)).toNatClampNeg), zi (xs (x3 + (2 : Int32)).toNatClampNeg)]) dW_law_998 w_651 yy8_starts (c8_starts x.2.1 g h3) yc8_starts kZ_1 rfl rfl (Nat.le_of_ble_eq_true rfl) ⟨Nat.le_of_ble_eq_true rfl, Nat.le_of_ble_eq_true rfl⟩ hk ?_
  refine z_aload_n C dW_law_1001 rfl ?_
  refine z_aload_n C dW_law_1002 rfl ?_
  refine z_iload_n C dW_law_1003 rfl ?_
  refine z_iconst C (1 : Int32) dW_law_1004 kI_1 ?_
  refine z_iadd C dW_law_1005 ?_
  obtain ⟨g4, hf⟩ := zgo hf
  refine z_sld C X dW_law_1006 g4 ?_
  refine z_aload_n C dW_law_1007 rfl ?_
  refine z_iload_n C dW_law_1008 rfl ?_
  refine z_iconst C (2 : Int32) dW_law_1009 kI_2 ?_
  refine z_iadd C dW_law_1010 ?_
  obtain ⟨g5, hf⟩ := zgo hf
  refine z_sld C X dW_law_1011 g5 ?_
  obtain ⟨r6, s6, h6, hf⟩ := zbx hf
  refine z_callVi C (as := [zi (xs (x3 + (1 : Int32)).toNatClampNeg), zi (xs (x3 + (2 : Int32)).toNatClampNeg)]) dW_law_1012 w_1162 yy9_starts (c9_starts x.2.1 g h6) yc9_starts kZ_103 rfl rfl (Nat.le_of_ble_eq_true rfl) ⟨Nat.le_of_ble_eq_true rfl, Nat.le_of_ble_eq_true rfl⟩ hk ?_
  refine z_icmp_eq C dW_law_1015 (fun c7 => ?_) (fun c7 => ?_)
  · have hf := zit c7 hf
    refine z_iinc C dW_law_1488 rfl kI_6 (Nat.le_of_ble_eq_true rfl) rfl (L' := [some (zr 1004), some (zr 1), some (zr 103), some (zi (x3 + (6 : Int32)))]) rfl ?_
    refine z_goto C dW_law_1491 ?_
    exact hq18 _ _ hf
  · have hf := zie c7 hf
    refine z_iconst C (0 : Int32) dW_law_1018 kI_0 ?_
    exact z_lwret hR dW_law_1019 hf
def bW_law_954 (k N : Nat) (xs : Nat → Int32) (q18 : Int32 → ZS → Option (Int32 × ZS)) (x3 : Int32) (σ : ZS) : Option (Int32 × ZS) :=
  if zin (x3 + (1 : Int32)) N then (
  if zin (x3 + (2 : Int32)) N then (
  zbd (f8_then k (xs (x3 + (1 : Int32)).toNatClampNeg) (xs (x3 + (2 : Int32)).toNatClampNeg) σ) fun r3 s3 =>
  if zin (x3 + (1 : Int32)) N then (
  if zin (x3 + (2 : Int32)) N then (
  zbd (f9_then k (xs (x3 + (1 : Int32)).toNatClampNeg) (xs (x3 + (2 : Int32)).toNatClampNeg) s3) fun r6 s6 =>
  if r3 = r6 then (
  q18 (x3 + (6 : Int32)) s6)
  else (
  some ((0 : Int32), s6))) else none) else none) else none) else none
theorem jW_law_954 {x : ZX} {g : ZG} (C : zC x g code R_law ret 4 2048 84000) {N : Nat} {xs : Nat → Int32} (X : zX g N xs x) {kc ks : Nat} {Q : State → Prop} (hR : ∀ (pc q : Nat) (σ : ZS) (L : List (Option ZV)), zd code pc .ireturn 1 q → zw x g 4 kc ks Q σ pc L [zi 1]) (hk : kc ≤ x.2.2.2.1.cells ∧ ks ≤ x.2.2.2.1.slots) {k : Nat} {σr : ZS} {q18 : Int32 → ZS → Option (Int32 × ZS)} (hq18 : ∀ (x3 : Int32) (σ : ZS), q18 x3 σ = some (1, σr) → zw x g 4 kc ks Q σ 18 [some (zr 1004), some (zr 1), some (zr 103), some (zi x3)] []) {x3 : Int32} {σ : ZS} (hf : bW_law_954 k N xs q18 x3 σ = some (1, σr)) : zw x g 4 kc ks Q σ 954 [some (zr 1004), some (zr 1), some (zr 103), some (zi x3)] [] := by
  unfold bW_law_954 at hf
  refine z_aload_n C dW_law_954 rfl ?_
  refine z_aload_n C dW_law_955 rfl ?_
  refine z_iload_n C dW_law_956 rfl ?_
  refine z_iconst C (1 : Int32) dW_law_957 kI_1 ?_
  refine z_iadd C dW_law_958 ?_
  obtain ⟨g1, hf⟩ := zgo hf
  refine z_sld C X dW_law_959 g1 ?_
  refine z_aload_n C dW_law_960 rfl ?_
  refine z_iload_n C dW_law_961 rfl ?_
  refine z_iconst C (2 : Int32) dW_law_962 kI_2 ?_
  refine z_iadd C dW_law_963 ?_
  obtain ⟨g2, hf⟩ := zgo hf
  refine z_sld C X dW_law_964 g2 ?_
  obtain ⟨r3, s3, h3, hf⟩ := zbx hf
  refine z_callVi C (as := [zi (xs (x3 + (1 : Int32)).toNatClampNeg), zi (xs (x3 + (2 : Int32)).toNatClampNeg)]) dW_law_965 w_633 yy8_then (c8_then x.2.1 g h3) yc8_then kZ_1 rfl rfl (Nat.le_of_ble_eq_true rfl) ⟨Nat.le_of_ble_eq_true rfl, Nat.le_of_ble_eq_true rfl⟩ hk ?_
  refine z_aload_n C dW_law_968 rfl ?_
  refine z_aload_n C dW_law_969 rfl ?_
  refine z_iload_n C dW_law_970 rfl ?_
  refine z_iconst C (1 : Int32) dW_law_971 kI_1 ?_
  refine z_iadd C dW_law_972 ?_
  obtain ⟨g4, hf⟩ := zgo hf
  refine z_sld C X dW_law_973 g4 ?_
  refine z_aload_n C dW_law_974 rfl ?_
  refine z_iload_n C dW_law_975 rfl ?_
  refine z_iconst C (2 : Int32) dW_law_976 kI_2 ?_
  refine z_iadd C dW_law_977 ?_
  obtain ⟨g5, hf⟩ := zgo hf
  refine z_sld C X dW_law_978 g5 ?_
  obtain ⟨r6, s6, h6, hf⟩ := zbx hf
  refine z_callVi C (as := [zi (xs (x3 + (1 : Int32)).toNatClampNeg), zi (xs (x3 + (2 : Int32)).toNatClampNeg)]) dW_law_979 w_1147 yy9_then (c9_then x.2.1 g h6) yc9_then kZ_103 rfl rfl (Nat.le_of_ble_eq_true rfl) ⟨Nat.le_of_ble_eq_true rfl, Nat.le_of_ble_eq_true rfl⟩ hk ?_
  refine z_icmp_eq C dW_law_982 (fun c7 => ?_) (fun c7 => ?_)
  · have hf := zit c7 hf
    refine z_iinc C dW_law_1488 rfl kI_6 (Nat.le_of_ble_eq_true rfl) rfl (L' := [some (zr 1004), some (zr 1), some (zr 103), some (zi (x3 + (6 : Int32)))]) rfl ?_
    refine z_goto C dW_law_1491 ?_
    exact hq18 _ _ hf
  · have hf := zie c7 hf
    refine z_iconst C (0 : Int32) dW_law_985 kI_0 ?_
    exact z_lwret hR dW_law_986 hf
def bW_law_931 (k N : Nat) (xs : Nat → Int32) (q18 : Int32 → ZS → Option (Int32 × ZS)) (x3 : Int32) (σ : ZS) : Option (Int32 × ZS) :=
  if zin (x3 + (1 : Int32)) N then (
  zbd (f8_sees k (xs (x3 + (1 : Int32)).toNatClampNeg) σ) fun r2 s2 =>
  if zin (x3 + (1 : Int32)) N then (
  zbd (f9_sees k (xs (x3 + (1 : Int32)).toNatClampNeg) s2) fun r4 s4 =>
  if r2 = r4 then (
  q18 (x3 + (6 : Int32)) s4)
  else (
  some ((0 : Int32), s4))) else none) else none
theorem jW_law_931 {x : ZX} {g : ZG} (C : zC x g code R_law ret 4 2048 84000) {N : Nat} {xs : Nat → Int32} (X : zX g N xs x) {kc ks : Nat} {Q : State → Prop} (hR : ∀ (pc q : Nat) (σ : ZS) (L : List (Option ZV)), zd code pc .ireturn 1 q → zw x g 4 kc ks Q σ pc L [zi 1]) (hk : kc ≤ x.2.2.2.1.cells ∧ ks ≤ x.2.2.2.1.slots) {k : Nat} {σr : ZS} {q18 : Int32 → ZS → Option (Int32 × ZS)} (hq18 : ∀ (x3 : Int32) (σ : ZS), q18 x3 σ = some (1, σr) → zw x g 4 kc ks Q σ 18 [some (zr 1004), some (zr 1), some (zr 103), some (zi x3)] []) {x3 : Int32} {σ : ZS} (hf : bW_law_931 k N xs q18 x3 σ = some (1, σr)) : zw x g 4 kc ks Q σ 931 [some (zr 1004), some (zr 1), some (zr 103), some (zi x3)] [] := by
  unfold bW_law_931 at hf
  refine z_aload_n C dW_law_931 rfl ?_
  refine z_aload_n C dW_law_932 rfl ?_
  refine z_iload_n C dW_law_933 rfl ?_
  refine z_iconst C (1 : Int32) dW_law_934 kI_1 ?_
  refine z_iadd C dW_law_935 ?_
  obtain ⟨g1, hf⟩ := zgo hf
  refine z_sld C X dW_law_936 g1 ?_
  obtain ⟨r2, s2, h2, hf⟩ := zbx hf
  refine z_callVi C (as := [zi (xs (x3 + (1 : Int32)).toNatClampNeg)]) dW_law_937 w_625 yy8_sees (c8_sees x.2.1 g h2) yc8_sees kZ_1 rfl rfl (Nat.le_of_ble_eq_true rfl) ⟨Nat.le_of_ble_eq_true rfl, Nat.le_of_ble_eq_true rfl⟩ hk ?_
  refine z_aload_n C dW_law_940 rfl ?_
  refine z_aload_n C dW_law_941 rfl ?_
  refine z_iload_n C dW_law_942 rfl ?_
  refine z_iconst C (1 : Int32) dW_law_943 kI_1 ?_
  refine z_iadd C dW_law_944 ?_
  obtain ⟨g3, hf⟩ := zgo hf
  refine z_sld C X dW_law_945 g3 ?_
  obtain ⟨r4, s4, h4, hf⟩ := zbx hf
  refine z_callVi C (as := [zi (xs (x3 + (1 : Int32)).toNatClampNeg)]) dW_law_946 w_1139 yy9_sees (c9_sees x.2.1 g h4) yc9_sees kZ_103 rfl rfl (Nat.le_of_ble_eq_true rfl) ⟨Nat.le_of_ble_eq_true rfl, Nat.le_of_ble_eq_true rfl⟩ hk ?_
  refine z_icmp_eq C dW_law_949 (fun c5 => ?_) (fun c5 => ?_)
  · have hf := zit c5 hf
    refine z_iinc C dW_law_1488 rfl kI_6 (Nat.le_of_ble_eq_true rfl) rfl (L' := [some (zr 1004), some (zr 1), some (zr 103), some (zi (x3 + (6 : Int32)))]) rfl ?_
    refine z_goto C dW_law_1491 ?_
    exact hq18 _ _ hf
  · have hf := zie c5 hf
    refine z_iconst C (0 : Int32) dW_law_952 kI_0 ?_
    exact z_lwret hR dW_law_953 hf
def bW_law_888 (k N : Nat) (xs : Nat → Int32) (q18 : Int32 → ZS → Option (Int32 × ZS)) (x3 : Int32) (σ : ZS) : Option (Int32 × ZS) :=
  if zin (x3 + (1 : Int32)) N then (
  if zin (x3 + (2 : Int32)) N then (
  if zin (x3 + (3 : Int32)) N then (
  zbd (f8_at k (xs (x3 + (1 : Int32)).toNatClampNeg) (xs (x3 + (2 : Int32)).toNatClampNeg) (xs (x3 + (3 : Int32)).toNatClampNeg) σ) fun r4 s4 =>
  if zin (x3 + (1 : Int32)) N then (
  if zin (x3 + (2 : Int32)) N then (
  if zin (x3 + (3 : Int32)) N then (
  zbd (f9_at k (xs (x3 + (1 : Int32)).toNatClampNeg) (xs (x3 + (2 : Int32)).toNatClampNeg) (xs (x3 + (3 : Int32)).toNatClampNeg) s4) fun r8 s8 =>
  if r4 = r8 then (
  q18 (x3 + (6 : Int32)) s8)
  else (
  some ((0 : Int32), s8))) else none) else none) else none) else none) else none) else none
theorem jW_law_888 {x : ZX} {g : ZG} (C : zC x g code R_law ret 4 2048 84000) {N : Nat} {xs : Nat → Int32} (X : zX g N xs x) {kc ks : Nat} {Q : State → Prop} (hR : ∀ (pc q : Nat) (σ : ZS) (L : List (Option ZV)), zd code pc .ireturn 1 q → zw x g 4 kc ks Q σ pc L [zi 1]) (hk : kc ≤ x.2.2.2.1.cells ∧ ks ≤ x.2.2.2.1.slots) {k : Nat} {σr : ZS} {q18 : Int32 → ZS → Option (Int32 × ZS)} (hq18 : ∀ (x3 : Int32) (σ : ZS), q18 x3 σ = some (1, σr) → zw x g 4 kc ks Q σ 18 [some (zr 1004), some (zr 1), some (zr 103), some (zi x3)] []) {x3 : Int32} {σ : ZS} (hf : bW_law_888 k N xs q18 x3 σ = some (1, σr)) : zw x g 4 kc ks Q σ 888 [some (zr 1004), some (zr 1), some (zr 103), some (zi x3)] [] := by
  unfold bW_law_888 at hf
  refine z_aload_n C dW_law_888 rfl ?_
  refine z_aload_n C dW_law_889 rfl ?_
  refine z_iload_n C dW_law_890 rfl ?_
  refine z_iconst C (1 : Int32) dW_law_891 kI_1 ?_
  refine z_iadd C dW_law_892 ?_
  obtain ⟨g1, hf⟩ := zgo hf
  refine z_sld C X dW_law_893 g1 ?_
  refine z_aload_n C dW_law_894 rfl ?_
  refine z_iload_n C dW_law_895 rfl ?_
  refine z_iconst C (2 : Int32) dW_law_896 kI_2 ?_
  refine z_iadd C dW_law_897 ?_
  obtain ⟨g2, hf⟩ := zgo hf
  refine z_sld C X dW_law_898 g2 ?_
  refine z_aload_n C dW_law_899 rfl ?_
  refine z_iload_n C dW_law_900 rfl ?_
  refine z_iconst C (3 : Int32) dW_law_901 kI_3 ?_
  refine z_iadd C dW_law_902 ?_
  obtain ⟨g3, hf⟩ := zgo hf
  refine z_sld C X dW_law_903 g3 ?_
  obtain ⟨r4, s4, h4, hf⟩ := zbx hf
  refine z_callVi C (as := [zi (xs (x3 + (1 : Int32)).toNatClampNeg), zi (xs (x3 + (2 : Int32)).toNatClampNeg), zi (xs (x3 + (3 : Int32)).toNatClampNeg)]) dW_law_904 w_621 yy8_at (c8_at x.2.1 g h4) yc8_at kZ_1 rfl rfl (Nat.le_of_ble_eq_true rfl) ⟨Nat.le_of_ble_eq_true rfl, Nat.le_of_ble_eq_true rfl⟩ hk ?_
  refine z_aload_n C dW_law_907 rfl ?_
  refine z_aload_n C dW_law_908 rfl ?_
  refine z_iload_n C dW_law_909 rfl ?_
  refine z_iconst C (1 : Int32) dW_law_910 kI_1 ?_
  refine z_iadd C dW_law_911 ?_
  obtain ⟨g5, hf⟩ := zgo hf
  refine z_sld C X dW_law_912 g5 ?_
  refine z_aload_n C dW_law_913 rfl ?_
  refine z_iload_n C dW_law_914 rfl ?_
  refine z_iconst C (2 : Int32) dW_law_915 kI_2 ?_
  refine z_iadd C dW_law_916 ?_
  obtain ⟨g6, hf⟩ := zgo hf
  refine z_sld C X dW_law_917 g6 ?_
  refine z_aload_n C dW_law_918 rfl ?_
  refine z_iload_n C dW_law_919 rfl ?_
  refine z_iconst C (3 : Int32) dW_law_920 kI_3 ?_
  refine z_iadd C dW_law_921 ?_
  obtain ⟨g7, hf⟩ := zgo hf
  refine z_sld C X dW_law_922 g7 ?_
  obtain ⟨r8, s8, h8, hf⟩ := zbx hf
  refine z_callVi C (as := [zi (xs (x3 + (1 : Int32)).toNatClampNeg), zi (xs (x3 + (2 : Int32)).toNatClampNeg), zi (xs (x3 + (3 : Int32)).toNatClampNeg)]) dW_law_923 w_1135 yy9_at (c9_at x.2.1 g h8) yc9_at kZ_103 rfl rfl (Nat.le_of_ble_eq_true rfl) ⟨Nat.le_of_ble_eq_true rfl, Nat.le_of_ble_eq_true rfl⟩ hk ?_
  refine z_icmp_eq C dW_law_926 (fun c9 => ?_) (fun c9 => ?_)
  · have hf := zit c9 hf
    refine z_iinc C dW_law_1488 rfl kI_6 (Nat.le_of_ble_eq_true rfl) rfl (L' := [some (zr 1004), some (zr 1), some (zr 103), some (zi (x3 + (6 : Int32)))]) rfl ?_
    refine z_goto C dW_law_1491 ?_
    exact hq18 _ _ hf
  · have hf := zie c9 hf
    refine z_iconst C (0 : Int32) dW_law_929 kI_0 ?_
    exact z_lwret hR dW_law_930 hf
def bW_law_845 (k N : Nat) (xs : Nat → Int32) (q18 : Int32 → ZS → Option (Int32 × ZS)) (x3 : Int32) (σ : ZS) : Option (Int32 × ZS) :=
  if zin (x3 + (1 : Int32)) N then (
  if zin (x3 + (2 : Int32)) N then (
  if zin (x3 + (3 : Int32)) N then (
  zbd (f8_look k (xs (x3 + (1 : Int32)).toNatClampNeg) (xs (x3 + (2 : Int32)).toNatClampNeg) (xs (x3 + (3 : Int32)).toNatClampNeg) σ) fun r4 s4 =>
  if zin (x3 + (1 : Int32)) N then (
  if zin (x3 + (2 : Int32)) N then (
  if zin (x3 + (3 : Int32)) N then (
  zbd (f9_look k (xs (x3 + (1 : Int32)).toNatClampNeg) (xs (x3 + (2 : Int32)).toNatClampNeg) (xs (x3 + (3 : Int32)).toNatClampNeg) s4) fun r8 s8 =>
  if r4 = r8 then (
  q18 (x3 + (6 : Int32)) s8)
  else (
  some ((0 : Int32), s8))) else none) else none) else none) else none) else none) else none
theorem jW_law_845 {x : ZX} {g : ZG} (C : zC x g code R_law ret 4 2048 84000) {N : Nat} {xs : Nat → Int32} (X : zX g N xs x) {kc ks : Nat} {Q : State → Prop} (hR : ∀ (pc q : Nat) (σ : ZS) (L : List (Option ZV)), zd code pc .ireturn 1 q → zw x g 4 kc ks Q σ pc L [zi 1]) (hk : kc ≤ x.2.2.2.1.cells ∧ ks ≤ x.2.2.2.1.slots) {k : Nat} {σr : ZS} {q18 : Int32 → ZS → Option (Int32 × ZS)} (hq18 : ∀ (x3 : Int32) (σ : ZS), q18 x3 σ = some (1, σr) → zw x g 4 kc ks Q σ 18 [some (zr 1004), some (zr 1), some (zr 103), some (zi x3)] []) {x3 : Int32} {σ : ZS} (hf : bW_law_845 k N xs q18 x3 σ = some (1, σr)) : zw x g 4 kc ks Q σ 845 [some (zr 1004), some (zr 1), some (zr 103), some (zi x3)] [] := by
  unfold bW_law_845 at hf
  refine z_aload_n C dW_law_845 rfl ?_
  refine z_aload_n C dW_law_846 rfl ?_
  refine z_iload_n C dW_law_847 rfl ?_
  refine z_iconst C (1 : Int32) dW_law_848 kI_1 ?_
  refine z_iadd C dW_law_849 ?_
  obtain ⟨g1, hf⟩ := zgo hf
  refine z_sld C X dW_law_850 g1 ?_
  refine z_aload_n C dW_law_851 rfl ?_
  refine z_iload_n C dW_law_852 rfl ?_
  refine z_iconst C (2 : Int32) dW_law_853 kI_2 ?_
  refine z_iadd C dW_law_854 ?_
  obtain ⟨g2, hf⟩ := zgo hf
  refine z_sld C X dW_law_855 g2 ?_
  refine z_aload_n C dW_law_856 rfl ?_
  refine z_iload_n C dW_law_857 rfl ?_
  refine z_iconst C (3 : Int32) dW_law_858 kI_3 ?_
  refine z_iadd C dW_law_859 ?_
  obtain ⟨g3, hf⟩ := zgo hf
  refine z_sld C X dW_law_860 g3 ?_
  obtain ⟨r4, s4, h4, hf⟩ := zbx hf
  refine z_callVi C (as := [zi (xs (x3 + (1 : Int32)).toNatClampNeg), zi (xs (x3 + (2 : Int32)).toNatClampNeg), zi (xs (x3 + (3 : Int32)).toNatClampNeg)]) dW_law_861 w_611 yy8_look (c8_look x.2.1 g h4) yc8_look kZ_1 rfl rfl (Nat.le_of_ble_eq_true rfl) ⟨Nat.le_of_ble_eq_true rfl, Nat.le_of_ble_eq_true rfl⟩ hk ?_
  refine z_aload_n C dW_law_864 rfl ?_
  refine z_aload_n C dW_law_865 rfl ?_
  refine z_iload_n C dW_law_866 rfl ?_
  refine z_iconst C (1 : Int32) dW_law_867 kI_1 ?_
  refine z_iadd C dW_law_868 ?_
  obtain ⟨g5, hf⟩ := zgo hf
  refine z_sld C X dW_law_869 g5 ?_
  refine z_aload_n C dW_law_870 rfl ?_
  refine z_iload_n C dW_law_871 rfl ?_
  refine z_iconst C (2 : Int32) dW_law_872 kI_2 ?_
  refine z_iadd C dW_law_873 ?_
  obtain ⟨g6, hf⟩ := zgo hf
  refine z_sld C X dW_law_874 g6 ?_
  refine z_aload_n C dW_law_875 rfl ?_
  refine z_iload_n C dW_law_876 rfl ?_
  refine z_iconst C (3 : Int32) dW_law_877 kI_3 ?_
  refine z_iadd C dW_law_878 ?_
  obtain ⟨g7, hf⟩ := zgo hf
  refine z_sld C X dW_law_879 g7 ?_
  obtain ⟨r8, s8, h8, hf⟩ := zbx hf
  refine z_callVi C (as := [zi (xs (x3 + (1 : Int32)).toNatClampNeg), zi (xs (x3 + (2 : Int32)).toNatClampNeg), zi (xs (x3 + (3 : Int32)).toNatClampNeg)]) dW_law_880 w_1130 yy9_look (c9_look x.2.1 g h8) yc9_look kZ_103 rfl rfl (Nat.le_of_ble_eq_true rfl) ⟨Nat.le_of_ble_eq_true rfl, Nat.le_of_ble_eq_true rfl⟩ hk ?_
  refine z_icmp_eq C dW_law_883 (fun c9 => ?_) (fun c9 => ?_)
  · have hf := zit c9 hf
    refine z_iinc C dW_law_1488 rfl kI_6 (Nat.le_of_ble_eq_true rfl) rfl (L' := [some (zr 1004), some (zr 1), some (zr 103), some (zi (x3 + (6 : Int32)))]) rfl ?_
    refine z_goto C dW_law_1491 ?_
    exact hq18 _ _ hf
  · have hf := zie c9 hf
    refine z_iconst C (0 : Int32) dW_law_886 kI_0 ?_
    exact z_lwret hR dW_law_887 hf
def bW_law_822 (k N : Nat) (xs : Nat → Int32) (q18 : Int32 → ZS → Option (Int32 × ZS)) (x3 : Int32) (σ : ZS) : Option (Int32 × ZS) :=
  if zin (x3 + (1 : Int32)) N then (
  zbd (f8_seed k (xs (x3 + (1 : Int32)).toNatClampNeg) σ) fun r2 s2 =>
  if zin (x3 + (1 : Int32)) N then (
  zbd (f9_seed k (xs (x3 + (1 : Int32)).toNatClampNeg) s2) fun r4 s4 =>
  if r2 = r4 then (
  q18 (x3 + (6 : Int32)) s4)
  else (
  some ((0 : Int32), s4))) else none) else none
theorem jW_law_822 {x : ZX} {g : ZG} (C : zC x g code R_law ret 4 2048 84000) {N : Nat} {xs : Nat → Int32} (X : zX g N xs x) {kc ks : Nat} {Q : State → Prop} (hR : ∀ (pc q : Nat) (σ : ZS) (L : List (Option ZV)), zd code pc .ireturn 1 q → zw x g 4 kc ks Q σ pc L [zi 1]) (hk : kc ≤ x.2.2.2.1.cells ∧ ks ≤ x.2.2.2.1.slots) {k : Nat} {σr : ZS} {q18 : Int32 → ZS → Option (Int32 × ZS)} (hq18 : ∀ (x3 : Int32) (σ : ZS), q18 x3 σ = some (1, σr) → zw x g 4 kc ks Q σ 18 [some (zr 1004), some (zr 1), some (zr 103), some (zi x3)] []) {x3 : Int32} {σ : ZS} (hf : bW_law_822 k N xs q18 x3 σ = some (1, σr)) : zw x g 4 kc ks Q σ 822 [some (zr 1004), some (zr 1), some (zr 103), some (zi x3)] [] := by
  unfold bW_law_822 at hf
  refine z_aload_n C dW_law_822 rfl ?_
  refine z_aload_n C dW_law_823 rfl ?_
  refine z_iload_n C dW_law_824 rfl ?_
  refine z_iconst C (1 : Int32) dW_law_825 kI_1 ?_
  refine z_iadd C dW_law_826 ?_
  obtain ⟨g1, hf⟩ := zgo hf
  refine z_sld C X dW_law_827 g1 ?_
  obtain ⟨r2, s2, h2, hf⟩ := zbx hf
  refine z_callVi C (as := [zi (xs (x3 + (1 : Int32)).toNatClampNeg)]) dW_law_828 w_607 yy8_seed (c8_seed x.2.1 g h2) yc8_seed kZ_1 rfl rfl (Nat.le_of_ble_eq_true rfl) ⟨Nat.le_of_ble_eq_true rfl, Nat.le_of_ble_eq_true rfl⟩ hk ?_
  refine z_aload_n C dW_law_831 rfl ?_
  refine z_aload_n C dW_law_832 rfl ?_
  refine z_iload_n C dW_law_833 rfl ?_
  refine z_iconst C (1 : Int32) dW_law_834 kI_1 ?_
  refine z_iadd C dW_law_835 ?_
  obtain ⟨g3, hf⟩ := zgo hf
  refine z_sld C X dW_law_836 g3 ?_
  obtain ⟨r4, s4, h4, hf⟩ := zbx hf
  refine z_callVi C (as := [zi (xs (x3 + (1 : Int32)).toNatClampNeg)]) dW_law_837 w_1126 yy9_seed (c9_seed x.2.1 g h4) yc9_seed kZ_103 rfl rfl (Nat.le_of_ble_eq_true rfl) ⟨Nat.le_of_ble_eq_true rfl, Nat.le_of_ble_eq_true rfl⟩ hk ?_
  refine z_icmp_eq C dW_law_840 (fun c5 => ?_) (fun c5 => ?_)
  · have hf := zit c5 hf
    refine z_iinc C dW_law_1488 rfl kI_6 (Nat.le_of_ble_eq_true rfl) rfl (L' := [some (zr 1004), some (zr 1), some (zr 103), some (zi (x3 + (6 : Int32)))]) rfl ?_
    refine z_goto C dW_law_1491 ?_
    exact hq18 _ _ hf
  · have hf := zie c5 hf
    refine z_iconst C (0 : Int32) dW_law_843 kI_0 ?_
    exact z_lwret hR dW_law_844 hf
def bW_law_799 (k N : Nat) (xs : Nat → Int32) (q18 : Int32 → ZS → Option (Int32 × ZS)) (x3 : Int32) (σ : ZS) : Option (Int32 × ZS) :=
  if zin (x3 + (1 : Int32)) N then (
  zbd (f8_loose k (xs (x3 + (1 : Int32)).toNatClampNeg) σ) fun r2 s2 =>
  if zin (x3 + (1 : Int32)) N then (
  zbd (f9_loose k (xs (x3 + (1 : Int32)).toNatClampNeg) s2) fun r4 s4 =>
  if r2 = r4 then (
  q18 (x3 + (6 : Int32)) s4)
  else (
  some ((0 : Int32), s4))) else none) else none
theorem jW_law_799 {x : ZX} {g : ZG} (C : zC x g code R_law ret 4 2048 84000) {N : Nat} {xs : Nat → Int32} (X : zX g N xs x) {kc ks : Nat} {Q : State → Prop} (hR : ∀ (pc q : Nat) (σ : ZS) (L : List (Option ZV)), zd code pc .ireturn 1 q → zw x g 4 kc ks Q σ pc L [zi 1]) (hk : kc ≤ x.2.2.2.1.cells ∧ ks ≤ x.2.2.2.1.slots) {k : Nat} {σr : ZS} {q18 : Int32 → ZS → Option (Int32 × ZS)} (hq18 : ∀ (x3 : Int32) (σ : ZS), q18 x3 σ = some (1, σr) → zw x g 4 kc ks Q σ 18 [some (zr 1004), some (zr 1), some (zr 103), some (zi x3)] []) {x3 : Int32} {σ : ZS} (hf : bW_law_799 k N xs q18 x3 σ = some (1, σr)) : zw x g 4 kc ks Q σ 799 [some (zr 1004), some (zr 1), some (zr 103), some (zi x3)] [] := by
  unfold bW_law_799 at hf
  refine z_aload_n C dW_law_799 rfl ?_
  refine z_aload_n C dW_law_800 rfl ?_
  refine z_iload_n C dW_law_801 rfl ?_
  refine z_iconst C (1 : Int32) dW_law_802 kI_1 ?_
  refine z_iadd C dW_law_803 ?_
  obtain ⟨g1, hf⟩ := zgo hf
  refine z_sld C X dW_law_804 g1 ?_
  obtain ⟨r2, s2, h2, hf⟩ := zbx hf
  refine z_callVi C (as := [zi (xs (x3 + (1 : Int32)).toNatClampNeg)]) dW_law_805 w_594 yy8_loose (c8_loose x.2.1 g h2) yc8_loose kZ_1 rfl rfl (Nat.le_of_ble_eq_true rfl) ⟨Nat.le_of_ble_eq_true rfl, Nat.le_of_ble_eq_true rfl⟩ hk ?_
  refine z_aload_n C dW_law_808 rfl ?_
  refine z_aload_n C dW_law_809 rfl ?_
  refine z_iload_n C dW_law_810 rfl ?_
  refine z_iconst C (1 : Int32) dW_law_811 kI_1 ?_
  refine z_iadd C dW_law_812 ?_
  obtain ⟨g3, hf⟩ := zgo hf
  refine z_sld C X dW_law_813 g3 ?_
  obtain ⟨r4, s4, h4, hf⟩ := zbx hf
  refine z_callVi C (as := [zi (xs (x3 + (1 : Int32)).toNatClampNeg)]) dW_law_814 w_1113 yy9_loose (c9_loose x.2.1 g h4) yc9_loose kZ_103 rfl rfl (Nat.le_of_ble_eq_true rfl) ⟨Nat.le_of_ble_eq_true rfl, Nat.le_of_ble_eq_true rfl⟩ hk ?_
  refine z_icmp_eq C dW_law_817 (fun c5 => ?_) (fun c5 => ?_)
  · have hf := zit c5 hf
    refine z_iinc C dW_law_1488 rfl kI_6 (Nat.le_of_ble_eq_true rfl) rfl (L' := [some (zr 1004), some (zr 1), some (zr 103), some (zi (x3 + (6 : Int32)))]) rfl ?_
    refine z_goto C dW_law_1491 ?_
    exact hq18 _ _ hf
  · have hf := zie c5 hf
    refine z_iconst C (0 : Int32) dW_law_820 kI_0 ?_
    exact z_lwret hR dW_law_821 hf
def bW_law_776 (k N : Nat) (xs : Nat → Int32) (q18 : Int32 → ZS → Option (Int32 × ZS)) (x3 : Int32) (σ : ZS) : Option (Int32 × ZS) :=
  if zin (x3 + (1 : Int32)) N then (
  zbd (f8_hours k (xs (x3 + (1 : Int32)).toNatClampNeg) σ) fun r2 s2 =>
  if zin (x3 + (1 : Int32)) N then (
  zbd (f9_hours k (xs (x3 + (1 : Int32)).toNatClampNeg) s2) fun r4 s4 =>
  if r2 = r4 then (
  q18 (x3 + (6 : Int32)) s4)
  else (
  some ((0 : Int32), s4))) else none) else none
theorem jW_law_776 {x : ZX} {g : ZG} (C : zC x g code R_law ret 4 2048 84000) {N : Nat} {xs : Nat → Int32} (X : zX g N xs x) {kc ks : Nat} {Q : State → Prop} (hR : ∀ (pc q : Nat) (σ : ZS) (L : List (Option ZV)), zd code pc .ireturn 1 q → zw x g 4 kc ks Q σ pc L [zi 1]) (hk : kc ≤ x.2.2.2.1.cells ∧ ks ≤ x.2.2.2.1.slots) {k : Nat} {σr : ZS} {q18 : Int32 → ZS → Option (Int32 × ZS)} (hq18 : ∀ (x3 : Int32) (σ : ZS), q18 x3 σ = some (1, σr) → zw x g 4 kc ks Q σ 18 [some (zr 1004), some (zr 1), some (zr 103), some (zi x3)] []) {x3 : Int32} {σ : ZS} (hf : bW_law_776 k N xs q18 x3 σ = some (1, σr)) : zw x g 4 kc ks Q σ 776 [some (zr 1004), some (zr 1), some (zr 103), some (zi x3)] [] := by
  unfold bW_law_776 at hf
  refine z_aload_n C dW_law_776 rfl ?_
  refine z_aload_n C dW_law_777 rfl ?_
  refine z_iload_n C dW_law_778 rfl ?_
  refine z_iconst C (1 : Int32) dW_law_779 kI_1 ?_
  refine z_iadd C dW_law_780 ?_
  obtain ⟨g1, hf⟩ := zgo hf
  refine z_sld C X dW_law_781 g1 ?_
  obtain ⟨r2, s2, h2, hf⟩ := zbx hf
  refine z_callVi C (as := [zi (xs (x3 + (1 : Int32)).toNatClampNeg)]) dW_law_782 w_580 yy8_hours (c8_hours x.2.1 g h2) yc8_hours kZ_1 rfl rfl (Nat.le_of_ble_eq_true rfl) ⟨Nat.le_of_ble_eq_true rfl, Nat.le_of_ble_eq_true rfl⟩ hk ?_
  refine z_aload_n C dW_law_785 rfl ?_
  refine z_aload_n C dW_law_786 rfl ?_
  refine z_iload_n C dW_law_787 rfl ?_
  refine z_iconst C (1 : Int32) dW_law_788 kI_1 ?_
  refine z_iadd C dW_law_789 ?_
  obtain ⟨g3, hf⟩ := zgo hf
  refine z_sld C X dW_law_790 g3 ?_
  obtain ⟨r4, s4, h4, hf⟩ := zbx hf
  refine z_callVi C (as := [zi (xs (x3 + (1 : Int32)).toNatClampNeg)]) dW_law_791 w_1105 yy9_hours (c9_hours x.2.1 g h4) yc9_hours kZ_103 rfl rfl (Nat.le_of_ble_eq_true rfl) ⟨Nat.le_of_ble_eq_true rfl, Nat.le_of_ble_eq_true rfl⟩ hk ?_
  refine z_icmp_eq C dW_law_794 (fun c5 => ?_) (fun c5 => ?_)
  · have hf := zit c5 hf
    refine z_iinc C dW_law_1488 rfl kI_6 (Nat.le_of_ble_eq_true rfl) rfl (L' := [some (zr 1004), some (zr 1), some (zr 103), some (zi (x3 + (6 : Int32)))]) rfl ?_
    refine z_goto C dW_law_1491 ?_
    exact hq18 _ _ hf
  · have hf := zie c5 hf
    refine z_iconst C (0 : Int32) dW_law_797 kI_0 ?_
    exact z_lwret hR dW_law_798 hf
def bW_law_723 (k N : Nat) (xs : Nat → Int32) (q18 : Int32 → ZS → Option (Int32 × ZS)) (x3 : Int32) (σ : ZS) : Option (Int32 × ZS) :=
  if zin (x3 + (1 : Int32)) N then (
  if zin (x3 + (2 : Int32)) N then (
  if zin (x3 + (3 : Int32)) N then (
  if zin (x3 + (4 : Int32)) N then (
  zbd (f8_law k (xs (x3 + (1 : Int32)).toNatClampNeg) (xs (x3 + (2 : Int32)).toNatClampNeg) (xs (x3 + (3 : Int32)).toNatClampNeg) (xs (x3 + (4 : Int32)).toNatClampNeg) σ) fun r5 s5 =>
  if zin (x3 + (1 : Int32)) N then (
  if zin (x3 + (2 : Int32)) N then (
  if zin (x3 + (3 : Int32)) N then (
  if zin (x3 + (4 : Int32)) N then (
  zbd (f9_law k (xs (x3 + (1 : Int32)).toNatClampNeg) (xs (x3 + (2 : Int32)).toNatClampNeg) (xs (x3 + (3 : Int32)).toNatClampNeg) (xs (x3 + (4 : Int32)).toNatClampNeg) s5) fun r10 s10 =>
  if r5 = r10 then (
  q18 (x3 + (6 : Int32)) s10)
  else (
  some ((0 : Int32), s10))) else none) else none) else none) else none) else none) else none) else none) else none
theorem jW_law_723 {x : ZX} {g : ZG} (C : zC x g code R_law ret 4 2048 84000) {N : Nat} {xs : Nat → Int32} (X : zX g N xs x) {kc ks : Nat} {Q : State → Prop} (hR : ∀ (pc q : Nat) (σ : ZS) (L : List (Option ZV)), zd code pc .ireturn 1 q → zw x g 4 kc ks Q σ pc L [zi 1]) (hk : kc ≤ x.2.2.2.1.cells ∧ ks ≤ x.2.2.2.1.slots) {k : Nat} {σr : ZS} {q18 : Int32 → ZS → Option (Int32 × ZS)} (hq18 : ∀ (x3 : Int32) (σ : ZS), q18 x3 σ = some (1, σr) → zw x g 4 kc ks Q σ 18 [some (zr 1004), some (zr 1), some (zr 103), some (zi x3)] []) {x3 : Int32} {σ : ZS} (hf : bW_law_723 k N xs q18 x3 σ = some (1, σr)) : zw x g 4 kc ks Q σ 723 [some (zr 1004), some (zr 1), some (zr 103), some (zi x3)] [] := by
  unfold bW_law_723 at hf
  refine z_aload_n C dW_law_723 rfl ?_
  refine z_aload_n C dW_law_724 rfl ?_
  refine z_iload_n C dW_law_725 rfl ?_
  refine z_iconst C (1 : Int32) dW_law_726 kI_1 ?_
  refine z_iadd C dW_law_727 ?_
  obtain ⟨g1, hf⟩ := zgo hf
  refine z_sld C X dW_law_728 g1 ?_
  refine z_aload_n C dW_law_729 rfl ?_
  refine z_iload_n C dW_law_730 rfl ?_
  refine z_iconst C (2 : Int32) dW_law_731 kI_2 ?_
  refine z_iadd C dW_law_732 ?_
  obtain ⟨g2, hf⟩ := zgo hf
  refine z_sld C X dW_law_733 g2 ?_
  refine z_aload_n C dW_law_734 rfl ?_
  refine z_iload_n C dW_law_735 rfl ?_
  refine z_iconst C (3 : Int32) dW_law_736 kI_3 ?_
  refine z_iadd C dW_law_737 ?_
  obtain ⟨g3, hf⟩ := zgo hf
  refine z_sld C X dW_law_738 g3 ?_
  refine z_aload_n C dW_law_739 rfl ?_
  refine z_iload_n C dW_law_740 rfl ?_
  refine z_iconst C (4 : Int32) dW_law_741 kI_4 ?_
  refine z_iadd C dW_law_742 ?_
  obtain ⟨g4, hf⟩ := zgo hf
  refine z_sld C X dW_law_743 g4 ?_
  obtain ⟨r5, s5, h5, hf⟩ := zbx hf
  refine z_callVi C (as := [zi (xs (x3 + (1 : Int32)).toNatClampNeg), zi (xs (x3 + (2 : Int32)).toNatClampNeg), zi (xs (x3 + (3 : Int32)).toNatClampNeg), zi (xs (x3 + (4 : Int32)).toNatClampNeg)]) dW_law_744 w_575 yy8_law (c8_law x.2.1 g h5) yc8_law kZ_1 rfl rfl (Nat.le_of_ble_eq_true rfl) ⟨Nat.le_of_ble_eq_true rfl, Nat.le_of_ble_eq_true rfl⟩ hk ?_
  refine z_aload_n C dW_law_747 rfl ?_
  refine z_aload_n C dW_law_748 rfl ?_
  refine z_iload_n C dW_law_749 rfl ?_
  refine z_iconst C (1 : Int32) dW_law_750 kI_1 ?_
  refine z_iadd C dW_law_751 ?_
  obtain ⟨g6, hf⟩ := zgo hf
  refine z_sld C X dW_law_752 g6 ?_
  refine z_aload_n C dW_law_753 rfl ?_
  refine z_iload_n C dW_law_754 rfl ?_
  refine z_iconst C (2 : Int32) dW_law_755 kI_2 ?_
  refine z_iadd C dW_law_756 ?_
  obtain ⟨g7, hf⟩ := zgo hf
  refine z_sld C X dW_law_757 g7 ?_
  refine z_aload_n C dW_law_758 rfl ?_
  refine z_iload_n C dW_law_759 rfl ?_
  refine z_iconst C (3 : Int32) dW_law_760 kI_3 ?_
  refine z_iadd C dW_law_761 ?_
  obtain ⟨g8, hf⟩ := zgo hf
  refine z_sld C X dW_law_762 g8 ?_
  refine z_aload_n C dW_law_763 rfl ?_
  refine z_iload_n C dW_law_764 rfl ?_
  refine z_iconst C (4 : Int32) dW_law_765 kI_4 ?_
  refine z_iadd C dW_law_766 ?_
  obtain ⟨g9, hf⟩ := zgo hf
  refine z_sld C X dW_law_767 g9 ?_
  obtain ⟨r10, s10, h10, hf⟩ := zbx hf
  refine z_callVi C (as := [zi (xs (x3 + (1 : Int32)).toNatClampNeg), zi (xs (x3 + (2 : Int32)).toNatClampNeg), zi (xs (x3 + (3 : Int32)).toNatClampNeg), zi (xs (x3 + (4 : Int32)).toNatClampNeg)]) dW_law_768 w_1101 yy9_law (c9_law x.2.1 g h10) yc9_law kZ_103 rfl rfl (Nat.le_of_ble_eq_true rfl) ⟨Nat.le_of_ble_eq_true rfl, Nat.le_of_ble_eq_true rfl⟩ hk ?_
  refine z_icmp_eq C dW_law_771 (fun c11 => ?_) (fun c11 => ?_)
  · have hf := zit c11 hf
    refine z_iinc C dW_law_1488 rfl kI_6 (Nat.le_of_ble_eq_true rfl) rfl (L' := [some (zr 1004), some (zr 1), some (zr 103), some (zi (x3 + (6 : Int32)))]) rfl ?_
    refine z_goto C dW_law_1491 ?_
    exact hq18 _ _ hf
  · have hf := zie c11 hf
    refine z_iconst C (0 : Int32) dW_law_774 kI_0 ?_
    exact z_lwret hR dW_law_775 hf
def bW_law_700 (k N : Nat) (xs : Nat → Int32) (q18 : Int32 → ZS → Option (Int32 × ZS)) (x3 : Int32) (σ : ZS) : Option (Int32 × ZS) :=
  if zin (x3 + (1 : Int32)) N then (
  zbd (f8_untell k (xs (x3 + (1 : Int32)).toNatClampNeg) σ) fun r2 s2 =>
  if zin (x3 + (1 : Int32)) N then (
  zbd (f9_untell k (xs (x3 + (1 : Int32)).toNatClampNeg) s2) fun r4 s4 =>
  if r2 = r4 then (
  q18 (x3 + (6 : Int32)) s4)
  else (
  some ((0 : Int32), s4))) else none) else none
theorem jW_law_700 {x : ZX} {g : ZG} (C : zC x g code R_law ret 4 2048 84000) {N : Nat} {xs : Nat → Int32} (X : zX g N xs x) {kc ks : Nat} {Q : State → Prop} (hR : ∀ (pc q : Nat) (σ : ZS) (L : List (Option ZV)), zd code pc .ireturn 1 q → zw x g 4 kc ks Q σ pc L [zi 1]) (hk : kc ≤ x.2.2.2.1.cells ∧ ks ≤ x.2.2.2.1.slots) {k : Nat} {σr : ZS} {q18 : Int32 → ZS → Option (Int32 × ZS)} (hq18 : ∀ (x3 : Int32) (σ : ZS), q18 x3 σ = some (1, σr) → zw x g 4 kc ks Q σ 18 [some (zr 1004), some (zr 1), some (zr 103), some (zi x3)] []) {x3 : Int32} {σ : ZS} (hf : bW_law_700 k N xs q18 x3 σ = some (1, σr)) : zw x g 4 kc ks Q σ 700 [some (zr 1004), some (zr 1), some (zr 103), some (zi x3)] [] := by
  unfold bW_law_700 at hf
  refine z_aload_n C dW_law_700 rfl ?_
  refine z_aload_n C dW_law_701 rfl ?_
  refine z_iload_n C dW_law_702 rfl ?_
  refine z_iconst C (1 : Int32) dW_law_703 kI_1 ?_
  refine z_iadd C dW_law_704 ?_
  obtain ⟨g1, hf⟩ := zgo hf
  refine z_sld C X dW_law_705 g1 ?_
  obtain ⟨r2, s2, h2, hf⟩ := zbx hf
  refine z_callVi C (as := [zi (xs (x3 + (1 : Int32)).toNatClampNeg)]) dW_law_706 w_571 yy8_untell (c8_untell x.2.1 g h2) yc8_untell kZ_1 rfl rfl (Nat.le_of_ble_eq_true rfl) ⟨Nat.le_of_ble_eq_true rfl, Nat.le_of_ble_eq_true rfl⟩ hk ?_
  refine z_aload_n C dW_law_709 rfl ?_
  refine z_aload_n C dW_law_710 rfl ?_
  refine z_iload_n C dW_law_711 rfl ?_
  refine z_iconst C (1 : Int32) dW_law_712 kI_1 ?_
  refine z_iadd C dW_law_713 ?_
  obtain ⟨g3, hf⟩ := zgo hf
  refine z_sld C X dW_law_714 g3 ?_
  obtain ⟨r4, s4, h4, hf⟩ := zbx hf
  refine z_callVi C (as := [zi (xs (x3 + (1 : Int32)).toNatClampNeg)]) dW_law_715 w_1097 yy9_untell (c9_untell x.2.1 g h4) yc9_untell kZ_103 rfl rfl (Nat.le_of_ble_eq_true rfl) ⟨Nat.le_of_ble_eq_true rfl, Nat.le_of_ble_eq_true rfl⟩ hk ?_
  refine z_icmp_eq C dW_law_718 (fun c5 => ?_) (fun c5 => ?_)
  · have hf := zit c5 hf
    refine z_iinc C dW_law_1488 rfl kI_6 (Nat.le_of_ble_eq_true rfl) rfl (L' := [some (zr 1004), some (zr 1), some (zr 103), some (zi (x3 + (6 : Int32)))]) rfl ?_
    refine z_goto C dW_law_1491 ?_
    exact hq18 _ _ hf
  · have hf := zie c5 hf
    refine z_iconst C (0 : Int32) dW_law_721 kI_0 ?_
    exact z_lwret hR dW_law_722 hf
def bW_law_677 (k N : Nat) (xs : Nat → Int32) (q18 : Int32 → ZS → Option (Int32 × ZS)) (x3 : Int32) (σ : ZS) : Option (Int32 × ZS) :=
  if zin (x3 + (1 : Int32)) N then (
  zbd (f8_text k (xs (x3 + (1 : Int32)).toNatClampNeg) σ) fun r2 s2 =>
  if zin (x3 + (1 : Int32)) N then (
  zbd (f9_text k (xs (x3 + (1 : Int32)).toNatClampNeg) s2) fun r4 s4 =>
  if r2 = r4 then (
  q18 (x3 + (6 : Int32)) s4)
  else (
  some ((0 : Int32), s4))) else none) else none
theorem jW_law_677 {x : ZX} {g : ZG} (C : zC x g code R_law ret 4 2048 84000) {N : Nat} {xs : Nat → Int32} (X : zX g N xs x) {kc ks : Nat} {Q : State → Prop} (hR : ∀ (pc q : Nat) (σ : ZS) (L : List (Option ZV)), zd code pc .ireturn 1 q → zw x g 4 kc ks Q σ pc L [zi 1]) (hk : kc ≤ x.2.2.2.1.cells ∧ ks ≤ x.2.2.2.1.slots) {k : Nat} {σr : ZS} {q18 : Int32 → ZS → Option (Int32 × ZS)} (hq18 : ∀ (x3 : Int32) (σ : ZS), q18 x3 σ = some (1, σr) → zw x g 4 kc ks Q σ 18 [some (zr 1004), some (zr 1), some (zr 103), some (zi x3)] []) {x3 : Int32} {σ : ZS} (hf : bW_law_677 k N xs q18 x3 σ = some (1, σr)) : zw x g 4 kc ks Q σ 677 [some (zr 1004), some (zr 1), some (zr 103), some (zi x3)] [] := by
  unfold bW_law_677 at hf
  refine z_aload_n C dW_law_677 rfl ?_
  refine z_aload_n C dW_law_678 rfl ?_
  refine z_iload_n C dW_law_679 rfl ?_
  refine z_iconst C (1 : Int32) dW_law_680 kI_1 ?_
  refine z_iadd C dW_law_681 ?_
  obtain ⟨g1, hf⟩ := zgo hf
  refine z_sld C X dW_law_682 g1 ?_
  obtain ⟨r2, s2, h2, hf⟩ := zbx hf
  refine z_callVi C (as := [zi (xs (x3 + (1 : Int32)).toNatClampNeg)]) dW_law_683 w_471 yy8_text (c8_text x.2.1 g h2) yc8_text kZ_1 rfl rfl (Nat.le_of_ble_eq_true rfl) ⟨Nat.le_of_ble_eq_true rfl, Nat.le_of_ble_eq_true rfl⟩ hk ?_
  refine z_aload_n C dW_law_686 rfl ?_
  refine z_aload_n C dW_law_687 rfl ?_
  refine z_iload_n C dW_law_688 rfl ?_
  refine z_iconst C (1 : Int32) dW_law_689 kI_1 ?_
  refine z_iadd C dW_law_690 ?_
  obtain ⟨g3, hf⟩ := zgo hf
  refine z_sld C X dW_law_691 g3 ?_
  obtain ⟨r4, s4, h4, hf⟩ := zbx hf
  refine z_callVi C (as := [zi (xs (x3 + (1 : Int32)).toNatClampNeg)]) dW_law_692 w_1049 yy9_text (c9_text x.2.1 g h4) yc9_text kZ_103 rfl rfl (Nat.le_of_ble_eq_true rfl) ⟨Nat.le_of_ble_eq_true rfl, Nat.le_of_ble_eq_true rfl⟩ hk ?_
  refine z_icmp_eq C dW_law_695 (fun c5 => ?_) (fun c5 => ?_)
  · have hf := zit c5 hf
    refine z_iinc C dW_law_1488 rfl kI_6 (Nat.le_of_ble_eq_true rfl) rfl (L' := [some (zr 1004), some (zr 1), some (zr 103), some (zi (x3 + (6 : Int32)))]) rfl ?_
    refine z_goto C dW_law_1491 ?_
    exact hq18 _ _ hf
  · have hf := zie c5 hf
    refine z_iconst C (0 : Int32) dW_law_698 kI_0 ?_
    exact z_lwret hR dW_law_699 hf
def bW_law_614 (k N : Nat) (xs : Nat → Int32) (q18 : Int32 → ZS → Option (Int32 × ZS)) (x3 : Int32) (σ : ZS) : Option (Int32 × ZS) :=
  if zin (x3 + (1 : Int32)) N then (
  if zin (x3 + (2 : Int32)) N then (
  if zin (x3 + (3 : Int32)) N then (
  zbd (f8_feed k (((xs (x3 + (1 : Int32)).toNatClampNeg).toInt64 <<< ((32 : Int32).toInt64 &&& 63)) ||| ((xs (x3 + (2 : Int32)).toNatClampNeg).toInt64 &&& (4294967295 : Int64))) (xs (x3 + (3 : Int32)).toNatClampNeg) σ) fun r4 s4 =>
  if zin (x3 + (1 : Int32)) N then (
  if zin (x3 + (2 : Int32)) N then (
  if zin (x3 + (3 : Int32)) N then (
  zbd (f9_feed k (((xs (x3 + (1 : Int32)).toNatClampNeg).toInt64 <<< ((32 : Int32).toInt64 &&& 63)) ||| ((xs (x3 + (2 : Int32)).toNatClampNeg).toInt64 &&& (4294967295 : Int64))) (xs (x3 + (3 : Int32)).toNatClampNeg) s4) fun r8 s8 =>
  if r4 = r8 then (
  q18 (x3 + (6 : Int32)) s8)
  else (
  some ((0 : Int32), s8))) else none) else none) else none) else none) else none) else none
theorem jW_law_614 {x : ZX} {g : ZG} (C : zC x g code R_law ret 4 2048 84000) {N : Nat} {xs : Nat → Int32} (X : zX g N xs x) {kc ks : Nat} {Q : State → Prop} (hR : ∀ (pc q : Nat) (σ : ZS) (L : List (Option ZV)), zd code pc .ireturn 1 q → zw x g 4 kc ks Q σ pc L [zi 1]) (hk : kc ≤ x.2.2.2.1.cells ∧ ks ≤ x.2.2.2.1.slots) {k : Nat} {σr : ZS} {q18 : Int32 → ZS → Option (Int32 × ZS)} (hq18 : ∀ (x3 : Int32) (σ : ZS), q18 x3 σ = some (1, σr) → zw x g 4 kc ks Q σ 18 [some (zr 1004), some (zr 1), some (zr 103), some (zi x3)] []) {x3 : Int32} {σ : ZS} (hf : bW_law_614 k N xs q18 x3 σ = some (1, σr)) : zw x g 4 kc ks Q σ 614 [some (zr 1004), some (zr 1), some (zr 103), some (zi x3)] [] := by
  unfold bW_law_614 at hf
  refine z_aload_n C dW_law_614 rfl ?_
  refine z_aload_n C dW_law_615 rfl ?_
  refine z_iload_n C dW_law_616 rfl ?_
  refine z_iconst C (1 : Int32) dW_law_617 kI_1 ?_
  refine z_iadd C dW_law_618 ?_
  obtain ⟨g1, hf⟩ := zgo hf
  refine z_sld C X dW_law_619 g1 ?_
  refine z_i2l C dW_law_620 ?_
  refine z_bipush C (32 : Int32) dW_law_621 kB_32 ?_
  refine z_lshl C dW_law_623 ?_
  refine z_aload_n C dW_law_624 rfl ?_
  refine z_iload_n C dW_law_625 rfl ?_
  refine z_iconst C (2 : Int32) dW_law_626 kI_2 ?_
  refine z_iadd C dW_law_627 ?_
  obtain ⟨g2, hf⟩ := zgo hf
  refine z_sld C X dW_law_628 g2 ?_
  refine z_i2l C dW_law_629 ?_
  refine z_ldc2 C (4294967295 : Int64) dW_law_630 w_1298 ?_
  refine z_land C dW_law_633 ?_
  refine z_lor C dW_law_634 ?_
  refine z_aload_n C dW_law_635 rfl ?_
  refine z_iload_n C dW_law_636 rfl ?_
  refine z_iconst C (3 : Int32) dW_law_637 kI_3 ?_
  refine z_iadd C dW_law_638 ?_
  obtain ⟨g3, hf⟩ := zgo hf
  refine z_sld C X dW_law_639 g3 ?_
  obtain ⟨r4, s4, h4, hf⟩ := zbx hf
  refine z_callVi C (as := [zj (((xs (x3 + (1 : Int32)).toNatClampNeg).toInt64 <<< ((32 : Int32).toInt64 &&& 63)) ||| ((xs (x3 + (2 : Int32)).toNatClampNeg).toInt64 &&& (4294967295 : Int64))), zi (xs (x3 + (3 : Int32)).toNatClampNeg)]) dW_law_640 w_463 yy8_feed (c8_feed x.2.1 g h4) yc8_feed kZ_1 rfl rfl (Nat.le_of_ble_eq_true rfl) ⟨Nat.le_of_ble_eq_true rfl, Nat.le_of_ble_eq_true rfl⟩ hk ?_
  refine z_aload_n C dW_law_643 rfl ?_
  refine z_aload_n C dW_law_644 rfl ?_
  refine z_iload_n C dW_law_645 rfl ?_
  refine z_iconst C (1 : Int32) dW_law_646 kI_1 ?_
  refine z_iadd C dW_law_647 ?_
  obtain ⟨g5, hf⟩ := zgo hf
  refine z_sld C X dW_law_648 g5 ?_
  refine z_i2l C dW_law_649 ?_
  refine z_bipush C (32 : Int32) dW_law_650 kB_32 ?_
  refine z_lshl C dW_law_652 ?_
  refine z_aload_n C dW_law_653 rfl ?_
  refine z_iload_n C dW_law_654 rfl ?_
  refine z_iconst C (2 : Int32) dW_law_655 kI_2 ?_
  refine z_iadd C dW_law_656 ?_
  obtain ⟨g6, hf⟩ := zgo hf
  refine z_sld C X dW_law_657 g6 ?_
  refine z_i2l C dW_law_658 ?_
  refine z_ldc2 C (4294967295 : Int64) dW_law_659 w_1298 ?_
  refine z_land C dW_law_662 ?_
  refine z_lor C dW_law_663 ?_
  refine z_aload_n C dW_law_664 rfl ?_
  refine z_iload_n C dW_law_665 rfl ?_
  refine z_iconst C (3 : Int32) dW_law_666 kI_3 ?_
  refine z_iadd C dW_law_667 ?_
  obtain ⟨g7, hf⟩ := zgo hf
  refine z_sld C X dW_law_668 g7 ?_
  obtain ⟨r8, s8, h8, hf⟩ := zbx hf
  refine z_callVi C (as := [zj (((xs (x3 + (1 : Int32)).toNatClampNeg).toInt64 <<< ((32 : Int32).toInt64 &&& 63)) ||| ((xs (x3 + (2 : Int32)).toNatClampNeg).toInt64 &&& (4294967295 : Int64))), zi (xs (x3 + (3 : Int32)).toNatClampNeg)]) dW_law_669 w_1044 yy9_feed (c9_feed x.2.1 g h8) yc9_feed kZ_103 rfl rfl (Nat.le_of_ble_eq_true rfl) ⟨Nat.le_of_ble_eq_true rfl, Nat.le_of_ble_eq_true rfl⟩ hk ?_
  refine z_icmp_eq C dW_law_672 (fun c9 => ?_) (fun c9 => ?_)
  · have hf := zit c9 hf
    refine z_iinc C dW_law_1488 rfl kI_6 (Nat.le_of_ble_eq_true rfl) rfl (L' := [some (zr 1004), some (zr 1), some (zr 103), some (zi (x3 + (6 : Int32)))]) rfl ?_
    refine z_goto C dW_law_1491 ?_
    exact hq18 _ _ hf
  · have hf := zie c9 hf
    refine z_iconst C (0 : Int32) dW_law_675 kI_0 ?_
    exact z_lwret hR dW_law_676 hf
def bW_law_591 (k N : Nat) (xs : Nat → Int32) (q18 : Int32 → ZS → Option (Int32 × ZS)) (x3 : Int32) (σ : ZS) : Option (Int32 × ZS) :=
  if zin (x3 + (1 : Int32)) N then (
  zbd (f8_hour k (xs (x3 + (1 : Int32)).toNatClampNeg) σ) fun r2 s2 =>
  if zin (x3 + (1 : Int32)) N then (
  zbd (f9_hour k (xs (x3 + (1 : Int32)).toNatClampNeg) s2) fun r4 s4 =>
  if r2 = r4 then (
  q18 (x3 + (6 : Int32)) s4)
  else (
  some ((0 : Int32), s4))) else none) else none
theorem jW_law_591 {x : ZX} {g : ZG} (C : zC x g code R_law ret 4 2048 84000) {N : Nat} {xs : Nat → Int32} (X : zX g N xs x) {kc ks : Nat} {Q : State → Prop} (hR : ∀ (pc q : Nat) (σ : ZS) (L : List (Option ZV)), zd code pc .ireturn 1 q → zw x g 4 kc ks Q σ pc L [zi 1]) (hk : kc ≤ x.2.2.2.1.cells ∧ ks ≤ x.2.2.2.1.slots) {k : Nat} {σr : ZS} {q18 : Int32 → ZS → Option (Int32 × ZS)} (hq18 : ∀ (x3 : Int32) (σ : ZS), q18 x3 σ = some (1, σr) → zw x g 4 kc ks Q σ 18 [some (zr 1004), some (zr 1), some (zr 103), some (zi x3)] []) {x3 : Int32} {σ : ZS} (hf : bW_law_591 k N xs q18 x3 σ = some (1, σr)) : zw x g 4 kc ks Q σ 591 [some (zr 1004), some (zr 1), some (zr 103), some (zi x3)] [] := by
  unfold bW_law_591 at hf
  refine z_aload_n C dW_law_591 rfl ?_
  refine z_aload_n C dW_law_592 rfl ?_
  refine z_iload_n C dW_law_593 rfl ?_
  refine z_iconst C (1 : Int32) dW_law_594 kI_1 ?_
  refine z_iadd C dW_law_595 ?_
  obtain ⟨g1, hf⟩ := zgo hf
  refine z_sld C X dW_law_596 g1 ?_
  obtain ⟨r2, s2, h2, hf⟩ := zbx hf
  refine z_callVi C (as := [zi (xs (x3 + (1 : Int32)).toNatClampNeg)]) dW_law_597 w_459 yy8_hour (c8_hour x.2.1 g h2) yc8_hour kZ_1 rfl rfl (Nat.le_of_ble_eq_true rfl) ⟨Nat.le_of_ble_eq_true rfl, Nat.le_of_ble_eq_true rfl⟩ hk ?_
  refine z_aload_n C dW_law_600 rfl ?_
  refine z_aload_n C dW_law_601 rfl ?_
  refine z_iload_n C dW_law_602 rfl ?_
  refine z_iconst C (1 : Int32) dW_law_603 kI_1 ?_
  refine z_iadd C dW_law_604 ?_
  obtain ⟨g3, hf⟩ := zgo hf
  refine z_sld C X dW_law_605 g3 ?_
  obtain ⟨r4, s4, h4, hf⟩ := zbx hf
  refine z_callVi C (as := [zi (xs (x3 + (1 : Int32)).toNatClampNeg)]) dW_law_606 w_1040 yy9_hour (c9_hour x.2.1 g h4) yc9_hour kZ_103 rfl rfl (Nat.le_of_ble_eq_true rfl) ⟨Nat.le_of_ble_eq_true rfl, Nat.le_of_ble_eq_true rfl⟩ hk ?_
  refine z_icmp_eq C dW_law_609 (fun c5 => ?_) (fun c5 => ?_)
  · have hf := zit c5 hf
    refine z_iinc C dW_law_1488 rfl kI_6 (Nat.le_of_ble_eq_true rfl) rfl (L' := [some (zr 1004), some (zr 1), some (zr 103), some (zi (x3 + (6 : Int32)))]) rfl ?_
    refine z_goto C dW_law_1491 ?_
    exact hq18 _ _ hf
  · have hf := zie c5 hf
    refine z_iconst C (0 : Int32) dW_law_612 kI_0 ?_
    exact z_lwret hR dW_law_613 hf
def bW_law_558 (k N : Nat) (xs : Nat → Int32) (q18 : Int32 → ZS → Option (Int32 × ZS)) (x3 : Int32) (σ : ZS) : Option (Int32 × ZS) :=
  if zin (x3 + (1 : Int32)) N then (
  if zin (x3 + (2 : Int32)) N then (
  zbd (f8_pay k (xs (x3 + (1 : Int32)).toNatClampNeg) (xs (x3 + (2 : Int32)).toNatClampNeg) σ) fun r3 s3 =>
  if zin (x3 + (1 : Int32)) N then (
  if zin (x3 + (2 : Int32)) N then (
  zbd (f9_pay k (xs (x3 + (1 : Int32)).toNatClampNeg) (xs (x3 + (2 : Int32)).toNatClampNeg) s3) fun r6 s6 =>
  if r3 = r6 then (
  q18 (x3 + (6 : Int32)) s6)
  else (
  some ((0 : Int32), s6))) else none) else none) else none) else none
theorem jW_law_558 {x : ZX} {g : ZG} (C : zC x g code R_law ret 4 2048 84000) {N : Nat} {xs : Nat → Int32} (X : zX g N xs x) {kc ks : Nat} {Q : State → Prop} (hR : ∀ (pc q : Nat) (σ : ZS) (L : List (Option ZV)), zd code pc .ireturn 1 q → zw x g 4 kc ks Q σ pc L [zi 1]) (hk : kc ≤ x.2.2.2.1.cells ∧ ks ≤ x.2.2.2.1.slots) {k : Nat} {σr : ZS} {q18 : Int32 → ZS → Option (Int32 × ZS)} (hq18 : ∀ (x3 : Int32) (σ : ZS), q18 x3 σ = some (1, σr) → zw x g 4 kc ks Q σ 18 [some (zr 1004), some (zr 1), some (zr 103), some (zi x3)] []) {x3 : Int32} {σ : ZS} (hf : bW_law_558 k N xs q18 x3 σ = some (1, σr)) : zw x g 4 kc ks Q σ 558 [some (zr 1004), some (zr 1), some (zr 103), some (zi x3)] [] := by
  unfold bW_law_558 at hf
  refine z_aload_n C dW_law_558 rfl ?_
  refine z_aload_n C dW_law_559 rfl ?_
  refine z_iload_n C dW_law_560 rfl ?_
  refine z_iconst C (1 : Int32) dW_law_561 kI_1 ?_
  refine z_iadd C dW_law_562 ?_
  obtain ⟨g1, hf⟩ := zgo hf
  refine z_sld C X dW_law_563 g1 ?_
  refine z_aload_n C dW_law_564 rfl ?_
  refine z_iload_n C dW_law_565 rfl ?_
  refine z_iconst C (2 : Int32) dW_law_566 kI_2 ?_
  refine z_iadd C dW_law_567 ?_
  obtain ⟨g2, hf⟩ := zgo hf
  refine z_sld C X dW_law_568 g2 ?_
  obtain ⟨r3, s3, h3, hf⟩ := zbx hf
  refine z_callVi C (as := [zi (xs (x3 + (1 : Int32)).toNatClampNeg), zi (xs (x3 + (2 : Int32)).toNatClampNeg)]) dW_law_569 w_453 yy8_pay (c8_pay x.2.1 g h3) yc8_pay kZ_1 rfl rfl (Nat.le_of_ble_eq_true rfl) ⟨Nat.le_of_ble_eq_true rfl, Nat.le_of_ble_eq_true rfl⟩ hk ?_
  refine z_aload_n C dW_law_572 rfl ?_
  refine z_aload_n C dW_law_573 rfl ?_
  refine z_iload_n C dW_law_574 rfl ?_
  refine z_iconst C (1 : Int32) dW_law_575 kI_1 ?_
  refine z_iadd C dW_law_576 ?_
  obtain ⟨g4, hf⟩ := zgo hf
  refine z_sld C X dW_law_577 g4 ?_
  refine z_aload_n C dW_law_578 rfl ?_
  refine z_iload_n C dW_law_579 rfl ?_
  refine z_iconst C (2 : Int32) dW_law_580 kI_2 ?_
  refine z_iadd C dW_law_581 ?_
  obtain ⟨g5, hf⟩ := zgo hf
  refine z_sld C X dW_law_582 g5 ?_
  obtain ⟨r6, s6, h6, hf⟩ := zbx hf
  refine z_callVi C (as := [zi (xs (x3 + (1 : Int32)).toNatClampNeg), zi (xs (x3 + (2 : Int32)).toNatClampNeg)]) dW_law_583 w_1035 yy9_pay (c9_pay x.2.1 g h6) yc9_pay kZ_103 rfl rfl (Nat.le_of_ble_eq_true rfl) ⟨Nat.le_of_ble_eq_true rfl, Nat.le_of_ble_eq_true rfl⟩ hk ?_
  refine z_icmp_eq C dW_law_586 (fun c7 => ?_) (fun c7 => ?_)
  · have hf := zit c7 hf
    refine z_iinc C dW_law_1488 rfl kI_6 (Nat.le_of_ble_eq_true rfl) rfl (L' := [some (zr 1004), some (zr 1), some (zr 103), some (zi (x3 + (6 : Int32)))]) rfl ?_
    refine z_goto C dW_law_1491 ?_
    exact hq18 _ _ hf
  · have hf := zie c7 hf
    refine z_iconst C (0 : Int32) dW_law_589 kI_0 ?_
    exact z_lwret hR dW_law_590 hf
def bW_law_515 (k N : Nat) (xs : Nat → Int32) (q18 : Int32 → ZS → Option (Int32 × ZS)) (x3 : Int32) (σ : ZS) : Option (Int32 × ZS) :=
  if zin (x3 + (1 : Int32)) N then (
  if zin (x3 + (2 : Int32)) N then (
  if zin (x3 + (3 : Int32)) N then (
  zbd (f8_stand k (xs (x3 + (1 : Int32)).toNatClampNeg) (xs (x3 + (2 : Int32)).toNatClampNeg) (xs (x3 + (3 : Int32)).toNatClampNeg) σ) fun r4 s4 =>
  if zin (x3 + (1 : Int32)) N then (
  if zin (x3 + (2 : Int32)) N then (
  if zin (x3 + (3 : Int32)) N then (
  zbd (f9_stand k (xs (x3 + (1 : Int32)).toNatClampNeg) (xs (x3 + (2 : Int32)).toNatClampNeg) (xs (x3 + (3 : Int32)).toNatClampNeg) s4) fun r8 s8 =>
  if r4 = r8 then (
  q18 (x3 + (6 : Int32)) s8)
  else (
  some ((0 : Int32), s8))) else none) else none) else none) else none) else none) else none
theorem jW_law_515 {x : ZX} {g : ZG} (C : zC x g code R_law ret 4 2048 84000) {N : Nat} {xs : Nat → Int32} (X : zX g N xs x) {kc ks : Nat} {Q : State → Prop} (hR : ∀ (pc q : Nat) (σ : ZS) (L : List (Option ZV)), zd code pc .ireturn 1 q → zw x g 4 kc ks Q σ pc L [zi 1]) (hk : kc ≤ x.2.2.2.1.cells ∧ ks ≤ x.2.2.2.1.slots) {k : Nat} {σr : ZS} {q18 : Int32 → ZS → Option (Int32 × ZS)} (hq18 : ∀ (x3 : Int32) (σ : ZS), q18 x3 σ = some (1, σr) → zw x g 4 kc ks Q σ 18 [some (zr 1004), some (zr 1), some (zr 103), some (zi x3)] []) {x3 : Int32} {σ : ZS} (hf : bW_law_515 k N xs q18 x3 σ = some (1, σr)) : zw x g 4 kc ks Q σ 515 [some (zr 1004), some (zr 1), some (zr 103), some (zi x3)] [] := by
  unfold bW_law_515 at hf
  refine z_aload_n C dW_law_515 rfl ?_
  refine z_aload_n C dW_law_516 rfl ?_
  refine z_iload_n C dW_law_517 rfl ?_
  refine z_iconst C (1 : Int32) dW_law_518 kI_1 ?_
  refine z_iadd C dW_law_519 ?_
  obtain ⟨g1, hf⟩ := zgo hf
  refine z_sld C X dW_law_520 g1 ?_
  refine z_aload_n C dW_law_521 rfl ?_
  refine z_iload_n C dW_law_522 rfl ?_
  refine z_iconst C (2 : Int32) dW_law_523 kI_2 ?_
  refine z_iadd C dW_law_524 ?_
  obtain ⟨g2, hf⟩ := zgo hf
  refine z_sld C X dW_law_525 g2 ?_
  refine z_aload_n C dW_law_526 rfl ?_
  refine z_iload_n C dW_law_527 rfl ?_
  refine z_iconst C (3 : Int32) dW_law_528 kI_3 ?_
  refine z_iadd C dW_law_529 ?_
  obtain ⟨g3, hf⟩ := zgo hf
  refine z_sld C X dW_law_530 g3 ?_
  obtain ⟨r4, s4, h4, hf⟩ := zbx hf
  refine z_callVi C (as := [zi (xs (x3 + (1 : Int32)).toNatClampNeg), zi (xs (x3 + (2 : Int32)).toNatClampNeg), zi (xs (x3 + (3 : Int32)).toNatClampNeg)]) dW_law_531 w_449 yy8_stand (c8_stand x.2.1 g h4) yc8_stand kZ_1 rfl rfl (Nat.le_of_ble_eq_true rfl) ⟨Nat.le_of_ble_eq_true rfl, Nat.le_of_ble_eq_true rfl⟩ hk ?_
  refine z_aload_n C dW_law_534 rfl ?_
  refine z_aload_n C dW_law_535 rfl ?_
  refine z_iload_n C dW_law_536 rfl ?_
  refine z_iconst C (1 : Int32) dW_law_537 kI_1 ?_
  refine z_iadd C dW_law_538 ?_
  obtain ⟨g5, hf⟩ := zgo hf
  refine z_sld C X dW_law_539 g5 ?_
  refine z_aload_n C dW_law_540 rfl ?_
  refine z_iload_n C dW_law_541 rfl ?_
  refine z_iconst C (2 : Int32) dW_law_542 kI_2 ?_
  refine z_iadd C dW_law_543 ?_
  obtain ⟨g6, hf⟩ := zgo hf
  refine z_sld C X dW_law_544 g6 ?_
  refine z_aload_n C dW_law_545 rfl ?_
  refine z_iload_n C dW_law_546 rfl ?_
  refine z_iconst C (3 : Int32) dW_law_547 kI_3 ?_
  refine z_iadd C dW_law_548 ?_
  obtain ⟨g7, hf⟩ := zgo hf
  refine z_sld C X dW_law_549 g7 ?_
  obtain ⟨r8, s8, h8, hf⟩ := zbx hf
  refine z_callVi C (as := [zi (xs (x3 + (1 : Int32)).toNatClampNeg), zi (xs (x3 + (2 : Int32)).toNatClampNeg), zi (xs (x3 + (3 : Int32)).toNatClampNeg)]) dW_law_550 w_1027 yy9_stand (c9_stand x.2.1 g h8) yc9_stand kZ_103 rfl rfl (Nat.le_of_ble_eq_true rfl) ⟨Nat.le_of_ble_eq_true rfl, Nat.le_of_ble_eq_true rfl⟩ hk ?_
  refine z_icmp_eq C dW_law_553 (fun c9 => ?_) (fun c9 => ?_)
  · have hf := zit c9 hf
    refine z_iinc C dW_law_1488 rfl kI_6 (Nat.le_of_ble_eq_true rfl) rfl (L' := [some (zr 1004), some (zr 1), some (zr 103), some (zi (x3 + (6 : Int32)))]) rfl ?_
    refine z_goto C dW_law_1491 ?_
    exact hq18 _ _ hf
  · have hf := zie c9 hf
    refine z_iconst C (0 : Int32) dW_law_556 kI_0 ?_
    exact z_lwret hR dW_law_557 hf
def bW_law_482 (k N : Nat) (xs : Nat → Int32) (q18 : Int32 → ZS → Option (Int32 × ZS)) (x3 : Int32) (σ : ZS) : Option (Int32 × ZS) :=
  if zin (x3 + (1 : Int32)) N then (
  if zin (x3 + (2 : Int32)) N then (
  zbd (f8_personIs k (xs (x3 + (1 : Int32)).toNatClampNeg) (xs (x3 + (2 : Int32)).toNatClampNeg) σ) fun r3 s3 =>
  if zin (x3 + (1 : Int32)) N then (
  if zin (x3 + (2 : Int32)) N then (
  zbd (f9_personIs k (xs (x3 + (1 : Int32)).toNatClampNeg) (xs (x3 + (2 : Int32)).toNatClampNeg) s3) fun r6 s6 =>
  if r3 = r6 then (
  q18 (x3 + (6 : Int32)) s6)
  else (
  some ((0 : Int32), s6))) else none) else none) else none) else none
theorem jW_law_482 {x : ZX} {g : ZG} (C : zC x g code R_law ret 4 2048 84000) {N : Nat} {xs : Nat → Int32} (X : zX g N xs x) {kc ks : Nat} {Q : State → Prop} (hR : ∀ (pc q : Nat) (σ : ZS) (L : List (Option ZV)), zd code pc .ireturn 1 q → zw x g 4 kc ks Q σ pc L [zi 1]) (hk : kc ≤ x.2.2.2.1.cells ∧ ks ≤ x.2.2.2.1.slots) {k : Nat} {σr : ZS} {q18 : Int32 → ZS → Option (Int32 × ZS)} (hq18 : ∀ (x3 : Int32) (σ : ZS), q18 x3 σ = some (1, σr) → zw x g 4 kc ks Q σ 18 [some (zr 1004), some (zr 1), some (zr 103), some (zi x3)] []) {x3 : Int32} {σ : ZS} (hf : bW_law_482 k N xs q18 x3 σ = some (1, σr)) : zw x g 4 kc ks Q σ 482 [some (zr 1004), some (zr 1), some (zr 103), some (zi x3)] [] := by
  unfold bW_law_482 at hf
  refine z_aload_n C dW_law_482 rfl ?_
  refine z_aload_n C dW_law_483 rfl ?_
  refine z_iload_n C dW_law_484 rfl ?_
  refine z_iconst C (1 : Int32) dW_law_485 kI_1 ?_
  refine z_iadd C dW_law_486 ?_
  obtain ⟨g1, hf⟩ := zgo hf
  refine z_sld C X dW_law_487 g1 ?_
  refine z_aload_n C dW_law_488 rfl ?_
  refine z_iload_n C dW_law_489 rfl ?_
  refine z_iconst C (2 : Int32) dW_law_490 kI_2 ?_
  refine z_iadd C dW_law_491 ?_
  obtain ⟨g2, hf⟩ := zgo hf
  refine z_sld C X dW_law_492 g2 ?_
  obtain ⟨r3, s3, h3, hf⟩ := zbx hf
  refine z_callVi C (as := [zi (xs (x3 + (1 : Int32)).toNatClampNeg), zi (xs (x3 + (2 : Int32)).toNatClampNeg)]) dW_law_493 w_392 yy8_personIs (c8_personIs x.2.1 g h3) yc8_personIs kZ_1 rfl rfl (Nat.le_of_ble_eq_true rfl) ⟨Nat.le_of_ble_eq_true rfl, Nat.le_of_ble_eq_true rfl⟩ hk ?_
  refine z_aload_n C dW_law_496 rfl ?_
  refine z_aload_n C dW_law_497 rfl ?_
  refine z_iload_n C dW_law_498 rfl ?_
  refine z_iconst C (1 : Int32) dW_law_499 kI_1 ?_
  refine z_iadd C dW_law_500 ?_
  obtain ⟨g4, hf⟩ := zgo hf
  refine z_sld C X dW_law_501 g4 ?_
  refine z_aload_n C dW_law_502 rfl ?_
  refine z_iload_n C dW_law_503 rfl ?_
  refine z_iconst C (2 : Int32) dW_law_504 kI_2 ?_
  refine z_iadd C dW_law_505 ?_
  obtain ⟨g5, hf⟩ := zgo hf
  refine z_sld C X dW_law_506 g5 ?_
  obtain ⟨r6, s6, h6, hf⟩ := zbx hf
  refine z_callVi C (as := [zi (xs (x3 + (1 : Int32)).toNatClampNeg), zi (xs (x3 + (2 : Int32)).toNatClampNeg)]) dW_law_507 w_982 yy9_personIs (c9_personIs x.2.1 g h6) yc9_personIs kZ_103 rfl rfl (Nat.le_of_ble_eq_true rfl) ⟨Nat.le_of_ble_eq_true rfl, Nat.le_of_ble_eq_true rfl⟩ hk ?_
  refine z_icmp_eq C dW_law_510 (fun c7 => ?_) (fun c7 => ?_)
  · have hf := zit c7 hf
    refine z_iinc C dW_law_1488 rfl kI_6 (Nat.le_of_ble_eq_true rfl) rfl (L' := [some (zr 1004), some (zr 1), some (zr 103), some (zi (x3 + (6 : Int32)))]) rfl ?_
    refine z_goto C dW_law_1491 ?_
    exact hq18 _ _ hf
  · have hf := zie c7 hf
    refine z_iconst C (0 : Int32) dW_law_513 kI_0 ?_
    exact z_lwret hR dW_law_514 hf
def bW_law_449 (k N : Nat) (xs : Nat → Int32) (q18 : Int32 → ZS → Option (Int32 × ZS)) (x3 : Int32) (σ : ZS) : Option (Int32 × ZS) :=
  if zin (x3 + (1 : Int32)) N then (
  if zin (x3 + (2 : Int32)) N then (
  zbd (f8_person k (xs (x3 + (1 : Int32)).toNatClampNeg) (xs (x3 + (2 : Int32)).toNatClampNeg) σ) fun r3 s3 =>
  if zin (x3 + (1 : Int32)) N then (
  if zin (x3 + (2 : Int32)) N then (
  zbd (f9_person k (xs (x3 + (1 : Int32)).toNatClampNeg) (xs (x3 + (2 : Int32)).toNatClampNeg) s3) fun r6 s6 =>
  if r3 = r6 then (
  q18 (x3 + (6 : Int32)) s6)
  else (
  some ((0 : Int32), s6))) else none) else none) else none) else none
theorem jW_law_449 {x : ZX} {g : ZG} (C : zC x g code R_law ret 4 2048 84000) {N : Nat} {xs : Nat → Int32} (X : zX g N xs x) {kc ks : Nat} {Q : State → Prop} (hR : ∀ (pc q : Nat) (σ : ZS) (L : List (Option ZV)), zd code pc .ireturn 1 q → zw x g 4 kc ks Q σ pc L [zi 1]) (hk : kc ≤ x.2.2.2.1.cells ∧ ks ≤ x.2.2.2.1.slots) {k : Nat} {σr : ZS} {q18 : Int32 → ZS → Option (Int32 × ZS)} (hq18 : ∀ (x3 : Int32) (σ : ZS), q18 x3 σ = some (1, σr) → zw x g 4 kc ks Q σ 18 [some (zr 1004), some (zr 1), some (zr 103), some (zi x3)] []) {x3 : Int32} {σ : ZS} (hf : bW_law_449 k N xs q18 x3 σ = some (1, σr)) : zw x g 4 kc ks Q σ 449 [some (zr 1004), some (zr 1), some (zr 103), some (zi x3)] [] := by
  unfold bW_law_449 at hf
  refine z_aload_n C dW_law_449 rfl ?_
  refine z_aload_n C dW_law_450 rfl ?_
  refine z_iload_n C dW_law_451 rfl ?_
  refine z_iconst C (1 : Int32) dW_law_452 kI_1 ?_
  refine z_iadd C dW_law_453 ?_
  obtain ⟨g1, hf⟩ := zgo hf
  refine z_sld C X dW_law_454 g1 ?_
  refine z_aload_n C dW_law_455 rfl ?_
  refine z_iload_n C dW_law_456 rfl ?_
  refine z_iconst C (2 : Int32) dW_law_457 kI_2 ?_
  refine z_iadd C dW_law_458 ?_
  obtain ⟨g2, hf⟩ := zgo hf
  refine z_sld C X dW_law_459 g2 ?_
  obtain ⟨r3, s3, h3, hf⟩ := zbx hf
  refine z_callVi C (as := [zi (xs (x3 + (1 : Int32)).toNatClampNeg), zi (xs (x3 + (2 : Int32)).toNatClampNeg)]) dW_law_460 w_380 yy8_person (c8_person x.2.1 g h3) yc8_person kZ_1 rfl rfl (Nat.le_of_ble_eq_true rfl) ⟨Nat.le_of_ble_eq_true rfl, Nat.le_of_ble_eq_true rfl⟩ hk ?_
  refine z_aload_n C dW_law_463 rfl ?_
  refine z_aload_n C dW_law_464 rfl ?_
  refine z_iload_n C dW_law_465 rfl ?_
  refine z_iconst C (1 : Int32) dW_law_466 kI_1 ?_
  refine z_iadd C dW_law_467 ?_
  obtain ⟨g4, hf⟩ := zgo hf
  refine z_sld C X dW_law_468 g4 ?_
  refine z_aload_n C dW_law_469 rfl ?_
  refine z_iload_n C dW_law_470 rfl ?_
  refine z_iconst C (2 : Int32) dW_law_471 kI_2 ?_
  refine z_iadd C dW_law_472 ?_
  obtain ⟨g5, hf⟩ := zgo hf
  refine z_sld C X dW_law_473 g5 ?_
  obtain ⟨r6, s6, h6, hf⟩ := zbx hf
  refine z_callVi C (as := [zi (xs (x3 + (1 : Int32)).toNatClampNeg), zi (xs (x3 + (2 : Int32)).toNatClampNeg)]) dW_law_474 w_978 yy9_person (c9_person x.2.1 g h6) yc9_person kZ_103 rfl rfl (Nat.le_of_ble_eq_true rfl) ⟨Nat.le_of_ble_eq_true rfl, Nat.le_of_ble_eq_true rfl⟩ hk ?_
  refine z_icmp_eq C dW_law_477 (fun c7 => ?_) (fun c7 => ?_)
  · have hf := zit c7 hf
    refine z_iinc C dW_law_1488 rfl kI_6 (Nat.le_of_ble_eq_true rfl) rfl (L' := [some (zr 1004), some (zr 1), some (zr 103), some (zi (x3 + (6 : Int32)))]) rfl ?_
    refine z_goto C dW_law_1491 ?_
    exact hq18 _ _ hf
  · have hf := zie c7 hf
    refine z_iconst C (0 : Int32) dW_law_480 kI_0 ?_
    exact z_lwret hR dW_law_481 hf
def bW_law_416 (k N : Nat) (xs : Nat → Int32) (q18 : Int32 → ZS → Option (Int32 × ZS)) (x3 : Int32) (σ : ZS) : Option (Int32 × ZS) :=
  if zin (x3 + (1 : Int32)) N then (
  if zin (x3 + (2 : Int32)) N then (
  zbd (f8_hang k (xs (x3 + (1 : Int32)).toNatClampNeg) (xs (x3 + (2 : Int32)).toNatClampNeg) σ) fun r3 s3 =>
  if zin (x3 + (1 : Int32)) N then (
  if zin (x3 + (2 : Int32)) N then (
  zbd (f9_hang k (xs (x3 + (1 : Int32)).toNatClampNeg) (xs (x3 + (2 : Int32)).toNatClampNeg) s3) fun r6 s6 =>
  if r3 = r6 then (
  q18 (x3 + (6 : Int32)) s6)
  else (
  some ((0 : Int32), s6))) else none) else none) else none) else none
theorem jW_law_416 {x : ZX} {g : ZG} (C : zC x g code R_law ret 4 2048 84000) {N : Nat} {xs : Nat → Int32} (X : zX g N xs x) {kc ks : Nat} {Q : State → Prop} (hR : ∀ (pc q : Nat) (σ : ZS) (L : List (Option ZV)), zd code pc .ireturn 1 q → zw x g 4 kc ks Q σ pc L [zi 1]) (hk : kc ≤ x.2.2.2.1.cells ∧ ks ≤ x.2.2.2.1.slots) {k : Nat} {σr : ZS} {q18 : Int32 → ZS → Option (Int32 × ZS)} (hq18 : ∀ (x3 : Int32) (σ : ZS), q18 x3 σ = some (1, σr) → zw x g 4 kc ks Q σ 18 [some (zr 1004), some (zr 1), some (zr 103), some (zi x3)] []) {x3 : Int32} {σ : ZS} (hf : bW_law_416 k N xs q18 x3 σ = some (1, σr)) : zw x g 4 kc ks Q σ 416 [some (zr 1004), some (zr 1), some (zr 103), some (zi x3)] [] := by
  unfold bW_law_416 at hf
  refine z_aload_n C dW_law_416 rfl ?_
  refine z_aload_n C dW_law_417 rfl ?_
  refine z_iload_n C dW_law_418 rfl ?_
  refine z_iconst C (1 : Int32) dW_law_419 kI_1 ?_
  refine z_iadd C dW_law_420 ?_
  obtain ⟨g1, hf⟩ := zgo hf
  refine z_sld C X dW_law_421 g1 ?_
  refine z_aload_n C dW_law_422 rfl ?_
  refine z_iload_n C dW_law_423 rfl ?_
  refine z_iconst C (2 : Int32) dW_law_424 kI_2 ?_
  refine z_iadd C dW_law_425 ?_
  obtain ⟨g2, hf⟩ := zgo hf
  refine z_sld C X dW_law_426 g2 ?_
  obtain ⟨r3, s3, h3, hf⟩ := zbx hf
  refine z_callVi C (as := [zi (xs (x3 + (1 : Int32)).toNatClampNeg), zi (xs (x3 + (2 : Int32)).toNatClampNeg)]) dW_law_427 w_375 yy8_hang (c8_hang x.2.1 g h3) yc8_hang kZ_1 rfl rfl (Nat.le_of_ble_eq_true rfl) ⟨Nat.le_of_ble_eq_true rfl, Nat.le_of_ble_eq_true rfl⟩ hk ?_
  refine z_aload_n C dW_law_430 rfl ?_
  refine z_aload_n C dW_law_431 rfl ?_
  refine z_iload_n C dW_law_432 rfl ?_
  refine z_iconst C (1 : Int32) dW_law_433 kI_1 ?_
  refine z_iadd C dW_law_434 ?_
  obtain ⟨g4, hf⟩ := zgo hf
  refine z_sld C X dW_law_435 g4 ?_
  refine z_aload_n C dW_law_436 rfl ?_
  refine z_iload_n C dW_law_437 rfl ?_
  refine z_iconst C (2 : Int32) dW_law_438 kI_2 ?_
  refine z_iadd C dW_law_439 ?_
  obtain ⟨g5, hf⟩ := zgo hf
  refine z_sld C X dW_law_440 g5 ?_
  obtain ⟨r6, s6, h6, hf⟩ := zbx hf
  refine z_callVi C (as := [zi (xs (x3 + (1 : Int32)).toNatClampNeg), zi (xs (x3 + (2 : Int32)).toNatClampNeg)]) dW_law_441 w_974 yy9_hang (c9_hang x.2.1 g h6) yc9_hang kZ_103 rfl rfl (Nat.le_of_ble_eq_true rfl) ⟨Nat.le_of_ble_eq_true rfl, Nat.le_of_ble_eq_true rfl⟩ hk ?_
  refine z_icmp_eq C dW_law_444 (fun c7 => ?_) (fun c7 => ?_)
  · have hf := zit c7 hf
    refine z_iinc C dW_law_1488 rfl kI_6 (Nat.le_of_ble_eq_true rfl) rfl (L' := [some (zr 1004), some (zr 1), some (zr 103), some (zi (x3 + (6 : Int32)))]) rfl ?_
    refine z_goto C dW_law_1491 ?_
    exact hq18 _ _ hf
  · have hf := zie c7 hf
    refine z_iconst C (0 : Int32) dW_law_447 kI_0 ?_
    exact z_lwret hR dW_law_448 hf
def bW_law_383 (k N : Nat) (xs : Nat → Int32) (q18 : Int32 → ZS → Option (Int32 × ZS)) (x3 : Int32) (σ : ZS) : Option (Int32 × ZS) :=
  if zin (x3 + (1 : Int32)) N then (
  if zin (x3 + (2 : Int32)) N then (
  zbd (f8_spin k (xs (x3 + (1 : Int32)).toNatClampNeg) (xs (x3 + (2 : Int32)).toNatClampNeg) σ) fun r3 s3 =>
  if zin (x3 + (1 : Int32)) N then (
  if zin (x3 + (2 : Int32)) N then (
  zbd (f9_spin k (xs (x3 + (1 : Int32)).toNatClampNeg) (xs (x3 + (2 : Int32)).toNatClampNeg) s3) fun r6 s6 =>
  if r3 = r6 then (
  q18 (x3 + (6 : Int32)) s6)
  else (
  some ((0 : Int32), s6))) else none) else none) else none) else none
theorem jW_law_383 {x : ZX} {g : ZG} (C : zC x g code R_law ret 4 2048 84000) {N : Nat} {xs : Nat → Int32} (X : zX g N xs x) {kc ks : Nat} {Q : State → Prop} (hR : ∀ (pc q : Nat) (σ : ZS) (L : List (Option ZV)), zd code pc .ireturn 1 q → zw x g 4 kc ks Q σ pc L [zi 1]) (hk : kc ≤ x.2.2.2.1.cells ∧ ks ≤ x.2.2.2.1.slots) {k : Nat} {σr : ZS} {q18 : Int32 → ZS → Option (Int32 × ZS)} (hq18 : ∀ (x3 : Int32) (σ : ZS), q18 x3 σ = some (1, σr) → zw x g 4 kc ks Q σ 18 [some (zr 1004), some (zr 1), some (zr 103), some (zi x3)] []) {x3 : Int32} {σ : ZS} (hf : bW_law_383 k N xs q18 x3 σ = some (1, σr)) : zw x g 4 kc ks Q σ 383 [some (zr 1004), some (zr 1), some (zr 103), some (zi x3)] [] := by
  unfold bW_law_383 at hf
  refine z_aload_n C dW_law_383 rfl ?_
  refine z_aload_n C dW_law_384 rfl ?_
  refine z_iload_n C dW_law_385 rfl ?_
  refine z_iconst C (1 : Int32) dW_law_386 kI_1 ?_
  refine z_iadd C dW_law_387 ?_
  obtain ⟨g1, hf⟩ := zgo hf
  refine z_sld C X dW_law_388 g1 ?_
  refine z_aload_n C dW_law_389 rfl ?_
  refine z_iload_n C dW_law_390 rfl ?_
  refine z_iconst C (2 : Int32) dW_law_391 kI_2 ?_
  refine z_iadd C dW_law_392 ?_
  obtain ⟨g2, hf⟩ := zgo hf
  refine z_sld C X dW_law_393 g2 ?_
  obtain ⟨r3, s3, h3, hf⟩ := zbx hf
  refine z_callVi C (as := [zi (xs (x3 + (1 : Int32)).toNatClampNeg), zi (xs (x3 + (2 : Int32)).toNatClampNeg)]) dW_law_394 w_371 yy8_spin (c8_spin x.2.1 g h3) yc8_spin kZ_1 rfl rfl (Nat.le_of_ble_eq_true rfl) ⟨Nat.le_of_ble_eq_true rfl, Nat.le_of_ble_eq_true rfl⟩ hk ?_
  refine z_aload_n C dW_law_397 rfl ?_
  refine z_aload_n C dW_law_398 rfl ?_
  refine z_iload_n C dW_law_399 rfl ?_
  refine z_iconst C (1 : Int32) dW_law_400 kI_1 ?_
  refine z_iadd C dW_law_401 ?_
  obtain ⟨g4, hf⟩ := zgo hf
  refine z_sld C X dW_law_402 g4 ?_
  refine z_aload_n C dW_law_403 rfl ?_
  refine z_iload_n C dW_law_404 rfl ?_
  refine z_iconst C (2 : Int32) dW_law_405 kI_2 ?_
  refine z_iadd C dW_law_406 ?_
  obtain ⟨g5, hf⟩ := zgo hf
  refine z_sld C X dW_law_407 g5 ?_
  obtain ⟨r6, s6, h6, hf⟩ := zbx hf
  refine z_callVi C (as := [zi (xs (x3 + (1 : Int32)).toNatClampNeg), zi (xs (x3 + (2 : Int32)).toNatClampNeg)]) dW_law_408 w_970 yy9_spin (c9_spin x.2.1 g h6) yc9_spin kZ_103 rfl rfl (Nat.le_of_ble_eq_true rfl) ⟨Nat.le_of_ble_eq_true rfl, Nat.le_of_ble_eq_true rfl⟩ hk ?_
  refine z_icmp_eq C dW_law_411 (fun c7 => ?_) (fun c7 => ?_)
  · have hf := zit c7 hf
    refine z_iinc C dW_law_1488 rfl kI_6 (Nat.le_of_ble_eq_true rfl) rfl (L' := [some (zr 1004), some (zr 1), some (zr 103), some (zi (x3 + (6 : Int32)))]) rfl ?_
    refine z_goto C dW_law_1491 ?_
    exact hq18 _ _ hf
  · have hf := zie c7 hf
    refine z_iconst C (0 : Int32) dW_law_414 kI_0 ?_
    exact z_lwret hR dW_law_415 hf
def bW_law_350 (k N : Nat) (xs : Nat → Int32) (q18 : Int32 → ZS → Option (Int32 × ZS)) (x3 : Int32) (σ : ZS) : Option (Int32 × ZS) :=
  if zin (x3 + (1 : Int32)) N then (
  if zin (x3 + (2 : Int32)) N then (
  zbd (f8_as k (xs (x3 + (1 : Int32)).toNatClampNeg) (xs (x3 + (2 : Int32)).toNatClampNeg) σ) fun r3 s3 =>
  if zin (x3 + (1 : Int32)) N then (
  if zin (x3 + (2 : Int32)) N then (
  zbd (f9_as k (xs (x3 + (1 : Int32)).toNatClampNeg) (xs (x3 + (2 : Int32)).toNatClampNeg) s3) fun r6 s6 =>
  if r3 = r6 then (
  q18 (x3 + (6 : Int32)) s6)
  else (
  some ((0 : Int32), s6))) else none) else none) else none) else none
theorem jW_law_350 {x : ZX} {g : ZG} (C : zC x g code R_law ret 4 2048 84000) {N : Nat} {xs : Nat → Int32} (X : zX g N xs x) {kc ks : Nat} {Q : State → Prop} (hR : ∀ (pc q : Nat) (σ : ZS) (L : List (Option ZV)), zd code pc .ireturn 1 q → zw x g 4 kc ks Q σ pc L [zi 1]) (hk : kc ≤ x.2.2.2.1.cells ∧ ks ≤ x.2.2.2.1.slots) {k : Nat} {σr : ZS} {q18 : Int32 → ZS → Option (Int32 × ZS)} (hq18 : ∀ (x3 : Int32) (σ : ZS), q18 x3 σ = some (1, σr) → zw x g 4 kc ks Q σ 18 [some (zr 1004), some (zr 1), some (zr 103), some (zi x3)] []) {x3 : Int32} {σ : ZS} (hf : bW_law_350 k N xs q18 x3 σ = some (1, σr)) : zw x g 4 kc ks Q σ 350 [some (zr 1004), some (zr 1), some (zr 103), some (zi x3)] [] := by
  unfold bW_law_350 at hf
  refine z_aload_n C dW_law_350 rfl ?_
  refine z_aload_n C dW_law_351 rfl ?_
  refine z_iload_n C dW_law_352 rfl ?_
  refine z_iconst C (1 : Int32) dW_law_353 kI_1 ?_
  refine z_iadd C dW_law_354 ?_
  obtain ⟨g1, hf⟩ := zgo hf
  refine z_sld C X dW_law_355 g1 ?_
  refine z_aload_n C dW_law_356 rfl ?_
  refine z_iload_n C dW_law_357 rfl ?_
  refine z_iconst C (2 : Int32) dW_law_358 kI_2 ?_
  refine z_iadd C dW_law_359 ?_
  obtain ⟨g2, hf⟩ := zgo hf
  refine z_sld C X dW_law_360 g2 ?_
  obtain ⟨r3, s3, h3, hf⟩ := zbx hf
  refine z_callVi C (as := [zi (xs (x3 + (1 : Int32)).toNatClampNeg), zi (xs (x3 + (2 : Int32)).toNatClampNeg)]) dW_law_361 w_361 yy8_as (c8_as x.2.1 g h3) yc8_as kZ_1 rfl rfl (Nat.le_of_ble_eq_true rfl) ⟨Nat.le_of_ble_eq_true rfl, Nat.le_of_ble_eq_true rfl⟩ hk ?_
  refine z_aload_n C dW_law_364 rfl ?_
  refine z_aload_n C dW_law_365 rfl ?_
  refine z_iload_n C dW_law_366 rfl ?_
  refine z_iconst C (1 : Int32) dW_law_367 kI_1 ?_
  refine z_iadd C dW_law_368 ?_
  obtain ⟨g4, hf⟩ := zgo hf
  refine z_sld C X dW_law_369 g4 ?_
  refine z_aload_n C dW_law_370 rfl ?_
  refine z_iload_n C dW_law_371 rfl ?_
  refine z_iconst C (2 : Int32) dW_law_372 kI_2 ?_
  refine z_iadd C dW_law_373 ?_
  obtain ⟨g5, hf⟩ := zgo hf
  refine z_sld C X dW_law_374 g5 ?_
  obtain ⟨r6, s6, h6, hf⟩ := zbx hf
  refine z_callVi C (as := [zi (xs (x3 + (1 : Int32)).toNatClampNeg), zi (xs (x3 + (2 : Int32)).toNatClampNeg)]) dW_law_375 w_965 yy9_as (c9_as x.2.1 g h6) yc9_as kZ_103 rfl rfl (Nat.le_of_ble_eq_true rfl) ⟨Nat.le_of_ble_eq_true rfl, Nat.le_of_ble_eq_true rfl⟩ hk ?_
  refine z_icmp_eq C dW_law_378 (fun c7 => ?_) (fun c7 => ?_)
  · have hf := zit c7 hf
    refine z_iinc C dW_law_1488 rfl kI_6 (Nat.le_of_ble_eq_true rfl) rfl (L' := [some (zr 1004), some (zr 1), some (zr 103), some (zi (x3 + (6 : Int32)))]) rfl ?_
    refine z_goto C dW_law_1491 ?_
    exact hq18 _ _ hf
  · have hf := zie c7 hf
    refine z_iconst C (0 : Int32) dW_law_381 kI_0 ?_
    exact z_lwret hR dW_law_382 hf
def bW_law_317 (k N : Nat) (xs : Nat → Int32) (q18 : Int32 → ZS → Option (Int32 × ZS)) (x3 : Int32) (σ : ZS) : Option (Int32 × ZS) :=
  if zin (x3 + (1 : Int32)) N then (
  if zin (x3 + (2 : Int32)) N then (
  zbd (f8_become k (xs (x3 + (1 : Int32)).toNatClampNeg) (xs (x3 + (2 : Int32)).toNatClampNeg) σ) fun r3 s3 =>
  if zin (x3 + (1 : Int32)) N then (
  if zin (x3 + (2 : Int32)) N then (
  zbd (f9_become k (xs (x3 + (1 : Int32)).toNatClampNeg) (xs (x3 + (2 : Int32)).toNatClampNeg) s3) fun r6 s6 =>
  if r3 = r6 then (
  q18 (x3 + (6 : Int32)) s6)
  else (
  some ((0 : Int32), s6))) else none) else none) else none) else none
theorem jW_law_317 {x : ZX} {g : ZG} (C : zC x g code R_law ret 4 2048 84000) {N : Nat} {xs : Nat → Int32} (X : zX g N xs x) {kc ks : Nat} {Q : State → Prop} (hR : ∀ (pc q : Nat) (σ : ZS) (L : List (Option ZV)), zd code pc .ireturn 1 q → zw x g 4 kc ks Q σ pc L [zi 1]) (hk : kc ≤ x.2.2.2.1.cells ∧ ks ≤ x.2.2.2.1.slots) {k : Nat} {σr : ZS} {q18 : Int32 → ZS → Option (Int32 × ZS)} (hq18 : ∀ (x3 : Int32) (σ : ZS), q18 x3 σ = some (1, σr) → zw x g 4 kc ks Q σ 18 [some (zr 1004), some (zr 1), some (zr 103), some (zi x3)] []) {x3 : Int32} {σ : ZS} (hf : bW_law_317 k N xs q18 x3 σ = some (1, σr)) : zw x g 4 kc ks Q σ 317 [some (zr 1004), some (zr 1), some (zr 103), some (zi x3)] [] := by
  unfold bW_law_317 at hf
  refine z_aload_n C dW_law_317 rfl ?_
  refine z_aload_n C dW_law_318 rfl ?_
  refine z_iload_n C dW_law_319 rfl ?_
  refine z_iconst C (1 : Int32) dW_law_320 kI_1 ?_
  refine z_iadd C dW_law_321 ?_
  obtain ⟨g1, hf⟩ := zgo hf
  refine z_sld C X dW_law_322 g1 ?_
  refine z_aload_n C dW_law_323 rfl ?_
  refine z_iload_n C dW_law_324 rfl ?_
  refine z_iconst C (2 : Int32) dW_law_325 kI_2 ?_
  refine z_iadd C dW_law_326 ?_
  obtain ⟨g2, hf⟩ := zgo hf
  refine z_sld C X dW_law_327 g2 ?_
  obtain ⟨r3, s3, h3, hf⟩ := zbx hf
  refine z_callVi C (as := [zi (xs (x3 + (1 : Int32)).toNatClampNeg), zi (xs (x3 + (2 : Int32)).toNatClampNeg)]) dW_law_328 w_357 yy8_become (c8_become x.2.1 g h3) yc8_become kZ_1 rfl rfl (Nat.le_of_ble_eq_true rfl) ⟨Nat.le_of_ble_eq_true rfl, Nat.le_of_ble_eq_true rfl⟩ hk ?_
  refine z_aload_n C dW_law_331 rfl ?_
  refine z_aload_n C dW_law_332 rfl ?_
  refine z_iload_n C dW_law_333 rfl ?_
  refine z_iconst C (1 : Int32) dW_law_334 kI_1 ?_
  refine z_iadd C dW_law_335 ?_
  obtain ⟨g4, hf⟩ := zgo hf
  refine z_sld C X dW_law_336 g4 ?_
  refine z_aload_n C dW_law_337 rfl ?_
  refine z_iload_n C dW_law_338 rfl ?_
  refine z_iconst C (2 : Int32) dW_law_339 kI_2 ?_
  refine z_iadd C dW_law_340 ?_
  obtain ⟨g5, hf⟩ := zgo hf
  refine z_sld C X dW_law_341 g5 ?_
  obtain ⟨r6, s6, h6, hf⟩ := zbx hf
  refine z_callVi C (as := [zi (xs (x3 + (1 : Int32)).toNatClampNeg), zi (xs (x3 + (2 : Int32)).toNatClampNeg)]) dW_law_342 w_957 yy9_become (c9_become x.2.1 g h6) yc9_become kZ_103 rfl rfl (Nat.le_of_ble_eq_true rfl) ⟨Nat.le_of_ble_eq_true rfl, Nat.le_of_ble_eq_true rfl⟩ hk ?_
  refine z_icmp_eq C dW_law_345 (fun c7 => ?_) (fun c7 => ?_)
  · have hf := zit c7 hf
    refine z_iinc C dW_law_1488 rfl kI_6 (Nat.le_of_ble_eq_true rfl) rfl (L' := [some (zr 1004), some (zr 1), some (zr 103), some (zi (x3 + (6 : Int32)))]) rfl ?_
    refine z_goto C dW_law_1491 ?_
    exact hq18 _ _ hf
  · have hf := zie c7 hf
    refine z_iconst C (0 : Int32) dW_law_348 kI_0 ?_
    exact z_lwret hR dW_law_349 hf
def bW_law_284 (k N : Nat) (xs : Nat → Int32) (q18 : Int32 → ZS → Option (Int32 × ZS)) (x3 : Int32) (σ : ZS) : Option (Int32 × ZS) :=
  if zin (x3 + (1 : Int32)) N then (
  if zin (x3 + (2 : Int32)) N then (
  zbd (f8_throwsOn k (xs (x3 + (1 : Int32)).toNatClampNeg) (xs (x3 + (2 : Int32)).toNatClampNeg) σ) fun r3 s3 =>
  if zin (x3 + (1 : Int32)) N then (
  if zin (x3 + (2 : Int32)) N then (
  zbd (f9_throwsOn k (xs (x3 + (1 : Int32)).toNatClampNeg) (xs (x3 + (2 : Int32)).toNatClampNeg) s3) fun r6 s6 =>
  if r3 = r6 then (
  q18 (x3 + (6 : Int32)) s6)
  else (
  some ((0 : Int32), s6))) else none) else none) else none) else none
theorem jW_law_284 {x : ZX} {g : ZG} (C : zC x g code R_law ret 4 2048 84000) {N : Nat} {xs : Nat → Int32} (X : zX g N xs x) {kc ks : Nat} {Q : State → Prop} (hR : ∀ (pc q : Nat) (σ : ZS) (L : List (Option ZV)), zd code pc .ireturn 1 q → zw x g 4 kc ks Q σ pc L [zi 1]) (hk : kc ≤ x.2.2.2.1.cells ∧ ks ≤ x.2.2.2.1.slots) {k : Nat} {σr : ZS} {q18 : Int32 → ZS → Option (Int32 × ZS)} (hq18 : ∀ (x3 : Int32) (σ : ZS), q18 x3 σ = some (1, σr) → zw x g 4 kc ks Q σ 18 [some (zr 1004), some (zr 1), some (zr 103), some (zi x3)] []) {x3 : Int32} {σ : ZS} (hf : bW_law_284 k N xs q18 x3 σ = some (1, σr)) : zw x g 4 kc ks Q σ 284 [some (zr 1004), some (zr 1), some (zr 103), some (zi x3)] [] := by
  unfold bW_law_284 at hf
  refine z_aload_n C dW_law_284 rfl ?_
  refine z_aload_n C dW_law_285 rfl ?_
  refine z_iload_n C dW_law_286 rfl ?_
  refine z_iconst C (1 : Int32) dW_law_287 kI_1 ?_
  refine z_iadd C dW_law_288 ?_
  obtain ⟨g1, hf⟩ := zgo hf
  refine z_sld C X dW_law_289 g1 ?_
  refine z_aload_n C dW_law_290 rfl ?_
  refine z_iload_n C dW_law_291 rfl ?_
  refine z_iconst C (2 : Int32) dW_law_292 kI_2 ?_
  refine z_iadd C dW_law_293 ?_
  obtain ⟨g2, hf⟩ := zgo hf
  refine z_sld C X dW_law_294 g2 ?_
  obtain ⟨r3, s3, h3, hf⟩ := zbx hf
  refine z_callVi C (as := [zi (xs (x3 + (1 : Int32)).toNatClampNeg), zi (xs (x3 + (2 : Int32)).toNatClampNeg)]) dW_law_295 w_335 yy8_throwsOn (c8_throwsOn x.2.1 g h3) yc8_throwsOn kZ_1 rfl rfl (Nat.le_of_ble_eq_true rfl) ⟨Nat.le_of_ble_eq_true rfl, Nat.le_of_ble_eq_true rfl⟩ hk ?_
  refine z_aload_n C dW_law_298 rfl ?_
  refine z_aload_n C dW_law_299 rfl ?_
  refine z_iload_n C dW_law_300 rfl ?_
  refine z_iconst C (1 : Int32) dW_law_301 kI_1 ?_
  refine z_iadd C dW_law_302 ?_
  obtain ⟨g4, hf⟩ := zgo hf
  refine z_sld C X dW_law_303 g4 ?_
  refine z_aload_n C dW_law_304 rfl ?_
  refine z_iload_n C dW_law_305 rfl ?_
  refine z_iconst C (2 : Int32) dW_law_306 kI_2 ?_
  refine z_iadd C dW_law_307 ?_
  obtain ⟨g5, hf⟩ := zgo hf
  refine z_sld C X dW_law_308 g5 ?_
  obtain ⟨r6, s6, h6, hf⟩ := zbx hf
  refine z_callVi C (as := [zi (xs (x3 + (1 : Int32)).toNatClampNeg), zi (xs (x3 + (2 : Int32)).toNatClampNeg)]) dW_law_309 w_939 yy9_throwsOn (c9_throwsOn x.2.1 g h6) yc9_throwsOn kZ_103 rfl rfl (Nat.le_of_ble_eq_true rfl) ⟨Nat.le_of_ble_eq_true rfl, Nat.le_of_ble_eq_true rfl⟩ hk ?_
  refine z_icmp_eq C dW_law_312 (fun c7 => ?_) (fun c7 => ?_)
  · have hf := zit c7 hf
    refine z_iinc C dW_law_1488 rfl kI_6 (Nat.le_of_ble_eq_true rfl) rfl (L' := [some (zr 1004), some (zr 1), some (zr 103), some (zi (x3 + (6 : Int32)))]) rfl ?_
    refine z_goto C dW_law_1491 ?_
    exact hq18 _ _ hf
  · have hf := zie c7 hf
    refine z_iconst C (0 : Int32) dW_law_315 kI_0 ?_
    exact z_lwret hR dW_law_316 hf
def bW_law_251 (k N : Nat) (xs : Nat → Int32) (q18 : Int32 → ZS → Option (Int32 × ZS)) (x3 : Int32) (σ : ZS) : Option (Int32 × ZS) :=
  if zin (x3 + (1 : Int32)) N then (
  if zin (x3 + (2 : Int32)) N then (
  zbd (f8_glassIs k (xs (x3 + (1 : Int32)).toNatClampNeg) (xs (x3 + (2 : Int32)).toNatClampNeg) σ) fun r3 s3 =>
  if zin (x3 + (1 : Int32)) N then (
  if zin (x3 + (2 : Int32)) N then (
  zbd (f9_glassIs k (xs (x3 + (1 : Int32)).toNatClampNeg) (xs (x3 + (2 : Int32)).toNatClampNeg) s3) fun r6 s6 =>
  if r3 = r6 then (
  q18 (x3 + (6 : Int32)) s6)
  else (
  some ((0 : Int32), s6))) else none) else none) else none) else none
theorem jW_law_251 {x : ZX} {g : ZG} (C : zC x g code R_law ret 4 2048 84000) {N : Nat} {xs : Nat → Int32} (X : zX g N xs x) {kc ks : Nat} {Q : State → Prop} (hR : ∀ (pc q : Nat) (σ : ZS) (L : List (Option ZV)), zd code pc .ireturn 1 q → zw x g 4 kc ks Q σ pc L [zi 1]) (hk : kc ≤ x.2.2.2.1.cells ∧ ks ≤ x.2.2.2.1.slots) {k : Nat} {σr : ZS} {q18 : Int32 → ZS → Option (Int32 × ZS)} (hq18 : ∀ (x3 : Int32) (σ : ZS), q18 x3 σ = some (1, σr) → zw x g 4 kc ks Q σ 18 [some (zr 1004), some (zr 1), some (zr 103), some (zi x3)] []) {x3 : Int32} {σ : ZS} (hf : bW_law_251 k N xs q18 x3 σ = some (1, σr)) : zw x g 4 kc ks Q σ 251 [some (zr 1004), some (zr 1), some (zr 103), some (zi x3)] [] := by
  unfold bW_law_251 at hf
  refine z_aload_n C dW_law_251 rfl ?_
  refine z_aload_n C dW_law_252 rfl ?_
  refine z_iload_n C dW_law_253 rfl ?_
  refine z_iconst C (1 : Int32) dW_law_254 kI_1 ?_
  refine z_iadd C dW_law_255 ?_
  obtain ⟨g1, hf⟩ := zgo hf
  refine z_sld C X dW_law_256 g1 ?_
  refine z_aload_n C dW_law_257 rfl ?_
  refine z_iload_n C dW_law_258 rfl ?_
  refine z_iconst C (2 : Int32) dW_law_259 kI_2 ?_
  refine z_iadd C dW_law_260 ?_
  obtain ⟨g2, hf⟩ := zgo hf
  refine z_sld C X dW_law_261 g2 ?_
  obtain ⟨r3, s3, h3, hf⟩ := zbx hf
  refine z_callVi C (as := [zi (xs (x3 + (1 : Int32)).toNatClampNeg), zi (xs (x3 + (2 : Int32)).toNatClampNeg)]) dW_law_262 w_330 yy8_glassIs (c8_glassIs x.2.1 g h3) yc8_glassIs kZ_1 rfl rfl (Nat.le_of_ble_eq_true rfl) ⟨Nat.le_of_ble_eq_true rfl, Nat.le_of_ble_eq_true rfl⟩ hk ?_
  refine z_aload_n C dW_law_265 rfl ?_
  refine z_aload_n C dW_law_266 rfl ?_
  refine z_iload_n C dW_law_267 rfl ?_
  refine z_iconst C (1 : Int32) dW_law_268 kI_1 ?_
  refine z_iadd C dW_law_269 ?_
  obtain ⟨g4, hf⟩ := zgo hf
  refine z_sld C X dW_law_270 g4 ?_
  refine z_aload_n C dW_law_271 rfl ?_
  refine z_iload_n C dW_law_272 rfl ?_
  refine z_iconst C (2 : Int32) dW_law_273 kI_2 ?_
  refine z_iadd C dW_law_274 ?_
  obtain ⟨g5, hf⟩ := zgo hf
  refine z_sld C X dW_law_275 g5 ?_
  obtain ⟨r6, s6, h6, hf⟩ := zbx hf
  refine z_callVi C (as := [zi (xs (x3 + (1 : Int32)).toNatClampNeg), zi (xs (x3 + (2 : Int32)).toNatClampNeg)]) dW_law_276 w_931 yy9_glassIs (c9_glassIs x.2.1 g h6) yc9_glassIs kZ_103 rfl rfl (Nat.le_of_ble_eq_true rfl) ⟨Nat.le_of_ble_eq_true rfl, Nat.le_of_ble_eq_true rfl⟩ hk ?_
  refine z_icmp_eq C dW_law_279 (fun c7 => ?_) (fun c7 => ?_)
  · have hf := zit c7 hf
    refine z_iinc C dW_law_1488 rfl kI_6 (Nat.le_of_ble_eq_true rfl) rfl (L' := [some (zr 1004), some (zr 1), some (zr 103), some (zi (x3 + (6 : Int32)))]) rfl ?_
    refine z_goto C dW_law_1491 ?_
    exact hq18 _ _ hf
  · have hf := zie c7 hf
    refine z_iconst C (0 : Int32) dW_law_282 kI_0 ?_
    exact z_lwret hR dW_law_283 hf
def bW_law_208 (k N : Nat) (xs : Nat → Int32) (q18 : Int32 → ZS → Option (Int32 × ZS)) (x3 : Int32) (σ : ZS) : Option (Int32 × ZS) :=
  if zin (x3 + (1 : Int32)) N then (
  if zin (x3 + (2 : Int32)) N then (
  if zin (x3 + (3 : Int32)) N then (
  zbd (f8_glass k (xs (x3 + (1 : Int32)).toNatClampNeg) (xs (x3 + (2 : Int32)).toNatClampNeg) (xs (x3 + (3 : Int32)).toNatClampNeg) σ) fun r4 s4 =>
  if zin (x3 + (1 : Int32)) N then (
  if zin (x3 + (2 : Int32)) N then (
  if zin (x3 + (3 : Int32)) N then (
  zbd (f9_glass k (xs (x3 + (1 : Int32)).toNatClampNeg) (xs (x3 + (2 : Int32)).toNatClampNeg) (xs (x3 + (3 : Int32)).toNatClampNeg) s4) fun r8 s8 =>
  if r4 = r8 then (
  q18 (x3 + (6 : Int32)) s8)
  else (
  some ((0 : Int32), s8))) else none) else none) else none) else none) else none) else none
theorem jW_law_208 {x : ZX} {g : ZG} (C : zC x g code R_law ret 4 2048 84000) {N : Nat} {xs : Nat → Int32} (X : zX g N xs x) {kc ks : Nat} {Q : State → Prop} (hR : ∀ (pc q : Nat) (σ : ZS) (L : List (Option ZV)), zd code pc .ireturn 1 q → zw x g 4 kc ks Q σ pc L [zi 1]) (hk : kc ≤ x.2.2.2.1.cells ∧ ks ≤ x.2.2.2.1.slots) {k : Nat} {σr : ZS} {q18 : Int32 → ZS → Option (Int32 × ZS)} (hq18 : ∀ (x3 : Int32) (σ : ZS), q18 x3 σ = some (1, σr) → zw x g 4 kc ks Q σ 18 [some (zr 1004), some (zr 1), some (zr 103), some (zi x3)] []) {x3 : Int32} {σ : ZS} (hf : bW_law_208 k N xs q18 x3 σ = some (1, σr)) : zw x g 4 kc ks Q σ 208 [some (zr 1004), some (zr 1), some (zr 103), some (zi x3)] [] := by
  unfold bW_law_208 at hf
  refine z_aload_n C dW_law_208 rfl ?_
  refine z_aload_n C dW_law_209 rfl ?_
  refine z_iload_n C dW_law_210 rfl ?_
  refine z_iconst C (1 : Int32) dW_law_211 kI_1 ?_
  refine z_iadd C dW_law_212 ?_
  obtain ⟨g1, hf⟩ := zgo hf
  refine z_sld C X dW_law_213 g1 ?_
  refine z_aload_n C dW_law_214 rfl ?_
  refine z_iload_n C dW_law_215 rfl ?_
  refine z_iconst C (2 : Int32) dW_law_216 kI_2 ?_
  refine z_iadd C dW_law_217 ?_
  obtain ⟨g2, hf⟩ := zgo hf
  refine z_sld C X dW_law_218 g2 ?_
  refine z_aload_n C dW_law_219 rfl ?_
  refine z_iload_n C dW_law_220 rfl ?_
  refine z_iconst C (3 : Int32) dW_law_221 kI_3 ?_
  refine z_iadd C dW_law_222 ?_
  obtain ⟨g3, hf⟩ := zgo hf
  refine z_sld C X dW_law_223 g3 ?_
  obtain ⟨r4, s4, h4, hf⟩ := zbx hf
  refine z_callVi C (as := [zi (xs (x3 + (1 : Int32)).toNatClampNeg), zi (xs (x3 + (2 : Int32)).toNatClampNeg), zi (xs (x3 + (3 : Int32)).toNatClampNeg)]) dW_law_224 w_295 yy8_glass (c8_glass x.2.1 g h4) yc8_glass kZ_1 rfl rfl (Nat.le_of_ble_eq_true rfl) ⟨Nat.le_of_ble_eq_true rfl, Nat.le_of_ble_eq_true rfl⟩ hk ?_
  refine z_aload_n C dW_law_227 rfl ?_
  refine z_aload_n C dW_law_228 rfl ?_
  refine z_iload_n C dW_law_229 rfl ?_
  refine z_iconst C (1 : Int32) dW_law_230 kI_1 ?_
  refine z_iadd C dW_law_231 ?_
  obtain ⟨g5, hf⟩ := zgo hf
  refine z_sld C X dW_law_232 g5 ?_
  refine z_aload_n C dW_law_233 rfl ?_
  refine z_iload_n C dW_law_234 rfl ?_
  refine z_iconst C (2 : Int32) dW_law_235 kI_2 ?_
  refine z_iadd C dW_law_236 ?_
  obtain ⟨g6, hf⟩ := zgo hf
  refine z_sld C X dW_law_237 g6 ?_
  refine z_aload_n C dW_law_238 rfl ?_
  refine z_iload_n C dW_law_239 rfl ?_
  refine z_iconst C (3 : Int32) dW_law_240 kI_3 ?_
  refine z_iadd C dW_law_241 ?_
  obtain ⟨g7, hf⟩ := zgo hf
  refine z_sld C X dW_law_242 g7 ?_
  obtain ⟨r8, s8, h8, hf⟩ := zbx hf
  refine z_callVi C (as := [zi (xs (x3 + (1 : Int32)).toNatClampNeg), zi (xs (x3 + (2 : Int32)).toNatClampNeg), zi (xs (x3 + (3 : Int32)).toNatClampNeg)]) dW_law_243 w_899 yy9_glass (c9_glass x.2.1 g h8) yc9_glass kZ_103 rfl rfl (Nat.le_of_ble_eq_true rfl) ⟨Nat.le_of_ble_eq_true rfl, Nat.le_of_ble_eq_true rfl⟩ hk ?_
  refine z_icmp_eq C dW_law_246 (fun c9 => ?_) (fun c9 => ?_)
  · have hf := zit c9 hf
    refine z_iinc C dW_law_1488 rfl kI_6 (Nat.le_of_ble_eq_true rfl) rfl (L' := [some (zr 1004), some (zr 1), some (zr 103), some (zi (x3 + (6 : Int32)))]) rfl ?_
    refine z_goto C dW_law_1491 ?_
    exact hq18 _ _ hf
  · have hf := zie c9 hf
    refine z_iconst C (0 : Int32) dW_law_249 kI_0 ?_
    exact z_lwret hR dW_law_250 hf
def bW_law_18 (k N : Nat) (xs : Nat → Int32) (q18 : Int32 → ZS → Option (Int32 × ZS)) (x3 : Int32) (σ : ZS) : Option (Int32 × ZS) :=
  if ((nI N) - (6 : Int32)) < x3 then (
  some ((1 : Int32), σ))
  else (
  if zin x3 N then (
  if ((xs x3.toNatClampNeg) &&& (63 : Int32)) = (0 : Int32) then (
  bW_law_208 k N xs q18 x3 σ)
  else (
  if ((xs x3.toNatClampNeg) &&& (63 : Int32)) = (1 : Int32) then (
  bW_law_251 k N xs q18 x3 σ)
  else (
  if ((xs x3.toNatClampNeg) &&& (63 : Int32)) = (2 : Int32) then (
  bW_law_284 k N xs q18 x3 σ)
  else (
  if ((xs x3.toNatClampNeg) &&& (63 : Int32)) = (3 : Int32) then (
  bW_law_317 k N xs q18 x3 σ)
  else (
  if ((xs x3.toNatClampNeg) &&& (63 : Int32)) = (4 : Int32) then (
  bW_law_350 k N xs q18 x3 σ)
  else (
  if ((xs x3.toNatClampNeg) &&& (63 : Int32)) = (5 : Int32) then (
  bW_law_383 k N xs q18 x3 σ)
  else (
  if ((xs x3.toNatClampNeg) &&& (63 : Int32)) = (6 : Int32) then (
  bW_law_416 k N xs q18 x3 σ)
  else (
  if ((xs x3.toNatClampNeg) &&& (63 : Int32)) = (7 : Int32) then (
  bW_law_449 k N xs q18 x3 σ)
  else (
  if ((xs x3.toNatClampNeg) &&& (63 : Int32)) = (8 : Int32) then (
  bW_law_482 k N xs q18 x3 σ)
  else (
  if ((xs x3.toNatClampNeg) &&& (63 : Int32)) = (9 : Int32) then (
  bW_law_515 k N xs q18 x3 σ)
  else (
  if ((xs x3.toNatClampNeg) &&& (63 : Int32)) = (10 : Int32) then (
  bW_law_558 k N xs q18 x3 σ)
  else (
  if ((xs x3.toNatClampNeg) &&& (63 : Int32)) = (11 : Int32) then (
  bW_law_591 k N xs q18 x3 σ)
  else (
  if ((xs x3.toNatClampNeg) &&& (63 : Int32)) = (12 : Int32) then (
  bW_law_614 k N xs q18 x3 σ)
  else (
  if ((xs x3.toNatClampNeg) &&& (63 : Int32)) = (13 : Int32) then (
  bW_law_677 k N xs q18 x3 σ)
  else (
  if ((xs x3.toNatClampNeg) &&& (63 : Int32)) = (14 : Int32) then (
  bW_law_700 k N xs q18 x3 σ)
  else (
  if ((xs x3.toNatClampNeg) &&& (63 : Int32)) = (15 : Int32) then (
  bW_law_723 k N xs q18 x3 σ)
  else (
  if ((xs x3.toNatClampNeg) &&& (63 : Int32)) = (16 : Int32) then (
  bW_law_776 k N xs q18 x3 σ)
  else (
  if ((xs x3.toNatClampNeg) &&& (63 : Int32)) = (17 : Int32) then (
  bW_law_799 k N xs q18 x3 σ)
  else (
  if ((xs x3.toNatClampNeg) &&& (63 : Int32)) = (18 : Int32) then (
  bW_law_822 k N xs q18 x3 σ)
  else (
  if ((xs x3.toNatClampNeg) &&& (63 : Int32)) = (19 : Int32) then (
  bW_law_845 k N xs q18 x3 σ)
  else (
  if ((xs x3.toNatClampNeg) &&& (63 : Int32)) = (20 : Int32) then (
  bW_law_888 k N xs q18 x3 σ)
  else (
  if ((xs x3.toNatClampNeg) &&& (63 : Int32)) = (21 : Int32) then (
  bW_law_931 k N xs q18 x3 σ)
  else (
  if ((xs x3.toNatClampNeg) &&& (63 : Int32)) = (22 : Int32) then (
  bW_law_954 k N xs q18 x3 σ)
  else (
  if ((xs x3.toNatClampNeg) &&& (63 : Int32)) = (23 : Int32) then (
  bW_law_987 k N xs q18 x3 σ)
  else (
  if ((xs x3.toNatClampNeg) &&& (63 : Int32)) = (24 : Int32) then (
  bW_law_1020 k N xs q18 x3 σ)
  else (
  if ((xs x3.toNatClampNeg) &&& (63 : Int32)) = (25 : Int32) then (
  bW_law_1063 k N xs q18 x3 σ)
  else (
  if ((xs x3.toNatClampNeg) &&& (63 : Int32)) = (26 : Int32) then (
  bW_law_1086 k N xs q18 x3 σ)
  else (
  if ((xs x3.toNatClampNeg) &&& (63 : Int32)) = (27 : Int32) then (
  bW_law_1119 k N xs q18 x3 σ)
  else (
  if ((xs x3.toNatClampNeg) &&& (63 : Int32)) = (28 : Int32) then (
  bW_law_1162 k N xs q18 x3 σ)
  else (
  if ((xs x3.toNatClampNeg) &&& (63 : Int32)) = (29 : Int32) then (
  bW_law_1185 k N xs q18 x3 σ)
  else (
  if ((xs x3.toNatClampNeg) &&& (63 : Int32)) = (30 : Int32) then (
  bW_law_1228 k N xs q18 x3 σ)
  else (
  if ((xs x3.toNatClampNeg) &&& (63 : Int32)) = (31 : Int32) then (
  bW_law_1271 k N xs q18 x3 σ)
  else (
  if ((xs x3.toNatClampNeg) &&& (63 : Int32)) = (32 : Int32) then (
  bW_law_1334 k N xs q18 x3 σ)
  else (
  if ((xs x3.toNatClampNeg) &&& (63 : Int32)) = (33 : Int32) then (
  bW_law_1357 k N xs q18 x3 σ)
  else (
  if ((xs x3.toNatClampNeg) &&& (63 : Int32)) = (34 : Int32) then (
  bW_law_1380 k N xs q18 x3 σ)
  else (
  if ((xs x3.toNatClampNeg) &&& (63 : Int32)) = (35 : Int32) then (
  bW_law_1393 k N xs q18 x3 σ)
  else (
  if ((xs x3.toNatClampNeg) &&& (63 : Int32)) = (36 : Int32) then (
  bW_law_1406 k N xs q18 x3 σ)
  else (
  if ((xs x3.toNatClampNeg) &&& (63 : Int32)) = (37 : Int32) then (
  bW_law_1429 k N xs q18 x3 σ)
  else (
  if ((xs x3.toNatClampNeg) &&& (63 : Int32)) = (38 : Int32) then (
  bW_law_1442 k N xs q18 x3 σ)
  else (
  if ((xs x3.toNatClampNeg) &&& (63 : Int32)) = (39 : Int32) then (
  bW_law_1465 k N xs q18 x3 σ)
  else (
  q18 (x3 + (6 : Int32)) σ))))))))))))))))))))))))))))))))))))))))) else none)
theorem jW_law_18 {x : ZX} {g : ZG} (C : zC x g code R_law ret 4 2048 84000) {N : Nat} {xs : Nat → Int32} (X : zX g N xs x) {kc ks : Nat} {Q : State → Prop} (hR : ∀ (pc q : Nat) (σ : ZS) (L : List (Option ZV)), zd code pc .ireturn 1 q → zw x g 4 kc ks Q σ pc L [zi 1]) (hk : kc ≤ x.2.2.2.1.cells ∧ ks ≤ x.2.2.2.1.slots) {k : Nat} {σr : ZS} {q18 : Int32 → ZS → Option (Int32 × ZS)} (hq18 : ∀ (x3 : Int32) (σ : ZS), q18 x3 σ = some (1, σr) → zw x g 4 kc ks Q σ 18 [some (zr 1004), some (zr 1), some (zr 103), some (zi x3)] []) {x3 : Int32} {σ : ZS} (hf : bW_law_18 k N xs q18 x3 σ = some (1, σr)) : zw x g 4 kc ks Q σ 18 [some (zr 1004), some (zr 1), some (zr 103), some (zi x3)] [] := by
  unfold bW_law_18 at hf
  refine z_iload_n C dW_law_18 rfl ?_
  refine z_aload_n C dW_law_19 rfl ?_
  refine z_slen C X dW_law_20 ?_
  refine z_bipush C (6 : Int32) dW_law_21 kB_6 ?_
  refine z_isub C dW_law_23 ?_
  refine z_icmp_gt C dW_law_24 (fun c1 => ?_) (fun c1 => ?_)
  · have hf := zit c1 hf
    refine z_iconst C (1 : Int32) dW_law_1494 kI_1 ?_
    exact z_lwret hR dW_law_1495 hf
  · have hf := zie c1 hf
    refine z_aload_n C dW_law_27 rfl ?_
    refine z_iload_n C dW_law_28 rfl ?_
    obtain ⟨g2, hf⟩ := zgo hf
    refine z_sld C X dW_law_29 g2 ?_
    refine z_bipush C (63 : Int32) dW_law_30 kB_63 ?_
    refine z_iand C dW_law_32 ?_
    refine z_tsw C [((0 : Int32), 208), ((1 : Int32), 251), ((2 : Int32), 284), ((3 : Int32), 317), ((4 : Int32), 350), ((5 : Int32), 383), ((6 : Int32), 416), ((7 : Int32), 449), ((8 : Int32), 482), ((9 : Int32), 515), ((10 : Int32), 558), ((11 : Int32), 591), ((12 : Int32), 614), ((13 : Int32), 677), ((14 : Int32), 700), ((15 : Int32), 723), ((16 : Int32), 776), ((17 : Int32), 799), ((18 : Int32), 822), ((19 : Int32), 845), ((20 : Int32), 888), ((21 : Int32), 931), ((22 : Int32), 954), ((23 : Int32), 987), ((24 : Int32), 1020), ((25 : Int32), 1063), ((26 : Int32), 1086), ((27 : Int32), 1119), ((28 : Int32), 1162), ((29 : Int32), 1185), ((30 : Int32), 1228), ((31 : Int32), 1271), ((32 : Int32), 1334), ((33 : Int32), 1357), ((34 : Int32), 1380), ((35 : Int32), 1393), ((36 : Int32), 1406), ((37 : Int32), 1429), ((38 : Int32), 1442), ((39 : Int32), 1465)] (d := 1488) dW_law_33 (by decide) (by decide) (by decide +kernel) ?_
    refine z_swc (fun c3 => ?_) (fun c3 => ?_)
    · have hf := zit c3 hf
      exact jW_law_208 C X hR hk hq18 hf
    · have hf := zie c3 hf
      refine z_swc (fun c4 => ?_) (fun c4 => ?_)
      · have hf := zit c4 hf
        exact jW_law_251 C X hR hk hq18 hf
      · have hf := zie c4 hf
        refine z_swc (fun c5 => ?_) (fun c5 => ?_)
        · have hf := zit c5 hf
          exact jW_law_284 C X hR hk hq18 hf
        · have hf := zie c5 hf
          refine z_swc (fun c6 => ?_) (fun c6 => ?_)
          · have hf := zit c6 hf
            exact jW_law_317 C X hR hk hq18 hf
          · have hf := zie c6 hf
            refine z_swc (fun c7 => ?_) (fun c7 => ?_)
            · have hf := zit c7 hf
              exact jW_law_350 C X hR hk hq18 hf
            · have hf := zie c7 hf
              refine z_swc (fun c8 => ?_) (fun c8 => ?_)
              · have hf := zit c8 hf
                exact jW_law_383 C X hR hk hq18 hf
              · have hf := zie c8 hf
                refine z_swc (fun c9 => ?_) (fun c9 => ?_)
                · have hf := zit c9 hf
                  exact jW_law_416 C X hR hk hq18 hf
                · have hf := zie c9 hf
                  refine z_swc (fun c10 => ?_) (fun c10 => ?_)
                  · have hf := zit c10 hf
                    exact jW_law_449 C X hR hk hq18 hf
                  · have hf := zie c10 hf
                    refine z_swc (fun c11 => ?_) (fun c11 => ?_)
                    · have hf := zit c11 hf
                      exact jW_law_482 C X hR hk hq18 hf
                    · have hf := zie c11 hf
                      refine z_swc (fun c12 => ?_) (fun c12 => ?_)
                      · have hf := zit c12 hf
                        exact jW_law_515 C X hR hk hq18 hf
                      · have hf := zie c12 hf
                        refine z_swc (fun c13 => ?_) (fun c13 => ?_)
                        · have hf := zit c13 hf
                          exact jW_law_558 C X hR hk hq18 hf
                        · have hf := zie c13 hf
                          refine z_swc (fun c14 => ?_) (fun c14 => ?_)
                          · have hf := zit c14 hf
                            exact jW_law_591 C X hR hk hq18 hf
                          · have hf := zie c14 hf
                            refine z_swc (fun c15 => ?_) (fun c15 => ?_)
                            · have hf := zit c15 hf
                              exact jW_law_614 C X hR hk hq18 hf
                            · have hf := zie c15 hf
                              refine z_swc (fun c16 => ?_) (fun c16 => ?_)
                              · have hf := zit c16 hf
                                exact jW_law_677 C X hR hk hq18 hf
                              · have hf := zie c16 hf
                                refine z_swc (fun c17 => ?_) (fun c17 => ?_)
                                · have hf := zit c17 hf
                                  exact jW_law_700 C X hR hk hq18 hf
                                · have hf := zie c17 hf
                                  refine z_swc (fun c18 => ?_) (fun c18 => ?_)
                                  · have hf := zit c18 hf
                                    exact jW_law_723 C X hR hk hq18 hf
                                  · have hf := zie c18 hf
                                    refine z_swc (fun c19 => ?_) (fun c19 => ?_)
                                    · have hf := zit c19 hf
                                      exact jW_law_776 C X hR hk hq18 hf
                                    · have hf := zie c19 hf
                                      refine z_swc (fun c20 => ?_) (fun c20 => ?_)
                                      · have hf := zit c20 hf
                                        exact jW_law_799 C X hR hk hq18 hf
                                      · have hf := zie c20 hf
                                        refine z_swc (fun c21 => ?_) (fun c21 => ?_)
                                        · have hf := zit c21 hf
                                          exact jW_law_822 C X hR hk hq18 hf
                                        · have hf := zie c21 hf
                                          refine z_swc (fun c22 => ?_) (fun c22 => ?_)
                                          · have hf := zit c22 hf
                                            exact jW_law_845 C X hR hk hq18 hf
                                          · have hf := zie c22 hf
                                            refine z_swc (fun c23 => ?_) (fun c23 => ?_)
                                            · have hf := zit c23 hf
                                              exact jW_law_888 C X hR hk hq18 hf
                                            · have hf := zie c23 hf
                                              refine z_swc (fun c24 => ?_) (fun c24 => ?_)
                                              · have hf := zit c24 hf
                                                exact jW_law_931 C X hR hk hq18 hf
                                              · have hf := zie c24 hf
                                                refine z_swc (fun c25 => ?_) (fun c25 => ?_)
                                                · have hf := zit c25 hf
                                                  exact jW_law_954 C X hR hk hq18 hf
                                                · have hf := zie c25 hf
                                                  refine z_swc (fun c26 => ?_) (fun c26 => ?_)
                                                  · have hf := zit c26 hf
                                                    exact jW_law_987 C X hR hk hq18 hf
                                                  · have hf := zie c26 hf
                                                    refine z_swc (fun c27 => ?_) (fun c27 => ?_)
                                                    · have hf := zit c27 hf
                                                      exact jW_law_1020 C X hR hk hq18 hf
                                                    · have hf := zie c27 hf
                                                      refine z_swc (fun c28 => ?_) (fun c28 => ?_)
                                                      · have hf := zit c28 hf
                                                        exact jW_law_1063 C X hR hk hq18 hf
                                                      · have hf := zie c28 hf
                                                        refine z_swc (fun c29 => ?_) (fun c29 => ?_)
                                                        · have hf := zit c29 hf
                                                          exact jW_law_1086 C X hR hk hq18 hf
                                                        · have hf := zie c29 hf
                                                          refine z_swc (fun c30 => ?_) (fun c30 => ?_)
                                                          · have hf := zit c30 hf
                                                            exact jW_law_1119 C X hR hk hq18 hf
                                                          · have hf := zie c30 hf
                                                            refine z_swc (fun c31 => ?_) (fun c31 => ?_)
                                                            · have hf := zit c31 hf
                                                              exact jW_law_1162 C X hR hk hq18 hf
                                                            · have hf := zie c31 hf
                                                              refine z_swc (fun c32 => ?_) (fun c32 => ?_)
                                                              · have hf := zit c32 hf
                                                                exact jW_law_1185 C X hR hk hq18 hf
                                                              · have hf := zie c32 hf
                                                                refine z_swc (fun c33 => ?_) (fun c33 => ?_)
                                                                · have hf := zit c33 hf
                                                                  exact jW_law_1228 C X hR hk hq18 hf
                                                                · have hf := zie c33 hf
                                                                  refine z_swc (fun c34 => ?_) (fun c34 => ?_)
                                                                  · have hf := zit c34 hf
                                                                    exact jW_law_1271 C X hR hk hq18 hf
                                                                  · have hf := zie c34 hf
                                                                    refine z_swc (fun c35 => ?_) (fun c35 => ?_)
                                                                    · have hf := zit c35 hf
                                                                      exact jW_law_1334 C X hR hk hq18 hf
                                                                    · have hf := zie c35 hf
                                                                      refine z_swc (fun c36 => ?_) (fun c36 => ?_)
                                                                      · have hf := zit c36 hf
                                                                        exact jW_law_1357 C X hR hk hq18 hf
                                                                      · have hf := zie c36 hf
                                                                        refine z_swc (fun c37 => ?_) (fun c37 => ?_)
                                                                        · have hf := zit c37 hf
                                                                          exact jW_law_1380 C X hR hk hq18 hf
                                                                        · have hf := zie c37 hf
                                                                          refine z_swc (fun c38 => ?_) (fun c38 => ?_)
                                                                          · have hf := zit c38 hf
                                                                            exact jW_law_1393 C X hR hk hq18 hf
                                                                          · have hf := zie c38 hf
                                                                            refine z_swc (fun c39 => ?_) (fun c39 => ?_)
                                                                            · have hf := zit c39 hf
                                                                              exact jW_law_1406 C X hR hk hq18 hf
                                                                            · have hf := zie c39 hf
                                                                              refine z_swc (fun c40 => ?_) (fun c40 => ?_)
                                                                              · have hf := zit c40 hf
                                                                                exact jW_law_1429 C X hR hk hq18 hf
                                                                              · have hf := zie c40 hf
                                                                                refine z_swc (fun c41 => ?_) (fun c41 => ?_)
                                                                                · have hf := zit c41 hf
                                                                                  exact jW_law_1442 C X hR hk hq18 hf
                                                                                · have hf := zie c41 hf
                                                                                  refine z_swc (fun c42 => ?_) (fun c42 => ?_)
                                                                                  · have hf := zit c42 hf
                                                                                    exact jW_law_1465 C X hR hk hq18 hf
                                                                                  · have hf := zie c42 hf
                                                                                    refine z_sw0 ?_
                                                                                    refine z_iinc C dW_law_1488 rfl kI_6 (Nat.le_of_ble_eq_true rfl) rfl (L' := [some (zr 1004), some (zr 1), some (zr 103), some (zi (x3 + (6 : Int32)))]) rfl ?_
                                                                                    refine z_goto C dW_law_1491 ?_
                                                                                    exact hq18 _ _ hf
def fW_law_18 (k N : Nat) (xs : Nat → Int32) : Nat → Int32 → ZS → Option (Int32 × ZS)
  | 0 => fun _ _ => none
  | n + 1 => bW_law_18 k N xs (fW_law_18 k N xs n)
theorem jW_law_18l {x : ZX} {g : ZG} (C : zC x g code R_law ret 4 2048 84000) {N : Nat} {xs : Nat → Int32} (X : zX g N xs x) {kc ks : Nat} {Q : State → Prop} (hR : ∀ (pc q : Nat) (σ : ZS) (L : List (Option ZV)), zd code pc .ireturn 1 q → zw x g 4 kc ks Q σ pc L [zi 1]) (hk : kc ≤ x.2.2.2.1.cells ∧ ks ≤ x.2.2.2.1.slots) {k : Nat} {σr : ZS} : ∀ (n : Nat) (x3 : Int32) (σ : ZS), fW_law_18 k N xs n x3 σ = some (1, σr) → zw x g 4 kc ks Q σ 18 [some (zr 1004), some (zr 1), some (zr 103), some (zi x3)] [] := by
  intro n
  induction n with
  | zero => intro x3 σ hf; exact absurd (show none = some ((1 : Int32), σr) from hf) (fun z => by cases z)
  | succ n ih => intro x3 σ hf; exact jW_law_18 C X hR hk ih (show bW_law_18 k N xs (fW_law_18 k N xs n) x3 σ = some (1, σr) from hf)
