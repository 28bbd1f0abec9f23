/-! methods, printed by wip/whole/gen: GlassTax$Text.worth, GlassTax$Street.given, GlassTax$Street.taxOf, GlassTax$Street.dueOf, GlassTax$Street.passHour, GlassTax.hours, GlassTax$Glass.copyFrom, GlassTax$Person.copyFrom, GlassTax$Text.copyFrom, GlassTax$Street.copyFrom, GlassTax.image, GlassTax.judge, GlassTax.law, GlassTax.look, GlassTax$Street.draw, GlassTax$Street.standByDraws, GlassTax.loose, GlassTax$Sheet.holds -/
theorem d6_worth_0 : zd b6_worth 0 (.iconst 0) 1 1 := ⟨by decide +kernel, rfl⟩
theorem d6_worth_1 : zd b6_worth 1 (.istore 4) 2 3 := ⟨by decide +kernel, rfl⟩
theorem d6_worth_3 : zd b6_worth 3 (.iconst 0) 1 4 := ⟨by decide +kernel, rfl⟩
theorem d6_worth_4 : zd b6_worth 4 (.istore 5) 2 6 := ⟨by decide +kernel, rfl⟩
theorem d6_worth_6 : zd b6_worth 6 (.iload 5) 2 8 := ⟨by decide +kernel, rfl⟩
theorem d6_worth_8 : zd b6_worth 8 (.aload_n 0) 1 9 := ⟨by decide +kernel, rfl⟩
theorem d6_worth_9 : zd b6_worth 9 (.getfield 24) 3 12 := ⟨by decide +kernel, rfl⟩
theorem d6_worth_12 : zdb b6_worth 12 (.if_icmp .ge 172) 172 15 184 := ⟨by decide +kernel, rfl, by decide⟩
theorem d6_worth_15 : zd b6_worth 15 (.iload 5) 2 17 := ⟨by decide +kernel, rfl⟩
theorem d6_worth_17 : zd b6_worth 17 (.aload_n 0) 1 18 := ⟨by decide +kernel, rfl⟩
theorem d6_worth_18 : zd b6_worth 18 (.getfield 9) 3 21 := ⟨by decide +kernel, rfl⟩
theorem d6_worth_21 : zd b6_worth 21 .arraylength 1 22 := ⟨by decide +kernel, rfl⟩
theorem d6_worth_22 : zdb b6_worth 22 (.if_icmp .ge 162) 162 25 184 := ⟨by decide +kernel, rfl, by decide⟩
theorem d6_worth_25 : zd b6_worth 25 (.aload_n 0) 1 26 := ⟨by decide +kernel, rfl⟩
theorem d6_worth_26 : zd b6_worth 26 (.getfield 9) 3 29 := ⟨by decide +kernel, rfl⟩
theorem d6_worth_29 : zd b6_worth 29 (.iload 5) 2 31 := ⟨by decide +kernel, rfl⟩
theorem d6_worth_31 : zd b6_worth 31 .iaload 1 32 := ⟨by decide +kernel, rfl⟩
theorem d6_worth_32 : zd b6_worth 32 (.istore 6) 2 34 := ⟨by decide +kernel, rfl⟩
theorem d6_worth_34 : zd b6_worth 34 (.iload 6) 2 36 := ⟨by decide +kernel, rfl⟩
theorem d6_worth_36 : zd b6_worth 36 (.bipush (-3)) 2 38 := ⟨by decide +kernel, rfl⟩
theorem d6_worth_38 : zdb b6_worth 38 (.if_icmp .lt 58) 58 41 96 := ⟨by decide +kernel, rfl, by decide⟩
theorem d6_worth_41 : zd b6_worth 41 (.iload 4) 2 43 := ⟨by decide +kernel, rfl⟩
theorem d6_worth_43 : zd b6_worth 43 (.aload_n 0) 1 44 := ⟨by decide +kernel, rfl⟩
theorem d6_worth_44 : zd b6_worth 44 (.getfield 15) 3 47 := ⟨by decide +kernel, rfl⟩
theorem d6_worth_47 : zd b6_worth 47 .arraylength 1 48 := ⟨by decide +kernel, rfl⟩
theorem d6_worth_48 : zdb b6_worth 48 (.if_icmp .ge 130) 130 51 178 := ⟨by decide +kernel, rfl, by decide⟩
theorem d6_worth_51 : zd b6_worth 51 (.aload_n 0) 1 52 := ⟨by decide +kernel, rfl⟩
theorem d6_worth_52 : zd b6_worth 52 (.getfield 15) 3 55 := ⟨by decide +kernel, rfl⟩
theorem d6_worth_55 : zd b6_worth 55 (.iload 4) 2 57 := ⟨by decide +kernel, rfl⟩
theorem d6_worth_57 : zd b6_worth 57 (.iload 6) 2 59 := ⟨by decide +kernel, rfl⟩
theorem d6_worth_59 : zdb b6_worth 59 (.ifCond .lt 8) 8 62 67 := ⟨by decide +kernel, rfl, by decide⟩
theorem d6_worth_62 : zd b6_worth 62 (.iload 6) 2 64 := ⟨by decide +kernel, rfl⟩
theorem d6_worth_64 : zdb b6_worth 64 (.goto 25) 25 67 89 := ⟨by decide +kernel, rfl, by decide⟩
theorem d6_worth_67 : zd b6_worth 67 (.iload 6) 2 69 := ⟨by decide +kernel, rfl⟩
theorem d6_worth_69 : zd b6_worth 69 (.iconst (-1)) 1 70 := ⟨by decide +kernel, rfl⟩
theorem d6_worth_70 : zdb b6_worth 70 (.if_icmp .ne 7) 7 73 77 := ⟨by decide +kernel, rfl, by decide⟩
theorem d6_worth_73 : zd b6_worth 73 (.iload_n 1) 1 74 := ⟨by decide +kernel, rfl⟩
theorem d6_worth_74 : zdb b6_worth 74 (.goto 15) 15 77 89 := ⟨by decide +kernel, rfl, by decide⟩
theorem d6_worth_77 : zd b6_worth 77 (.iload 6) 2 79 := ⟨by decide +kernel, rfl⟩
theorem d6_worth_79 : zd b6_worth 79 (.bipush (-2)) 2 81 := ⟨by decide +kernel, rfl⟩
theorem d6_worth_81 : zdb b6_worth 81 (.if_icmp .ne 7) 7 84 88 := ⟨by decide +kernel, rfl, by decide⟩
theorem d6_worth_84 : zd b6_worth 84 (.iload_n 2) 1 85 := ⟨by decide +kernel, rfl⟩
theorem d6_worth_85 : zdb b6_worth 85 (.goto 4) 4 88 89 := ⟨by decide +kernel, rfl, by decide⟩
theorem d6_worth_88 : zd b6_worth 88 (.iload_n 3) 1 89 := ⟨by decide +kernel, rfl⟩
theorem d6_worth_89 : zd b6_worth 89 .iastore 1 90 := ⟨by decide +kernel, rfl⟩
theorem d6_worth_90 : zd b6_worth 90 (.iinc 4 1) 3 93 := ⟨by decide +kernel, rfl⟩
theorem d6_worth_93 : zdb b6_worth 93 (.goto 85) 85 96 178 := ⟨by decide +kernel, rfl, by decide⟩
theorem d6_worth_96 : zd b6_worth 96 (.iload 6) 2 98 := ⟨by decide +kernel, rfl⟩
theorem d6_worth_98 : zd b6_worth 98 (.bipush (-33)) 2 100 := ⟨by decide +kernel, rfl⟩
theorem d6_worth_100 : zdb b6_worth 100 (.if_icmp .ne 38) 38 103 138 := ⟨by decide +kernel, rfl, by decide⟩
theorem d6_worth_103 : zd b6_worth 103 (.iload 4) 2 105 := ⟨by decide +kernel, rfl⟩
theorem d6_worth_105 : zd b6_worth 105 (.iconst 1) 1 106 := ⟨by decide +kernel, rfl⟩
theorem d6_worth_106 : zdb b6_worth 106 (.if_icmp .lt 72) 72 109 178 := ⟨by decide +kernel, rfl, by decide⟩
theorem d6_worth_109 : zd b6_worth 109 (.aload_n 0) 1 110 := ⟨by decide +kernel, rfl⟩
theorem d6_worth_110 : zd b6_worth 110 (.getfield 15) 3 113 := ⟨by decide +kernel, rfl⟩
theorem d6_worth_113 : zd b6_worth 113 (.iload 4) 2 115 := ⟨by decide +kernel, rfl⟩
theorem d6_worth_115 : zd b6_worth 115 (.iconst 1) 1 116 := ⟨by decide +kernel, rfl⟩
theorem d6_worth_116 : zd b6_worth 116 .isub 1 117 := ⟨by decide +kernel, rfl⟩
theorem d6_worth_117 : zd b6_worth 117 (.aload_n 0) 1 118 := ⟨by decide +kernel, rfl⟩
theorem d6_worth_118 : zd b6_worth 118 (.getfield 15) 3 121 := ⟨by decide +kernel, rfl⟩
theorem d6_worth_121 : zd b6_worth 121 (.iload 4) 2 123 := ⟨by decide +kernel, rfl⟩
theorem d6_worth_123 : zd b6_worth 123 (.iconst 1) 1 124 := ⟨by decide +kernel, rfl⟩
theorem d6_worth_124 : zd b6_worth 124 .isub 1 125 := ⟨by decide +kernel, rfl⟩
theorem d6_worth_125 : zd b6_worth 125 .iaload 1 126 := ⟨by decide +kernel, rfl⟩
theorem d6_worth_126 : zdb b6_worth 126 (.ifCond .ne 7) 7 129 133 := ⟨by decide +kernel, rfl, by decide⟩
theorem d6_worth_129 : zd b6_worth 129 (.iconst 1) 1 130 := ⟨by decide +kernel, rfl⟩
theorem d6_worth_130 : zdb b6_worth 130 (.goto 4) 4 133 134 := ⟨by decide +kernel, rfl, by decide⟩
theorem d6_worth_133 : zd b6_worth 133 (.iconst 0) 1 134 := ⟨by decide +kernel, rfl⟩
theorem d6_worth_134 : zd b6_worth 134 .iastore 1 135 := ⟨by decide +kernel, rfl⟩
theorem d6_worth_135 : zdb b6_worth 135 (.goto 43) 43 138 178 := ⟨by decide +kernel, rfl, by decide⟩
theorem d6_worth_138 : zd b6_worth 138 (.iload 4) 2 140 := ⟨by decide +kernel, rfl⟩
theorem d6_worth_140 : zd b6_worth 140 (.iconst 2) 1 141 := ⟨by decide +kernel, rfl⟩
theorem d6_worth_141 : zdb b6_worth 141 (.if_icmp .lt 37) 37 144 178 := ⟨by decide +kernel, rfl, by decide⟩
theorem d6_worth_144 : zd b6_worth 144 (.iinc 4 (-1)) 3 147 := ⟨by decide +kernel, rfl⟩
theorem d6_worth_147 : zd b6_worth 147 (.aload_n 0) 1 148 := ⟨by decide +kernel, rfl⟩
theorem d6_worth_148 : zd b6_worth 148 (.getfield 15) 3 151 := ⟨by decide +kernel, rfl⟩
theorem d6_worth_151 : zd b6_worth 151 (.iload 4) 2 153 := ⟨by decide +kernel, rfl⟩
theorem d6_worth_153 : zd b6_worth 153 (.iconst 1) 1 154 := ⟨by decide +kernel, rfl⟩
theorem d6_worth_154 : zd b6_worth 154 .isub 1 155 := ⟨by decide +kernel, rfl⟩
theorem d6_worth_155 : zd b6_worth 155 (.iload 6) 2 157 := ⟨by decide +kernel, rfl⟩
theorem d6_worth_157 : zd b6_worth 157 .ineg 1 158 := ⟨by decide +kernel, rfl⟩
theorem d6_worth_158 : zd b6_worth 158 (.aload_n 0) 1 159 := ⟨by decide +kernel, rfl⟩
theorem d6_worth_159 : zd b6_worth 159 (.getfield 15) 3 162 := ⟨by decide +kernel, rfl⟩
theorem d6_worth_162 : zd b6_worth 162 (.iload 4) 2 164 := ⟨by decide +kernel, rfl⟩
theorem d6_worth_164 : zd b6_worth 164 (.iconst 1) 1 165 := ⟨by decide +kernel, rfl⟩
theorem d6_worth_165 : zd b6_worth 165 .isub 1 166 := ⟨by decide +kernel, rfl⟩
theorem d6_worth_166 : zd b6_worth 166 .iaload 1 167 := ⟨by decide +kernel, rfl⟩
theorem d6_worth_167 : zd b6_worth 167 (.aload_n 0) 1 168 := ⟨by decide +kernel, rfl⟩
theorem d6_worth_168 : zd b6_worth 168 (.getfield 15) 3 171 := ⟨by decide +kernel, rfl⟩
theorem d6_worth_171 : zd b6_worth 171 (.iload 4) 2 173 := ⟨by decide +kernel, rfl⟩
theorem d6_worth_173 : zd b6_worth 173 .iaload 1 174 := ⟨by decide +kernel, rfl⟩
theorem d6_worth_174 : zd b6_worth 174 (.invokestatic 32) 3 177 := ⟨by decide +kernel, rfl⟩
theorem d6_worth_177 : zd b6_worth 177 .iastore 1 178 := ⟨by decide +kernel, rfl⟩
theorem d6_worth_178 : zd b6_worth 178 (.iinc 5 1) 3 181 := ⟨by decide +kernel, rfl⟩
theorem d6_worth_181 : zdb b6_worth 181 (.goto (-175)) (-175) 184 6 := ⟨by decide +kernel, rfl, by decide⟩
theorem d6_worth_184 : zd b6_worth 184 (.iload 4) 2 186 := ⟨by decide +kernel, rfl⟩
theorem d6_worth_186 : zd b6_worth 186 (.iconst 1) 1 187 := ⟨by decide +kernel, rfl⟩
theorem d6_worth_187 : zdb b6_worth 187 (.if_icmp .lt 15) 15 190 202 := ⟨by decide +kernel, rfl, by decide⟩
theorem d6_worth_190 : zd b6_worth 190 (.aload_n 0) 1 191 := ⟨by decide +kernel, rfl⟩
theorem d6_worth_191 : zd b6_worth 191 (.getfield 15) 3 194 := ⟨by decide +kernel, rfl⟩
theorem d6_worth_194 : zd b6_worth 194 (.iload 4) 2 196 := ⟨by decide +kernel, rfl⟩
theorem d6_worth_196 : zd b6_worth 196 (.iconst 1) 1 197 := ⟨by decide +kernel, rfl⟩
theorem d6_worth_197 : zd b6_worth 197 .isub 1 198 := ⟨by decide +kernel, rfl⟩
theorem d6_worth_198 : zd b6_worth 198 .iaload 1 199 := ⟨by decide +kernel, rfl⟩
theorem d6_worth_199 : zdb b6_worth 199 (.goto 4) 4 202 203 := ⟨by decide +kernel, rfl, by decide⟩
theorem d6_worth_202 : zd b6_worth 202 (.iconst 0) 1 203 := ⟨by decide +kernel, rfl⟩
theorem d6_worth_203 : zd b6_worth 203 .ireturn 1 204 := ⟨by decide +kernel, rfl⟩
def b6_worth_6 (k : Nat) (t : Nat) (q6 : Int32 → Int32 → Int32 → Int32 → Int32 → ZS → Option (Int32 × ZS)) (x1 : Int32) (x2 : Int32) (x3 : Int32) (x4 : Int32) (x5 : Int32) (σ : ZS) : Option (Int32 × ZS) :=
  if (σ t 2) ≤ x5 then (
  if x4 < (1 : Int32) then (
  some ((0 : Int32), σ))
  else (
  if zin (x4 - (1 : Int32)) 60 then (
  some ((σ (t + 2) (x4 - (1 : Int32)).toNatClampNeg), σ)) else none))
  else (
  if (60 : Int32) ≤ x5 then (
  if x4 < (1 : Int32) then (
  some ((0 : Int32), σ))
  else (
  if zin (x4 - (1 : Int32)) 60 then (
  some ((σ (t + 2) (x4 - (1 : Int32)).toNatClampNeg), σ)) else none))
  else (
  if zin x5 60 then (
  if (σ (t + 1) x5.toNatClampNeg) < (-3 : Int32) then (
  if (σ (t + 1) x5.toNatClampNeg) = (-33 : Int32) then (
  if x4 < (1 : Int32) then (
  q6 x1 x2 x3 x4 (x5 + (1 : Int32)) σ)
  else (
  if zin (x4 - (1 : Int32)) 60 then (
  if (σ (t + 2) (x4 - (1 : Int32)).toNatClampNeg) = 0 then (
  if zin (x4 - (1 : Int32)) 60 then (
  zput (zu σ (t + 2) ((x4 - (1 : Int32)).toNatClampNeg) (1 : Int32)) fun s14 =>
  q6 x1 x2 x3 x4 (x5 + (1 : Int32)) s14) else none)
  else (
  if zin (x4 - (1 : Int32)) 60 then (
  zput (zu σ (t + 2) ((x4 - (1 : Int32)).toNatClampNeg) (0 : Int32)) fun s16 =>
  q6 x1 x2 x3 x4 (x5 + (1 : Int32)) s16) else none)) else none))
  else (
  if x4 < (2 : Int32) then (
  q6 x1 x2 x3 x4 (x5 + (1 : Int32)) σ)
  else (
  if zin ((x4 + (-1 : Int32)) - (1 : Int32)) 60 then (
  if zin (x4 + (-1 : Int32)) 60 then (
  zbd (f6_joined k (-(σ (t + 1) x5.toNatClampNeg)) (σ (t + 2) ((x4 + (-1 : Int32)) - (1 : Int32)).toNatClampNeg) (σ (t + 2) (x4 + (-1 : Int32)).toNatClampNeg) σ) fun r20 s20 =>
  if zin ((x4 + (-1 : Int32)) - (1 : Int32)) 60 then (
  zput (zu s20 (t + 2) (((x4 + (-1 : Int32)) - (1 : Int32)).toNatClampNeg) r20) fun s22 =>
  q6 x1 x2 x3 (x4 + (-1 : Int32)) (x5 + (1 : Int32)) s22) else none) else none) else none)))
  else (
  if (60 : Int32) ≤ x4 then (
  q6 x1 x2 x3 x4 (x5 + (1 : Int32)) σ)
  else (
  if (σ (t + 1) x5.toNatClampNeg) < 0 then (
  if (σ (t + 1) x5.toNatClampNeg) = (-1 : Int32) then (
  if zin x4 60 then (
  zput (zu σ (t + 2) (x4.toNatClampNeg) x1) fun s27 =>
  q6 x1 x2 x3 (x4 + (1 : Int32)) (x5 + (1 : Int32)) s27) else none)
  else (
  if (σ (t + 1) x5.toNatClampNeg) = (-2 : Int32) then (
  if zin x4 60 then (
  zput (zu σ (t + 2) (x4.toNatClampNeg) x2) fun s30 =>
  q6 x1 x2 x3 (x4 + (1 : Int32)) (x5 + (1 : Int32)) s30) else none)
  else (
  if zin x4 60 then (
  zput (zu σ (t + 2) (x4.toNatClampNeg) x3) fun s32 =>
  q6 x1 x2 x3 (x4 + (1 : Int32)) (x5 + (1 : Int32)) s32) else none)))
  else (
  if zin x4 60 then (
  zput (zu σ (t + 2) (x4.toNatClampNeg) (σ (t + 1) x5.toNatClampNeg)) fun s34 =>
  q6 x1 x2 x3 (x4 + (1 : Int32)) (x5 + (1 : Int32)) s34) else none)))) else none))
def f6_worth_6 (k : Nat) (t : Nat) : Nat → Int32 → Int32 → Int32 → Int32 → Int32 → ZS → Option (Int32 × ZS)
  | 0 => fun _ _ _ _ _ _ => none
  | n + 1 => b6_worth_6 k t  (f6_worth_6 k t  n)
theorem j6_worth_6 {x : ZX} {g : ZG} (C : zC x g b6_worth R6 (some .int) 7 2 82) {k : Nat} {t : Nat} (ht : zsh t = 7) {r : Int32} {σr : ZS}  {q6 : Int32 → Int32 → Int32 → Int32 → Int32 → ZS → Option (Int32 × ZS)} (hq6 : (∀ (x1 : Int32) (x2 : Int32) (x3 : Int32) (x4 : Int32) (x5 : Int32) (σ : ZS), q6 x1 x2 x3 x4 x5 σ = some (r, σr) → zw x g 7 0 0 (zMQ x g (some (zi r)) σr) σ 6 [some (zr t), some (zi x1), some (zi x2), some (zi x3), some (zi x4), some (zi x5), none] [])) {x1 : Int32} {x2 : Int32} {x3 : Int32} {x4 : Int32} {x5 : Int32} {σ : ZS} (hf : b6_worth_6 k t q6 x1 x2 x3 x4 x5 σ = some (r, σr)) : zw x g 7 0 0 (zMQ x g (some (zi r)) σr) σ 6 [some (zr t), some (zi x1), some (zi x2), some (zi x3), some (zi x4), some (zi x5), none] [] := by
  unfold b6_worth_6 at hf
  refine z_iload C d6_worth_6 rfl ?_
  refine z_aload_n C d6_worth_8 rfl ?_
  refine z_getI C d6_worth_9 fl_103 ht ?_
  refine z_icmp_ge C d6_worth_12 (fun c1 => ?_) (fun c1 => ?_)
  · have hf := zit c1 hf
    refine z_iload C d6_worth_184 rfl ?_
    refine z_iconst C (1 : Int32) d6_worth_186 kI_1 ?_
    refine z_icmp_lt C d6_worth_187 (fun c2 => ?_) (fun c2 => ?_)
    · have hf := zit c2 hf
      refine z_iconst C (0 : Int32) d6_worth_202 kI_0 ?_
      exact z_iret C d6_worth_203 hf
    · have hf := zie c2 hf
      refine z_aload_n C d6_worth_190 rfl ?_
      refine z_getR C d6_worth_191 fl_102 ht (t + 2) rfl (zn0 (zD7_2 ht)) ?_
      refine z_iload C d6_worth_194 rfl ?_
      refine z_iconst C (1 : Int32) d6_worth_196 kI_1 ?_
      refine z_isub C d6_worth_197 ?_
      obtain ⟨g3, hf⟩ := zgo hf
      refine z_iald C d6_worth_198 (zD7_2 ht) (zN7_2 ht) g3 ((x4 - (1 : Int32)).toNatClampNeg) rfl ?_
      refine z_goto C d6_worth_199 ?_
      exact z_iret C d6_worth_203 hf
  · have hf := zie c1 hf
    refine z_iload C d6_worth_15 rfl ?_
    refine z_aload_n C d6_worth_17 rfl ?_
    refine z_getR C d6_worth_18 fl_101 ht (t + 1) rfl (zn0 (zD7_1 ht)) ?_
    refine z_alen C (60 : Int32) d6_worth_21 (zD7_1 ht) (zN7_1 ht) kO_60 ?_
    refine z_icmp_ge C d6_worth_22 (fun c4 => ?_) (fun c4 => ?_)
    · have hf := zit c4 hf
      refine z_iload C d6_worth_184 rfl ?_
      refine z_iconst C (1 : Int32) d6_worth_186 kI_1 ?_
      refine z_icmp_lt C d6_worth_187 (fun c5 => ?_) (fun c5 => ?_)
      · have hf := zit c5 hf
        refine z_iconst C (0 : Int32) d6_worth_202 kI_0 ?_
        exact z_iret C d6_worth_203 hf
      · have hf := zie c5 hf
        refine z_aload_n C d6_worth_190 rfl ?_
        refine z_getR C d6_worth_191 fl_102 ht (t + 2) rfl (zn0 (zD7_2 ht)) ?_
        refine z_iload C d6_worth_194 rfl ?_
        refine z_iconst C (1 : Int32) d6_worth_196 kI_1 ?_
        refine z_isub C d6_worth_197 ?_
        obtain ⟨g6, hf⟩ := zgo hf
        refine z_iald C d6_worth_198 (zD7_2 ht) (zN7_2 ht) g6 ((x4 - (1 : Int32)).toNatClampNeg) rfl ?_
        refine z_goto C d6_worth_199 ?_
        exact z_iret C d6_worth_203 hf
    · have hf := zie c4 hf
      refine z_aload_n C d6_worth_25 rfl ?_
      refine z_getR C d6_worth_26 fl_101 ht (t + 1) rfl (zn0 (zD7_1 ht)) ?_
      refine z_iload C d6_worth_29 rfl ?_
      obtain ⟨g7, hf⟩ := zgo hf
      refine z_iald C d6_worth_31 (zD7_1 ht) (zN7_1 ht) g7 (x5.toNatClampNeg) rfl ?_
      refine z_istore C d6_worth_32 (Nat.le_of_ble_eq_true rfl) rfl (L' := [some (zr t), some (zi x1), some (zi x2), some (zi x3), some (zi x4), some (zi x5), some (zi (σ (t + 1) x5.toNatClampNeg))]) rfl ?_
      refine z_iload C d6_worth_34 rfl ?_
      refine z_bipush C (-3 : Int32) d6_worth_36 kB_m3 ?_
      refine z_icmp_lt C d6_worth_38 (fun c8 => ?_) (fun c8 => ?_)
      · have hf := zit c8 hf
        refine z_iload C d6_worth_96 rfl ?_
        refine z_bipush C (-33 : Int32) d6_worth_98 kB_m33 ?_
        refine z_icmp_ne C d6_worth_100 (fun c9 => ?_) (fun c9 => ?_)
        · have hf := zit c9 hf
          refine z_iload C d6_worth_103 rfl ?_
          refine z_iconst C (1 : Int32) d6_worth_105 kI_1 ?_
          refine z_icmp_lt C d6_worth_106 (fun c10 => ?_) (fun c10 => ?_)
          · have hf := zit c10 hf
            refine z_iinc C d6_worth_178 rfl kI_1 (Nat.le_of_ble_eq_true rfl) rfl (L' := [some (zr t), some (zi x1), some (zi x2), some (zi x3), some (zi x4), some (zi (x5 + (1 : Int32))), some (zi (σ (t + 1) x5.toNatClampNeg))]) rfl ?_
            refine z_goto C d6_worth_181 ?_
            refine z_drop [true, true, true, true, true, true, false] (L' := [some (zr t), some (zi x1), some (zi x2), some (zi x3), some (zi x4), some (zi (x5 + (1 : Int32))), none]) rfl ?_
            exact hq6 _ _ _ _ _ _ hf
          · have hf := zie c10 hf
            refine z_aload_n C d6_worth_109 rfl ?_
            refine z_getR C d6_worth_110 fl_102 ht (t + 2) rfl (zn0 (zD7_2 ht)) ?_
            refine z_iload C d6_worth_113 rfl ?_
            refine z_iconst C (1 : Int32) d6_worth_115 kI_1 ?_
            refine z_isub C d6_worth_116 ?_
            refine z_aload_n C d6_worth_117 rfl ?_
            refine z_getR C d6_worth_118 fl_102 ht (t + 2) rfl (zn0 (zD7_2 ht)) ?_
            refine z_iload C d6_worth_121 rfl ?_
            refine z_iconst C (1 : Int32) d6_worth_123 kI_1 ?_
            refine z_isub C d6_worth_124 ?_
            obtain ⟨g11, hf⟩ := zgo hf
            refine z_iald C d6_worth_125 (zD7_2 ht) (zN7_2 ht) g11 ((x4 - (1 : Int32)).toNatClampNeg) rfl ?_
            refine z_if_ne C d6_worth_126 (fun c12 => ?_) (fun c12 => ?_)
            · have hf := zit c12 hf
              refine z_iconst C (1 : Int32) d6_worth_129 kI_1 ?_
              refine z_goto C d6_worth_130 ?_
              obtain ⟨g13, hf⟩ := zgo hf
              obtain ⟨s14, e14, hf⟩ := zpx hf
              refine z_iast C d6_worth_134 (zD7_2 ht) (zN7_2 ht) g13 rfl e14 ?_
              refine z_goto C d6_worth_135 ?_
              refine z_iinc C d6_worth_178 rfl kI_1 (Nat.le_of_ble_eq_true rfl) rfl (L' := [some (zr t), some (zi x1), some (zi x2), some (zi x3), some (zi x4), some (zi (x5 + (1 : Int32))), some (zi (σ (t + 1) x5.toNatClampNeg))]) rfl ?_
              refine z_goto C d6_worth_181 ?_
              refine z_drop [true, true, true, true, true, true, false] (L' := [some (zr t), some (zi x1), some (zi x2), some (zi x3), some (zi x4), some (zi (x5 + (1 : Int32))), none]) rfl ?_
              exact hq6 _ _ _ _ _ _ hf
            · have hf := zie c12 hf
              refine z_iconst C (0 : Int32) d6_worth_133 kI_0 ?_
              obtain ⟨g15, hf⟩ := zgo hf
              obtain ⟨s16, e16, hf⟩ := zpx hf
              refine z_iast C d6_worth_134 (zD7_2 ht) (zN7_2 ht) g15 rfl e16 ?_
              refine z_goto C d6_worth_135 ?_
              refine z_iinc C d6_worth_178 rfl kI_1 (Nat.le_of_ble_eq_true rfl) rfl (L' := [some (zr t), some (zi x1), some (zi x2), some (zi x3), some (zi x4), some (zi (x5 + (1 : Int32))), some (zi (σ (t + 1) x5.toNatClampNeg))]) rfl ?_
              refine z_goto C d6_worth_181 ?_
              refine z_drop [true, true, true, true, true, true, false] (L' := [some (zr t), some (zi x1), some (zi x2), some (zi x3), some (zi x4), some (zi (x5 + (1 : Int32))), none]) rfl ?_
              exact hq6 _ _ _ _ _ _ hf
        · have hf := zie c9 hf
          refine z_iload C d6_worth_138 rfl ?_
          refine z_iconst C (2 : Int32) d6_worth_140 kI_2 ?_
          refine z_icmp_lt C d6_worth_141 (fun c17 => ?_) (fun c17 => ?_)
          · have hf := zit c17 hf
            refine z_iinc C d6_worth_178 rfl kI_1 (Nat.le_of_ble_eq_true rfl) rfl (L' := [some (zr t), some (zi x1), some (zi x2), some (zi x3), some (zi x4), some (zi (x5 + (1 : Int32))), some (zi (σ (t + 1) x5.toNatClampNeg))]) rfl ?_
            refine z_goto C d6_worth_181 ?_
            refine z_drop [true, true, true, true, true, true, false] (L' := [some (zr t), some (zi x1), some (zi x2), some (zi x3), some (zi x4), some (zi (x5 + (1 : Int32))), none]) rfl ?_
            exact hq6 _ _ _ _ _ _ hf
          · have hf := zie c17 hf
            refine z_iinc C d6_worth_144 rfl kI_m1 (Nat.le_of_ble_eq_true rfl) rfl (L' := [some (zr t), some (zi x1), some (zi x2), some (zi x3), some (zi (x4 + (-1 : Int32))), some (zi x5), some (zi (σ (t + 1) x5.toNatClampNeg))]) rfl ?_
            refine z_aload_n C d6_worth_147 rfl ?_
            refine z_getR C d6_worth_148 fl_102 ht (t + 2) rfl (zn0 (zD7_2 ht)) ?_
            refine z_iload C d6_worth_151 rfl ?_
            refine z_iconst C (1 : Int32) d6_worth_153 kI_1 ?_
            refine z_isub C d6_worth_154 ?_
            refine z_iload C d6_worth_155 rfl ?_
            refine z_ineg C d6_worth_157 ?_
            refine z_aload_n C d6_worth_158 rfl ?_
            refine z_getR C d6_worth_159 fl_102 ht (t + 2) rfl (zn0 (zD7_2 ht)) ?_
            refine z_iload C d6_worth_162 rfl ?_
            refine z_iconst C (1 : Int32) d6_worth_164 kI_1 ?_
            refine z_isub C d6_worth_165 ?_
            obtain ⟨g18, hf⟩ := zgo hf
            refine z_iald C d6_worth_166 (zD7_2 ht) (zN7_2 ht) g18 (((x4 + (-1 : Int32)) - (1 : Int32)).toNatClampNeg) rfl ?_
            refine z_aload_n C d6_worth_167 rfl ?_
            refine z_getR C d6_worth_168 fl_102 ht (t + 2) rfl (zn0 (zD7_2 ht)) ?_
            refine z_iload C d6_worth_171 rfl ?_
            obtain ⟨g19, hf⟩ := zgo hf
            refine z_iald C d6_worth_173 (zD7_2 ht) (zN7_2 ht) g19 ((x4 + (-1 : Int32)).toNatClampNeg) rfl ?_
            obtain ⟨r20, s20, h20, hf⟩ := zbx hf
            refine z_callSi C (as := [zi (-(σ (t + 1) x5.toNatClampNeg)), zi (σ (t + 2) ((x4 + (-1 : Int32)) - (1 : Int32)).toNatClampNeg), zi (σ (t + 2) (x4 + (-1 : Int32)).toNatClampNeg)]) d6_worth_174 w_440 yy6_joined (c6_joined x.2.1 g h20) rfl rfl (Nat.le_of_ble_eq_true rfl) ⟨Nat.le_of_ble_eq_true rfl, Nat.le_of_ble_eq_true rfl⟩ ⟨Nat.zero_le _, Nat.zero_le _⟩ ?_
            obtain ⟨g21, hf⟩ := zgo hf
            obtain ⟨s22, e22, hf⟩ := zpx hf
            refine z_iast C d6_worth_177 (zD7_2 ht) (zN7_2 ht) g21 rfl e22 ?_
            refine z_iinc C d6_worth_178 rfl kI_1 (Nat.le_of_ble_eq_true rfl) rfl (L' := [some (zr t), some (zi x1), some (zi x2), some (zi x3), some (zi (x4 + (-1 : Int32))), some (zi (x5 + (1 : Int32))), some (zi (σ (t + 1) x5.toNatClampNeg))]) rfl ?_
            refine z_goto C d6_worth_181 ?_
            refine z_drop [true, true, true, true, true, true, false] (L' := [some (zr t), some (zi x1), some (zi x2), some (zi x3), some (zi (x4 + (-1 : Int32))), some (zi (x5 + (1 : Int32))), none]) rfl ?_
            exact hq6 _ _ _ _ _ _ hf
      · have hf := zie c8 hf
        refine z_iload C d6_worth_41 rfl ?_
        refine z_aload_n C d6_worth_43 rfl ?_
        refine z_getR C d6_worth_44 fl_102 ht (t + 2) rfl (zn0 (zD7_2 ht)) ?_
        refine z_alen C (60 : Int32) d6_worth_47 (zD7_2 ht) (zN7_2 ht) kO_60 ?_
        refine z_icmp_ge C d6_worth_48 (fun c23 => ?_) (fun c23 => ?_)
        · have hf := zit c23 hf
          refine z_iinc C d6_worth_178 rfl kI_1 (Nat.le_of_ble_eq_true rfl) rfl (L' := [some (zr t), some (zi x1), some (zi x2), some (zi x3), some (zi x4), some (zi (x5 + (1 : Int32))), some (zi (σ (t + 1) x5.toNatClampNeg))]) rfl ?_
          refine z_goto C d6_worth_181 ?_
          refine z_drop [true, true, true, true, true, true, false] (L' := [some (zr t), some (zi x1), some (zi x2), some (zi x3), some (zi x4), some (zi (x5 + (1 : Int32))), none]) rfl ?_
          exact hq6 _ _ _ _ _ _ hf
        · have hf := zie c23 hf
          refine z_aload_n C d6_worth_51 rfl ?_
          refine z_getR C d6_worth_52 fl_102 ht (t + 2) rfl (zn0 (zD7_2 ht)) ?_
          refine z_iload C d6_worth_55 rfl ?_
          refine z_iload C d6_worth_57 rfl ?_
          refine z_if_lt C d6_worth_59 (fun c24 => ?_) (fun c24 => ?_)
          · have hf := zit c24 hf
            refine z_iload C d6_worth_67 rfl ?_
            refine z_iconst C (-1 : Int32) d6_worth_69 kI_m1 ?_
            refine z_icmp_ne C d6_worth_70 (fun c25 => ?_) (fun c25 => ?_)
            · have hf := zit c25 hf
              refine z_iload_n C d6_worth_73 rfl ?_
              refine z_goto C d6_worth_74 ?_
              obtain ⟨g26, hf⟩ := zgo hf
              obtain ⟨s27, e27, hf⟩ := zpx hf
              refine z_iast C d6_worth_89 (zD7_2 ht) (zN7_2 ht) g26 rfl e27 ?_
              refine z_iinc C d6_worth_90 rfl kI_1 (Nat.le_of_ble_eq_true rfl) rfl (L' := [some (zr t), some (zi x1), some (zi x2), some (zi x3), some (zi (x4 + (1 : Int32))), some (zi x5), some (zi (σ (t + 1) x5.toNatClampNeg))]) rfl ?_
              refine z_goto C d6_worth_93 ?_
              refine z_iinc C d6_worth_178 rfl kI_1 (Nat.le_of_ble_eq_true rfl) rfl (L' := [some (zr t), some (zi x1), some (zi x2), some (zi x3), some (zi (x4 + (1 : Int32))), some (zi (x5 + (1 : Int32))), some (zi (σ (t + 1) x5.toNatClampNeg))]) rfl ?_
              refine z_goto C d6_worth_181 ?_
              refine z_drop [true, true, true, true, true, true, false] (L' := [some (zr t), some (zi x1), some (zi x2), some (zi x3), some (zi (x4 + (1 : Int32))), some (zi (x5 + (1 : Int32))), none]) rfl ?_
              exact hq6 _ _ _ _ _ _ hf
            · have hf := zie c25 hf
              refine z_iload C d6_worth_77 rfl ?_
              refine z_bipush C (-2 : Int32) d6_worth_79 kB_m2 ?_
              refine z_icmp_ne C d6_worth_81 (fun c28 => ?_) (fun c28 => ?_)
              · have hf := zit c28 hf
                refine z_iload_n C d6_worth_84 rfl ?_
                refine z_goto C d6_worth_85 ?_
                obtain ⟨g29, hf⟩ := zgo hf
                obtain ⟨s30, e30, hf⟩ := zpx hf
                refine z_iast C d6_worth_89 (zD7_2 ht) (zN7_2 ht) g29 rfl e30 ?_
                refine z_iinc C d6_worth_90 rfl kI_1 (Nat.le_of_ble_eq_true rfl) rfl (L' := [some (zr t), some (zi x1), some (zi x2), some (zi x3), some (zi (x4 + (1 : Int32))), some (zi x5), some (zi (σ (t + 1) x5.toNatClampNeg))]) rfl ?_
                refine z_goto C d6_worth_93 ?_
                refine z_iinc C d6_worth_178 rfl kI_1 (Nat.le_of_ble_eq_true rfl) rfl (L' := [some (zr t), some (zi x1), some (zi x2), some (zi x3), some (zi (x4 + (1 : Int32))), some (zi (x5 + (1 : Int32))), some (zi (σ (t + 1) x5.toNatClampNeg))]) rfl ?_
                refine z_goto C d6_worth_181 ?_
                refine z_drop [true, true, true, true, true, true, false] (L' := [some (zr t), some (zi x1), some (zi x2), some (zi x3), some (zi (x4 + (1 : Int32))), some (zi (x5 + (1 : Int32))), none]) rfl ?_
                exact hq6 _ _ _ _ _ _ hf
              · have hf := zie c28 hf
                refine z_iload_n C d6_worth_88 rfl ?_
                obtain ⟨g31, hf⟩ := zgo hf
                obtain ⟨s32, e32, hf⟩ := zpx hf
                refine z_iast C d6_worth_89 (zD7_2 ht) (zN7_2 ht) g31 rfl e32 ?_
                refine z_iinc C d6_worth_90 rfl kI_1 (Nat.le_of_ble_eq_true rfl) rfl (L' := [some (zr t), some (zi x1), some (zi x2), some (zi x3), some (zi (x4 + (1 : Int32))), some (zi x5), some (zi (σ (t + 1) x5.toNatClampNeg))]) rfl ?_
                refine z_goto C d6_worth_93 ?_
                refine z_iinc C d6_worth_178 rfl kI_1 (Nat.le_of_ble_eq_true rfl) rfl (L' := [some (zr t), some (zi x1), some (zi x2), some (zi x3), some (zi (x4 + (1 : Int32))), some (zi (x5 + (1 : Int32))), some (zi (σ (t + 1) x5.toNatClampNeg))]) rfl ?_
                refine z_goto C d6_worth_181 ?_
                refine z_drop [true, true, true, true, true, true, false] (L' := [some (zr t), some (zi x1), some (zi x2), some (zi x3), some (zi (x4 + (1 : Int32))), some (zi (x5 + (1 : Int32))), none]) rfl ?_
                exact hq6 _ _ _ _ _ _ hf
          · have hf := zie c24 hf
            refine z_iload C d6_worth_62 rfl ?_
            refine z_goto C d6_worth_64 ?_
            obtain ⟨g33, hf⟩ := zgo hf
            obtain ⟨s34, e34, hf⟩ := zpx hf
            refine z_iast C d6_worth_89 (zD7_2 ht) (zN7_2 ht) g33 rfl e34 ?_
            refine z_iinc C d6_worth_90 rfl kI_1 (Nat.le_of_ble_eq_true rfl) rfl (L' := [some (zr t), some (zi x1), some (zi x2), some (zi x3), some (zi (x4 + (1 : Int32))), some (zi x5), some (zi (σ (t + 1) x5.toNatClampNeg))]) rfl ?_
            refine z_goto C d6_worth_93 ?_
            refine z_iinc C d6_worth_178 rfl kI_1 (Nat.le_of_ble_eq_true rfl) rfl (L' := [some (zr t), some (zi x1), some (zi x2), some (zi x3), some (zi (x4 + (1 : Int32))), some (zi (x5 + (1 : Int32))), some (zi (σ (t + 1) x5.toNatClampNeg))]) rfl ?_
            refine z_goto C d6_worth_181 ?_
            refine z_drop [true, true, true, true, true, true, false] (L' := [some (zr t), some (zi x1), some (zi x2), some (zi x3), some (zi (x4 + (1 : Int32))), some (zi (x5 + (1 : Int32))), none]) rfl ?_
            exact hq6 _ _ _ _ _ _ hf
theorem j6_worth_6l {x : ZX} {g : ZG} (C : zC x g b6_worth R6 (some .int) 7 2 82) {k : Nat} {t : Nat} (ht : zsh t = 7) {r : Int32} {σr : ZS}  : ∀ (n : Nat) (x1 : Int32) (x2 : Int32) (x3 : Int32) (x4 : Int32) (x5 : Int32) (σ : ZS), f6_worth_6 k t  n x1 x2 x3 x4 x5 σ = some (r, σr) → zw x g 7 0 0 (zMQ x g (some (zi r)) σr) σ 6 [some (zr t), some (zi x1), some (zi x2), some (zi x3), some (zi x4), some (zi x5), none] [] := by
  intro n
  induction n with
  | zero => intro x1 x2 x3 x4 x5 σ hf; exact absurd (show none = some (r, σr) from hf) (fun z => by cases z)
  | succ n ih => intro x1 x2 x3 x4 x5 σ hf; exact j6_worth_6 C ht  ih (show b6_worth_6 k t  (f6_worth_6 k t  n) x1 x2 x3 x4 x5 σ = some (r, σr) from hf)
def f6_worth (k : Nat) (t : Nat) (x1 : Int32) (x2 : Int32) (x3 : Int32) (σ : ZS) : Option (Int32 × ZS) :=
  if zsh t = 7 then (
  f6_worth_6 k t  k x1 x2 x3 (0 : Int32) (0 : Int32) σ) else none
theorem c6_worth (l : Launch) (g : ZG) {k : Nat} {t : Nat} {x1 : Int32} {x2 : Int32} {x3 : Int32} {σ : ZS} {r : Int32} {σr : ZS} (hf : f6_worth k t x1 x2 x3 σ = some (r, σr)) : zT l g y6_worth b6_worth 7 (some .int) 2 82 [zr t, zi x1, zi x2, zi x3] σ (some (zi r)) σr := by
  unfold f6_worth at hf
  obtain ⟨ht, hf⟩ := zgo hf
  refine zT_start (own := R6) rfl (by decide +kernel) 3 (L := [some (zr t), some (zi x1), some (zi x2), some (zi x3), none, none, none]) rfl rfl (fun x hl C => ?_)
  subst hl
  refine z_iconst C (0 : Int32) d6_worth_0 kI_0 ?_
  refine z_istore C d6_worth_1 (Nat.le_of_ble_eq_true rfl) rfl (L' := [some (zr t), some (zi x1), some (zi x2), some (zi x3), some (zi (0 : Int32)), none, none]) rfl ?_
  refine z_iconst C (0 : Int32) d6_worth_3 kI_0 ?_
  refine z_istore C d6_worth_4 (Nat.le_of_ble_eq_true rfl) rfl (L' := [some (zr t), some (zi x1), some (zi x2), some (zi x3), some (zi (0 : Int32)), some (zi (0 : Int32)), none]) rfl ?_
  exact j6_worth_6l C ht  _ _ _ _ _ _ _ hf
theorem d5_given_0 : zd b5_given 0 (.aload_n 0) 1 1 := ⟨by decide +kernel, rfl⟩
theorem d5_given_1 : zd b5_given 1 (.iload_n 1) 1 2 := ⟨by decide +kernel, rfl⟩
theorem d5_given_2 : zd b5_given 2 (.invokevirtual 121) 3 5 := ⟨by decide +kernel, rfl⟩
theorem d5_given_5 : zd b5_given 5 (.astore 5) 2 7 := ⟨by decide +kernel, rfl⟩
theorem d5_given_7 : zd b5_given 7 (.aload 5) 2 9 := ⟨by decide +kernel, rfl⟩
theorem d5_given_9 : zdb b5_given 9 (.ifnull 15) 15 12 24 := ⟨by decide +kernel, rfl, by decide⟩
theorem d5_given_12 : zd b5_given 12 (.aload 5) 2 14 := ⟨by decide +kernel, rfl⟩
theorem d5_given_14 : zd b5_given 14 (.getfield 125) 3 17 := ⟨by decide +kernel, rfl⟩
theorem d5_given_17 : zdb b5_given 17 (.ifCond .eq 7) 7 20 24 := ⟨by decide +kernel, rfl, by decide⟩
theorem d5_given_20 : zd b5_given 20 (.iconst 1) 1 21 := ⟨by decide +kernel, rfl⟩
theorem d5_given_21 : zdb b5_given 21 (.goto 4) 4 24 25 := ⟨by decide +kernel, rfl, by decide⟩
theorem d5_given_24 : zd b5_given 24 (.iconst 0) 1 25 := ⟨by decide +kernel, rfl⟩
theorem d5_given_25 : zd b5_given 25 (.istore 6) 2 27 := ⟨by decide +kernel, rfl⟩
theorem d5_given_27 : zd b5_given 27 (.iload_n 1) 1 28 := ⟨by decide +kernel, rfl⟩
theorem d5_given_28 : zdb b5_given 28 (.ifCond .ne 32) 32 31 60 := ⟨by decide +kernel, rfl, by decide⟩
theorem d5_given_31 : zd b5_given 31 (.iconst 0) 1 32 := ⟨by decide +kernel, rfl⟩
theorem d5_given_32 : zd b5_given 32 (.bipush 99) 2 34 := ⟨by decide +kernel, rfl⟩
theorem d5_given_34 : zd b5_given 34 (.iload 6) 2 36 := ⟨by decide +kernel, rfl⟩
theorem d5_given_36 : zdb b5_given 36 (.ifCond .eq 15) 15 39 51 := ⟨by decide +kernel, rfl, by decide⟩
theorem d5_given_39 : zd b5_given 39 (.aload 5) 2 41 := ⟨by decide +kernel, rfl⟩
theorem d5_given_41 : zd b5_given 41 (.iload_n 2) 1 42 := ⟨by decide +kernel, rfl⟩
theorem d5_given_42 : zd b5_given 42 (.iload_n 3) 1 43 := ⟨by decide +kernel, rfl⟩
theorem d5_given_43 : zd b5_given 43 (.iload 4) 2 45 := ⟨by decide +kernel, rfl⟩
theorem d5_given_45 : zd b5_given 45 (.invokevirtual 129) 3 48 := ⟨by decide +kernel, rfl⟩
theorem d5_given_48 : zdb b5_given 48 (.goto 5) 5 51 53 := ⟨by decide +kernel, rfl, by decide⟩
theorem d5_given_51 : zd b5_given 51 (.iload 4) 2 53 := ⟨by decide +kernel, rfl⟩
theorem d5_given_53 : zd b5_given 53 (.invokestatic 133) 3 56 := ⟨by decide +kernel, rfl⟩
theorem d5_given_56 : zd b5_given 56 (.invokestatic 139) 3 59 := ⟨by decide +kernel, rfl⟩
theorem d5_given_59 : zd b5_given 59 .ireturn 1 60 := ⟨by decide +kernel, rfl⟩
theorem d5_given_60 : zd b5_given 60 (.iconst 0) 1 61 := ⟨by decide +kernel, rfl⟩
theorem d5_given_61 : zd b5_given 61 (.sipush 999) 3 64 := ⟨by decide +kernel, rfl⟩
theorem d5_given_64 : zd b5_given 64 (.iload 6) 2 66 := ⟨by decide +kernel, rfl⟩
theorem d5_given_66 : zdb b5_given 66 (.ifCond .eq 15) 15 69 81 := ⟨by decide +kernel, rfl, by decide⟩
theorem d5_given_69 : zd b5_given 69 (.aload 5) 2 71 := ⟨by decide +kernel, rfl⟩
theorem d5_given_71 : zd b5_given 71 (.iload_n 2) 1 72 := ⟨by decide +kernel, rfl⟩
theorem d5_given_72 : zd b5_given 72 (.iload_n 3) 1 73 := ⟨by decide +kernel, rfl⟩
theorem d5_given_73 : zd b5_given 73 (.iload 4) 2 75 := ⟨by decide +kernel, rfl⟩
theorem d5_given_75 : zd b5_given 75 (.invokevirtual 129) 3 78 := ⟨by decide +kernel, rfl⟩
theorem d5_given_78 : zdb b5_given 78 (.goto 4) 4 81 82 := ⟨by decide +kernel, rfl, by decide⟩
theorem d5_given_81 : zd b5_given 81 (.iload_n 2) 1 82 := ⟨by decide +kernel, rfl⟩
theorem d5_given_82 : zd b5_given 82 (.invokestatic 133) 3 85 := ⟨by decide +kernel, rfl⟩
theorem d5_given_85 : zd b5_given 85 (.invokestatic 139) 3 88 := ⟨by decide +kernel, rfl⟩
theorem d5_given_88 : zd b5_given 88 .ireturn 1 89 := ⟨by decide +kernel, rfl⟩
def b5_given_25 (k : Nat) (t : Nat) (x1 : Int32) (x2 : Int32) (x3 : Int32) (x4 : Int32) (x5 : Nat) (v0 : Int32) (σ : ZS) : Option (Int32 × ZS) :=
  if x1 = 0 then (
  if v0 = 0 then (
  some ((if (0 : Int32) < (if x4 < (99 : Int32) then x4 else (99 : Int32)) then (if x4 < (99 : Int32) then x4 else (99 : Int32)) else (0 : Int32)), σ))
  else (
  if zsh x5 = 7 then (
  zbd (f6_worth k x5 x2 x3 x4 σ) fun r3 s3 =>
  some ((if (0 : Int32) < (if r3 < (99 : Int32) then r3 else (99 : Int32)) then (if r3 < (99 : Int32) then r3 else (99 : Int32)) else (0 : Int32)), s3)) else none))
  else (
  if v0 = 0 then (
  some ((if (0 : Int32) < (if x2 < (999 : Int32) then x2 else (999 : Int32)) then (if x2 < (999 : Int32) then x2 else (999 : Int32)) else (0 : Int32)), σ))
  else (
  if zsh x5 = 7 then (
  zbd (f6_worth k x5 x2 x3 x4 σ) fun r6 s6 =>
  some ((if (0 : Int32) < (if r6 < (999 : Int32) then r6 else (999 : Int32)) then (if r6 < (999 : Int32) then r6 else (999 : Int32)) else (0 : Int32)), s6)) else none))
theorem j5_given_25 {x : ZX} {g : ZG} (C : zC x g b5_given R5 (some .int) 7 3 108) {k : Nat} {t : Nat} (ht : zsh t = 6) {r : Int32} {σr : ZS}  {x1 : Int32} {x2 : Int32} {x3 : Int32} {x4 : Int32} {x5 : Nat} {v0 : Int32} {σ : ZS} (hf : b5_given_25 k t  x1 x2 x3 x4 x5 v0 σ = some (r, σr)) : zw x g 7 0 0 (zMQ x g (some (zi r)) σr) σ 25 [none, some (zi x1), some (zi x2), some (zi x3), some (zi x4), some (zr x5), none] [zi v0] := by
  unfold b5_given_25 at hf
  refine z_istore C d5_given_25 (Nat.le_of_ble_eq_true rfl) rfl (L' := [none, some (zi x1), some (zi x2), some (zi x3), some (zi x4), some (zr x5), some (zi v0)]) rfl ?_
  refine z_iload_n C d5_given_27 rfl ?_
  refine z_if_ne C d5_given_28 (fun c1 => ?_) (fun c1 => ?_)
  · have hf := zit c1 hf
    refine z_iconst C (0 : Int32) d5_given_31 kI_0 ?_
    refine z_bipush C (99 : Int32) d5_given_32 kB_99 ?_
    refine z_iload C d5_given_34 rfl ?_
    refine z_if_eq C d5_given_36 (fun c2 => ?_) (fun c2 => ?_)
    · have hf := zit c2 hf
      refine z_iload C d5_given_51 rfl ?_
      refine z_min C d5_given_53 w_443 (Nat.le_of_ble_eq_true rfl) ⟨Nat.le_of_ble_eq_true rfl, Nat.le_of_ble_eq_true rfl⟩ ⟨Nat.zero_le _, Nat.zero_le _⟩ zminw ?_
      refine z_max C d5_given_56 w_446 (Nat.le_of_ble_eq_true rfl) ⟨Nat.le_of_ble_eq_true rfl, Nat.le_of_ble_eq_true rfl⟩ ⟨Nat.zero_le _, Nat.zero_le _⟩ zmaxw ?_
      exact z_iret C d5_given_59 hf
    · have hf := zie c2 hf
      refine z_aload C d5_given_39 rfl ?_
      refine z_iload_n C d5_given_41 rfl ?_
      refine z_iload_n C d5_given_42 rfl ?_
      refine z_iload C d5_given_43 rfl ?_
      obtain ⟨g4, hf⟩ := zgo hf
      obtain ⟨r3, s3, h3, hf⟩ := zbx hf
      refine z_callVi C (as := [zi x2, zi x3, zi x4]) d5_given_45 w_436 yy6_worth (c6_worth x.2.1 g h3) yc6_worth g4 rfl rfl (Nat.le_of_ble_eq_true rfl) ⟨Nat.le_of_ble_eq_true rfl, Nat.le_of_ble_eq_true rfl⟩ ⟨Nat.zero_le _, Nat.zero_le _⟩ ?_
      refine z_goto C d5_given_48 ?_
      refine z_min C d5_given_53 w_443 (Nat.le_of_ble_eq_true rfl) ⟨Nat.le_of_ble_eq_true rfl, Nat.le_of_ble_eq_true rfl⟩ ⟨Nat.zero_le _, Nat.zero_le _⟩ zminw ?_
      refine z_max C d5_given_56 w_446 (Nat.le_of_ble_eq_true rfl) ⟨Nat.le_of_ble_eq_true rfl, Nat.le_of_ble_eq_true rfl⟩ ⟨Nat.zero_le _, Nat.zero_le _⟩ zmaxw ?_
      exact z_iret C d5_given_59 hf
  · have hf := zie c1 hf
    refine z_iconst C (0 : Int32) d5_given_60 kI_0 ?_
    refine z_sipush C (999 : Int32) d5_given_61 kS_999 ?_
    refine z_iload C d5_given_64 rfl ?_
    refine z_if_eq C d5_given_66 (fun c5 => ?_) (fun c5 => ?_)
    · have hf := zit c5 hf
      refine z_iload_n C d5_given_81 rfl ?_
      refine z_min C d5_given_82 w_443 (Nat.le_of_ble_eq_true rfl) ⟨Nat.le_of_ble_eq_true rfl, Nat.le_of_ble_eq_true rfl⟩ ⟨Nat.zero_le _, Nat.zero_le _⟩ zminw ?_
      refine z_max C d5_given_85 w_446 (Nat.le_of_ble_eq_true rfl) ⟨Nat.le_of_ble_eq_true rfl, Nat.le_of_ble_eq_true rfl⟩ ⟨Nat.zero_le _, Nat.zero_le _⟩ zmaxw ?_
      exact z_iret C d5_given_88 hf
    · have hf := zie c5 hf
      refine z_aload C d5_given_69 rfl ?_
      refine z_iload_n C d5_given_71 rfl ?_
      refine z_iload_n C d5_given_72 rfl ?_
      refine z_iload C d5_given_73 rfl ?_
      obtain ⟨g7, hf⟩ := zgo hf
      obtain ⟨r6, s6, h6, hf⟩ := zbx hf
      refine z_callVi C (as := [zi x2, zi x3, zi x4]) d5_given_75 w_436 yy6_worth (c6_worth x.2.1 g h6) yc6_worth g7 rfl rfl (Nat.le_of_ble_eq_true rfl) ⟨Nat.le_of_ble_eq_true rfl, Nat.le_of_ble_eq_true rfl⟩ ⟨Nat.zero_le _, Nat.zero_le _⟩ ?_
      refine z_goto C d5_given_78 ?_
      refine z_min C d5_given_82 w_443 (Nat.le_of_ble_eq_true rfl) ⟨Nat.le_of_ble_eq_true rfl, Nat.le_of_ble_eq_true rfl⟩ ⟨Nat.zero_le _, Nat.zero_le _⟩ zminw ?_
      refine z_max C d5_given_85 w_446 (Nat.le_of_ble_eq_true rfl) ⟨Nat.le_of_ble_eq_true rfl, Nat.le_of_ble_eq_true rfl⟩ ⟨Nat.zero_le _, Nat.zero_le _⟩ zmaxw ?_
      exact z_iret C d5_given_88 hf
def f5_given (k : Nat) (t : Nat) (x1 : Int32) (x2 : Int32) (x3 : Int32) (x4 : Int32) (σ : ZS) : Option (Int32 × ZS) :=
  if zsh t = 6 then (
  zbd (f5_textOf k t x1 σ) fun r1 s1 =>
  if r1 = 0 then (
  b5_given_25 k t  x1 x2 x3 x4 r1 (0 : Int32) s1)
  else (
  if zsh r1 = 7 then (
  if (s1 r1 3) = 0 then (
  b5_given_25 k t  x1 x2 x3 x4 r1 (0 : Int32) s1)
  else (
  b5_given_25 k t  x1 x2 x3 x4 r1 (1 : Int32) s1)) else none)) else none
theorem c5_given (l : Launch) (g : ZG) {k : Nat} {t : Nat} {x1 : Int32} {x2 : Int32} {x3 : Int32} {x4 : Int32} {σ : ZS} {r : Int32} {σr : ZS} (hf : f5_given k t x1 x2 x3 x4 σ = some (r, σr)) : zT l g y5_given b5_given 7 (some .int) 3 108 [zr t, zi x1, zi x2, zi x3, zi x4] σ (some (zi r)) σr := by
  unfold f5_given at hf
  obtain ⟨ht, hf⟩ := zgo hf
  refine zT_start (own := R5) rfl (by decide +kernel) 2 (L := [some (zr t), some (zi x1), some (zi x2), some (zi x3), some (zi x4), none, none]) rfl rfl (fun x hl C => ?_)
  subst hl
  refine z_aload_n C d5_given_0 rfl ?_
  refine z_iload_n C d5_given_1 rfl ?_
  obtain ⟨r1, s1, h1, hf⟩ := zbx hf
  refine z_callVr C (as := [zi x1]) d5_given_2 w_432 yy5_textOf (c5_textOf x.2.1 g h1) yc5_textOf ht rfl rfl (Nat.le_of_ble_eq_true rfl) ⟨Nat.le_of_ble_eq_true rfl, Nat.le_of_ble_eq_true rfl⟩ ⟨Nat.zero_le _, Nat.zero_le _⟩ ?_
  refine z_astore C d5_given_5 (Nat.le_of_ble_eq_true rfl) rfl (L' := [some (zr t), some (zi x1), some (zi x2), some (zi x3), some (zi x4), some (zr r1), none]) rfl ?_
  refine z_aload C d5_given_7 rfl ?_
  refine z_ifnull C d5_given_9 (fun c2 => ?_) (fun c2 => ?_)
  · have hf := zit c2 hf
    refine z_iconst C (0 : Int32) d5_given_24 kI_0 ?_
    refine z_drop [false, true, true, true, true, true, false] (L' := [none, some (zi x1), some (zi x2), some (zi x3), some (zi x4), some (zr r1), none]) rfl ?_
    exact j5_given_25 C ht  hf
  · have hf := zie c2 hf
    refine z_aload C d5_given_12 rfl ?_
    obtain ⟨g3, hf⟩ := zgo hf
    refine z_getI C d5_given_14 fl_107 g3 ?_
    refine z_if_eq C d5_given_17 (fun c4 => ?_) (fun c4 => ?_)
    · have hf := zit c4 hf
      refine z_iconst C (0 : Int32) d5_given_24 kI_0 ?_
      refine z_drop [false, true, true, true, true, true, false] (L' := [none, some (zi x1), some (zi x2), some (zi x3), some (zi x4), some (zr r1), none]) rfl ?_
      exact j5_given_25 C ht  hf
    · have hf := zie c4 hf
      refine z_iconst C (1 : Int32) d5_given_20 kI_1 ?_
      refine z_goto C d5_given_21 ?_
      refine z_drop [false, true, true, true, true, true, false] (L' := [none, some (zi x1), some (zi x2), some (zi x3), some (zi x4), some (zr r1), none]) rfl ?_
      exact j5_given_25 C ht  hf
theorem d5_taxOf_0 : zd b5_taxOf 0 (.aload_n 1) 1 1 := ⟨by decide +kernel, rfl⟩
theorem d5_taxOf_1 : zd b5_taxOf 1 (.getfield 142) 3 4 := ⟨by decide +kernel, rfl⟩
theorem d5_taxOf_4 : zdb b5_taxOf 4 (.ifCond .eq 7) 7 7 11 := ⟨by decide +kernel, rfl, by decide⟩
theorem d5_taxOf_7 : zd b5_taxOf 7 (.sipush 999) 3 10 := ⟨by decide +kernel, rfl⟩
theorem d5_taxOf_10 : zd b5_taxOf 10 .ireturn 1 11 := ⟨by decide +kernel, rfl⟩
theorem d5_taxOf_11 : zd b5_taxOf 11 (.iconst 0) 1 12 := ⟨by decide +kernel, rfl⟩
theorem d5_taxOf_12 : zd b5_taxOf 12 (.istore_n 2) 1 13 := ⟨by decide +kernel, rfl⟩
theorem d5_taxOf_13 : zd b5_taxOf 13 (.iconst 0) 1 14 := ⟨by decide +kernel, rfl⟩
theorem d5_taxOf_14 : zd b5_taxOf 14 (.istore_n 3) 1 15 := ⟨by decide +kernel, rfl⟩
theorem d5_taxOf_15 : zd b5_taxOf 15 (.iload_n 3) 1 16 := ⟨by decide +kernel, rfl⟩
theorem d5_taxOf_16 : zd b5_taxOf 16 (.aload_n 1) 1 17 := ⟨by decide +kernel, rfl⟩
theorem d5_taxOf_17 : zd b5_taxOf 17 (.getfield 147) 3 20 := ⟨by decide +kernel, rfl⟩
theorem d5_taxOf_20 : zdb b5_taxOf 20 (.if_icmp .ge 53) 53 23 73 := ⟨by decide +kernel, rfl, by decide⟩
theorem d5_taxOf_23 : zd b5_taxOf 23 (.iload_n 2) 1 24 := ⟨by decide +kernel, rfl⟩
theorem d5_taxOf_24 : zd b5_taxOf 24 (.sipush 999) 3 27 := ⟨by decide +kernel, rfl⟩
theorem d5_taxOf_27 : zdb b5_taxOf 27 (.if_icmp .ge 46) 46 30 73 := ⟨by decide +kernel, rfl, by decide⟩
theorem d5_taxOf_30 : zd b5_taxOf 30 (.aload_n 0) 1 31 := ⟨by decide +kernel, rfl⟩
theorem d5_taxOf_31 : zd b5_taxOf 31 (.aload_n 1) 1 32 := ⟨by decide +kernel, rfl⟩
theorem d5_taxOf_32 : zd b5_taxOf 32 (.iload_n 3) 1 33 := ⟨by decide +kernel, rfl⟩
theorem d5_taxOf_33 : zd b5_taxOf 33 (.invokevirtual 150) 3 36 := ⟨by decide +kernel, rfl⟩
theorem d5_taxOf_36 : zd b5_taxOf 36 (.invokevirtual 83) 3 39 := ⟨by decide +kernel, rfl⟩
theorem d5_taxOf_39 : zd b5_taxOf 39 (.astore 4) 2 41 := ⟨by decide +kernel, rfl⟩
theorem d5_taxOf_41 : zd b5_taxOf 41 (.aload 4) 2 43 := ⟨by decide +kernel, rfl⟩
theorem d5_taxOf_43 : zdb b5_taxOf 43 (.ifnull 24) 24 46 67 := ⟨by decide +kernel, rfl, by decide⟩
theorem d5_taxOf_46 : zd b5_taxOf 46 (.iload_n 2) 1 47 := ⟨by decide +kernel, rfl⟩
theorem d5_taxOf_47 : zd b5_taxOf 47 (.aload_n 0) 1 48 := ⟨by decide +kernel, rfl⟩
theorem d5_taxOf_48 : zd b5_taxOf 48 (.iconst 0) 1 49 := ⟨by decide +kernel, rfl⟩
theorem d5_taxOf_49 : zd b5_taxOf 49 (.iload_n 3) 1 50 := ⟨by decide +kernel, rfl⟩
theorem d5_taxOf_50 : zd b5_taxOf 50 (.iconst 1) 1 51 := ⟨by decide +kernel, rfl⟩
theorem d5_taxOf_51 : zd b5_taxOf 51 .iadd 1 52 := ⟨by decide +kernel, rfl⟩
theorem d5_taxOf_52 : zd b5_taxOf 52 (.aload 4) 2 54 := ⟨by decide +kernel, rfl⟩
theorem d5_taxOf_54 : zd b5_taxOf 54 (.getfield 87) 3 57 := ⟨by decide +kernel, rfl⟩
theorem d5_taxOf_57 : zd b5_taxOf 57 (.aload 4) 2 59 := ⟨by decide +kernel, rfl⟩
theorem d5_taxOf_59 : zd b5_taxOf 59 (.getfield 90) 3 62 := ⟨by decide +kernel, rfl⟩
theorem d5_taxOf_62 : zd b5_taxOf 62 (.invokevirtual 154) 3 65 := ⟨by decide +kernel, rfl⟩
theorem d5_taxOf_65 : zd b5_taxOf 65 .iadd 1 66 := ⟨by decide +kernel, rfl⟩
theorem d5_taxOf_66 : zd b5_taxOf 66 (.istore_n 2) 1 67 := ⟨by decide +kernel, rfl⟩
theorem d5_taxOf_67 : zd b5_taxOf 67 (.iinc 3 1) 3 70 := ⟨by decide +kernel, rfl⟩
theorem d5_taxOf_70 : zdb b5_taxOf 70 (.goto (-55)) (-55) 73 15 := ⟨by decide +kernel, rfl, by decide⟩
theorem d5_taxOf_73 : zd b5_taxOf 73 (.sipush 999) 3 76 := ⟨by decide +kernel, rfl⟩
theorem d5_taxOf_76 : zd b5_taxOf 76 (.iload_n 2) 1 77 := ⟨by decide +kernel, rfl⟩
theorem d5_taxOf_77 : zd b5_taxOf 77 (.invokestatic 133) 3 80 := ⟨by decide +kernel, rfl⟩
theorem d5_taxOf_80 : zd b5_taxOf 80 .ireturn 1 81 := ⟨by decide +kernel, rfl⟩
def b5_taxOf_15 (k : Nat) (t : Nat) (q15 : Int32 → Int32 → ZS → Option (Int32 × ZS)) (x2 : Int32) (x3 : Int32) (σ : ZS) : Option (Int32 × ZS) :=
  if (σ 83 3) ≤ x3 then (
  some ((if x2 < (999 : Int32) then x2 else (999 : Int32)), σ))
  else (
  if (999 : Int32) ≤ x2 then (
  some ((if x2 < (999 : Int32) then x2 else (999 : Int32)), σ))
  else (
  zbd (f1_metAt k x3 σ) fun r3 s3 =>
  zbd (f5_glassOf k t r3 s3) fun r4 s4 =>
  if r4 = 0 then (
  q15 x2 (x3 + (1 : Int32)) s4)
  else (
  if zsh r4 = 1 then (
  zbd (f5_given k t (0 : Int32) (x3 + (1 : Int32)) (s4 r4 0) (s4 r4 1) s4) fun r7 s7 =>
  q15 (x2 + r7) (x3 + (1 : Int32)) s7) else none)))
def f5_taxOf_15 (k : Nat) (t : Nat) : Nat → Int32 → Int32 → ZS → Option (Int32 × ZS)
  | 0 => fun _ _ _ => none
  | n + 1 => b5_taxOf_15 k t  (f5_taxOf_15 k t  n)
theorem j5_taxOf_15 {x : ZX} {g : ZG} (C : zC x g b5_taxOf R5 (some .int) 5 4 134) {k : Nat} {t : Nat} (ht : zsh t = 6) {r : Int32} {σr : ZS}  {q15 : Int32 → Int32 → ZS → Option (Int32 × ZS)} (hq15 : (∀ (x2 : Int32) (x3 : Int32) (σ : ZS), q15 x2 x3 σ = some (r, σr) → zw x g 5 0 0 (zMQ x g (some (zi r)) σr) σ 15 [some (zr t), some (zr 83), some (zi x2), some (zi x3), none] [])) {x2 : Int32} {x3 : Int32} {σ : ZS} (hf : b5_taxOf_15 k t q15 x2 x3 σ = some (r, σr)) : zw x g 5 0 0 (zMQ x g (some (zi r)) σr) σ 15 [some (zr t), some (zr 83), some (zi x2), some (zi x3), none] [] := by
  unfold b5_taxOf_15 at hf
  refine z_iload_n C d5_taxOf_15 rfl ?_
  refine z_aload_n C d5_taxOf_16 rfl ?_
  refine z_getI C d5_taxOf_17 fl_173 kZ_83 ?_
  refine z_icmp_ge C d5_taxOf_20 (fun c1 => ?_) (fun c1 => ?_)
  · have hf := zit c1 hf
    refine z_sipush C (999 : Int32) d5_taxOf_73 kS_999 ?_
    refine z_iload_n C d5_taxOf_76 rfl ?_
    refine z_min C d5_taxOf_77 w_443 (Nat.le_of_ble_eq_true rfl) ⟨Nat.le_of_ble_eq_true rfl, Nat.le_of_ble_eq_true rfl⟩ ⟨Nat.zero_le _, Nat.zero_le _⟩ zminw ?_
    exact z_iret C d5_taxOf_80 hf
  · have hf := zie c1 hf
    refine z_iload_n C d5_taxOf_23 rfl ?_
    refine z_sipush C (999 : Int32) d5_taxOf_24 kS_999 ?_
    refine z_icmp_ge C d5_taxOf_27 (fun c2 => ?_) (fun c2 => ?_)
    · have hf := zit c2 hf
      refine z_sipush C (999 : Int32) d5_taxOf_73 kS_999 ?_
      refine z_iload_n C d5_taxOf_76 rfl ?_
      refine z_min C d5_taxOf_77 w_443 (Nat.le_of_ble_eq_true rfl) ⟨Nat.le_of_ble_eq_true rfl, Nat.le_of_ble_eq_true rfl⟩ ⟨Nat.zero_le _, Nat.zero_le _⟩ zminw ?_
      exact z_iret C d5_taxOf_80 hf
    · have hf := zie c2 hf
      refine z_aload_n C d5_taxOf_30 rfl ?_
      refine z_aload_n C d5_taxOf_31 rfl ?_
      refine z_iload_n C d5_taxOf_32 rfl ?_
      obtain ⟨r3, s3, h3, hf⟩ := zbx hf
      refine z_callVi C (as := [zi x3]) d5_taxOf_33 w_424 yy1_metAt (c1_metAt x.2.1 g h3) yc1_metAt kZ_83 rfl rfl (Nat.le_of_ble_eq_true rfl) ⟨Nat.le_of_ble_eq_true rfl, Nat.le_of_ble_eq_true rfl⟩ ⟨Nat.zero_le _, Nat.zero_le _⟩ ?_
      obtain ⟨r4, s4, h4, hf⟩ := zbx hf
      refine z_callVr C (as := [zi r3]) d5_taxOf_36 w_321 yy5_glassOf (c5_glassOf x.2.1 g h4) yc5_glassOf ht rfl rfl (Nat.le_of_ble_eq_true rfl) ⟨Nat.le_of_ble_eq_true rfl, Nat.le_of_ble_eq_true rfl⟩ ⟨Nat.zero_le _, Nat.zero_le _⟩ ?_
      refine z_astore C d5_taxOf_39 (Nat.le_of_ble_eq_true rfl) rfl (L' := [some (zr t), some (zr 83), some (zi x2), some (zi x3), some (zr r4)]) rfl ?_
      refine z_aload C d5_taxOf_41 rfl ?_
      refine z_ifnull C d5_taxOf_43 (fun c5 => ?_) (fun c5 => ?_)
      · have hf := zit c5 hf
        refine z_iinc C d5_taxOf_67 rfl kI_1 (Nat.le_of_ble_eq_true rfl) rfl (L' := [some (zr t), some (zr 83), some (zi x2), some (zi (x3 + (1 : Int32))), some (zr r4)]) rfl ?_
        refine z_goto C d5_taxOf_70 ?_
        refine z_drop [true, true, true, true, false] (L' := [some (zr t), some (zr 83), some (zi x2), some (zi (x3 + (1 : Int32))), none]) rfl ?_
        exact hq15 _ _ _ hf
      · have hf := zie c5 hf
        refine z_iload_n C d5_taxOf_46 rfl ?_
        refine z_aload_n C d5_taxOf_47 rfl ?_
        refine z_iconst C (0 : Int32) d5_taxOf_48 kI_0 ?_
        refine z_iload_n C d5_taxOf_49 rfl ?_
        refine z_iconst C (1 : Int32) d5_taxOf_50 kI_1 ?_
        refine z_iadd C d5_taxOf_51 ?_
        refine z_aload C d5_taxOf_52 rfl ?_
        obtain ⟨g6, hf⟩ := zgo hf
        refine z_getI C d5_taxOf_54 fl_49 g6 ?_
        refine z_aload C d5_taxOf_57 rfl ?_
        refine z_getI C d5_taxOf_59 fl_53 g6 ?_
        obtain ⟨r7, s7, h7, hf⟩ := zbx hf
        refine z_callVi C (as := [zi (0 : Int32), zi (x3 + (1 : Int32)), zi (s4 r4 0), zi (s4 r4 1)]) d5_taxOf_62 w_428 yy5_given (c5_given x.2.1 g h7) yc5_given ht rfl rfl (Nat.le_of_ble_eq_true rfl) ⟨Nat.le_of_ble_eq_true rfl, Nat.le_of_ble_eq_true rfl⟩ ⟨Nat.zero_le _, Nat.zero_le _⟩ ?_
        refine z_iadd C d5_taxOf_65 ?_
        refine z_istore_n C d5_taxOf_66 (Nat.le_of_ble_eq_true rfl) rfl (L' := [some (zr t), some (zr 83), some (zi (x2 + r7)), some (zi x3), some (zr r4)]) rfl ?_
        refine z_iinc C d5_taxOf_67 rfl kI_1 (Nat.le_of_ble_eq_true rfl) rfl (L' := [some (zr t), some (zr 83), some (zi (x2 + r7)), some (zi (x3 + (1 : Int32))), some (zr r4)]) rfl ?_
        refine z_goto C d5_taxOf_70 ?_
        refine z_drop [true, true, true, true, false] (L' := [some (zr t), some (zr 83), some (zi (x2 + r7)), some (zi (x3 + (1 : Int32))), none]) rfl ?_
        exact hq15 _ _ _ hf
theorem j5_taxOf_15l {x : ZX} {g : ZG} (C : zC x g b5_taxOf R5 (some .int) 5 4 134) {k : Nat} {t : Nat} (ht : zsh t = 6) {r : Int32} {σr : ZS}  : ∀ (n : Nat) (x2 : Int32) (x3 : Int32) (σ : ZS), f5_taxOf_15 k t  n x2 x3 σ = some (r, σr) → zw x g 5 0 0 (zMQ x g (some (zi r)) σr) σ 15 [some (zr t), some (zr 83), some (zi x2), some (zi x3), none] [] := by
  intro n
  induction n with
  | zero => intro x2 x3 σ hf; exact absurd (show none = some (r, σr) from hf) (fun z => by cases z)
  | succ n ih => intro x2 x3 σ hf; exact j5_taxOf_15 C ht  ih (show b5_taxOf_15 k t  (f5_taxOf_15 k t  n) x2 x3 σ = some (r, σr) from hf)
def f5_taxOf (k : Nat) (t : Nat)  (σ : ZS) : Option (Int32 × ZS) :=
  if zsh t = 6 then (
  if (σ 83 4) = 0 then (
  f5_taxOf_15 k t  k (0 : Int32) (0 : Int32) σ)
  else (
  some ((999 : Int32), σ))) else none
theorem c5_taxOf (l : Launch) (g : ZG) {k : Nat} {t : Nat}  {σ : ZS} {r : Int32} {σr : ZS} (hf : f5_taxOf k t  σ = some (r, σr)) : zT l g y5_taxOf b5_taxOf 5 (some .int) 4 134 [zr t, zr 83] σ (some (zi r)) σr := by
  unfold f5_taxOf at hf
  obtain ⟨ht, hf⟩ := zgo hf
  refine zT_start (own := R5) rfl (by decide +kernel) 3 (L := [some (zr t), some (zr 83), none, none, none]) rfl rfl (fun x hl C => ?_)
  subst hl
  refine z_aload_n C d5_taxOf_0 rfl ?_
  refine z_getI C d5_taxOf_1 fl_176 kZ_83 ?_
  refine z_if_eq C d5_taxOf_4 (fun c1 => ?_) (fun c1 => ?_)
  · have hf := zit c1 hf
    refine z_iconst C (0 : Int32) d5_taxOf_11 kI_0 ?_
    refine z_istore_n C d5_taxOf_12 (Nat.le_of_ble_eq_true rfl) rfl (L' := [some (zr t), some (zr 83), some (zi (0 : Int32)), none, none]) rfl ?_
    refine z_iconst C (0 : Int32) d5_taxOf_13 kI_0 ?_
    refine z_istore_n C d5_taxOf_14 (Nat.le_of_ble_eq_true rfl) rfl (L' := [some (zr t), some (zr 83), some (zi (0 : Int32)), some (zi (0 : Int32)), none]) rfl ?_
    exact j5_taxOf_15l C ht  _ _ _ _ hf
  · have hf := zie c1 hf
    refine z_sipush C (999 : Int32) d5_taxOf_7 kS_999 ?_
    exact z_iret C d5_taxOf_10 hf
theorem d5_dueOf_0 : zd b5_dueOf 0 (.aload_n 0) 1 1 := ⟨by decide +kernel, rfl⟩
theorem d5_dueOf_1 : zd b5_dueOf 1 (.iload_n 1) 1 2 := ⟨by decide +kernel, rfl⟩
theorem d5_dueOf_2 : zd b5_dueOf 2 (.invokevirtual 110) 3 5 := ⟨by decide +kernel, rfl⟩
theorem d5_dueOf_5 : zd b5_dueOf 5 (.astore_n 3) 1 6 := ⟨by decide +kernel, rfl⟩
theorem d5_dueOf_6 : zd b5_dueOf 6 (.aload_n 3) 1 7 := ⟨by decide +kernel, rfl⟩
theorem d5_dueOf_7 : zdb b5_dueOf 7 (.ifnonnull 5) 5 10 12 := ⟨by decide +kernel, rfl, by decide⟩
theorem d5_dueOf_10 : zd b5_dueOf 10 (.iconst 0) 1 11 := ⟨by decide +kernel, rfl⟩
theorem d5_dueOf_11 : zd b5_dueOf 11 .ireturn 1 12 := ⟨by decide +kernel, rfl⟩
theorem d5_dueOf_12 : zd b5_dueOf 12 (.aload_n 2) 1 13 := ⟨by decide +kernel, rfl⟩
theorem d5_dueOf_13 : zd b5_dueOf 13 (.aload_n 0) 1 14 := ⟨by decide +kernel, rfl⟩
theorem d5_dueOf_14 : zd b5_dueOf 14 (.aload_n 3) 1 15 := ⟨by decide +kernel, rfl⟩
theorem d5_dueOf_15 : zd b5_dueOf 15 (.getfield 114) 3 18 := ⟨by decide +kernel, rfl⟩
theorem d5_dueOf_18 : zd b5_dueOf 18 (.aload_n 3) 1 19 := ⟨by decide +kernel, rfl⟩
theorem d5_dueOf_19 : zd b5_dueOf 19 (.getfield 115) 3 22 := ⟨by decide +kernel, rfl⟩
theorem d5_dueOf_22 : zd b5_dueOf 22 (.invokevirtual 158) 3 25 := ⟨by decide +kernel, rfl⟩
theorem d5_dueOf_25 : zd b5_dueOf 25 (.aload_n 0) 1 26 := ⟨by decide +kernel, rfl⟩
theorem d5_dueOf_26 : zd b5_dueOf 26 (.iconst 1) 1 27 := ⟨by decide +kernel, rfl⟩
theorem d5_dueOf_27 : zd b5_dueOf 27 (.aload_n 0) 1 28 := ⟨by decide +kernel, rfl⟩
theorem d5_dueOf_28 : zd b5_dueOf 28 (.aload_n 2) 1 29 := ⟨by decide +kernel, rfl⟩
theorem d5_dueOf_29 : zd b5_dueOf 29 (.invokevirtual 162) 3 32 := ⟨by decide +kernel, rfl⟩
theorem d5_dueOf_32 : zd b5_dueOf 32 (.aload_n 0) 1 33 := ⟨by decide +kernel, rfl⟩
theorem d5_dueOf_33 : zd b5_dueOf 33 (.getfield 80) 3 36 := ⟨by decide +kernel, rfl⟩
theorem d5_dueOf_36 : zd b5_dueOf 36 (.bipush 24) 2 38 := ⟨by decide +kernel, rfl⟩
theorem d5_dueOf_38 : zd b5_dueOf 38 .irem 1 39 := ⟨by decide +kernel, rfl⟩
theorem d5_dueOf_39 : zd b5_dueOf 39 (.iload_n 1) 1 40 := ⟨by decide +kernel, rfl⟩
theorem d5_dueOf_40 : zd b5_dueOf 40 (.invokevirtual 154) 3 43 := ⟨by decide +kernel, rfl⟩
theorem d5_dueOf_43 : zd b5_dueOf 43 .ireturn 1 44 := ⟨by decide +kernel, rfl⟩
def f5_dueOf (k : Nat) (t : Nat) (x1 : Int32) (σ : ZS) : Option (Int32 × ZS) :=
  if zsh t = 6 then (
  zbd (f5_personOf k t x1 σ) fun r1 s1 =>
  if r1 = 0 then (
  some ((0 : Int32), s1))
  else (
  if zsh r1 = 3 then (
  zbd (f1_follow k t (s1 r1 0) (s1 r1 1) s1) fun _ s4 =>
  zbd (f5_taxOf k t s4) fun r5 s5 =>
  zbd (f5_given k t (1 : Int32) r5 ((s5 t 10) % (24 : Int32)) x1 s5) fun r6 s6 =>
  some (r6, s6)) else none)) else none
theorem c5_dueOf (l : Launch) (g : ZG) {k : Nat} {t : Nat} {x1 : Int32} {σ : ZS} {r : Int32} {σr : ZS} (hf : f5_dueOf k t x1 σ = some (r, σr)) : zT l g y5_dueOf b5_dueOf 4 (some .int) 5 158 [zr t, zi x1, zr 83] σ (some (zi r)) σr := by
  unfold f5_dueOf at hf
  obtain ⟨ht, hf⟩ := zgo hf
  refine zT_start (own := R5) rfl (by decide +kernel) 1 (L := [some (zr t), some (zi x1), some (zr 83), none]) rfl rfl (fun x hl C => ?_)
  subst hl
  refine z_aload_n C d5_dueOf_0 rfl ?_
  refine z_iload_n C d5_dueOf_1 rfl ?_
  obtain ⟨r1, s1, h1, hf⟩ := zbx hf
  refine z_callVr C (as := [zi x1]) d5_dueOf_2 w_388 yy5_personOf (c5_personOf x.2.1 g h1) yc5_personOf ht rfl rfl (Nat.le_of_ble_eq_true rfl) ⟨Nat.le_of_ble_eq_true rfl, Nat.le_of_ble_eq_true rfl⟩ ⟨Nat.zero_le _, Nat.zero_le _⟩ ?_
  refine z_astore_n C d5_dueOf_5 (Nat.le_of_ble_eq_true rfl) rfl (L' := [some (zr t), some (zi x1), some (zr 83), some (zr r1)]) rfl ?_
  refine z_aload_n C d5_dueOf_6 rfl ?_
  refine z_ifnonnull C d5_dueOf_7 (fun c2 => ?_) (fun c2 => ?_)
  · have hf := zit c2 hf
    refine z_iconst C (0 : Int32) d5_dueOf_10 kI_0 ?_
    exact z_iret C d5_dueOf_11 hf
  · have hf := zie c2 hf
    refine z_aload_n C d5_dueOf_12 rfl ?_
    refine z_aload_n C d5_dueOf_13 rfl ?_
    refine z_aload_n C d5_dueOf_14 rfl ?_
    obtain ⟨g3, hf⟩ := zgo hf
    refine z_getI C d5_dueOf_15 fl_81 g3 ?_
    refine z_aload_n C d5_dueOf_18 rfl ?_
    refine z_getI C d5_dueOf_19 fl_84 g3 ?_
    obtain ⟨r4, s4, h4, hf⟩ := zbx hf
    refine z_callVv C (as := [zr t, zi (s1 r1 0), zi (s1 r1 1)]) d5_dueOf_22 w_401 yy1_follow (c1_follow x.2.1 g h4) yc1_follow kZ_83 rfl rfl (Nat.le_of_ble_eq_true rfl) ⟨Nat.le_of_ble_eq_true rfl, Nat.le_of_ble_eq_true rfl⟩ ⟨Nat.zero_le _, Nat.zero_le _⟩ ?_
    refine z_aload_n C d5_dueOf_25 rfl ?_
    refine z_iconst C (1 : Int32) d5_dueOf_26 kI_1 ?_
    refine z_aload_n C d5_dueOf_27 rfl ?_
    refine z_aload_n C d5_dueOf_28 rfl ?_
    obtain ⟨r5, s5, h5, hf⟩ := zbx hf
    refine z_callVi C (as := [zr 83]) d5_dueOf_29 w_420 yy5_taxOf (c5_taxOf x.2.1 g h5) yc5_taxOf ht rfl rfl (Nat.le_of_ble_eq_true rfl) ⟨Nat.le_of_ble_eq_true rfl, Nat.le_of_ble_eq_true rfl⟩ ⟨Nat.zero_le _, Nat.zero_le _⟩ ?_
    refine z_aload_n C d5_dueOf_32 rfl ?_
    refine z_getI C d5_dueOf_33 fl_133 ht ?_
    refine z_bipush C (24 : Int32) d5_dueOf_36 kB_24 ?_
    refine z_irem C d5_dueOf_38 (by decide) ?_
    refine z_iload_n C d5_dueOf_39 rfl ?_
    obtain ⟨r6, s6, h6, hf⟩ := zbx hf
    refine z_callVi C (as := [zi (1 : Int32), zi r5, zi ((s5 t 10) % (24 : Int32)), zi x1]) d5_dueOf_40 w_428 yy5_given (c5_given x.2.1 g h6) yc5_given ht rfl rfl (Nat.le_of_ble_eq_true rfl) ⟨Nat.le_of_ble_eq_true rfl, Nat.le_of_ble_eq_true rfl⟩ ⟨Nat.zero_le _, Nat.zero_le _⟩ ?_
    exact z_iret C d5_dueOf_43 hf
theorem d5_passHour_0 : zd b5_passHour 0 (.iconst 0) 1 1 := ⟨by decide +kernel, rfl⟩
theorem d5_passHour_1 : zd b5_passHour 1 (.istore_n 2) 1 2 := ⟨by decide +kernel, rfl⟩
theorem d5_passHour_2 : zd b5_passHour 2 (.iload_n 2) 1 3 := ⟨by decide +kernel, rfl⟩
theorem d5_passHour_3 : zd b5_passHour 3 (.aload_n 0) 1 4 := ⟨by decide +kernel, rfl⟩
theorem d5_passHour_4 : zd b5_passHour 4 (.getfield 71) 3 7 := ⟨by decide +kernel, rfl⟩
theorem d5_passHour_7 : zdb b5_passHour 7 (.if_icmp .ge 44) 44 10 51 := ⟨by decide +kernel, rfl, by decide⟩
theorem d5_passHour_10 : zd b5_passHour 10 (.aload_n 0) 1 11 := ⟨by decide +kernel, rfl⟩
theorem d5_passHour_11 : zd b5_passHour 11 (.iload_n 2) 1 12 := ⟨by decide +kernel, rfl⟩
theorem d5_passHour_12 : zd b5_passHour 12 (.invokevirtual 110) 3 15 := ⟨by decide +kernel, rfl⟩
theorem d5_passHour_15 : zd b5_passHour 15 (.astore_n 3) 1 16 := ⟨by decide +kernel, rfl⟩
theorem d5_passHour_16 : zd b5_passHour 16 (.aload_n 3) 1 17 := ⟨by decide +kernel, rfl⟩
theorem d5_passHour_17 : zdb b5_passHour 17 (.ifnull 28) 28 20 45 := ⟨by decide +kernel, rfl, by decide⟩
theorem d5_passHour_20 : zd b5_passHour 20 (.aload_n 3) 1 21 := ⟨by decide +kernel, rfl⟩
theorem d5_passHour_21 : zd b5_passHour 21 (.ldc 166) 2 23 := ⟨by decide +kernel, rfl⟩
theorem d5_passHour_23 : zd b5_passHour 23 (.aload_n 3) 1 24 := ⟨by decide +kernel, rfl⟩
theorem d5_passHour_24 : zd b5_passHour 24 (.getfield 118) 3 27 := ⟨by decide +kernel, rfl⟩
theorem d5_passHour_27 : zd b5_passHour 27 (.aload_n 0) 1 28 := ⟨by decide +kernel, rfl⟩
theorem d5_passHour_28 : zd b5_passHour 28 (.iload_n 2) 1 29 := ⟨by decide +kernel, rfl⟩
theorem d5_passHour_29 : zd b5_passHour 29 (.aload_n 1) 1 30 := ⟨by decide +kernel, rfl⟩
theorem d5_passHour_30 : zd b5_passHour 30 (.invokevirtual 167) 3 33 := ⟨by decide +kernel, rfl⟩
theorem d5_passHour_33 : zd b5_passHour 33 .iadd 1 34 := ⟨by decide +kernel, rfl⟩
theorem d5_passHour_34 : zd b5_passHour 34 (.invokestatic 133) 3 37 := ⟨by decide +kernel, rfl⟩
theorem d5_passHour_37 : zd b5_passHour 37 (.putfield 118) 3 40 := ⟨by decide +kernel, rfl⟩
theorem d5_passHour_40 : zd b5_passHour 40 (.aload_n 0) 1 41 := ⟨by decide +kernel, rfl⟩
theorem d5_passHour_41 : zd b5_passHour 41 (.aload_n 1) 1 42 := ⟨by decide +kernel, rfl⟩
theorem d5_passHour_42 : zd b5_passHour 42 (.invokevirtual 171) 3 45 := ⟨by decide +kernel, rfl⟩
theorem d5_passHour_45 : zd b5_passHour 45 (.iinc 2 1) 3 48 := ⟨by decide +kernel, rfl⟩
theorem d5_passHour_48 : zdb b5_passHour 48 (.goto (-46)) (-46) 51 2 := ⟨by decide +kernel, rfl, by decide⟩
theorem d5_passHour_51 : zd b5_passHour 51 (.aload_n 0) 1 52 := ⟨by decide +kernel, rfl⟩
theorem d5_passHour_52 : zd b5_passHour 52 .dup 1 53 := ⟨by decide +kernel, rfl⟩
theorem d5_passHour_53 : zd b5_passHour 53 (.getfield 80) 3 56 := ⟨by decide +kernel, rfl⟩
theorem d5_passHour_56 : zd b5_passHour 56 (.iconst 1) 1 57 := ⟨by decide +kernel, rfl⟩
theorem d5_passHour_57 : zd b5_passHour 57 .iadd 1 58 := ⟨by decide +kernel, rfl⟩
theorem d5_passHour_58 : zd b5_passHour 58 (.putfield 80) 3 61 := ⟨by decide +kernel, rfl⟩
theorem d5_passHour_61 : zd b5_passHour 61 .return_ 1 62 := ⟨by decide +kernel, rfl⟩
def b5_passHour_2 (k : Nat) (t : Nat) (q2 : Int32 → ZS → Option (Unit × ZS)) (x2 : Int32) (σ : ZS) : Option (Unit × ZS) :=
  if (σ t 7) ≤ x2 then (
  zput (zu σ t 10 ((σ t 10) + (1 : Int32))) fun s2 =>
  some ((), s2))
  else (
  zbd (f5_personOf k t x2 σ) fun r3 s3 =>
  if r3 = 0 then (
  q2 (x2 + (1 : Int32)) s3)
  else (
  if zsh r3 = 3 then (
  zbd (f5_dueOf k t x2 s3) fun r6 s6 =>
  zput (zu s6 r3 2 (if ((s3 r3 2) + r6) < (99999 : Int32) then ((s3 r3 2) + r6) else (99999 : Int32))) fun s7 =>
  zbd (f5_countMeetings k t s7) fun _ s8 =>
  q2 (x2 + (1 : Int32)) s8) else none))
def f5_passHour_2 (k : Nat) (t : Nat) : Nat → Int32 → ZS → Option (Unit × ZS)
  | 0 => fun _ _ => none
  | n + 1 => b5_passHour_2 k t  (f5_passHour_2 k t  n)
theorem j5_passHour_2 {x : ZX} {g : ZG} (C : zC x g b5_passHour R5 none 4 6 181) {k : Nat} {t : Nat} (ht : zsh t = 6) {r : Unit} {σr : ZS}  {q2 : Int32 → ZS → Option (Unit × ZS)} (hq2 : (∀ (x2 : Int32) (σ : ZS), q2 x2 σ = some (r, σr) → zw x g 4 0 0 (zMQ x g none σr) σ 2 [some (zr t), some (zr 83), some (zi x2), none] [])) {x2 : Int32} {σ : ZS} (hf : b5_passHour_2 k t q2 x2 σ = some (r, σr)) : zw x g 4 0 0 (zMQ x g none σr) σ 2 [some (zr t), some (zr 83), some (zi x2), none] [] := by
  unfold b5_passHour_2 at hf
  refine z_iload_n C d5_passHour_2 rfl ?_
  refine z_aload_n C d5_passHour_3 rfl ?_
  refine z_getI C d5_passHour_4 fl_127 ht ?_
  refine z_icmp_ge C d5_passHour_7 (fun c1 => ?_) (fun c1 => ?_)
  · have hf := zit c1 hf
    refine z_aload_n C d5_passHour_51 rfl ?_
    refine z_dup C d5_passHour_52 rfl ?_
    refine z_getI C d5_passHour_53 fl_133 ht ?_
    refine z_iconst C (1 : Int32) d5_passHour_56 kI_1 ?_
    refine z_iadd C d5_passHour_57 ?_
    obtain ⟨s2, e2, hf⟩ := zpx hf
    refine z_putI C d5_passHour_58 fl_133 ft_5_10 ht e2 ?_
    exact z_vret C d5_passHour_61 hf
  · have hf := zie c1 hf
    refine z_aload_n C d5_passHour_10 rfl ?_
    refine z_iload_n C d5_passHour_11 rfl ?_
    obtain ⟨r3, s3, h3, hf⟩ := zbx hf
    refine z_callVr C (as := [zi x2]) d5_passHour_12 w_388 yy5_personOf (c5_personOf x.2.1 g h3) yc5_personOf ht rfl rfl (Nat.le_of_ble_eq_true rfl) ⟨Nat.le_of_ble_eq_true rfl, Nat.le_of_ble_eq_true rfl⟩ ⟨Nat.zero_le _, Nat.zero_le _⟩ ?_
    refine z_astore_n C d5_passHour_15 (Nat.le_of_ble_eq_true rfl) rfl (L' := [some (zr t), some (zr 83), some (zi x2), some (zr r3)]) rfl ?_
    refine z_aload_n C d5_passHour_16 rfl ?_
    refine z_ifnull C d5_passHour_17 (fun c4 => ?_) (fun c4 => ?_)
    · have hf := zit c4 hf
      refine z_iinc C d5_passHour_45 rfl kI_1 (Nat.le_of_ble_eq_true rfl) rfl (L' := [some (zr t), some (zr 83), some (zi (x2 + (1 : Int32))), some (zr r3)]) rfl ?_
      refine z_goto C d5_passHour_48 ?_
      refine z_drop [true, true, true, false] (L' := [some (zr t), some (zr 83), some (zi (x2 + (1 : Int32))), none]) rfl ?_
      exact hq2 _ _ hf
    · have hf := zie c4 hf
      refine z_aload_n C d5_passHour_20 rfl ?_
      refine z_ldc C (99999 : Int32) d5_passHour_21 w_588 ?_
      refine z_aload_n C d5_passHour_23 rfl ?_
      obtain ⟨g5, hf⟩ := zgo hf
      refine z_getI C d5_passHour_24 fl_87 g5 ?_
      refine z_aload_n C d5_passHour_27 rfl ?_
      refine z_iload_n C d5_passHour_28 rfl ?_
      refine z_aload_n C d5_passHour_29 rfl ?_
      obtain ⟨r6, s6, h6, hf⟩ := zbx hf
      refine z_callVi C (as := [zi x2, zr 83]) d5_passHour_30 w_589 yy5_dueOf (c5_dueOf x.2.1 g h6) yc5_dueOf ht rfl rfl (Nat.le_of_ble_eq_true rfl) ⟨Nat.le_of_ble_eq_true rfl, Nat.le_of_ble_eq_true rfl⟩ ⟨Nat.zero_le _, Nat.zero_le _⟩ ?_
      refine z_iadd C d5_passHour_33 ?_
      refine z_min C d5_passHour_34 w_443 (Nat.le_of_ble_eq_true rfl) ⟨Nat.le_of_ble_eq_true rfl, Nat.le_of_ble_eq_true rfl⟩ ⟨Nat.zero_le _, Nat.zero_le _⟩ zminw ?_
      obtain ⟨s7, e7, hf⟩ := zpx hf
      refine z_putI C d5_passHour_37 fl_87 ft_2_2 g5 e7 ?_
      refine z_aload_n C d5_passHour_40 rfl ?_
      refine z_aload_n C d5_passHour_41 rfl ?_
      obtain ⟨r8, s8, h8, hf⟩ := zbx hf
      refine z_callVv C (as := [zr 83]) d5_passHour_42 w_590 yy5_countMeetings (c5_countMeetings x.2.1 g h8) yc5_countMeetings ht rfl rfl (Nat.le_of_ble_eq_true rfl) ⟨Nat.le_of_ble_eq_true rfl, Nat.le_of_ble_eq_true rfl⟩ ⟨Nat.zero_le _, Nat.zero_le _⟩ ?_
      refine z_iinc C d5_passHour_45 rfl kI_1 (Nat.le_of_ble_eq_true rfl) rfl (L' := [some (zr t), some (zr 83), some (zi (x2 + (1 : Int32))), some (zr r3)]) rfl ?_
      refine z_goto C d5_passHour_48 ?_
      refine z_drop [true, true, true, false] (L' := [some (zr t), some (zr 83), some (zi (x2 + (1 : Int32))), none]) rfl ?_
      exact hq2 _ _ hf
theorem j5_passHour_2l {x : ZX} {g : ZG} (C : zC x g b5_passHour R5 none 4 6 181) {k : Nat} {t : Nat} (ht : zsh t = 6) {r : Unit} {σr : ZS}  : ∀ (n : Nat) (x2 : Int32) (σ : ZS), f5_passHour_2 k t  n x2 σ = some (r, σr) → zw x g 4 0 0 (zMQ x g none σr) σ 2 [some (zr t), some (zr 83), some (zi x2), none] [] := by
  intro n
  induction n with
  | zero => intro x2 σ hf; exact absurd (show none = some (r, σr) from hf) (fun z => by cases z)
  | succ n ih => intro x2 σ hf; exact j5_passHour_2 C ht  ih (show b5_passHour_2 k t  (f5_passHour_2 k t  n) x2 σ = some (r, σr) from hf)
def f5_passHour (k : Nat) (t : Nat)  (σ : ZS) : Option (Unit × ZS) :=
  if zsh t = 6 then (
  f5_passHour_2 k t  k (0 : Int32) σ) else none
theorem c5_passHour (l : Launch) (g : ZG) {k : Nat} {t : Nat}  {σ : ZS} {r : Unit} {σr : ZS} (hf : f5_passHour k t  σ = some (r, σr)) : zT l g y5_passHour b5_passHour 4 none 6 181 [zr t, zr 83] σ none σr := by
  unfold f5_passHour at hf
  obtain ⟨ht, hf⟩ := zgo hf
  refine zT_start (own := R5) rfl (by decide +kernel) 2 (L := [some (zr t), some (zr 83), none, none]) rfl rfl (fun x hl C => ?_)
  subst hl
  refine z_iconst C (0 : Int32) d5_passHour_0 kI_0 ?_
  refine z_istore_n C d5_passHour_1 (Nat.le_of_ble_eq_true rfl) rfl (L' := [some (zr t), some (zr 83), some (zi (0 : Int32)), none]) rfl ?_
  exact j5_passHour_2l C ht  _ _ _ hf
theorem d8_hours_0 : zd b8_hours 0 (.iload_n 1) 1 1 := ⟨by decide +kernel, rfl⟩
theorem d8_hours_1 : zd b8_hours 1 (.iconst 1) 1 2 := ⟨by decide +kernel, rfl⟩
theorem d8_hours_2 : zdb b8_hours 2 (.if_icmp .lt 9) 9 5 11 := ⟨by decide +kernel, rfl, by decide⟩
theorem d8_hours_5 : zd b8_hours 5 (.iload_n 1) 1 6 := ⟨by decide +kernel, rfl⟩
theorem d8_hours_6 : zd b8_hours 6 (.bipush 48) 2 8 := ⟨by decide +kernel, rfl⟩
theorem d8_hours_8 : zdb b8_hours 8 (.if_icmp .le 9) 9 11 17 := ⟨by decide +kernel, rfl, by decide⟩
theorem d8_hours_11 : zd b8_hours 11 (.aload_n 0) 1 12 := ⟨by decide +kernel, rfl⟩
theorem d8_hours_12 : zd b8_hours 12 (.iconst 1) 1 13 := ⟨by decide +kernel, rfl⟩
theorem d8_hours_13 : zd b8_hours 13 (.invokevirtual 67) 3 16 := ⟨by decide +kernel, rfl⟩
theorem d8_hours_16 : zd b8_hours 16 .ireturn 1 17 := ⟨by decide +kernel, rfl⟩
theorem d8_hours_17 : zd b8_hours 17 (.aload_n 0) 1 18 := ⟨by decide +kernel, rfl⟩
theorem d8_hours_18 : zd b8_hours 18 (.getfield 10) 3 21 := ⟨by decide +kernel, rfl⟩
theorem d8_hours_21 : zd b8_hours 21 (.getfield 151) 3 24 := ⟨by decide +kernel, rfl⟩
theorem d8_hours_24 : zd b8_hours 24 (.iload_n 1) 1 25 := ⟨by decide +kernel, rfl⟩
theorem d8_hours_25 : zd b8_hours 25 .iadd 1 26 := ⟨by decide +kernel, rfl⟩
theorem d8_hours_26 : zd b8_hours 26 (.sipush 9999) 3 29 := ⟨by decide +kernel, rfl⟩
theorem d8_hours_29 : zdb b8_hours 29 (.if_icmp .le 9) 9 32 38 := ⟨by decide +kernel, rfl, by decide⟩
theorem d8_hours_32 : zd b8_hours 32 (.aload_n 0) 1 33 := ⟨by decide +kernel, rfl⟩
theorem d8_hours_33 : zd b8_hours 33 (.iconst 3) 1 34 := ⟨by decide +kernel, rfl⟩
theorem d8_hours_34 : zd b8_hours 34 (.invokevirtual 67) 3 37 := ⟨by decide +kernel, rfl⟩
theorem d8_hours_37 : zd b8_hours 37 .ireturn 1 38 := ⟨by decide +kernel, rfl⟩
theorem d8_hours_38 : zd b8_hours 38 (.iconst 0) 1 39 := ⟨by decide +kernel, rfl⟩
theorem d8_hours_39 : zd b8_hours 39 (.istore_n 2) 1 40 := ⟨by decide +kernel, rfl⟩
theorem d8_hours_40 : zd b8_hours 40 (.iload_n 2) 1 41 := ⟨by decide +kernel, rfl⟩
theorem d8_hours_41 : zd b8_hours 41 (.iload_n 1) 1 42 := ⟨by decide +kernel, rfl⟩
theorem d8_hours_42 : zdb b8_hours 42 (.if_icmp .ge 20) 20 45 62 := ⟨by decide +kernel, rfl, by decide⟩
theorem d8_hours_45 : zd b8_hours 45 (.aload_n 0) 1 46 := ⟨by decide +kernel, rfl⟩
theorem d8_hours_46 : zd b8_hours 46 (.getfield 10) 3 49 := ⟨by decide +kernel, rfl⟩
theorem d8_hours_49 : zd b8_hours 49 (.aload_n 0) 1 50 := ⟨by decide +kernel, rfl⟩
theorem d8_hours_50 : zd b8_hours 50 (.getfield 25) 3 53 := ⟨by decide +kernel, rfl⟩
theorem d8_hours_53 : zd b8_hours 53 (.invokevirtual 190) 3 56 := ⟨by decide +kernel, rfl⟩
theorem d8_hours_56 : zd b8_hours 56 (.iinc 2 1) 3 59 := ⟨by decide +kernel, rfl⟩
theorem d8_hours_59 : zdb b8_hours 59 (.goto (-19)) (-19) 62 40 := ⟨by decide +kernel, rfl, by decide⟩
theorem d8_hours_62 : zd b8_hours 62 (.aload_n 0) 1 63 := ⟨by decide +kernel, rfl⟩
theorem d8_hours_63 : zd b8_hours 63 (.getfield 10) 3 66 := ⟨by decide +kernel, rfl⟩
theorem d8_hours_66 : zd b8_hours 66 (.getfield 151) 3 69 := ⟨by decide +kernel, rfl⟩
theorem d8_hours_69 : zd b8_hours 69 .ireturn 1 70 := ⟨by decide +kernel, rfl⟩
def b8_hours_40 (k : Nat) (q40 : Int32 → Int32 → ZS → Option (Int32 × ZS)) (x1 : Int32) (x2 : Int32) (σ : ZS) : Option (Int32 × ZS) :=
  if x1 ≤ x2 then (
  some ((σ 2 10), σ))
  else (
  zbd (f5_passHour k 2 σ) fun _ s2 =>
  q40 x1 (x2 + (1 : Int32)) s2)
def f8_hours_40 (k : Nat) : Nat → Int32 → Int32 → ZS → Option (Int32 × ZS)
  | 0 => fun _ _ _ => none
  | n + 1 => b8_hours_40 k  (f8_hours_40 k  n)
theorem j8_hours_40 {x : ZX} {g : ZG} (C : zC x g b8_hours R8 (some .int) 3 7 204) {k : Nat} {r : Int32} {σr : ZS}  {q40 : Int32 → Int32 → ZS → Option (Int32 × ZS)} (hq40 : (∀ (x1 : Int32) (x2 : Int32) (σ : ZS), q40 x1 x2 σ = some (r, σr) → zw x g 3 0 0 (zMQ x g (some (zi r)) σr) σ 40 [some (zr 1), some (zi x1), some (zi x2)] [])) {x1 : Int32} {x2 : Int32} {σ : ZS} (hf : b8_hours_40 k q40 x1 x2 σ = some (r, σr)) : zw x g 3 0 0 (zMQ x g (some (zi r)) σr) σ 40 [some (zr 1), some (zi x1), some (zi x2)] [] := by
  unfold b8_hours_40 at hf
  refine z_iload_n C d8_hours_40 rfl ?_
  refine z_iload_n C d8_hours_41 rfl ?_
  refine z_icmp_ge C d8_hours_42 (fun c1 => ?_) (fun c1 => ?_)
  · have hf := zit c1 hf
    refine z_aload_n C d8_hours_62 rfl ?_
    refine z_getR C d8_hours_63 fl_261 kZ_1 2 rfl (zn0 kZ_2) ?_
    refine z_getI C d8_hours_66 fl_134 kZ_2 ?_
    exact z_iret C d8_hours_69 hf
  · have hf := zie c1 hf
    refine z_aload_n C d8_hours_45 rfl ?_
    refine z_getR C d8_hours_46 fl_261 kZ_1 2 rfl (zn0 kZ_2) ?_
    refine z_aload_n C d8_hours_49 rfl ?_
    refine z_getR C d8_hours_50 fl_264 kZ_1 83 rfl (zn0 kZ_83) ?_
    obtain ⟨r2, s2, h2, hf⟩ := zbx hf
    refine z_callVv C (as := [zr 83]) d8_hours_53 w_584 yy5_passHour (c5_passHour x.2.1 g h2) yc5_passHour kZ_2 rfl rfl (Nat.le_of_ble_eq_true rfl) ⟨Nat.le_of_ble_eq_true rfl, Nat.le_of_ble_eq_true rfl⟩ ⟨Nat.zero_le _, Nat.zero_le _⟩ ?_
    refine z_iinc C d8_hours_56 rfl kI_1 (Nat.le_of_ble_eq_true rfl) rfl (L' := [some (zr 1), some (zi x1), some (zi (x2 + (1 : Int32)))]) rfl ?_
    refine z_goto C d8_hours_59 ?_
    exact hq40 _ _ _ hf
theorem j8_hours_40l {x : ZX} {g : ZG} (C : zC x g b8_hours R8 (some .int) 3 7 204) {k : Nat} {r : Int32} {σr : ZS}  : ∀ (n : Nat) (x1 : Int32) (x2 : Int32) (σ : ZS), f8_hours_40 k  n x1 x2 σ = some (r, σr) → zw x g 3 0 0 (zMQ x g (some (zi r)) σr) σ 40 [some (zr 1), some (zi x1), some (zi x2)] [] := by
  intro n
  induction n with
  | zero => intro x1 x2 σ hf; exact absurd (show none = some (r, σr) from hf) (fun z => by cases z)
  | succ n ih => intro x1 x2 σ hf; exact j8_hours_40 C  ih (show b8_hours_40 k  (f8_hours_40 k  n) x1 x2 σ = some (r, σr) from hf)
def f8_hours (k : Nat) (x1 : Int32) (σ : ZS) : Option (Int32 × ZS) :=
  if x1 < (1 : Int32) then (
  zbd (f8_error k (1 : Int32) σ) fun r2 s2 =>
  some (r2, s2))
  else (
  if x1 ≤ (48 : Int32) then (
  if ((σ 2 10) + x1) ≤ (9999 : Int32) then (
  f8_hours_40 k  k x1 (0 : Int32) σ)
  else (
  zbd (f8_error k (3 : Int32) σ) fun r5 s5 =>
  some (r5, s5)))
  else (
  zbd (f8_error k (1 : Int32) σ) fun r6 s6 =>
  some (r6, s6)))
theorem c8_hours (l : Launch) (g : ZG) {k : Nat} {x1 : Int32} {σ : ZS} {r : Int32} {σr : ZS} (hf : f8_hours k x1 σ = some (r, σr)) : zT l g y8_hours b8_hours 3 (some .int) 7 204 [zr 1, zi x1] σ (some (zi r)) σr := by
  unfold f8_hours at hf
  refine zT_start (own := R8) rfl (by decide +kernel) 1 (L := [some (zr 1), some (zi x1), none]) rfl rfl (fun x hl C => ?_)
  subst hl
  refine z_iload_n C d8_hours_0 rfl ?_
  refine z_iconst C (1 : Int32) d8_hours_1 kI_1 ?_
  refine z_icmp_lt C d8_hours_2 (fun c1 => ?_) (fun c1 => ?_)
  · have hf := zit c1 hf
    refine z_aload_n C d8_hours_11 rfl ?_
    refine z_iconst C (1 : Int32) d8_hours_12 kI_1 ?_
    obtain ⟨r2, s2, h2, hf⟩ := zbx hf
    refine z_callVi C (as := [zi (1 : Int32)]) d8_hours_13 w_308 yy8_error (c8_error x.2.1 g h2) yc8_error kZ_1 rfl rfl (Nat.le_of_ble_eq_true rfl) ⟨Nat.le_of_ble_eq_true rfl, Nat.le_of_ble_eq_true rfl⟩ ⟨Nat.zero_le _, Nat.zero_le _⟩ ?_
    exact z_iret C d8_hours_16 hf
  · have hf := zie c1 hf
    refine z_iload_n C d8_hours_5 rfl ?_
    refine z_bipush C (48 : Int32) d8_hours_6 kB_48 ?_
    refine z_icmp_le C d8_hours_8 (fun c3 => ?_) (fun c3 => ?_)
    · have hf := zit c3 hf
      refine z_aload_n C d8_hours_17 rfl ?_
      refine z_getR C d8_hours_18 fl_261 kZ_1 2 rfl (zn0 kZ_2) ?_
      refine z_getI C d8_hours_21 fl_134 kZ_2 ?_
      refine z_iload_n C d8_hours_24 rfl ?_
      refine z_iadd C d8_hours_25 ?_
      refine z_sipush C (9999 : Int32) d8_hours_26 kS_9999 ?_
      refine z_icmp_le C d8_hours_29 (fun c4 => ?_) (fun c4 => ?_)
      · have hf := zit c4 hf
        refine z_iconst C (0 : Int32) d8_hours_38 kI_0 ?_
        refine z_istore_n C d8_hours_39 (Nat.le_of_ble_eq_true rfl) rfl (L' := [some (zr 1), some (zi x1), some (zi (0 : Int32))]) rfl ?_
        exact j8_hours_40l C  _ _ _ _ hf
      · have hf := zie c4 hf
        refine z_aload_n C d8_hours_32 rfl ?_
        refine z_iconst C (3 : Int32) d8_hours_33 kI_3 ?_
        obtain ⟨r5, s5, h5, hf⟩ := zbx hf
        refine z_callVi C (as := [zi (3 : Int32)]) d8_hours_34 w_308 yy8_error (c8_error x.2.1 g h5) yc8_error kZ_1 rfl rfl (Nat.le_of_ble_eq_true rfl) ⟨Nat.le_of_ble_eq_true rfl, Nat.le_of_ble_eq_true rfl⟩ ⟨Nat.zero_le _, Nat.zero_le _⟩ ?_
        exact z_iret C d8_hours_37 hf
    · have hf := zie c3 hf
      refine z_aload_n C d8_hours_11 rfl ?_
      refine z_iconst C (1 : Int32) d8_hours_12 kI_1 ?_
      obtain ⟨r6, s6, h6, hf⟩ := zbx hf
      refine z_callVi C (as := [zi (1 : Int32)]) d8_hours_13 w_308 yy8_error (c8_error x.2.1 g h6) yc8_error kZ_1 rfl rfl (Nat.le_of_ble_eq_true rfl) ⟨Nat.le_of_ble_eq_true rfl, Nat.le_of_ble_eq_true rfl⟩ ⟨Nat.zero_le _, Nat.zero_le _⟩ ?_
      exact z_iret C d8_hours_16 hf
theorem d0_copyFrom_0 : zd b0_copyFrom 0 (.aload_n 0) 1 1 := ⟨by decide +kernel, rfl⟩
theorem d0_copyFrom_1 : zd b0_copyFrom 1 (.aload_n 1) 1 2 := ⟨by decide +kernel, rfl⟩
theorem d0_copyFrom_2 : zd b0_copyFrom 2 (.getfield 9) 3 5 := ⟨by decide +kernel, rfl⟩
theorem d0_copyFrom_5 : zd b0_copyFrom 5 (.putfield 9) 3 8 := ⟨by decide +kernel, rfl⟩
theorem d0_copyFrom_8 : zd b0_copyFrom 8 (.aload_n 0) 1 9 := ⟨by decide +kernel, rfl⟩
theorem d0_copyFrom_9 : zd b0_copyFrom 9 (.aload_n 1) 1 10 := ⟨by decide +kernel, rfl⟩
theorem d0_copyFrom_10 : zd b0_copyFrom 10 (.getfield 15) 3 13 := ⟨by decide +kernel, rfl⟩
theorem d0_copyFrom_13 : zd b0_copyFrom 13 (.putfield 15) 3 16 := ⟨by decide +kernel, rfl⟩
theorem d0_copyFrom_16 : zd b0_copyFrom 16 (.aload_n 0) 1 17 := ⟨by decide +kernel, rfl⟩
theorem d0_copyFrom_17 : zd b0_copyFrom 17 (.aload_n 1) 1 18 := ⟨by decide +kernel, rfl⟩
theorem d0_copyFrom_18 : zd b0_copyFrom 18 (.getfield 18) 3 21 := ⟨by decide +kernel, rfl⟩
theorem d0_copyFrom_21 : zd b0_copyFrom 21 (.putfield 18) 3 24 := ⟨by decide +kernel, rfl⟩
theorem d0_copyFrom_24 : zd b0_copyFrom 24 (.aload_n 0) 1 25 := ⟨by decide +kernel, rfl⟩
theorem d0_copyFrom_25 : zd b0_copyFrom 25 (.aload_n 1) 1 26 := ⟨by decide +kernel, rfl⟩
theorem d0_copyFrom_26 : zd b0_copyFrom 26 (.getfield 21) 3 29 := ⟨by decide +kernel, rfl⟩
theorem d0_copyFrom_29 : zd b0_copyFrom 29 (.putfield 21) 3 32 := ⟨by decide +kernel, rfl⟩
theorem d0_copyFrom_32 : zd b0_copyFrom 32 (.aload_n 0) 1 33 := ⟨by decide +kernel, rfl⟩
theorem d0_copyFrom_33 : zd b0_copyFrom 33 (.aload_n 1) 1 34 := ⟨by decide +kernel, rfl⟩
theorem d0_copyFrom_34 : zd b0_copyFrom 34 (.getfield 24) 3 37 := ⟨by decide +kernel, rfl⟩
theorem d0_copyFrom_37 : zd b0_copyFrom 37 (.putfield 24) 3 40 := ⟨by decide +kernel, rfl⟩
theorem d0_copyFrom_40 : zd b0_copyFrom 40 .return_ 1 41 := ⟨by decide +kernel, rfl⟩
def f0_copyFrom (k : Nat) (t : Nat) (x1 : Nat) (σ : ZS) : Option (Unit × ZS) :=
  if zsh t = 1 then (
  if zsh x1 = 1 then (
  zput (zu σ t 0 (σ x1 0)) fun s2 =>
  zput (zu s2 t 1 (s2 x1 1)) fun s3 =>
  zput (zu s3 t 2 (s3 x1 2)) fun s4 =>
  zput (zu s4 t 3 (s4 x1 3)) fun s5 =>
  zput (zu s5 t 4 (s5 x1 4)) fun s6 =>
  some ((), s6)) else none) else none
theorem c0_copyFrom (l : Launch) (g : ZG) {k : Nat} {t : Nat} {x1 : Nat} {σ : ZS} {r : Unit} {σr : ZS} (hf : f0_copyFrom k t x1 σ = some (r, σr)) : zT l g y0_copyFrom b0_copyFrom 2 none 1 60 [zr t, zr x1] σ none σr := by
  unfold f0_copyFrom at hf
  obtain ⟨ht, hf⟩ := zgo hf
  refine zT_start (own := R0) rfl (by decide +kernel) 0 (L := [some (zr t), some (zr x1)]) rfl rfl (fun x hl C => ?_)
  subst hl
  refine z_aload_n C d0_copyFrom_0 rfl ?_
  refine z_aload_n C d0_copyFrom_1 rfl ?_
  obtain ⟨g1, hf⟩ := zgo hf
  refine z_getI C d0_copyFrom_2 fl_46 g1 ?_
  obtain ⟨s2, e2, hf⟩ := zpx hf
  refine z_putI C d0_copyFrom_5 fl_46 ft_0_0 ht e2 ?_
  refine z_aload_n C d0_copyFrom_8 rfl ?_
  refine z_aload_n C d0_copyFrom_9 rfl ?_
  refine z_getI C d0_copyFrom_10 fl_50 g1 ?_
  obtain ⟨s3, e3, hf⟩ := zpx hf
  refine z_putI C d0_copyFrom_13 fl_50 ft_0_1 ht e3 ?_
  refine z_aload_n C d0_copyFrom_16 rfl ?_
  refine z_aload_n C d0_copyFrom_17 rfl ?_
  refine z_getI C d0_copyFrom_18 fl_54 g1 ?_
  obtain ⟨s4, e4, hf⟩ := zpx hf
  refine z_putI C d0_copyFrom_21 fl_54 ft_0_2 ht e4 ?_
  refine z_aload_n C d0_copyFrom_24 rfl ?_
  refine z_aload_n C d0_copyFrom_25 rfl ?_
  refine z_getI C d0_copyFrom_26 fl_57 g1 ?_
  obtain ⟨s5, e5, hf⟩ := zpx hf
  refine z_putI C d0_copyFrom_29 fl_57 ft_0_3 ht e5 ?_
  refine z_aload_n C d0_copyFrom_32 rfl ?_
  refine z_aload_n C d0_copyFrom_33 rfl ?_
  refine z_getI C d0_copyFrom_34 fl_60 g1 ?_
  obtain ⟨s6, e6, hf⟩ := zpx hf
  refine z_putI C d0_copyFrom_37 fl_60 ft_0_4 ht e6 ?_
  exact z_vret C d0_copyFrom_40 hf
theorem d2_copyFrom_0 : zd b2_copyFrom 0 (.aload_n 0) 1 1 := ⟨by decide +kernel, rfl⟩
theorem d2_copyFrom_1 : zd b2_copyFrom 1 (.aload_n 1) 1 2 := ⟨by decide +kernel, rfl⟩
theorem d2_copyFrom_2 : zd b2_copyFrom 2 (.getfield 7) 3 5 := ⟨by decide +kernel, rfl⟩
theorem d2_copyFrom_5 : zd b2_copyFrom 5 (.putfield 7) 3 8 := ⟨by decide +kernel, rfl⟩
theorem d2_copyFrom_8 : zd b2_copyFrom 8 (.aload_n 0) 1 9 := ⟨by decide +kernel, rfl⟩
theorem d2_copyFrom_9 : zd b2_copyFrom 9 (.aload_n 1) 1 10 := ⟨by decide +kernel, rfl⟩
theorem d2_copyFrom_10 : zd b2_copyFrom 10 (.getfield 13) 3 13 := ⟨by decide +kernel, rfl⟩
theorem d2_copyFrom_13 : zd b2_copyFrom 13 (.putfield 13) 3 16 := ⟨by decide +kernel, rfl⟩
theorem d2_copyFrom_16 : zd b2_copyFrom 16 (.aload_n 0) 1 17 := ⟨by decide +kernel, rfl⟩
theorem d2_copyFrom_17 : zd b2_copyFrom 17 (.aload_n 1) 1 18 := ⟨by decide +kernel, rfl⟩
theorem d2_copyFrom_18 : zd b2_copyFrom 18 (.getfield 16) 3 21 := ⟨by decide +kernel, rfl⟩
theorem d2_copyFrom_21 : zd b2_copyFrom 21 (.putfield 16) 3 24 := ⟨by decide +kernel, rfl⟩
theorem d2_copyFrom_24 : zd b2_copyFrom 24 .return_ 1 25 := ⟨by decide +kernel, rfl⟩
def f2_copyFrom (k : Nat) (t : Nat) (x1 : Nat) (σ : ZS) : Option (Unit × ZS) :=
  if zsh t = 3 then (
  if zsh x1 = 3 then (
  zput (zu σ t 0 (σ x1 0)) fun s2 =>
  zput (zu s2 t 1 (s2 x1 1)) fun s3 =>
  zput (zu s3 t 2 (s3 x1 2)) fun s4 =>
  some ((), s4)) else none) else none
theorem c2_copyFrom (l : Launch) (g : ZG) {k : Nat} {t : Nat} {x1 : Nat} {σ : ZS} {r : Unit} {σr : ZS} (hf : f2_copyFrom k t x1 σ = some (r, σr)) : zT l g y2_copyFrom b2_copyFrom 2 none 1 60 [zr t, zr x1] σ none σr := by
  unfold f2_copyFrom at hf
  obtain ⟨ht, hf⟩ := zgo hf
  refine zT_start (own := R2) rfl (by decide +kernel) 0 (L := [some (zr t), some (zr x1)]) rfl rfl (fun x hl C => ?_)
  subst hl
  refine z_aload_n C d2_copyFrom_0 rfl ?_
  refine z_aload_n C d2_copyFrom_1 rfl ?_
  obtain ⟨g1, hf⟩ := zgo hf
  refine z_getI C d2_copyFrom_2 fl_80 g1 ?_
  obtain ⟨s2, e2, hf⟩ := zpx hf
  refine z_putI C d2_copyFrom_5 fl_80 ft_2_0 ht e2 ?_
  refine z_aload_n C d2_copyFrom_8 rfl ?_
  refine z_aload_n C d2_copyFrom_9 rfl ?_
  refine z_getI C d2_copyFrom_10 fl_83 g1 ?_
  obtain ⟨s3, e3, hf⟩ := zpx hf
  refine z_putI C d2_copyFrom_13 fl_83 ft_2_1 ht e3 ?_
  refine z_aload_n C d2_copyFrom_16 rfl ?_
  refine z_aload_n C d2_copyFrom_17 rfl ?_
  refine z_getI C d2_copyFrom_18 fl_86 g1 ?_
  obtain ⟨s4, e4, hf⟩ := zpx hf
  refine z_putI C d2_copyFrom_21 fl_86 ft_2_2 ht e4 ?_
  exact z_vret C d2_copyFrom_24 hf
theorem d6_copyFrom_0 : zd b6_copyFrom 0 (.aload_n 1) 1 1 := ⟨by decide +kernel, rfl⟩
theorem d6_copyFrom_1 : zd b6_copyFrom 1 (.getfield 9) 3 4 := ⟨by decide +kernel, rfl⟩
theorem d6_copyFrom_4 : zd b6_copyFrom 4 (.iconst 0) 1 5 := ⟨by decide +kernel, rfl⟩
theorem d6_copyFrom_5 : zd b6_copyFrom 5 (.aload_n 0) 1 6 := ⟨by decide +kernel, rfl⟩
theorem d6_copyFrom_6 : zd b6_copyFrom 6 (.getfield 9) 3 9 := ⟨by decide +kernel, rfl⟩
theorem d6_copyFrom_9 : zd b6_copyFrom 9 (.iconst 0) 1 10 := ⟨by decide +kernel, rfl⟩
theorem d6_copyFrom_10 : zd b6_copyFrom 10 (.aload_n 0) 1 11 := ⟨by decide +kernel, rfl⟩
theorem d6_copyFrom_11 : zd b6_copyFrom 11 (.getfield 9) 3 14 := ⟨by decide +kernel, rfl⟩
theorem d6_copyFrom_14 : zd b6_copyFrom 14 .arraylength 1 15 := ⟨by decide +kernel, rfl⟩
theorem d6_copyFrom_15 : zd b6_copyFrom 15 (.invokestatic 18) 3 18 := ⟨by decide +kernel, rfl⟩
theorem d6_copyFrom_18 : zd b6_copyFrom 18 (.aload_n 0) 1 19 := ⟨by decide +kernel, rfl⟩
theorem d6_copyFrom_19 : zd b6_copyFrom 19 (.aload_n 1) 1 20 := ⟨by decide +kernel, rfl⟩
theorem d6_copyFrom_20 : zd b6_copyFrom 20 (.getfield 24) 3 23 := ⟨by decide +kernel, rfl⟩
theorem d6_copyFrom_23 : zd b6_copyFrom 23 (.putfield 24) 3 26 := ⟨by decide +kernel, rfl⟩
theorem d6_copyFrom_26 : zd b6_copyFrom 26 (.aload_n 0) 1 27 := ⟨by decide +kernel, rfl⟩
theorem d6_copyFrom_27 : zd b6_copyFrom 27 (.aload_n 1) 1 28 := ⟨by decide +kernel, rfl⟩
theorem d6_copyFrom_28 : zd b6_copyFrom 28 (.getfield 28) 3 31 := ⟨by decide +kernel, rfl⟩
theorem d6_copyFrom_31 : zd b6_copyFrom 31 (.putfield 28) 3 34 := ⟨by decide +kernel, rfl⟩
theorem d6_copyFrom_34 : zd b6_copyFrom 34 .return_ 1 35 := ⟨by decide +kernel, rfl⟩
def f6_copyFrom (k : Nat) (t : Nat) (x1 : Nat) (σ : ZS) : Option (Unit × ZS) :=
  if zsh t = 7 then (
  if zsh x1 = 7 then (
  zput (zurow σ (t + 1) (va_cpy (σ (x1 + 1)) (σ (t + 1)) (0 : Int32).toNatClampNeg (0 : Int32).toNatClampNeg (60 : Int32).toNatClampNeg)) fun s2 =>
  zput (zu s2 t 2 (s2 x1 2)) fun s3 =>
  if zbo (s3 x1 3) then (
  zput (zu s3 t 3 (s3 x1 3)) fun s5 =>
  some ((), s5)) else none) else none) else none
theorem c6_copyFrom (l : Launch) (g : ZG) {k : Nat} {t : Nat} {x1 : Nat} {σ : ZS} {r : Unit} {σr : ZS} (hf : f6_copyFrom k t x1 σ = some (r, σr)) : zT l g y6_copyFrom b6_copyFrom 2 none 1 60 [zr t, zr x1] σ none σr := by
  unfold f6_copyFrom at hf
  obtain ⟨ht, hf⟩ := zgo hf
  refine zT_start (own := R6) rfl (by decide +kernel) 0 (L := [some (zr t), some (zr x1)]) rfl rfl (fun x hl C => ?_)
  subst hl
  refine z_aload_n C d6_copyFrom_0 rfl ?_
  obtain ⟨g1, hf⟩ := zgo hf
  refine z_getR C d6_copyFrom_1 fl_101 g1 (x1 + 1) rfl (zn0 (zD7_1 g1)) ?_
  refine z_iconst C (0 : Int32) d6_copyFrom_4 kI_0 ?_
  refine z_aload_n C d6_copyFrom_5 rfl ?_
  refine z_getR C d6_copyFrom_6 fl_101 ht (t + 1) rfl (zn0 (zD7_1 ht)) ?_
  refine z_iconst C (0 : Int32) d6_copyFrom_9 kI_0 ?_
  refine z_aload_n C d6_copyFrom_10 rfl ?_
  refine z_getR C d6_copyFrom_11 fl_101 ht (t + 1) rfl (zn0 (zD7_1 ht)) ?_
  refine z_alen C (60 : Int32) d6_copyFrom_14 (zD7_1 ht) (zN7_1 ht) kO_60 ?_
  obtain ⟨s2, e2, hf⟩ := zpx hf
  refine z_copy C d6_copyFrom_15 w_567 zcopyw (zD7_1 g1) (zN7_1 g1) (zD7_1 ht) (zN7_1 ht) ⟨by decide, by decide, by decide, by decide, by decide⟩ ⟨Nat.le_of_ble_eq_true rfl, Nat.le_of_ble_eq_true rfl⟩ (Nat.le_of_ble_eq_true rfl) e2 ?_
  refine z_aload_n C d6_copyFrom_18 rfl ?_
  refine z_aload_n C d6_copyFrom_19 rfl ?_
  refine z_getI C d6_copyFrom_20 fl_103 g1 ?_
  obtain ⟨s3, e3, hf⟩ := zpx hf
  refine z_putI C d6_copyFrom_23 fl_103 ft_6_2 ht e3 ?_
  refine z_aload_n C d6_copyFrom_26 rfl ?_
  refine z_aload_n C d6_copyFrom_27 rfl ?_
  refine z_getI C d6_copyFrom_28 fl_105 g1 ?_
  obtain ⟨g4, hf⟩ := zgo hf
  obtain ⟨s5, e5, hf⟩ := zpx hf
  refine z_putZ C d6_copyFrom_31 fl_105 ft_6_3 ht g4 e5 ?_
  exact z_vret C d6_copyFrom_34 hf
theorem d5_copyFrom_0 : zd b5_copyFrom 0 (.iconst 0) 1 1 := ⟨by decide +kernel, rfl⟩
theorem d5_copyFrom_1 : zd b5_copyFrom 1 (.istore_n 2) 1 2 := ⟨by decide +kernel, rfl⟩
theorem d5_copyFrom_2 : zd b5_copyFrom 2 (.iload_n 2) 1 3 := ⟨by decide +kernel, rfl⟩
theorem d5_copyFrom_3 : zd b5_copyFrom 3 (.aload_n 0) 1 4 := ⟨by decide +kernel, rfl⟩
theorem d5_copyFrom_4 : zd b5_copyFrom 4 (.getfield 11) 3 7 := ⟨by decide +kernel, rfl⟩
theorem d5_copyFrom_7 : zd b5_copyFrom 7 .arraylength 1 8 := ⟨by decide +kernel, rfl⟩
theorem d5_copyFrom_8 : zdb b5_copyFrom 8 (.if_icmp .ge 24) 24 11 32 := ⟨by decide +kernel, rfl, by decide⟩
theorem d5_copyFrom_11 : zd b5_copyFrom 11 (.aload_n 0) 1 12 := ⟨by decide +kernel, rfl⟩
theorem d5_copyFrom_12 : zd b5_copyFrom 12 (.getfield 11) 3 15 := ⟨by decide +kernel, rfl⟩
theorem d5_copyFrom_15 : zd b5_copyFrom 15 (.iload_n 2) 1 16 := ⟨by decide +kernel, rfl⟩
theorem d5_copyFrom_16 : zd b5_copyFrom 16 .aaload 1 17 := ⟨by decide +kernel, rfl⟩
theorem d5_copyFrom_17 : zd b5_copyFrom 17 (.aload_n 1) 1 18 := ⟨by decide +kernel, rfl⟩
theorem d5_copyFrom_18 : zd b5_copyFrom 18 (.getfield 11) 3 21 := ⟨by decide +kernel, rfl⟩
theorem d5_copyFrom_21 : zd b5_copyFrom 21 (.iload_n 2) 1 22 := ⟨by decide +kernel, rfl⟩
theorem d5_copyFrom_22 : zd b5_copyFrom 22 .aaload 1 23 := ⟨by decide +kernel, rfl⟩
theorem d5_copyFrom_23 : zd b5_copyFrom 23 (.invokevirtual 52) 3 26 := ⟨by decide +kernel, rfl⟩
theorem d5_copyFrom_26 : zd b5_copyFrom 26 (.iinc 2 1) 3 29 := ⟨by decide +kernel, rfl⟩
theorem d5_copyFrom_29 : zdb b5_copyFrom 29 (.goto (-27)) (-27) 32 2 := ⟨by decide +kernel, rfl, by decide⟩
theorem d5_copyFrom_32 : zd b5_copyFrom 32 (.iconst 0) 1 33 := ⟨by decide +kernel, rfl⟩
theorem d5_copyFrom_33 : zd b5_copyFrom 33 (.istore_n 2) 1 34 := ⟨by decide +kernel, rfl⟩
theorem d5_copyFrom_34 : zd b5_copyFrom 34 (.iload_n 2) 1 35 := ⟨by decide +kernel, rfl⟩
theorem d5_copyFrom_35 : zd b5_copyFrom 35 (.aload_n 0) 1 36 := ⟨by decide +kernel, rfl⟩
theorem d5_copyFrom_36 : zd b5_copyFrom 36 (.getfield 19) 3 39 := ⟨by decide +kernel, rfl⟩
theorem d5_copyFrom_39 : zd b5_copyFrom 39 .arraylength 1 40 := ⟨by decide +kernel, rfl⟩
theorem d5_copyFrom_40 : zdb b5_copyFrom 40 (.if_icmp .ge 24) 24 43 64 := ⟨by decide +kernel, rfl, by decide⟩
theorem d5_copyFrom_43 : zd b5_copyFrom 43 (.aload_n 0) 1 44 := ⟨by decide +kernel, rfl⟩
theorem d5_copyFrom_44 : zd b5_copyFrom 44 (.getfield 19) 3 47 := ⟨by decide +kernel, rfl⟩
theorem d5_copyFrom_47 : zd b5_copyFrom 47 (.iload_n 2) 1 48 := ⟨by decide +kernel, rfl⟩
theorem d5_copyFrom_48 : zd b5_copyFrom 48 .aaload 1 49 := ⟨by decide +kernel, rfl⟩
theorem d5_copyFrom_49 : zd b5_copyFrom 49 (.aload_n 1) 1 50 := ⟨by decide +kernel, rfl⟩
theorem d5_copyFrom_50 : zd b5_copyFrom 50 (.getfield 19) 3 53 := ⟨by decide +kernel, rfl⟩
theorem d5_copyFrom_53 : zd b5_copyFrom 53 (.iload_n 2) 1 54 := ⟨by decide +kernel, rfl⟩
theorem d5_copyFrom_54 : zd b5_copyFrom 54 .aaload 1 55 := ⟨by decide +kernel, rfl⟩
theorem d5_copyFrom_55 : zd b5_copyFrom 55 (.invokevirtual 56) 3 58 := ⟨by decide +kernel, rfl⟩
theorem d5_copyFrom_58 : zd b5_copyFrom 58 (.iinc 2 1) 3 61 := ⟨by decide +kernel, rfl⟩
theorem d5_copyFrom_61 : zdb b5_copyFrom 61 (.goto (-27)) (-27) 64 34 := ⟨by decide +kernel, rfl, by decide⟩
theorem d5_copyFrom_64 : zd b5_copyFrom 64 (.iconst 0) 1 65 := ⟨by decide +kernel, rfl⟩
theorem d5_copyFrom_65 : zd b5_copyFrom 65 (.istore_n 2) 1 66 := ⟨by decide +kernel, rfl⟩
theorem d5_copyFrom_66 : zd b5_copyFrom 66 (.iload_n 2) 1 67 := ⟨by decide +kernel, rfl⟩
theorem d5_copyFrom_67 : zd b5_copyFrom 67 (.aload_n 0) 1 68 := ⟨by decide +kernel, rfl⟩
theorem d5_copyFrom_68 : zd b5_copyFrom 68 (.getfield 25) 3 71 := ⟨by decide +kernel, rfl⟩
theorem d5_copyFrom_71 : zd b5_copyFrom 71 .arraylength 1 72 := ⟨by decide +kernel, rfl⟩
theorem d5_copyFrom_72 : zdb b5_copyFrom 72 (.if_icmp .ge 24) 24 75 96 := ⟨by decide +kernel, rfl, by decide⟩
theorem d5_copyFrom_75 : zd b5_copyFrom 75 (.aload_n 0) 1 76 := ⟨by decide +kernel, rfl⟩
theorem d5_copyFrom_76 : zd b5_copyFrom 76 (.getfield 25) 3 79 := ⟨by decide +kernel, rfl⟩
theorem d5_copyFrom_79 : zd b5_copyFrom 79 (.iload_n 2) 1 80 := ⟨by decide +kernel, rfl⟩
theorem d5_copyFrom_80 : zd b5_copyFrom 80 .aaload 1 81 := ⟨by decide +kernel, rfl⟩
theorem d5_copyFrom_81 : zd b5_copyFrom 81 (.aload_n 1) 1 82 := ⟨by decide +kernel, rfl⟩
theorem d5_copyFrom_82 : zd b5_copyFrom 82 (.getfield 25) 3 85 := ⟨by decide +kernel, rfl⟩
theorem d5_copyFrom_85 : zd b5_copyFrom 85 (.iload_n 2) 1 86 := ⟨by decide +kernel, rfl⟩
theorem d5_copyFrom_86 : zd b5_copyFrom 86 .aaload 1 87 := ⟨by decide +kernel, rfl⟩
theorem d5_copyFrom_87 : zd b5_copyFrom 87 (.invokevirtual 59) 3 90 := ⟨by decide +kernel, rfl⟩
theorem d5_copyFrom_90 : zd b5_copyFrom 90 (.iinc 2 1) 3 93 := ⟨by decide +kernel, rfl⟩
theorem d5_copyFrom_93 : zdb b5_copyFrom 93 (.goto (-27)) (-27) 96 66 := ⟨by decide +kernel, rfl, by decide⟩
theorem d5_copyFrom_96 : zd b5_copyFrom 96 (.aload_n 1) 1 97 := ⟨by decide +kernel, rfl⟩
theorem d5_copyFrom_97 : zd b5_copyFrom 97 (.getfield 29) 3 100 := ⟨by decide +kernel, rfl⟩
theorem d5_copyFrom_100 : zd b5_copyFrom 100 (.iconst 0) 1 101 := ⟨by decide +kernel, rfl⟩
theorem d5_copyFrom_101 : zd b5_copyFrom 101 (.aload_n 0) 1 102 := ⟨by decide +kernel, rfl⟩
theorem d5_copyFrom_102 : zd b5_copyFrom 102 (.getfield 29) 3 105 := ⟨by decide +kernel, rfl⟩
theorem d5_copyFrom_105 : zd b5_copyFrom 105 (.iconst 0) 1 106 := ⟨by decide +kernel, rfl⟩
theorem d5_copyFrom_106 : zd b5_copyFrom 106 (.aload_n 0) 1 107 := ⟨by decide +kernel, rfl⟩
theorem d5_copyFrom_107 : zd b5_copyFrom 107 (.getfield 29) 3 110 := ⟨by decide +kernel, rfl⟩
theorem d5_copyFrom_110 : zd b5_copyFrom 110 .arraylength 1 111 := ⟨by decide +kernel, rfl⟩
theorem d5_copyFrom_111 : zd b5_copyFrom 111 (.invokestatic 62) 3 114 := ⟨by decide +kernel, rfl⟩
theorem d5_copyFrom_114 : zd b5_copyFrom 114 (.aload_n 1) 1 115 := ⟨by decide +kernel, rfl⟩
theorem d5_copyFrom_115 : zd b5_copyFrom 115 (.getfield 33) 3 118 := ⟨by decide +kernel, rfl⟩
theorem d5_copyFrom_118 : zd b5_copyFrom 118 (.iconst 0) 1 119 := ⟨by decide +kernel, rfl⟩
theorem d5_copyFrom_119 : zd b5_copyFrom 119 (.aload_n 0) 1 120 := ⟨by decide +kernel, rfl⟩
theorem d5_copyFrom_120 : zd b5_copyFrom 120 (.getfield 33) 3 123 := ⟨by decide +kernel, rfl⟩
theorem d5_copyFrom_123 : zd b5_copyFrom 123 (.iconst 0) 1 124 := ⟨by decide +kernel, rfl⟩
theorem d5_copyFrom_124 : zd b5_copyFrom 124 (.aload_n 0) 1 125 := ⟨by decide +kernel, rfl⟩
theorem d5_copyFrom_125 : zd b5_copyFrom 125 (.getfield 33) 3 128 := ⟨by decide +kernel, rfl⟩
theorem d5_copyFrom_128 : zd b5_copyFrom 128 .arraylength 1 129 := ⟨by decide +kernel, rfl⟩
theorem d5_copyFrom_129 : zd b5_copyFrom 129 (.invokestatic 62) 3 132 := ⟨by decide +kernel, rfl⟩
theorem d5_copyFrom_132 : zd b5_copyFrom 132 (.aload_n 1) 1 133 := ⟨by decide +kernel, rfl⟩
theorem d5_copyFrom_133 : zd b5_copyFrom 133 (.getfield 36) 3 136 := ⟨by decide +kernel, rfl⟩
theorem d5_copyFrom_136 : zd b5_copyFrom 136 (.iconst 0) 1 137 := ⟨by decide +kernel, rfl⟩
theorem d5_copyFrom_137 : zd b5_copyFrom 137 (.aload_n 0) 1 138 := ⟨by decide +kernel, rfl⟩
theorem d5_copyFrom_138 : zd b5_copyFrom 138 (.getfield 36) 3 141 := ⟨by decide +kernel, rfl⟩
theorem d5_copyFrom_141 : zd b5_copyFrom 141 (.iconst 0) 1 142 := ⟨by decide +kernel, rfl⟩
theorem d5_copyFrom_142 : zd b5_copyFrom 142 (.aload_n 0) 1 143 := ⟨by decide +kernel, rfl⟩
theorem d5_copyFrom_143 : zd b5_copyFrom 143 (.getfield 36) 3 146 := ⟨by decide +kernel, rfl⟩
theorem d5_copyFrom_146 : zd b5_copyFrom 146 .arraylength 1 147 := ⟨by decide +kernel, rfl⟩
theorem d5_copyFrom_147 : zd b5_copyFrom 147 (.invokestatic 62) 3 150 := ⟨by decide +kernel, rfl⟩
theorem d5_copyFrom_150 : zd b5_copyFrom 150 (.aload_n 0) 1 151 := ⟨by decide +kernel, rfl⟩
theorem d5_copyFrom_151 : zd b5_copyFrom 151 (.aload_n 1) 1 152 := ⟨by decide +kernel, rfl⟩
theorem d5_copyFrom_152 : zd b5_copyFrom 152 (.getfield 68) 3 155 := ⟨by decide +kernel, rfl⟩
theorem d5_copyFrom_155 : zd b5_copyFrom 155 (.putfield 68) 3 158 := ⟨by decide +kernel, rfl⟩
theorem d5_copyFrom_158 : zd b5_copyFrom 158 (.aload_n 0) 1 159 := ⟨by decide +kernel, rfl⟩
theorem d5_copyFrom_159 : zd b5_copyFrom 159 (.aload_n 1) 1 160 := ⟨by decide +kernel, rfl⟩
theorem d5_copyFrom_160 : zd b5_copyFrom 160 (.getfield 71) 3 163 := ⟨by decide +kernel, rfl⟩
theorem d5_copyFrom_163 : zd b5_copyFrom 163 (.putfield 71) 3 166 := ⟨by decide +kernel, rfl⟩
theorem d5_copyFrom_166 : zd b5_copyFrom 166 (.aload_n 0) 1 167 := ⟨by decide +kernel, rfl⟩
theorem d5_copyFrom_167 : zd b5_copyFrom 167 (.aload_n 1) 1 168 := ⟨by decide +kernel, rfl⟩
theorem d5_copyFrom_168 : zd b5_copyFrom 168 (.getfield 74) 3 171 := ⟨by decide +kernel, rfl⟩
theorem d5_copyFrom_171 : zd b5_copyFrom 171 (.putfield 74) 3 174 := ⟨by decide +kernel, rfl⟩
theorem d5_copyFrom_174 : zd b5_copyFrom 174 (.aload_n 0) 1 175 := ⟨by decide +kernel, rfl⟩
theorem d5_copyFrom_175 : zd b5_copyFrom 175 (.aload_n 1) 1 176 := ⟨by decide +kernel, rfl⟩
theorem d5_copyFrom_176 : zd b5_copyFrom 176 (.getfield 77) 3 179 := ⟨by decide +kernel, rfl⟩
theorem d5_copyFrom_179 : zd b5_copyFrom 179 (.putfield 77) 3 182 := ⟨by decide +kernel, rfl⟩
theorem d5_copyFrom_182 : zd b5_copyFrom 182 (.aload_n 0) 1 183 := ⟨by decide +kernel, rfl⟩
theorem d5_copyFrom_183 : zd b5_copyFrom 183 (.aload_n 1) 1 184 := ⟨by decide +kernel, rfl⟩
theorem d5_copyFrom_184 : zd b5_copyFrom 184 (.getfield 80) 3 187 := ⟨by decide +kernel, rfl⟩
theorem d5_copyFrom_187 : zd b5_copyFrom 187 (.putfield 80) 3 190 := ⟨by decide +kernel, rfl⟩
theorem d5_copyFrom_190 : zd b5_copyFrom 190 (.aload_n 0) 1 191 := ⟨by decide +kernel, rfl⟩
theorem d5_copyFrom_191 : zd b5_copyFrom 191 (.aload_n 1) 1 192 := ⟨by decide +kernel, rfl⟩
theorem d5_copyFrom_192 : zd b5_copyFrom 192 (.getfield 39) 3 195 := ⟨by decide +kernel, rfl⟩
theorem d5_copyFrom_195 : zd b5_copyFrom 195 (.putfield 39) 3 198 := ⟨by decide +kernel, rfl⟩
theorem d5_copyFrom_198 : zd b5_copyFrom 198 .return_ 1 199 := ⟨by decide +kernel, rfl⟩
def b5_copyFrom_66 (k : Nat) (t : Nat) (q66 : Nat → Int32 → ZS → Option (Unit × ZS)) (x1 : Nat) (x2 : Int32) (σ : ZS) : Option (Unit × ZS) :=
  if (2 : Int32) ≤ x2 then (
  if zsh x1 = 6 then (
  zput (zurow σ (t + 4) (va_cpy (σ (x1 + 4)) (σ (t + 4)) (0 : Int32).toNatClampNeg (0 : Int32).toNatClampNeg (64 : Int32).toNatClampNeg)) fun s3 =>
  zput (zurow s3 (t + 5) (va_cpy (s3 (x1 + 5)) (s3 (t + 5)) (0 : Int32).toNatClampNeg (0 : Int32).toNatClampNeg (60 : Int32).toNatClampNeg)) fun s4 =>
  zput (zurow s4 (t + 6) (va_cpy (s4 (x1 + 6)) (s4 (t + 6)) (0 : Int32).toNatClampNeg (0 : Int32).toNatClampNeg (24 : Int32).toNatClampNeg)) fun s5 =>
  zput (zu s5 t 6 (s5 x1 6)) fun s6 =>
  zput (zu s6 t 7 (s6 x1 7)) fun s7 =>
  zput (zu s7 t 8 (s7 x1 8)) fun s8 =>
  zput (zu s8 t 9 (s8 x1 9)) fun s9 =>
  zput (zu s9 t 10 (s9 x1 10)) fun s10 =>
  zput (zu s10 t 11 (s10 x1 11)) fun s11 =>
  some ((), s11)) else none)
  else (
  if zin x2 2 then (
  if zsh x1 = 6 then (
  if zin x2 2 then (
  zbd (f6_copyFrom k (t + 21 + 3 * x2.toNatClampNeg) (x1 + 21 + 3 * x2.toNatClampNeg) σ) fun _ s15 =>
  q66 x1 (x2 + (1 : Int32)) s15) else none) else none) else none)
def f5_copyFrom_66 (k : Nat) (t : Nat) : Nat → Nat → Int32 → ZS → Option (Unit × ZS)
  | 0 => fun _ _ _ => none
  | n + 1 => b5_copyFrom_66 k t  (f5_copyFrom_66 k t  n)
theorem j5_copyFrom_66 {x : ZX} {g : ZG} (C : zC x g b5_copyFrom R5 none 3 2 81) {k : Nat} {t : Nat} (ht : zsh t = 6) {r : Unit} {σr : ZS}  {q66 : Nat → Int32 → ZS → Option (Unit × ZS)} (hq66 : (∀ (x1 : Nat) (x2 : Int32) (σ : ZS), q66 x1 x2 σ = some (r, σr) → zw x g 3 0 0 (zMQ x g none σr) σ 66 [some (zr t), some (zr x1), some (zi x2)] [])) {x1 : Nat} {x2 : Int32} {σ : ZS} (hf : b5_copyFrom_66 k t q66 x1 x2 σ = some (r, σr)) : zw x g 3 0 0 (zMQ x g none σr) σ 66 [some (zr t), some (zr x1), some (zi x2)] [] := by
  unfold b5_copyFrom_66 at hf
  refine z_iload_n C d5_copyFrom_66 rfl ?_
  refine z_aload_n C d5_copyFrom_67 rfl ?_
  refine z_getR C d5_copyFrom_68 fl_120 ht (t + 3) rfl (zn0 (zD6_3 ht)) ?_
  refine z_alenR C (2 : Int32) d5_copyFrom_71 (zD6_3 ht) (by decide) (by decide) kO_2 ?_
  refine z_icmp_ge C d5_copyFrom_72 (fun c1 => ?_) (fun c1 => ?_)
  · have hf := zit c1 hf
    refine z_aload_n C d5_copyFrom_96 rfl ?_
    obtain ⟨g2, hf⟩ := zgo hf
    refine z_getR C d5_copyFrom_97 fl_121 g2 (x1 + 4) rfl (zn0 (zD6_4 g2)) ?_
    refine z_iconst C (0 : Int32) d5_copyFrom_100 kI_0 ?_
    refine z_aload_n C d5_copyFrom_101 rfl ?_
    refine z_getR C d5_copyFrom_102 fl_121 ht (t + 4) rfl (zn0 (zD6_4 ht)) ?_
    refine z_iconst C (0 : Int32) d5_copyFrom_105 kI_0 ?_
    refine z_aload_n C d5_copyFrom_106 rfl ?_
    refine z_getR C d5_copyFrom_107 fl_121 ht (t + 4) rfl (zn0 (zD6_4 ht)) ?_
    refine z_alen C (64 : Int32) d5_copyFrom_110 (zD6_4 ht) (zN6_4 ht) kO_64 ?_
    obtain ⟨s3, e3, hf⟩ := zpx hf
    refine z_copy C d5_copyFrom_111 w_650 zcopyw (zD6_4 g2) (zN6_4 g2) (zD6_4 ht) (zN6_4 ht) ⟨by decide, by decide, by decide, by decide, by decide⟩ ⟨Nat.le_of_ble_eq_true rfl, Nat.le_of_ble_eq_true rfl⟩ (Nat.le_of_ble_eq_true rfl) e3 ?_
    refine z_aload_n C d5_copyFrom_114 rfl ?_
    refine z_getR C d5_copyFrom_115 fl_122 g2 (x1 + 5) rfl (zn0 (zD6_5 g2)) ?_
    refine z_iconst C (0 : Int32) d5_copyFrom_118 kI_0 ?_
    refine z_aload_n C d5_copyFrom_119 rfl ?_
    refine z_getR C d5_copyFrom_120 fl_122 ht (t + 5) rfl (zn0 (zD6_5 ht)) ?_
    refine z_iconst C (0 : Int32) d5_copyFrom_123 kI_0 ?_
    refine z_aload_n C d5_copyFrom_124 rfl ?_
    refine z_getR C d5_copyFrom_125 fl_122 ht (t + 5) rfl (zn0 (zD6_5 ht)) ?_
    refine z_alen C (60 : Int32) d5_copyFrom_128 (zD6_5 ht) (zN6_5 ht) kO_60 ?_
    obtain ⟨s4, e4, hf⟩ := zpx hf
    refine z_copy C d5_copyFrom_129 w_650 zcopyw (zD6_5 g2) (zN6_5 g2) (zD6_5 ht) (zN6_5 ht) ⟨by decide, by decide, by decide, by decide, by decide⟩ ⟨Nat.le_of_ble_eq_true rfl, Nat.le_of_ble_eq_true rfl⟩ (Nat.le_of_ble_eq_true rfl) e4 ?_
    refine z_aload_n C d5_copyFrom_132 rfl ?_
    refine z_getR C d5_copyFrom_133 fl_124 g2 (x1 + 6) rfl (zn0 (zD6_6 g2)) ?_
    refine z_iconst C (0 : Int32) d5_copyFrom_136 kI_0 ?_
    refine z_aload_n C d5_copyFrom_137 rfl ?_
    refine z_getR C d5_copyFrom_138 fl_124 ht (t + 6) rfl (zn0 (zD6_6 ht)) ?_
    refine z_iconst C (0 : Int32) d5_copyFrom_141 kI_0 ?_
    refine z_aload_n C d5_copyFrom_142 rfl ?_
    refine z_getR C d5_copyFrom_143 fl_124 ht (t + 6) rfl (zn0 (zD6_6 ht)) ?_
    refine z_alen C (24 : Int32) d5_copyFrom_146 (zD6_6 ht) (zN6_6 ht) kO_24 ?_
    obtain ⟨s5, e5, hf⟩ := zpx hf
    refine z_copy C d5_copyFrom_147 w_650 zcopyw (zD6_6 g2) (zN6_6 g2) (zD6_6 ht) (zN6_6 ht) ⟨by decide, by decide, by decide, by decide, by decide⟩ ⟨Nat.le_of_ble_eq_true rfl, Nat.le_of_ble_eq_true rfl⟩ (Nat.le_of_ble_eq_true rfl) e5 ?_
    refine z_aload_n C d5_copyFrom_150 rfl ?_
    refine z_aload_n C d5_copyFrom_151 rfl ?_
    refine z_getI C d5_copyFrom_152 fl_126 g2 ?_
    obtain ⟨s6, e6, hf⟩ := zpx hf
    refine z_putI C d5_copyFrom_155 fl_126 ft_5_6 ht e6 ?_
    refine z_aload_n C d5_copyFrom_158 rfl ?_
    refine z_aload_n C d5_copyFrom_159 rfl ?_
    refine z_getI C d5_copyFrom_160 fl_127 g2 ?_
    obtain ⟨s7, e7, hf⟩ := zpx hf
    refine z_putI C d5_copyFrom_163 fl_127 ft_5_7 ht e7 ?_
    refine z_aload_n C d5_copyFrom_166 rfl ?_
    refine z_aload_n C d5_copyFrom_167 rfl ?_
    refine z_getI C d5_copyFrom_168 fl_129 g2 ?_
    obtain ⟨s8, e8, hf⟩ := zpx hf
    refine z_putI C d5_copyFrom_171 fl_129 ft_5_8 ht e8 ?_
    refine z_aload_n C d5_copyFrom_174 rfl ?_
    refine z_aload_n C d5_copyFrom_175 rfl ?_
    refine z_getI C d5_copyFrom_176 fl_131 g2 ?_
    obtain ⟨s9, e9, hf⟩ := zpx hf
    refine z_putI C d5_copyFrom_179 fl_131 ft_5_9 ht e9 ?_
    refine z_aload_n C d5_copyFrom_182 rfl ?_
    refine z_aload_n C d5_copyFrom_183 rfl ?_
    refine z_getI C d5_copyFrom_184 fl_133 g2 ?_
    obtain ⟨s10, e10, hf⟩ := zpx hf
    refine z_putI C d5_copyFrom_187 fl_133 ft_5_10 ht e10 ?_
    refine z_aload_n C d5_copyFrom_190 rfl ?_
    refine z_aload_n C d5_copyFrom_191 rfl ?_
    refine z_getI C d5_copyFrom_192 fl_135 g2 ?_
    obtain ⟨s11, e11, hf⟩ := zpx hf
    refine z_putI C d5_copyFrom_195 fl_135 ft_5_11 ht e11 ?_
    exact z_vret C d5_copyFrom_198 hf
  · have hf := zie c1 hf
    refine z_aload_n C d5_copyFrom_75 rfl ?_
    refine z_getR C d5_copyFrom_76 fl_120 ht (t + 3) rfl (zn0 (zD6_3 ht)) ?_
    refine z_iload_n C d5_copyFrom_79 rfl ?_
    obtain ⟨g12, hf⟩ := zgo hf
    refine z_aald C d5_copyFrom_80 (zD6_3 ht) (by decide) (by decide) g12 (t + 21 + 3 * x2.toNatClampNeg) (by show (t + 3) + 18 + 3 * x2.toNatClampNeg = (t + 21 + 3 * x2.toNatClampNeg); omega) (zn0 (zE13 ht g12)) ?_
    refine z_aload_n C d5_copyFrom_81 rfl ?_
    obtain ⟨g13, hf⟩ := zgo hf
    refine z_getR C d5_copyFrom_82 fl_120 g13 (x1 + 3) rfl (zn0 (zD6_3 g13)) ?_
    refine z_iload_n C d5_copyFrom_85 rfl ?_
    obtain ⟨g14, hf⟩ := zgo hf
    refine z_aald C d5_copyFrom_86 (zD6_3 g13) (by decide) (by decide) g14 (x1 + 21 + 3 * x2.toNatClampNeg) (by show (x1 + 3) + 18 + 3 * x2.toNatClampNeg = (x1 + 21 + 3 * x2.toNatClampNeg); omega) (zn0 (zE13 g13 g14)) ?_
    obtain ⟨r15, s15, h15, hf⟩ := zbx hf
    refine z_callVv C (as := [zr (x1 + 21 + 3 * x2.toNatClampNeg)]) d5_copyFrom_87 w_649 yy6_copyFrom (c6_copyFrom x.2.1 g h15) yc6_copyFrom (zE13 ht g12) rfl rfl (Nat.le_of_ble_eq_true rfl) ⟨Nat.le_of_ble_eq_true rfl, Nat.le_of_ble_eq_true rfl⟩ ⟨Nat.zero_le _, Nat.zero_le _⟩ ?_
    refine z_iinc C d5_copyFrom_90 rfl kI_1 (Nat.le_of_ble_eq_true rfl) rfl (L' := [some (zr t), some (zr x1), some (zi (x2 + (1 : Int32)))]) rfl ?_
    refine z_goto C d5_copyFrom_93 ?_
    exact hq66 _ _ _ hf
theorem j5_copyFrom_66l {x : ZX} {g : ZG} (C : zC x g b5_copyFrom R5 none 3 2 81) {k : Nat} {t : Nat} (ht : zsh t = 6) {r : Unit} {σr : ZS}  : ∀ (n : Nat) (x1 : Nat) (x2 : Int32) (σ : ZS), f5_copyFrom_66 k t  n x1 x2 σ = some (r, σr) → zw x g 3 0 0 (zMQ x g none σr) σ 66 [some (zr t), some (zr x1), some (zi x2)] [] := by
  intro n
  induction n with
  | zero => intro x1 x2 σ hf; exact absurd (show none = some (r, σr) from hf) (fun z => by cases z)
  | succ n ih => intro x1 x2 σ hf; exact j5_copyFrom_66 C ht  ih (show b5_copyFrom_66 k t  (f5_copyFrom_66 k t  n) x1 x2 σ = some (r, σr) from hf)
def b5_copyFrom_34 (k : Nat) (t : Nat) (q34 : Nat → Int32 → ZS → Option (Unit × ZS)) (x1 : Nat) (x2 : Int32) (σ : ZS) : Option (Unit × ZS) :=
  if (6 : Int32) ≤ x2 then (
  f5_copyFrom_66 k t  k x1 (0 : Int32) σ)
  else (
  if zin x2 6 then (
  if zsh x1 = 6 then (
  if zin x2 6 then (
  zbd (f2_copyFrom k (t + 15 + x2.toNatClampNeg) (x1 + 15 + x2.toNatClampNeg) σ) fun _ s5 =>
  q34 x1 (x2 + (1 : Int32)) s5) else none) else none) else none)
def f5_copyFrom_34 (k : Nat) (t : Nat) : Nat → Nat → Int32 → ZS → Option (Unit × ZS)
  | 0 => fun _ _ _ => none
  | n + 1 => b5_copyFrom_34 k t  (f5_copyFrom_34 k t  n)
theorem j5_copyFrom_34 {x : ZX} {g : ZG} (C : zC x g b5_copyFrom R5 none 3 2 81) {k : Nat} {t : Nat} (ht : zsh t = 6) {r : Unit} {σr : ZS}  {q34 : Nat → Int32 → ZS → Option (Unit × ZS)} (hq34 : (∀ (x1 : Nat) (x2 : Int32) (σ : ZS), q34 x1 x2 σ = some (r, σr) → zw x g 3 0 0 (zMQ x g none σr) σ 34 [some (zr t), some (zr x1), some (zi x2)] [])) {x1 : Nat} {x2 : Int32} {σ : ZS} (hf : b5_copyFrom_34 k t q34 x1 x2 σ = some (r, σr)) : zw x g 3 0 0 (zMQ x g none σr) σ 34 [some (zr t), some (zr x1), some (zi x2)] [] := by
  unfold b5_copyFrom_34 at hf
  refine z_iload_n C d5_copyFrom_34 rfl ?_
  refine z_aload_n C d5_copyFrom_35 rfl ?_
  refine z_getR C d5_copyFrom_36 fl_119 ht (t + 2) rfl (zn0 (zD6_2 ht)) ?_
  refine z_alenR C (6 : Int32) d5_copyFrom_39 (zD6_2 ht) (by decide) (by decide) kO_6 ?_
  refine z_icmp_ge C d5_copyFrom_40 (fun c1 => ?_) (fun c1 => ?_)
  · have hf := zit c1 hf
    refine z_iconst C (0 : Int32) d5_copyFrom_64 kI_0 ?_
    refine z_istore_n C d5_copyFrom_65 (Nat.le_of_ble_eq_true rfl) rfl (L' := [some (zr t), some (zr x1), some (zi (0 : Int32))]) rfl ?_
    exact j5_copyFrom_66l C ht  _ _ _ _ hf
  · have hf := zie c1 hf
    refine z_aload_n C d5_copyFrom_43 rfl ?_
    refine z_getR C d5_copyFrom_44 fl_119 ht (t + 2) rfl (zn0 (zD6_2 ht)) ?_
    refine z_iload_n C d5_copyFrom_47 rfl ?_
    obtain ⟨g2, hf⟩ := zgo hf
    refine z_aald C d5_copyFrom_48 (zD6_2 ht) (by decide) (by decide) g2 (t + 15 + x2.toNatClampNeg) (by show (t + 2) + 13 + 1 * x2.toNatClampNeg = (t + 15 + x2.toNatClampNeg); omega) (zn0 (zE12 ht g2)) ?_
    refine z_aload_n C d5_copyFrom_49 rfl ?_
    obtain ⟨g3, hf⟩ := zgo hf
    refine z_getR C d5_copyFrom_50 fl_119 g3 (x1 + 2) rfl (zn0 (zD6_2 g3)) ?_
    refine z_iload_n C d5_copyFrom_53 rfl ?_
    obtain ⟨g4, hf⟩ := zgo hf
    refine z_aald C d5_copyFrom_54 (zD6_2 g3) (by decide) (by decide) g4 (x1 + 15 + x2.toNatClampNeg) (by show (x1 + 2) + 13 + 1 * x2.toNatClampNeg = (x1 + 15 + x2.toNatClampNeg); omega) (zn0 (zE12 g3 g4)) ?_
    obtain ⟨r5, s5, h5, hf⟩ := zbx hf
    refine z_callVv C (as := [zr (x1 + 15 + x2.toNatClampNeg)]) d5_copyFrom_55 w_645 yy2_copyFrom (c2_copyFrom x.2.1 g h5) yc2_copyFrom (zE12 ht g2) rfl rfl (Nat.le_of_ble_eq_true rfl) ⟨Nat.le_of_ble_eq_true rfl, Nat.le_of_ble_eq_true rfl⟩ ⟨Nat.zero_le _, Nat.zero_le _⟩ ?_
    refine z_iinc C d5_copyFrom_58 rfl kI_1 (Nat.le_of_ble_eq_true rfl) rfl (L' := [some (zr t), some (zr x1), some (zi (x2 + (1 : Int32)))]) rfl ?_
    refine z_goto C d5_copyFrom_61 ?_
    exact hq34 _ _ _ hf
theorem j5_copyFrom_34l {x : ZX} {g : ZG} (C : zC x g b5_copyFrom R5 none 3 2 81) {k : Nat} {t : Nat} (ht : zsh t = 6) {r : Unit} {σr : ZS}  : ∀ (n : Nat) (x1 : Nat) (x2 : Int32) (σ : ZS), f5_copyFrom_34 k t  n x1 x2 σ = some (r, σr) → zw x g 3 0 0 (zMQ x g none σr) σ 34 [some (zr t), some (zr x1), some (zi x2)] [] := by
  intro n
  induction n with
  | zero => intro x1 x2 σ hf; exact absurd (show none = some (r, σr) from hf) (fun z => by cases z)
  | succ n ih => intro x1 x2 σ hf; exact j5_copyFrom_34 C ht  ih (show b5_copyFrom_34 k t  (f5_copyFrom_34 k t  n) x1 x2 σ = some (r, σr) from hf)
def b5_copyFrom_2 (k : Nat) (t : Nat) (q2 : Nat → Int32 → ZS → Option (Unit × ZS)) (x1 : Nat) (x2 : Int32) (σ : ZS) : Option (Unit × ZS) :=
  if (8 : Int32) ≤ x2 then (
  f5_copyFrom_34 k t  k x1 (0 : Int32) σ)
  else (
  if zin x2 8 then (
  if zsh x1 = 6 then (
  if zin x2 8 then (
  zbd (f0_copyFrom k (t + 7 + x2.toNatClampNeg) (x1 + 7 + x2.toNatClampNeg) σ) fun _ s5 =>
  q2 x1 (x2 + (1 : Int32)) s5) else none) else none) else none)
def f5_copyFrom_2 (k : Nat) (t : Nat) : Nat → Nat → Int32 → ZS → Option (Unit × ZS)
  | 0 => fun _ _ _ => none
  | n + 1 => b5_copyFrom_2 k t  (f5_copyFrom_2 k t  n)
theorem j5_copyFrom_2 {x : ZX} {g : ZG} (C : zC x g b5_copyFrom R5 none 3 2 81) {k : Nat} {t : Nat} (ht : zsh t = 6) {r : Unit} {σr : ZS}  {q2 : Nat → Int32 → ZS → Option (Unit × ZS)} (hq2 : (∀ (x1 : Nat) (x2 : Int32) (σ : ZS), q2 x1 x2 σ = some (r, σr) → zw x g 3 0 0 (zMQ x g none σr) σ 2 [some (zr t), some (zr x1), some (zi x2)] [])) {x1 : Nat} {x2 : Int32} {σ : ZS} (hf : b5_copyFrom_2 k t q2 x1 x2 σ = some (r, σr)) : zw x g 3 0 0 (zMQ x g none σr) σ 2 [some (zr t), some (zr x1), some (zi x2)] [] := by
  unfold b5_copyFrom_2 at hf
  refine z_iload_n C d5_copyFrom_2 rfl ?_
  refine z_aload_n C d5_copyFrom_3 rfl ?_
  refine z_getR C d5_copyFrom_4 fl_118 ht (t + 1) rfl (zn0 (zD6_1 ht)) ?_
  refine z_alenR C (8 : Int32) d5_copyFrom_7 (zD6_1 ht) (by decide) (by decide) kO_8 ?_
  refine z_icmp_ge C d5_copyFrom_8 (fun c1 => ?_) (fun c1 => ?_)
  · have hf := zit c1 hf
    refine z_iconst C (0 : Int32) d5_copyFrom_32 kI_0 ?_
    refine z_istore_n C d5_copyFrom_33 (Nat.le_of_ble_eq_true rfl) rfl (L' := [some (zr t), some (zr x1), some (zi (0 : Int32))]) rfl ?_
    exact j5_copyFrom_34l C ht  _ _ _ _ hf
  · have hf := zie c1 hf
    refine z_aload_n C d5_copyFrom_11 rfl ?_
    refine z_getR C d5_copyFrom_12 fl_118 ht (t + 1) rfl (zn0 (zD6_1 ht)) ?_
    refine z_iload_n C d5_copyFrom_15 rfl ?_
    obtain ⟨g2, hf⟩ := zgo hf
    refine z_aald C d5_copyFrom_16 (zD6_1 ht) (by decide) (by decide) g2 (t + 7 + x2.toNatClampNeg) (by show (t + 1) + 6 + 1 * x2.toNatClampNeg = (t + 7 + x2.toNatClampNeg); omega) (zn0 (zE11 ht g2)) ?_
    refine z_aload_n C d5_copyFrom_17 rfl ?_
    obtain ⟨g3, hf⟩ := zgo hf
    refine z_getR C d5_copyFrom_18 fl_118 g3 (x1 + 1) rfl (zn0 (zD6_1 g3)) ?_
    refine z_iload_n C d5_copyFrom_21 rfl ?_
    obtain ⟨g4, hf⟩ := zgo hf
    refine z_aald C d5_copyFrom_22 (zD6_1 g3) (by decide) (by decide) g4 (x1 + 7 + x2.toNatClampNeg) (by show (x1 + 1) + 6 + 1 * x2.toNatClampNeg = (x1 + 7 + x2.toNatClampNeg); omega) (zn0 (zE11 g3 g4)) ?_
    obtain ⟨r5, s5, h5, hf⟩ := zbx hf
    refine z_callVv C (as := [zr (x1 + 7 + x2.toNatClampNeg)]) d5_copyFrom_23 w_641 yy0_copyFrom (c0_copyFrom x.2.1 g h5) yc0_copyFrom (zE11 ht g2) rfl rfl (Nat.le_of_ble_eq_true rfl) ⟨Nat.le_of_ble_eq_true rfl, Nat.le_of_ble_eq_true rfl⟩ ⟨Nat.zero_le _, Nat.zero_le _⟩ ?_
    refine z_iinc C d5_copyFrom_26 rfl kI_1 (Nat.le_of_ble_eq_true rfl) rfl (L' := [some (zr t), some (zr x1), some (zi (x2 + (1 : Int32)))]) rfl ?_
    refine z_goto C d5_copyFrom_29 ?_
    exact hq2 _ _ _ hf
theorem j5_copyFrom_2l {x : ZX} {g : ZG} (C : zC x g b5_copyFrom R5 none 3 2 81) {k : Nat} {t : Nat} (ht : zsh t = 6) {r : Unit} {σr : ZS}  : ∀ (n : Nat) (x1 : Nat) (x2 : Int32) (σ : ZS), f5_copyFrom_2 k t  n x1 x2 σ = some (r, σr) → zw x g 3 0 0 (zMQ x g none σr) σ 2 [some (zr t), some (zr x1), some (zi x2)] [] := by
  intro n
  induction n with
  | zero => intro x1 x2 σ hf; exact absurd (show none = some (r, σr) from hf) (fun z => by cases z)
  | succ n ih => intro x1 x2 σ hf; exact j5_copyFrom_2 C ht  ih (show b5_copyFrom_2 k t  (f5_copyFrom_2 k t  n) x1 x2 σ = some (r, σr) from hf)
def f5_copyFrom (k : Nat) (t : Nat) (x1 : Nat) (σ : ZS) : Option (Unit × ZS) :=
  if zsh t = 6 then (
  f5_copyFrom_2 k t  k x1 (0 : Int32) σ) else none
theorem c5_copyFrom (l : Launch) (g : ZG) {k : Nat} {t : Nat} {x1 : Nat} {σ : ZS} {r : Unit} {σr : ZS} (hf : f5_copyFrom k t x1 σ = some (r, σr)) : zT l g y5_copyFrom b5_copyFrom 3 none 2 81 [zr t, zr x1] σ none σr := by
  unfold f5_copyFrom at hf
  obtain ⟨ht, hf⟩ := zgo hf
  refine zT_start (own := R5) rfl (by decide +kernel) 1 (L := [some (zr t), some (zr x1), none]) rfl rfl (fun x hl C => ?_)
  subst hl
  refine z_iconst C (0 : Int32) d5_copyFrom_0 kI_0 ?_
  refine z_istore_n C d5_copyFrom_1 (Nat.le_of_ble_eq_true rfl) rfl (L' := [some (zr t), some (zr x1), some (zi (0 : Int32))]) rfl ?_
  exact j5_copyFrom_2l C ht  _ _ _ _ hf
theorem d8_image_0 : zd b8_image 0 (.aload_n 0) 1 1 := ⟨by decide +kernel, rfl⟩
theorem d8_image_1 : zd b8_image 1 (.getfield 16) 3 4 := ⟨by decide +kernel, rfl⟩
theorem d8_image_4 : zd b8_image 4 (.aload_n 0) 1 5 := ⟨by decide +kernel, rfl⟩
theorem d8_image_5 : zd b8_image 5 (.getfield 10) 3 8 := ⟨by decide +kernel, rfl⟩
theorem d8_image_8 : zd b8_image 8 (.invokevirtual 223) 3 11 := ⟨by decide +kernel, rfl⟩
theorem d8_image_11 : zd b8_image 11 (.aload_n 0) 1 12 := ⟨by decide +kernel, rfl⟩
theorem d8_image_12 : zd b8_image 12 (.iconst 1) 1 13 := ⟨by decide +kernel, rfl⟩
theorem d8_image_13 : zd b8_image 13 (.putfield 280) 3 16 := ⟨by decide +kernel, rfl⟩
theorem d8_image_16 : zd b8_image 16 (.aload_n 0) 1 17 := ⟨by decide +kernel, rfl⟩
theorem d8_image_17 : zd b8_image 17 .dup 1 18 := ⟨by decide +kernel, rfl⟩
theorem d8_image_18 : zd b8_image 18 (.getfield 283) 3 21 := ⟨by decide +kernel, rfl⟩
theorem d8_image_21 : zd b8_image 21 (.iconst 1) 1 22 := ⟨by decide +kernel, rfl⟩
theorem d8_image_22 : zd b8_image 22 .iadd 1 23 := ⟨by decide +kernel, rfl⟩
theorem d8_image_23 : zd b8_image 23 (.putfield 283) 3 26 := ⟨by decide +kernel, rfl⟩
theorem d8_image_26 : zd b8_image 26 (.aload_n 0) 1 27 := ⟨by decide +kernel, rfl⟩
theorem d8_image_27 : zd b8_image 27 (.getfield 283) 3 30 := ⟨by decide +kernel, rfl⟩
theorem d8_image_30 : zd b8_image 30 .ireturn 1 31 := ⟨by decide +kernel, rfl⟩
def f8_image (k : Nat)  (σ : ZS) : Option (Int32 × ZS) :=
  zbd (f5_copyFrom k 29 2 σ) fun _ s1 =>
  zput (zu s1 1 9 (1 : Int32)) fun s2 =>
  zput (zu s2 1 10 ((s2 1 10) + (1 : Int32))) fun s3 =>
  some ((s3 1 10), s3)
theorem c8_image (l : Launch) (g : ZG) {k : Nat}  {σ : ZS} {r : Int32} {σr : ZS} (hf : f8_image k  σ = some (r, σr)) : zT l g y8_image b8_image 1 (some .int) 3 103 [zr 1] σ (some (zi r)) σr := by
  unfold f8_image at hf
  refine zT_start (own := R8) rfl (by decide +kernel) 0 (L := [some (zr 1)]) rfl rfl (fun x hl C => ?_)
  subst hl
  refine z_aload_n C d8_image_0 rfl ?_
  refine z_getR C d8_image_1 fl_262 kZ_1 29 rfl (zn0 kZ_29) ?_
  refine z_aload_n C d8_image_4 rfl ?_
  refine z_getR C d8_image_5 fl_261 kZ_1 2 rfl (zn0 kZ_2) ?_
  obtain ⟨r1, s1, h1, hf⟩ := zbx hf
  refine z_callVv C (as := [zr 2]) d8_image_8 w_637 yy5_copyFrom (c5_copyFrom x.2.1 g h1) yc5_copyFrom kZ_29 rfl rfl (Nat.le_of_ble_eq_true rfl) ⟨Nat.le_of_ble_eq_true rfl, Nat.le_of_ble_eq_true rfl⟩ ⟨Nat.zero_le _, Nat.zero_le _⟩ ?_
  refine z_aload_n C d8_image_11 rfl ?_
  refine z_iconst C (1 : Int32) d8_image_12 kI_1 ?_
  obtain ⟨s2, e2, hf⟩ := zpx hf
  refine z_putZ C d8_image_13 fl_270 ft_8_9 kZ_1 (Or.inr rfl) e2 ?_
  refine z_aload_n C d8_image_16 rfl ?_
  refine z_dup C d8_image_17 rfl ?_
  refine z_getI C d8_image_18 fl_271 kZ_1 ?_
  refine z_iconst C (1 : Int32) d8_image_21 kI_1 ?_
  refine z_iadd C d8_image_22 ?_
  obtain ⟨s3, e3, hf⟩ := zpx hf
  refine z_putI C d8_image_23 fl_271 ft_8_10 kZ_1 e3 ?_
  refine z_aload_n C d8_image_26 rfl ?_
  refine z_getI C d8_image_27 fl_271 kZ_1 ?_
  exact z_iret C d8_image_30 hf
theorem d8_judge_0 : zd b8_judge 0 (.aload_n 0) 1 1 := ⟨by decide +kernel, rfl⟩
theorem d8_judge_1 : zd b8_judge 1 (.iload_n 1) 1 2 := ⟨by decide +kernel, rfl⟩
theorem d8_judge_2 : zd b8_judge 2 (.invokevirtual 233) 3 5 := ⟨by decide +kernel, rfl⟩
theorem d8_judge_5 : zd b8_judge 5 (.astore_n 2) 1 6 := ⟨by decide +kernel, rfl⟩
theorem d8_judge_6 : zd b8_judge 6 (.aload_n 2) 1 7 := ⟨by decide +kernel, rfl⟩
theorem d8_judge_7 : zdb b8_judge 7 (.ifnonnull 9) 9 10 16 := ⟨by decide +kernel, rfl, by decide⟩
theorem d8_judge_10 : zd b8_judge 10 (.aload_n 0) 1 11 := ⟨by decide +kernel, rfl⟩
theorem d8_judge_11 : zd b8_judge 11 (.iconst 1) 1 12 := ⟨by decide +kernel, rfl⟩
theorem d8_judge_12 : zd b8_judge 12 (.invokevirtual 67) 3 15 := ⟨by decide +kernel, rfl⟩
theorem d8_judge_15 : zd b8_judge 15 .ireturn 1 16 := ⟨by decide +kernel, rfl⟩
theorem d8_judge_16 : zd b8_judge 16 (.aload_n 2) 1 17 := ⟨by decide +kernel, rfl⟩
theorem d8_judge_17 : zd b8_judge 17 (.getfield 237) 3 20 := ⟨by decide +kernel, rfl⟩
theorem d8_judge_20 : zdb b8_judge 20 (.ifCond .ne 9) 9 23 29 := ⟨by decide +kernel, rfl, by decide⟩
theorem d8_judge_23 : zd b8_judge 23 (.aload_n 0) 1 24 := ⟨by decide +kernel, rfl⟩
theorem d8_judge_24 : zd b8_judge 24 (.iconst 2) 1 25 := ⟨by decide +kernel, rfl⟩
theorem d8_judge_25 : zd b8_judge 25 (.invokevirtual 67) 3 28 := ⟨by decide +kernel, rfl⟩
theorem d8_judge_28 : zd b8_judge 28 .ireturn 1 29 := ⟨by decide +kernel, rfl⟩
theorem d8_judge_29 : zd b8_judge 29 (.aload_n 2) 1 30 := ⟨by decide +kernel, rfl⟩
theorem d8_judge_30 : zd b8_judge 30 (.getfield 260) 3 33 := ⟨by decide +kernel, rfl⟩
theorem d8_judge_33 : zd b8_judge 33 (.aload_n 0) 1 34 := ⟨by decide +kernel, rfl⟩
theorem d8_judge_34 : zd b8_judge 34 (.getfield 10) 3 37 := ⟨by decide +kernel, rfl⟩
theorem d8_judge_37 : zd b8_judge 37 (.getfield 121) 3 40 := ⟨by decide +kernel, rfl⟩
theorem d8_judge_40 : zd b8_judge 40 (.invokestatic 146) 3 43 := ⟨by decide +kernel, rfl⟩
theorem d8_judge_43 : zd b8_judge 43 (.istore_n 3) 1 44 := ⟨by decide +kernel, rfl⟩
theorem d8_judge_44 : zd b8_judge 44 (.iconst 0) 1 45 := ⟨by decide +kernel, rfl⟩
theorem d8_judge_45 : zd b8_judge 45 (.istore 4) 2 47 := ⟨by decide +kernel, rfl⟩
theorem d8_judge_47 : zd b8_judge 47 (.iload 4) 2 49 := ⟨by decide +kernel, rfl⟩
theorem d8_judge_49 : zd b8_judge 49 (.iload_n 3) 1 50 := ⟨by decide +kernel, rfl⟩
theorem d8_judge_50 : zdb b8_judge 50 (.if_icmp .ge 34) 34 53 84 := ⟨by decide +kernel, rfl, by decide⟩
theorem d8_judge_53 : zd b8_judge 53 (.aload_n 2) 1 54 := ⟨by decide +kernel, rfl⟩
theorem d8_judge_54 : zd b8_judge 54 (.iload 4) 2 56 := ⟨by decide +kernel, rfl⟩
theorem d8_judge_56 : zd b8_judge 56 (.invokevirtual 277) 3 59 := ⟨by decide +kernel, rfl⟩
theorem d8_judge_59 : zd b8_judge 59 (.aload_n 0) 1 60 := ⟨by decide +kernel, rfl⟩
theorem d8_judge_60 : zd b8_judge 60 (.getfield 10) 3 63 := ⟨by decide +kernel, rfl⟩
theorem d8_judge_63 : zd b8_judge 63 (.iload 4) 2 65 := ⟨by decide +kernel, rfl⟩
theorem d8_judge_65 : zd b8_judge 65 (.aload_n 0) 1 66 := ⟨by decide +kernel, rfl⟩
theorem d8_judge_66 : zd b8_judge 66 (.getfield 25) 3 69 := ⟨by decide +kernel, rfl⟩
theorem d8_judge_69 : zd b8_judge 69 (.invokevirtual 141) 3 72 := ⟨by decide +kernel, rfl⟩
theorem d8_judge_72 : zdb b8_judge 72 (.if_icmp .eq 6) 6 75 78 := ⟨by decide +kernel, rfl, by decide⟩
theorem d8_judge_75 : zd b8_judge 75 (.iload 4) 2 77 := ⟨by decide +kernel, rfl⟩
theorem d8_judge_77 : zd b8_judge 77 .ireturn 1 78 := ⟨by decide +kernel, rfl⟩
theorem d8_judge_78 : zd b8_judge 78 (.iinc 4 1) 3 81 := ⟨by decide +kernel, rfl⟩
theorem d8_judge_81 : zdb b8_judge 81 (.goto (-34)) (-34) 84 47 := ⟨by decide +kernel, rfl, by decide⟩
theorem d8_judge_84 : zd b8_judge 84 (.iload_n 3) 1 85 := ⟨by decide +kernel, rfl⟩
theorem d8_judge_85 : zd b8_judge 85 .ireturn 1 86 := ⟨by decide +kernel, rfl⟩
def b8_judge_47 (k : Nat) (q47 : Nat → Int32 → Int32 → ZS → Option (Int32 × ZS)) (x2 : Nat) (x3 : Int32) (x4 : Int32) (σ : ZS) : Option (Int32 × ZS) :=
  if x3 ≤ x4 then (
  some (x3, σ))
  else (
  if zsh x2 = 5 then (
  zbd (f4_numberAt k x2 x4 σ) fun r2 s2 =>
  zbd (f5_dueOf k 2 x4 s2) fun r4 s4 =>
  if r2 = r4 then (
  q47 x2 x3 (x4 + (1 : Int32)) s4)
  else (
  some (x4, s4))) else none)
def f8_judge_47 (k : Nat) : Nat → Nat → Int32 → Int32 → ZS → Option (Int32 × ZS)
  | 0 => fun _ _ _ _ => none
  | n + 1 => b8_judge_47 k  (f8_judge_47 k  n)
theorem j8_judge_47 {x : ZX} {g : ZG} (C : zC x g b8_judge R8 (some .int) 5 6 181) {k : Nat} {r : Int32} {σr : ZS}  {q47 : Nat → Int32 → Int32 → ZS → Option (Int32 × ZS)} (hq47 : (∀ (x2 : Nat) (x3 : Int32) (x4 : Int32) (σ : ZS), q47 x2 x3 x4 σ = some (r, σr) → zw x g 5 0 0 (zMQ x g (some (zi r)) σr) σ 47 [some (zr 1), none, some (zr x2), some (zi x3), some (zi x4)] [])) {x2 : Nat} {x3 : Int32} {x4 : Int32} {σ : ZS} (hf : b8_judge_47 k q47 x2 x3 x4 σ = some (r, σr)) : zw x g 5 0 0 (zMQ x g (some (zi r)) σr) σ 47 [some (zr 1), none, some (zr x2), some (zi x3), some (zi x4)] [] := by
  unfold b8_judge_47 at hf
  refine z_iload C d8_judge_47 rfl ?_
  refine z_iload_n C d8_judge_49 rfl ?_
  refine z_icmp_ge C d8_judge_50 (fun c1 => ?_) (fun c1 => ?_)
  · have hf := zit c1 hf
    refine z_iload_n C d8_judge_84 rfl ?_
    exact z_iret C d8_judge_85 hf
  · have hf := zie c1 hf
    refine z_aload_n C d8_judge_53 rfl ?_
    refine z_iload C d8_judge_54 rfl ?_
    obtain ⟨g3, hf⟩ := zgo hf
    obtain ⟨r2, s2, h2, hf⟩ := zbx hf
    refine z_callVi C (as := [zi x4]) d8_judge_56 w_695 yy4_numberAt (c4_numberAt x.2.1 g h2) yc4_numberAt g3 rfl rfl (Nat.le_of_ble_eq_true rfl) ⟨Nat.le_of_ble_eq_true rfl, Nat.le_of_ble_eq_true rfl⟩ ⟨Nat.zero_le _, Nat.zero_le _⟩ ?_
    refine z_aload_n C d8_judge_59 rfl ?_
    refine z_getR C d8_judge_60 fl_261 kZ_1 2 rfl (zn0 kZ_2) ?_
    refine z_iload C d8_judge_63 rfl ?_
    refine z_aload_n C d8_judge_65 rfl ?_
    refine z_getR C d8_judge_66 fl_264 kZ_1 83 rfl (zn0 kZ_83) ?_
    obtain ⟨r4, s4, h4, hf⟩ := zbx hf
    refine z_callVi C (as := [zi x4, zr 83]) d8_judge_69 w_397 yy5_dueOf (c5_dueOf x.2.1 g h4) yc5_dueOf kZ_2 rfl rfl (Nat.le_of_ble_eq_true rfl) ⟨Nat.le_of_ble_eq_true rfl, Nat.le_of_ble_eq_true rfl⟩ ⟨Nat.zero_le _, Nat.zero_le _⟩ ?_
    refine z_icmp_eq C d8_judge_72 (fun c5 => ?_) (fun c5 => ?_)
    · have hf := zit c5 hf
      refine z_iinc C d8_judge_78 rfl kI_1 (Nat.le_of_ble_eq_true rfl) rfl (L' := [some (zr 1), none, some (zr x2), some (zi x3), some (zi (x4 + (1 : Int32)))]) rfl ?_
      refine z_goto C d8_judge_81 ?_
      exact hq47 _ _ _ _ hf
    · have hf := zie c5 hf
      refine z_iload C d8_judge_75 rfl ?_
      exact z_iret C d8_judge_77 hf
theorem j8_judge_47l {x : ZX} {g : ZG} (C : zC x g b8_judge R8 (some .int) 5 6 181) {k : Nat} {r : Int32} {σr : ZS}  : ∀ (n : Nat) (x2 : Nat) (x3 : Int32) (x4 : Int32) (σ : ZS), f8_judge_47 k  n x2 x3 x4 σ = some (r, σr) → zw x g 5 0 0 (zMQ x g (some (zi r)) σr) σ 47 [some (zr 1), none, some (zr x2), some (zi x3), some (zi x4)] [] := by
  intro n
  induction n with
  | zero => intro x2 x3 x4 σ hf; exact absurd (show none = some (r, σr) from hf) (fun z => by cases z)
  | succ n ih => intro x2 x3 x4 σ hf; exact j8_judge_47 C  ih (show b8_judge_47 k  (f8_judge_47 k  n) x2 x3 x4 σ = some (r, σr) from hf)
def f8_judge (k : Nat) (x1 : Int32) (σ : ZS) : Option (Int32 × ZS) :=
  zbd (f8_sheetOf k x1 σ) fun r1 s1 =>
  if r1 = 0 then (
  zbd (f8_error k (1 : Int32) s1) fun r3 s3 =>
  some (r3, s3))
  else (
  if zsh r1 = 5 then (
  if (s1 r1 1) = 0 then (
  zbd (f8_error k (2 : Int32) s1) fun r6 s6 =>
  some (r6, s6))
  else (
  f8_judge_47 k  k r1 (if (s1 2 7) < (s1 r1 2) then (s1 2 7) else (s1 r1 2)) (0 : Int32) s1)) else none)
theorem c8_judge (l : Launch) (g : ZG) {k : Nat} {x1 : Int32} {σ : ZS} {r : Int32} {σr : ZS} (hf : f8_judge k x1 σ = some (r, σr)) : zT l g y8_judge b8_judge 5 (some .int) 6 181 [zr 1, zi x1] σ (some (zi r)) σr := by
  unfold f8_judge at hf
  refine zT_start (own := R8) rfl (by decide +kernel) 3 (L := [some (zr 1), some (zi x1), none, none, none]) rfl rfl (fun x hl C => ?_)
  subst hl
  refine z_aload_n C d8_judge_0 rfl ?_
  refine z_iload_n C d8_judge_1 rfl ?_
  obtain ⟨r1, s1, h1, hf⟩ := zbx hf
  refine z_callVr C (as := [zi x1]) d8_judge_2 w_687 yy8_sheetOf (c8_sheetOf x.2.1 g h1) yc8_sheetOf kZ_1 rfl rfl (Nat.le_of_ble_eq_true rfl) ⟨Nat.le_of_ble_eq_true rfl, Nat.le_of_ble_eq_true rfl⟩ ⟨Nat.zero_le _, Nat.zero_le _⟩ ?_
  refine z_astore_n C d8_judge_5 (Nat.le_of_ble_eq_true rfl) rfl (L' := [some (zr 1), some (zi x1), some (zr r1), none, none]) rfl ?_
  refine z_aload_n C d8_judge_6 rfl ?_
  refine z_ifnonnull C d8_judge_7 (fun c2 => ?_) (fun c2 => ?_)
  · have hf := zit c2 hf
    refine z_aload_n C d8_judge_10 rfl ?_
    refine z_iconst C (1 : Int32) d8_judge_11 kI_1 ?_
    obtain ⟨r3, s3, h3, hf⟩ := zbx hf
    refine z_callVi C (as := [zi (1 : Int32)]) d8_judge_12 w_308 yy8_error (c8_error x.2.1 g h3) yc8_error kZ_1 rfl rfl (Nat.le_of_ble_eq_true rfl) ⟨Nat.le_of_ble_eq_true rfl, Nat.le_of_ble_eq_true rfl⟩ ⟨Nat.zero_le _, Nat.zero_le _⟩ ?_
    exact z_iret C d8_judge_15 hf
  · have hf := zie c2 hf
    refine z_aload_n C d8_judge_16 rfl ?_
    obtain ⟨g4, hf⟩ := zgo hf
    refine z_getI C d8_judge_17 fl_251 g4 ?_
    refine z_if_ne C d8_judge_20 (fun c5 => ?_) (fun c5 => ?_)
    · have hf := zit c5 hf
      refine z_aload_n C d8_judge_23 rfl ?_
      refine z_iconst C (2 : Int32) d8_judge_24 kI_2 ?_
      obtain ⟨r6, s6, h6, hf⟩ := zbx hf
      refine z_callVi C (as := [zi (2 : Int32)]) d8_judge_25 w_308 yy8_error (c8_error x.2.1 g h6) yc8_error kZ_1 rfl rfl (Nat.le_of_ble_eq_true rfl) ⟨Nat.le_of_ble_eq_true rfl, Nat.le_of_ble_eq_true rfl⟩ ⟨Nat.zero_le _, Nat.zero_le _⟩ ?_
      exact z_iret C d8_judge_28 hf
    · have hf := zie c5 hf
      refine z_aload_n C d8_judge_29 rfl ?_
      refine z_getI C d8_judge_30 fl_253 g4 ?_
      refine z_aload_n C d8_judge_33 rfl ?_
      refine z_getR C d8_judge_34 fl_261 kZ_1 2 rfl (zn0 kZ_2) ?_
      refine z_getI C d8_judge_37 fl_128 kZ_2 ?_
      refine z_min C d8_judge_40 w_458 (Nat.le_of_ble_eq_true rfl) ⟨Nat.le_of_ble_eq_true rfl, Nat.le_of_ble_eq_true rfl⟩ ⟨Nat.zero_le _, Nat.zero_le _⟩ zminw ?_
      refine z_istore_n C d8_judge_43 (Nat.le_of_ble_eq_true rfl) rfl (L' := [some (zr 1), some (zi x1), some (zr r1), some (zi (if (s1 2 7) < (s1 r1 2) then (s1 2 7) else (s1 r1 2))), none]) rfl ?_
      refine z_iconst C (0 : Int32) d8_judge_44 kI_0 ?_
      refine z_istore C d8_judge_45 (Nat.le_of_ble_eq_true rfl) rfl (L' := [some (zr 1), some (zi x1), some (zr r1), some (zi (if (s1 2 7) < (s1 r1 2) then (s1 2 7) else (s1 r1 2))), some (zi (0 : Int32))]) rfl ?_
      refine z_drop [true, false, true, true, true] (L' := [some (zr 1), none, some (zr r1), some (zi (if (s1 2 7) < (s1 r1 2) then (s1 2 7) else (s1 r1 2))), some (zi (0 : Int32))]) rfl ?_
      exact j8_judge_47l C  _ _ _ _ _ hf
theorem d8_law_0 : zd b8_law 0 (.aload_n 0) 1 1 := ⟨by decide +kernel, rfl⟩
theorem d8_law_1 : zd b8_law 1 (.getfield 10) 3 4 := ⟨by decide +kernel, rfl⟩
theorem d8_law_4 : zd b8_law 4 (.iload_n 1) 1 5 := ⟨by decide +kernel, rfl⟩
theorem d8_law_5 : zd b8_law 5 (.invokevirtual 161) 3 8 := ⟨by decide +kernel, rfl⟩
theorem d8_law_8 : zdb b8_law 8 (.ifnonnull 9) 9 11 17 := ⟨by decide +kernel, rfl, by decide⟩
theorem d8_law_11 : zd b8_law 11 (.aload_n 0) 1 12 := ⟨by decide +kernel, rfl⟩
theorem d8_law_12 : zd b8_law 12 (.iconst 1) 1 13 := ⟨by decide +kernel, rfl⟩
theorem d8_law_13 : zd b8_law 13 (.invokevirtual 67) 3 16 := ⟨by decide +kernel, rfl⟩
theorem d8_law_16 : zd b8_law 16 .ireturn 1 17 := ⟨by decide +kernel, rfl⟩
theorem d8_law_17 : zd b8_law 17 (.aload_n 0) 1 18 := ⟨by decide +kernel, rfl⟩
theorem d8_law_18 : zd b8_law 18 (.getfield 10) 3 21 := ⟨by decide +kernel, rfl⟩
theorem d8_law_21 : zd b8_law 21 (.iload_n 1) 1 22 := ⟨by decide +kernel, rfl⟩
theorem d8_law_22 : zd b8_law 22 (.iload_n 2) 1 23 := ⟨by decide +kernel, rfl⟩
theorem d8_law_23 : zd b8_law 23 (.iload_n 3) 1 24 := ⟨by decide +kernel, rfl⟩
theorem d8_law_24 : zd b8_law 24 (.iload 4) 2 26 := ⟨by decide +kernel, rfl⟩
theorem d8_law_26 : zd b8_law 26 (.invokevirtual 186) 3 29 := ⟨by decide +kernel, rfl⟩
theorem d8_law_29 : zd b8_law 29 .ireturn 1 30 := ⟨by decide +kernel, rfl⟩
def f8_law (k : Nat) (x1 : Int32) (x2 : Int32) (x3 : Int32) (x4 : Int32) (σ : ZS) : Option (Int32 × ZS) :=
  zbd (f5_textOf k 2 x1 σ) fun r1 s1 =>
  if r1 = 0 then (
  zbd (f8_error k (1 : Int32) s1) fun r3 s3 =>
  some (r3, s3))
  else (
  zbd (f5_given k 2 x1 x2 x3 x4 s1) fun r4 s4 =>
  some (r4, s4))
theorem c8_law (l : Launch) (g : ZG) {k : Nat} {x1 : Int32} {x2 : Int32} {x3 : Int32} {x4 : Int32} {σ : ZS} {r : Int32} {σr : ZS} (hf : f8_law k x1 x2 x3 x4 σ = some (r, σr)) : zT l g y8_law b8_law 5 (some .int) 4 134 [zr 1, zi x1, zi x2, zi x3, zi x4] σ (some (zi r)) σr := by
  unfold f8_law at hf
  refine zT_start (own := R8) rfl (by decide +kernel) 0 (L := [some (zr 1), some (zi x1), some (zi x2), some (zi x3), some (zi x4)]) rfl rfl (fun x hl C => ?_)
  subst hl
  refine z_aload_n C d8_law_0 rfl ?_
  refine z_getR C d8_law_1 fl_261 kZ_1 2 rfl (zn0 kZ_2) ?_
  refine z_iload_n C d8_law_4 rfl ?_
  obtain ⟨r1, s1, h1, hf⟩ := zbx hf
  refine z_callVr C (as := [zi x1]) d8_law_5 w_475 yy5_textOf (c5_textOf x.2.1 g h1) yc5_textOf kZ_2 rfl rfl (Nat.le_of_ble_eq_true rfl) ⟨Nat.le_of_ble_eq_true rfl, Nat.le_of_ble_eq_true rfl⟩ ⟨Nat.zero_le _, Nat.zero_le _⟩ ?_
  refine z_ifnonnull C d8_law_8 (fun c2 => ?_) (fun c2 => ?_)
  · have hf := zit c2 hf
    refine z_aload_n C d8_law_11 rfl ?_
    refine z_iconst C (1 : Int32) d8_law_12 kI_1 ?_
    obtain ⟨r3, s3, h3, hf⟩ := zbx hf
    refine z_callVi C (as := [zi (1 : Int32)]) d8_law_13 w_308 yy8_error (c8_error x.2.1 g h3) yc8_error kZ_1 rfl rfl (Nat.le_of_ble_eq_true rfl) ⟨Nat.le_of_ble_eq_true rfl, Nat.le_of_ble_eq_true rfl⟩ ⟨Nat.zero_le _, Nat.zero_le _⟩ ?_
    exact z_iret C d8_law_16 hf
  · have hf := zie c2 hf
    refine z_aload_n C d8_law_17 rfl ?_
    refine z_getR C d8_law_18 fl_261 kZ_1 2 rfl (zn0 kZ_2) ?_
    refine z_iload_n C d8_law_21 rfl ?_
    refine z_iload_n C d8_law_22 rfl ?_
    refine z_iload_n C d8_law_23 rfl ?_
    refine z_iload C d8_law_24 rfl ?_
    obtain ⟨r4, s4, h4, hf⟩ := zbx hf
    refine z_callVi C (as := [zi x1, zi x2, zi x3, zi x4]) d8_law_26 w_579 yy5_given (c5_given x.2.1 g h4) yc5_given kZ_2 rfl rfl (Nat.le_of_ble_eq_true rfl) ⟨Nat.le_of_ble_eq_true rfl, Nat.le_of_ble_eq_true rfl⟩ ⟨Nat.zero_le _, Nat.zero_le _⟩ ?_
    exact z_iret C d8_law_29 hf
theorem d8_look_0 : zd b8_look 0 (.iload_n 1) 1 1 := ⟨by decide +kernel, rfl⟩
theorem d8_look_1 : zd b8_look 1 (.invokestatic 61) 3 4 := ⟨by decide +kernel, rfl⟩
theorem d8_look_4 : zdb b8_look 4 (.ifCond .ne 19) 19 7 23 := ⟨by decide +kernel, rfl, by decide⟩
theorem d8_look_7 : zd b8_look 7 (.iload_n 2) 1 8 := ⟨by decide +kernel, rfl⟩
theorem d8_look_8 : zd b8_look 8 (.invokestatic 103) 3 11 := ⟨by decide +kernel, rfl⟩
theorem d8_look_11 : zdb b8_look 11 (.ifCond .ne 12) 12 14 23 := ⟨by decide +kernel, rfl, by decide⟩
theorem d8_look_14 : zd b8_look 14 (.iload_n 3) 1 15 := ⟨by decide +kernel, rfl⟩
theorem d8_look_15 : zdb b8_look 15 (.ifCond .lt 8) 8 18 23 := ⟨by decide +kernel, rfl, by decide⟩
theorem d8_look_18 : zd b8_look 18 (.iload_n 3) 1 19 := ⟨by decide +kernel, rfl⟩
theorem d8_look_19 : zd b8_look 19 (.iconst 3) 1 20 := ⟨by decide +kernel, rfl⟩
theorem d8_look_20 : zdb b8_look 20 (.if_icmp .le 9) 9 23 29 := ⟨by decide +kernel, rfl, by decide⟩
theorem d8_look_23 : zd b8_look 23 (.aload_n 0) 1 24 := ⟨by decide +kernel, rfl⟩
theorem d8_look_24 : zd b8_look 24 (.iconst 1) 1 25 := ⟨by decide +kernel, rfl⟩
theorem d8_look_25 : zd b8_look 25 (.invokevirtual 67) 3 28 := ⟨by decide +kernel, rfl⟩
theorem d8_look_28 : zd b8_look 28 .ireturn 1 29 := ⟨by decide +kernel, rfl⟩
theorem d8_look_29 : zd b8_look 29 (.aload_n 0) 1 30 := ⟨by decide +kernel, rfl⟩
theorem d8_look_30 : zd b8_look 30 (.getfield 25) 3 33 := ⟨by decide +kernel, rfl⟩
theorem d8_look_33 : zd b8_look 33 (.aload_n 0) 1 34 := ⟨by decide +kernel, rfl⟩
theorem d8_look_34 : zd b8_look 34 (.getfield 10) 3 37 := ⟨by decide +kernel, rfl⟩
theorem d8_look_37 : zd b8_look 37 (.iload_n 1) 1 38 := ⟨by decide +kernel, rfl⟩
theorem d8_look_38 : zd b8_look 38 (.iload_n 2) 1 39 := ⟨by decide +kernel, rfl⟩
theorem d8_look_39 : zd b8_look 39 (.invokevirtual 200) 3 42 := ⟨by decide +kernel, rfl⟩
theorem d8_look_42 : zd b8_look 42 (.iload_n 3) 1 43 := ⟨by decide +kernel, rfl⟩
theorem d8_look_43 : zd b8_look 43 (.iconst 3) 1 44 := ⟨by decide +kernel, rfl⟩
theorem d8_look_44 : zdb b8_look 44 (.if_icmp .ne 15) 15 47 59 := ⟨by decide +kernel, rfl, by decide⟩
theorem d8_look_47 : zd b8_look 47 (.aload_n 0) 1 48 := ⟨by decide +kernel, rfl⟩
theorem d8_look_48 : zd b8_look 48 (.getfield 10) 3 51 := ⟨by decide +kernel, rfl⟩
theorem d8_look_51 : zd b8_look 51 (.aload_n 0) 1 52 := ⟨by decide +kernel, rfl⟩
theorem d8_look_52 : zd b8_look 52 (.getfield 25) 3 55 := ⟨by decide +kernel, rfl⟩
theorem d8_look_55 : zd b8_look 55 (.invokevirtual 204) 3 58 := ⟨by decide +kernel, rfl⟩
theorem d8_look_58 : zd b8_look 58 .ireturn 1 59 := ⟨by decide +kernel, rfl⟩
theorem d8_look_59 : zd b8_look 59 (.aload_n 0) 1 60 := ⟨by decide +kernel, rfl⟩
theorem d8_look_60 : zd b8_look 60 (.getfield 25) 3 63 := ⟨by decide +kernel, rfl⟩
theorem d8_look_63 : zd b8_look 63 (.getfield 208) 3 66 := ⟨by decide +kernel, rfl⟩
theorem d8_look_66 : zdb b8_look 66 (.ifCond .eq 9) 9 69 75 := ⟨by decide +kernel, rfl, by decide⟩
theorem d8_look_69 : zd b8_look 69 (.aload_n 0) 1 70 := ⟨by decide +kernel, rfl⟩
theorem d8_look_70 : zd b8_look 70 (.iconst 2) 1 71 := ⟨by decide +kernel, rfl⟩
theorem d8_look_71 : zd b8_look 71 (.invokevirtual 67) 3 74 := ⟨by decide +kernel, rfl⟩
theorem d8_look_74 : zd b8_look 74 .ireturn 1 75 := ⟨by decide +kernel, rfl⟩
theorem d8_look_75 : zd b8_look 75 (.iload_n 3) 1 76 := ⟨by decide +kernel, rfl⟩
theorem d8_look_76 : decode b8_look 76 = .ok ((.lookupswitch 53 #[(0, 28), (1, 45)]), 28) := by decide +kernel
theorem d8_look_104 : zd b8_look 104 (.aload_n 0) 1 105 := ⟨by decide +kernel, rfl⟩
theorem d8_look_105 : zd b8_look 105 (.getfield 25) 3 108 := ⟨by decide +kernel, rfl⟩
theorem d8_look_108 : zd b8_look 108 (.aload_n 0) 1 109 := ⟨by decide +kernel, rfl⟩
theorem d8_look_109 : zd b8_look 109 (.getfield 25) 3 112 := ⟨by decide +kernel, rfl⟩
theorem d8_look_112 : zd b8_look 112 (.getfield 211) 3 115 := ⟨by decide +kernel, rfl⟩
theorem d8_look_115 : zd b8_look 115 (.iconst 1) 1 116 := ⟨by decide +kernel, rfl⟩
theorem d8_look_116 : zd b8_look 116 .isub 1 117 := ⟨by decide +kernel, rfl⟩
theorem d8_look_117 : zd b8_look 117 (.invokevirtual 214) 3 120 := ⟨by decide +kernel, rfl⟩
theorem d8_look_120 : zd b8_look 120 .ireturn 1 121 := ⟨by decide +kernel, rfl⟩
theorem d8_look_121 : zd b8_look 121 (.aload_n 0) 1 122 := ⟨by decide +kernel, rfl⟩
theorem d8_look_122 : zd b8_look 122 (.getfield 25) 3 125 := ⟨by decide +kernel, rfl⟩
theorem d8_look_125 : zd b8_look 125 (.getfield 211) 3 128 := ⟨by decide +kernel, rfl⟩
theorem d8_look_128 : zd b8_look 128 .ireturn 1 129 := ⟨by decide +kernel, rfl⟩
theorem d8_look_129 : zd b8_look 129 (.aload_n 0) 1 130 := ⟨by decide +kernel, rfl⟩
theorem d8_look_130 : zd b8_look 130 (.getfield 25) 3 133 := ⟨by decide +kernel, rfl⟩
theorem d8_look_133 : zd b8_look 133 (.getfield 217) 3 136 := ⟨by decide +kernel, rfl⟩
theorem d8_look_136 : zd b8_look 136 .ireturn 1 137 := ⟨by decide +kernel, rfl⟩
def f8_look (k : Nat) (x1 : Int32) (x2 : Int32) (x3 : Int32) (σ : ZS) : Option (Int32 × ZS) :=
  zbd (f8_isNoCell k x1 σ) fun r1 s1 =>
  if r1 = 0 then (
  zbd (f8_isNoWay k x2 s1) fun r3 s3 =>
  if r3 = 0 then (
  if x3 < 0 then (
  zbd (f8_error k (1 : Int32) s3) fun r6 s6 =>
  some (r6, s6))
  else (
  if x3 ≤ (3 : Int32) then (
  zbd (f1_follow k 2 x1 x2 s3) fun _ s8 =>
  if x3 = (3 : Int32) then (
  zbd (f5_taxOf k 2 s8) fun r10 s10 =>
  some (r10, s10))
  else (
  if (s8 83 4) = 0 then (
  if x3 = (0 : Int32) then (
  zbd (f1_cellAt k ((s8 83 2) - (1 : Int32)) s8) fun r13 s13 =>
  some (r13, s13))
  else (
  if x3 = (1 : Int32) then (
  some ((s8 83 2), s8))
  else (
  some ((s8 83 3), s8))))
  else (
  zbd (f8_error k (2 : Int32) s8) fun r15 s15 =>
  some (r15, s15))))
  else (
  zbd (f8_error k (1 : Int32) s3) fun r16 s16 =>
  some (r16, s16))))
  else (
  zbd (f8_error k (1 : Int32) s3) fun r17 s17 =>
  some (r17, s17)))
  else (
  zbd (f8_error k (1 : Int32) s1) fun r18 s18 =>
  some (r18, s18))
theorem c8_look (l : Launch) (g : ZG) {k : Nat} {x1 : Int32} {x2 : Int32} {x3 : Int32} {σ : ZS} {r : Int32} {σr : ZS} (hf : f8_look k x1 x2 x3 σ = some (r, σr)) : zT l g y8_look b8_look 4 (some .int) 5 158 [zr 1, zi x1, zi x2, zi x3] σ (some (zi r)) σr := by
  unfold f8_look at hf
  refine zT_start (own := R8) rfl (by decide +kernel) 0 (L := [some (zr 1), some (zi x1), some (zi x2), some (zi x3)]) rfl rfl (fun x hl C => ?_)
  subst hl
  refine z_iload_n C d8_look_0 rfl ?_
  obtain ⟨r1, s1, h1, hf⟩ := zbx hf
  refine z_callSi C (as := [zi x1]) d8_look_1 w_302 yy8_isNoCell (c8_isNoCell x.2.1 g h1) rfl rfl (Nat.le_of_ble_eq_true rfl) ⟨Nat.le_of_ble_eq_true rfl, Nat.le_of_ble_eq_true rfl⟩ ⟨Nat.zero_le _, Nat.zero_le _⟩ ?_
  refine z_if_ne C d8_look_4 (fun c2 => ?_) (fun c2 => ?_)
  · have hf := zit c2 hf
    refine z_iload_n C d8_look_7 rfl ?_
    obtain ⟨r3, s3, h3, hf⟩ := zbx hf
    refine z_callSi C (as := [zi x2]) d8_look_8 w_339 yy8_isNoWay (c8_isNoWay x.2.1 g h3) rfl rfl (Nat.le_of_ble_eq_true rfl) ⟨Nat.le_of_ble_eq_true rfl, Nat.le_of_ble_eq_true rfl⟩ ⟨Nat.zero_le _, Nat.zero_le _⟩ ?_
    refine z_if_ne C d8_look_11 (fun c4 => ?_) (fun c4 => ?_)
    · have hf := zit c4 hf
      refine z_iload_n C d8_look_14 rfl ?_
      refine z_if_lt C d8_look_15 (fun c5 => ?_) (fun c5 => ?_)
      · have hf := zit c5 hf
        refine z_aload_n C d8_look_23 rfl ?_
        refine z_iconst C (1 : Int32) d8_look_24 kI_1 ?_
        obtain ⟨r6, s6, h6, hf⟩ := zbx hf
        refine z_callVi C (as := [zi (1 : Int32)]) d8_look_25 w_308 yy8_error (c8_error x.2.1 g h6) yc8_error kZ_1 rfl rfl (Nat.le_of_ble_eq_true rfl) ⟨Nat.le_of_ble_eq_true rfl, Nat.le_of_ble_eq_true rfl⟩ ⟨Nat.zero_le _, Nat.zero_le _⟩ ?_
        exact z_iret C d8_look_28 hf
      · have hf := zie c5 hf
        refine z_iload_n C d8_look_18 rfl ?_
        refine z_iconst C (3 : Int32) d8_look_19 kI_3 ?_
        refine z_icmp_le C d8_look_20 (fun c7 => ?_) (fun c7 => ?_)
        · have hf := zit c7 hf
          refine z_aload_n C d8_look_29 rfl ?_
          refine z_getR C d8_look_30 fl_264 kZ_1 83 rfl (zn0 kZ_83) ?_
          refine z_aload_n C d8_look_33 rfl ?_
          refine z_getR C d8_look_34 fl_261 kZ_1 2 rfl (zn0 kZ_2) ?_
          refine z_iload_n C d8_look_37 rfl ?_
          refine z_iload_n C d8_look_38 rfl ?_
          obtain ⟨r8, s8, h8, hf⟩ := zbx hf
          refine z_callVv C (as := [zr 2, zi x1, zi x2]) d8_look_39 w_615 yy1_follow (c1_follow x.2.1 g h8) yc1_follow kZ_83 rfl rfl (Nat.le_of_ble_eq_true rfl) ⟨Nat.le_of_ble_eq_true rfl, Nat.le_of_ble_eq_true rfl⟩ ⟨Nat.zero_le _, Nat.zero_le _⟩ ?_
          refine z_iload_n C d8_look_42 rfl ?_
          refine z_iconst C (3 : Int32) d8_look_43 kI_3 ?_
          refine z_icmp_ne C d8_look_44 (fun c9 => ?_) (fun c9 => ?_)
          · have hf := zit c9 hf
            refine z_aload_n C d8_look_47 rfl ?_
            refine z_getR C d8_look_48 fl_261 kZ_1 2 rfl (zn0 kZ_2) ?_
            refine z_aload_n C d8_look_51 rfl ?_
            refine z_getR C d8_look_52 fl_264 kZ_1 83 rfl (zn0 kZ_83) ?_
            obtain ⟨r10, s10, h10, hf⟩ := zbx hf
            refine z_callVi C (as := [zr 83]) d8_look_55 w_616 yy5_taxOf (c5_taxOf x.2.1 g h10) yc5_taxOf kZ_2 rfl rfl (Nat.le_of_ble_eq_true rfl) ⟨Nat.le_of_ble_eq_true rfl, Nat.le_of_ble_eq_true rfl⟩ ⟨Nat.zero_le _, Nat.zero_le _⟩ ?_
            exact z_iret C d8_look_58 hf
          · have hf := zie c9 hf
            refine z_aload_n C d8_look_59 rfl ?_
            refine z_getR C d8_look_60 fl_264 kZ_1 83 rfl (zn0 kZ_83) ?_
            refine z_getI C d8_look_63 fl_177 kZ_83 ?_
            refine z_if_eq C d8_look_66 (fun c11 => ?_) (fun c11 => ?_)
            · have hf := zit c11 hf
              refine z_iload_n C d8_look_75 rfl ?_
              refine z_lsw C [((0 : Int32), 104), ((1 : Int32), 121)] (d := 129) d8_look_76 (by decide +kernel) (by decide) (by decide +kernel) ?_
              refine z_swc (fun c12 => ?_) (fun c12 => ?_)
              · have hf := zit c12 hf
                refine z_aload_n C d8_look_104 rfl ?_
                refine z_getR C d8_look_105 fl_264 kZ_1 83 rfl (zn0 kZ_83) ?_
                refine z_aload_n C d8_look_108 rfl ?_
                refine z_getR C d8_look_109 fl_264 kZ_1 83 rfl (zn0 kZ_83) ?_
                refine z_getI C d8_look_112 fl_171 kZ_83 ?_
                refine z_iconst C (1 : Int32) d8_look_115 kI_1 ?_
                refine z_isub C d8_look_116 ?_
                obtain ⟨r13, s13, h13, hf⟩ := zbx hf
                refine z_callVi C (as := [zi ((s8 83 2) - (1 : Int32))]) d8_look_117 w_617 yy1_cellAt (c1_cellAt x.2.1 g h13) yc1_cellAt kZ_83 rfl rfl (Nat.le_of_ble_eq_true rfl) ⟨Nat.le_of_ble_eq_true rfl, Nat.le_of_ble_eq_true rfl⟩ ⟨Nat.zero_le _, Nat.zero_le _⟩ ?_
                exact z_iret C d8_look_120 hf
              · have hf := zie c12 hf
                refine z_swc (fun c14 => ?_) (fun c14 => ?_)
                · have hf := zit c14 hf
                  refine z_aload_n C d8_look_121 rfl ?_
                  refine z_getR C d8_look_122 fl_264 kZ_1 83 rfl (zn0 kZ_83) ?_
                  refine z_getI C d8_look_125 fl_171 kZ_83 ?_
                  exact z_iret C d8_look_128 hf
                · have hf := zie c14 hf
                  refine z_sw0 ?_
                  refine z_aload_n C d8_look_129 rfl ?_
                  refine z_getR C d8_look_130 fl_264 kZ_1 83 rfl (zn0 kZ_83) ?_
                  refine z_getI C d8_look_133 fl_174 kZ_83 ?_
                  exact z_iret C d8_look_136 hf
            · have hf := zie c11 hf
              refine z_aload_n C d8_look_69 rfl ?_
              refine z_iconst C (2 : Int32) d8_look_70 kI_2 ?_
              obtain ⟨r15, s15, h15, hf⟩ := zbx hf
              refine z_callVi C (as := [zi (2 : Int32)]) d8_look_71 w_308 yy8_error (c8_error x.2.1 g h15) yc8_error kZ_1 rfl rfl (Nat.le_of_ble_eq_true rfl) ⟨Nat.le_of_ble_eq_true rfl, Nat.le_of_ble_eq_true rfl⟩ ⟨Nat.zero_le _, Nat.zero_le _⟩ ?_
              exact z_iret C d8_look_74 hf
        · have hf := zie c7 hf
          refine z_aload_n C d8_look_23 rfl ?_
          refine z_iconst C (1 : Int32) d8_look_24 kI_1 ?_
          obtain ⟨r16, s16, h16, hf⟩ := zbx hf
          refine z_callVi C (as := [zi (1 : Int32)]) d8_look_25 w_308 yy8_error (c8_error x.2.1 g h16) yc8_error kZ_1 rfl rfl (Nat.le_of_ble_eq_true rfl) ⟨Nat.le_of_ble_eq_true rfl, Nat.le_of_ble_eq_true rfl⟩ ⟨Nat.zero_le _, Nat.zero_le _⟩ ?_
          exact z_iret C d8_look_28 hf
    · have hf := zie c4 hf
      refine z_aload_n C d8_look_23 rfl ?_
      refine z_iconst C (1 : Int32) d8_look_24 kI_1 ?_
      obtain ⟨r17, s17, h17, hf⟩ := zbx hf
      refine z_callVi C (as := [zi (1 : Int32)]) d8_look_25 w_308 yy8_error (c8_error x.2.1 g h17) yc8_error kZ_1 rfl rfl (Nat.le_of_ble_eq_true rfl) ⟨Nat.le_of_ble_eq_true rfl, Nat.le_of_ble_eq_true rfl⟩ ⟨Nat.zero_le _, Nat.zero_le _⟩ ?_
      exact z_iret C d8_look_28 hf
  · have hf := zie c2 hf
    refine z_aload_n C d8_look_23 rfl ?_
    refine z_iconst C (1 : Int32) d8_look_24 kI_1 ?_
    obtain ⟨r18, s18, h18, hf⟩ := zbx hf
    refine z_callVi C (as := [zi (1 : Int32)]) d8_look_25 w_308 yy8_error (c8_error x.2.1 g h18) yc8_error kZ_1 rfl rfl (Nat.le_of_ble_eq_true rfl) ⟨Nat.le_of_ble_eq_true rfl, Nat.le_of_ble_eq_true rfl⟩ ⟨Nat.zero_le _, Nat.zero_le _⟩ ?_
    exact z_iret C d8_look_28 hf
theorem d5_draw_0 : zd b5_draw 0 (.aload_n 0) 1 1 := ⟨by decide +kernel, rfl⟩
theorem d5_draw_1 : zd b5_draw 1 (.aload_n 0) 1 2 := ⟨by decide +kernel, rfl⟩
theorem d5_draw_2 : zd b5_draw 2 (.getfield 39) 3 5 := ⟨by decide +kernel, rfl⟩
theorem d5_draw_5 : zd b5_draw 5 (.ldc 179) 2 7 := ⟨by decide +kernel, rfl⟩
theorem d5_draw_7 : zd b5_draw 7 .imul 1 8 := ⟨by decide +kernel, rfl⟩
theorem d5_draw_8 : zd b5_draw 8 (.sipush 12345) 3 11 := ⟨by decide +kernel, rfl⟩
theorem d5_draw_11 : zd b5_draw 11 .iadd 1 12 := ⟨by decide +kernel, rfl⟩
theorem d5_draw_12 : zd b5_draw 12 (.putfield 39) 3 15 := ⟨by decide +kernel, rfl⟩
theorem d5_draw_15 : zd b5_draw 15 (.aload_n 0) 1 16 := ⟨by decide +kernel, rfl⟩
theorem d5_draw_16 : zd b5_draw 16 (.getfield 39) 3 19 := ⟨by decide +kernel, rfl⟩
theorem d5_draw_19 : zd b5_draw 19 (.bipush 8) 2 21 := ⟨by decide +kernel, rfl⟩
theorem d5_draw_21 : zd b5_draw 21 .iushr 1 22 := ⟨by decide +kernel, rfl⟩
theorem d5_draw_22 : zd b5_draw 22 .ireturn 1 23 := ⟨by decide +kernel, rfl⟩
def f5_draw (k : Nat) (t : Nat)  (σ : ZS) : Option (Int32 × ZS) :=
  if zsh t = 6 then (
  zput (zu σ t 11 (((σ t 11) * (1103515245 : Int32)) + (12345 : Int32))) fun s1 =>
  some ((((s1 t 11).toUInt32 >>> ((8 : Int32).toUInt32 &&& Int32.toUInt32 31)).toInt32), s1)) else none
theorem c5_draw (l : Launch) (g : ZG) {k : Nat} {t : Nat}  {σ : ZS} {r : Int32} {σr : ZS} (hf : f5_draw k t  σ = some (r, σr)) : zT l g y5_draw b5_draw 1 (some .int) 1 60 [zr t] σ (some (zi r)) σr := by
  unfold f5_draw at hf
  obtain ⟨ht, hf⟩ := zgo hf
  refine zT_start (own := R5) rfl (by decide +kernel) 0 (L := [some (zr t)]) rfl rfl (fun x hl C => ?_)
  subst hl
  refine z_aload_n C d5_draw_0 rfl ?_
  refine z_aload_n C d5_draw_1 rfl ?_
  refine z_getI C d5_draw_2 fl_135 ht ?_
  refine z_ldc C (1103515245 : Int32) d5_draw_5 w_606 ?_
  refine z_imul C d5_draw_7 ?_
  refine z_sipush C (12345 : Int32) d5_draw_8 kS_12345 ?_
  refine z_iadd C d5_draw_11 ?_
  obtain ⟨s1, e1, hf⟩ := zpx hf
  refine z_putI C d5_draw_12 fl_135 ft_5_11 ht e1 ?_
  refine z_aload_n C d5_draw_15 rfl ?_
  refine z_getI C d5_draw_16 fl_135 ht ?_
  refine z_bipush C (8 : Int32) d5_draw_19 kB_8 ?_
  refine z_iushr C d5_draw_21 ?_
  exact z_iret C d5_draw_22 hf
theorem d5_standByDraws_0 : zd b5_standByDraws 0 (.aload_n 0) 1 1 := ⟨by decide +kernel, rfl⟩
theorem d5_standByDraws_1 : zd b5_standByDraws 1 (.getfield 71) 3 4 := ⟨by decide +kernel, rfl⟩
theorem d5_standByDraws_4 : zdb b5_standByDraws 4 (.ifCond .gt 4) 4 7 8 := ⟨by decide +kernel, rfl, by decide⟩
theorem d5_standByDraws_7 : zd b5_standByDraws 7 .return_ 1 8 := ⟨by decide +kernel, rfl⟩
theorem d5_standByDraws_8 : zd b5_standByDraws 8 (.aload_n 0) 1 9 := ⟨by decide +kernel, rfl⟩
theorem d5_standByDraws_9 : zd b5_standByDraws 9 (.aload_n 0) 1 10 := ⟨by decide +kernel, rfl⟩
theorem d5_standByDraws_10 : zd b5_standByDraws 10 (.invokevirtual 175) 3 13 := ⟨by decide +kernel, rfl⟩
theorem d5_standByDraws_13 : zd b5_standByDraws 13 (.aload_n 0) 1 14 := ⟨by decide +kernel, rfl⟩
theorem d5_standByDraws_14 : zd b5_standByDraws 14 (.getfield 71) 3 17 := ⟨by decide +kernel, rfl⟩
theorem d5_standByDraws_17 : zd b5_standByDraws 17 .irem 1 18 := ⟨by decide +kernel, rfl⟩
theorem d5_standByDraws_18 : zd b5_standByDraws 18 (.invokevirtual 110) 3 21 := ⟨by decide +kernel, rfl⟩
theorem d5_standByDraws_21 : zd b5_standByDraws 21 (.astore_n 1) 1 22 := ⟨by decide +kernel, rfl⟩
theorem d5_standByDraws_22 : zd b5_standByDraws 22 (.aload_n 0) 1 23 := ⟨by decide +kernel, rfl⟩
theorem d5_standByDraws_23 : zd b5_standByDraws 23 (.invokevirtual 175) 3 26 := ⟨by decide +kernel, rfl⟩
theorem d5_standByDraws_26 : zd b5_standByDraws 26 (.sipush 256) 3 29 := ⟨by decide +kernel, rfl⟩
theorem d5_standByDraws_29 : zd b5_standByDraws 29 .irem 1 30 := ⟨by decide +kernel, rfl⟩
theorem d5_standByDraws_30 : zd b5_standByDraws 30 (.istore_n 2) 1 31 := ⟨by decide +kernel, rfl⟩
theorem d5_standByDraws_31 : zd b5_standByDraws 31 (.aload_n 1) 1 32 := ⟨by decide +kernel, rfl⟩
theorem d5_standByDraws_32 : zdb b5_standByDraws 32 (.ifnull 17) 17 35 49 := ⟨by decide +kernel, rfl, by decide⟩
theorem d5_standByDraws_35 : zd b5_standByDraws 35 (.aload_n 1) 1 36 := ⟨by decide +kernel, rfl⟩
theorem d5_standByDraws_36 : zd b5_standByDraws 36 (.iload_n 2) 1 37 := ⟨by decide +kernel, rfl⟩
theorem d5_standByDraws_37 : zd b5_standByDraws 37 (.iconst 4) 1 38 := ⟨by decide +kernel, rfl⟩
theorem d5_standByDraws_38 : zd b5_standByDraws 38 .idiv 1 39 := ⟨by decide +kernel, rfl⟩
theorem d5_standByDraws_39 : zd b5_standByDraws 39 (.putfield 114) 3 42 := ⟨by decide +kernel, rfl⟩
theorem d5_standByDraws_42 : zd b5_standByDraws 42 (.aload_n 1) 1 43 := ⟨by decide +kernel, rfl⟩
theorem d5_standByDraws_43 : zd b5_standByDraws 43 (.iload_n 2) 1 44 := ⟨by decide +kernel, rfl⟩
theorem d5_standByDraws_44 : zd b5_standByDraws 44 (.iconst 4) 1 45 := ⟨by decide +kernel, rfl⟩
theorem d5_standByDraws_45 : zd b5_standByDraws 45 .irem 1 46 := ⟨by decide +kernel, rfl⟩
theorem d5_standByDraws_46 : zd b5_standByDraws 46 (.putfield 115) 3 49 := ⟨by decide +kernel, rfl⟩
theorem d5_standByDraws_49 : zd b5_standByDraws 49 .return_ 1 50 := ⟨by decide +kernel, rfl⟩
def f5_standByDraws (k : Nat) (t : Nat)  (σ : ZS) : Option (Unit × ZS) :=
  if zsh t = 6 then (
  if 0 < (σ t 7) then (
  zbd (f5_draw k t σ) fun r2 s2 =>
  if ¬ (s2 t 7) = 0 then (
  zbd (f5_personOf k t (r2 % (s2 t 7)) s2) fun r4 s4 =>
  zbd (f5_draw k t s4) fun r5 s5 =>
  if r4 = 0 then (
  some ((), s5))
  else (
  if zsh r4 = 3 then (
  zput (zu s5 r4 0 ((r5 % (256 : Int32)) / (4 : Int32))) fun s8 =>
  zput (zu s8 r4 1 ((r5 % (256 : Int32)) % (4 : Int32))) fun s9 =>
  some ((), s9)) else none)) else none)
  else (
  some ((), σ))) else none
theorem c5_standByDraws (l : Launch) (g : ZG) {k : Nat} {t : Nat}  {σ : ZS} {r : Unit} {σr : ZS} (hf : f5_standByDraws k t  σ = some (r, σr)) : zT l g y5_standByDraws b5_standByDraws 3 none 2 81 [zr t] σ none σr := by
  unfold f5_standByDraws at hf
  obtain ⟨ht, hf⟩ := zgo hf
  refine zT_start (own := R5) rfl (by decide +kernel) 2 (L := [some (zr t), none, none]) rfl rfl (fun x hl C => ?_)
  subst hl
  refine z_aload_n C d5_standByDraws_0 rfl ?_
  refine z_getI C d5_standByDraws_1 fl_127 ht ?_
  refine z_if_gt C d5_standByDraws_4 (fun c1 => ?_) (fun c1 => ?_)
  · have hf := zit c1 hf
    refine z_aload_n C d5_standByDraws_8 rfl ?_
    refine z_aload_n C d5_standByDraws_9 rfl ?_
    obtain ⟨r2, s2, h2, hf⟩ := zbx hf
    refine z_callVi C (as := []) d5_standByDraws_10 w_602 yy5_draw (c5_draw x.2.1 g h2) yc5_draw ht rfl rfl (Nat.le_of_ble_eq_true rfl) ⟨Nat.le_of_ble_eq_true rfl, Nat.le_of_ble_eq_true rfl⟩ ⟨Nat.zero_le _, Nat.zero_le _⟩ ?_
    refine z_aload_n C d5_standByDraws_13 rfl ?_
    refine z_getI C d5_standByDraws_14 fl_127 ht ?_
    obtain ⟨g3, hf⟩ := zgo hf
    refine z_irem C d5_standByDraws_17 g3 ?_
    obtain ⟨r4, s4, h4, hf⟩ := zbx hf
    refine z_callVr C (as := [zi (r2 % (s2 t 7))]) d5_standByDraws_18 w_388 yy5_personOf (c5_personOf x.2.1 g h4) yc5_personOf ht rfl rfl (Nat.le_of_ble_eq_true rfl) ⟨Nat.le_of_ble_eq_true rfl, Nat.le_of_ble_eq_true rfl⟩ ⟨Nat.zero_le _, Nat.zero_le _⟩ ?_
    refine z_astore_n C d5_standByDraws_21 (Nat.le_of_ble_eq_true rfl) rfl (L' := [some (zr t), some (zr r4), none]) rfl ?_
    refine z_aload_n C d5_standByDraws_22 rfl ?_
    obtain ⟨r5, s5, h5, hf⟩ := zbx hf
    refine z_callVi C (as := []) d5_standByDraws_23 w_602 yy5_draw (c5_draw x.2.1 g h5) yc5_draw ht rfl rfl (Nat.le_of_ble_eq_true rfl) ⟨Nat.le_of_ble_eq_true rfl, Nat.le_of_ble_eq_true rfl⟩ ⟨Nat.zero_le _, Nat.zero_le _⟩ ?_
    refine z_sipush C (256 : Int32) d5_standByDraws_26 kS_256 ?_
    refine z_irem C d5_standByDraws_29 (by decide) ?_
    refine z_istore_n C d5_standByDraws_30 (Nat.le_of_ble_eq_true rfl) rfl (L' := [some (zr t), some (zr r4), some (zi (r5 % (256 : Int32)))]) rfl ?_
    refine z_aload_n C d5_standByDraws_31 rfl ?_
    refine z_ifnull C d5_standByDraws_32 (fun c6 => ?_) (fun c6 => ?_)
    · have hf := zit c6 hf
      exact z_vret C d5_standByDraws_49 hf
    · have hf := zie c6 hf
      refine z_aload_n C d5_standByDraws_35 rfl ?_
      refine z_iload_n C d5_standByDraws_36 rfl ?_
      refine z_iconst C (4 : Int32) d5_standByDraws_37 kI_4 ?_
      refine z_idiv C d5_standByDraws_38 (by decide) ?_
      obtain ⟨g7, hf⟩ := zgo hf
      obtain ⟨s8, e8, hf⟩ := zpx hf
      refine z_putI C d5_standByDraws_39 fl_81 ft_2_0 g7 e8 ?_
      refine z_aload_n C d5_standByDraws_42 rfl ?_
      refine z_iload_n C d5_standByDraws_43 rfl ?_
      refine z_iconst C (4 : Int32) d5_standByDraws_44 kI_4 ?_
      refine z_irem C d5_standByDraws_45 (by decide) ?_
      obtain ⟨s9, e9, hf⟩ := zpx hf
      refine z_putI C d5_standByDraws_46 fl_84 ft_2_1 g7 e9 ?_
      exact z_vret C d5_standByDraws_49 hf
  · have hf := zie c1 hf
    exact z_vret C d5_standByDraws_7 hf
theorem d8_loose_0 : zd b8_loose 0 (.iload_n 1) 1 1 := ⟨by decide +kernel, rfl⟩
theorem d8_loose_1 : zd b8_loose 1 (.iconst 1) 1 2 := ⟨by decide +kernel, rfl⟩
theorem d8_loose_2 : zdb b8_loose 2 (.if_icmp .lt 9) 9 5 11 := ⟨by decide +kernel, rfl, by decide⟩
theorem d8_loose_5 : zd b8_loose 5 (.iload_n 1) 1 6 := ⟨by decide +kernel, rfl⟩
theorem d8_loose_6 : zd b8_loose 6 (.bipush 24) 2 8 := ⟨by decide +kernel, rfl⟩
theorem d8_loose_8 : zdb b8_loose 8 (.if_icmp .le 9) 9 11 17 := ⟨by decide +kernel, rfl, by decide⟩
theorem d8_loose_11 : zd b8_loose 11 (.aload_n 0) 1 12 := ⟨by decide +kernel, rfl⟩
theorem d8_loose_12 : zd b8_loose 12 (.iconst 1) 1 13 := ⟨by decide +kernel, rfl⟩
theorem d8_loose_13 : zd b8_loose 13 (.invokevirtual 67) 3 16 := ⟨by decide +kernel, rfl⟩
theorem d8_loose_16 : zd b8_loose 16 .ireturn 1 17 := ⟨by decide +kernel, rfl⟩
theorem d8_loose_17 : zd b8_loose 17 (.aload_n 0) 1 18 := ⟨by decide +kernel, rfl⟩
theorem d8_loose_18 : zd b8_loose 18 (.getfield 10) 3 21 := ⟨by decide +kernel, rfl⟩
theorem d8_loose_21 : zd b8_loose 21 (.getfield 151) 3 24 := ⟨by decide +kernel, rfl⟩
theorem d8_loose_24 : zd b8_loose 24 (.iload_n 1) 1 25 := ⟨by decide +kernel, rfl⟩
theorem d8_loose_25 : zd b8_loose 25 .iadd 1 26 := ⟨by decide +kernel, rfl⟩
theorem d8_loose_26 : zd b8_loose 26 (.sipush 9999) 3 29 := ⟨by decide +kernel, rfl⟩
theorem d8_loose_29 : zdb b8_loose 29 (.if_icmp .le 9) 9 32 38 := ⟨by decide +kernel, rfl, by decide⟩
theorem d8_loose_32 : zd b8_loose 32 (.aload_n 0) 1 33 := ⟨by decide +kernel, rfl⟩
theorem d8_loose_33 : zd b8_loose 33 (.iconst 3) 1 34 := ⟨by decide +kernel, rfl⟩
theorem d8_loose_34 : zd b8_loose 34 (.invokevirtual 67) 3 37 := ⟨by decide +kernel, rfl⟩
theorem d8_loose_37 : zd b8_loose 37 .ireturn 1 38 := ⟨by decide +kernel, rfl⟩
theorem d8_loose_38 : zd b8_loose 38 (.iconst 0) 1 39 := ⟨by decide +kernel, rfl⟩
theorem d8_loose_39 : zd b8_loose 39 (.istore_n 2) 1 40 := ⟨by decide +kernel, rfl⟩
theorem d8_loose_40 : zd b8_loose 40 (.iload_n 2) 1 41 := ⟨by decide +kernel, rfl⟩
theorem d8_loose_41 : zd b8_loose 41 (.iload_n 1) 1 42 := ⟨by decide +kernel, rfl⟩
theorem d8_loose_42 : zdb b8_loose 42 (.if_icmp .ge 27) 27 45 69 := ⟨by decide +kernel, rfl, by decide⟩
theorem d8_loose_45 : zd b8_loose 45 (.aload_n 0) 1 46 := ⟨by decide +kernel, rfl⟩
theorem d8_loose_46 : zd b8_loose 46 (.getfield 10) 3 49 := ⟨by decide +kernel, rfl⟩
theorem d8_loose_49 : zd b8_loose 49 (.invokevirtual 194) 3 52 := ⟨by decide +kernel, rfl⟩
theorem d8_loose_52 : zd b8_loose 52 (.aload_n 0) 1 53 := ⟨by decide +kernel, rfl⟩
theorem d8_loose_53 : zd b8_loose 53 (.getfield 10) 3 56 := ⟨by decide +kernel, rfl⟩
theorem d8_loose_56 : zd b8_loose 56 (.aload_n 0) 1 57 := ⟨by decide +kernel, rfl⟩
theorem d8_loose_57 : zd b8_loose 57 (.getfield 25) 3 60 := ⟨by decide +kernel, rfl⟩
theorem d8_loose_60 : zd b8_loose 60 (.invokevirtual 190) 3 63 := ⟨by decide +kernel, rfl⟩
theorem d8_loose_63 : zd b8_loose 63 (.iinc 2 1) 3 66 := ⟨by decide +kernel, rfl⟩
theorem d8_loose_66 : zdb b8_loose 66 (.goto (-26)) (-26) 69 40 := ⟨by decide +kernel, rfl, by decide⟩
theorem d8_loose_69 : zd b8_loose 69 (.aload_n 0) 1 70 := ⟨by decide +kernel, rfl⟩
theorem d8_loose_70 : zd b8_loose 70 (.getfield 10) 3 73 := ⟨by decide +kernel, rfl⟩
theorem d8_loose_73 : zd b8_loose 73 (.getfield 151) 3 76 := ⟨by decide +kernel, rfl⟩
theorem d8_loose_76 : zd b8_loose 76 .ireturn 1 77 := ⟨by decide +kernel, rfl⟩
def b8_loose_40 (k : Nat) (q40 : Int32 → Int32 → ZS → Option (Int32 × ZS)) (x1 : Int32) (x2 : Int32) (σ : ZS) : Option (Int32 × ZS) :=
  if x1 ≤ x2 then (
  some ((σ 2 10), σ))
  else (
  zbd (f5_standByDraws k 2 σ) fun _ s2 =>
  zbd (f5_passHour k 2 s2) fun _ s3 =>
  q40 x1 (x2 + (1 : Int32)) s3)
def f8_loose_40 (k : Nat) : Nat → Int32 → Int32 → ZS → Option (Int32 × ZS)
  | 0 => fun _ _ _ => none
  | n + 1 => b8_loose_40 k  (f8_loose_40 k  n)
theorem j8_loose_40 {x : ZX} {g : ZG} (C : zC x g b8_loose R8 (some .int) 3 7 204) {k : Nat} {r : Int32} {σr : ZS}  {q40 : Int32 → Int32 → ZS → Option (Int32 × ZS)} (hq40 : (∀ (x1 : Int32) (x2 : Int32) (σ : ZS), q40 x1 x2 σ = some (r, σr) → zw x g 3 0 0 (zMQ x g (some (zi r)) σr) σ 40 [some (zr 1), some (zi x1), some (zi x2)] [])) {x1 : Int32} {x2 : Int32} {σ : ZS} (hf : b8_loose_40 k q40 x1 x2 σ = some (r, σr)) : zw x g 3 0 0 (zMQ x g (some (zi r)) σr) σ 40 [some (zr 1), some (zi x1), some (zi x2)] [] := by
  unfold b8_loose_40 at hf
  refine z_iload_n C d8_loose_40 rfl ?_
  refine z_iload_n C d8_loose_41 rfl ?_
  refine z_icmp_ge C d8_loose_42 (fun c1 => ?_) (fun c1 => ?_)
  · have hf := zit c1 hf
    refine z_aload_n C d8_loose_69 rfl ?_
    refine z_getR C d8_loose_70 fl_261 kZ_1 2 rfl (zn0 kZ_2) ?_
    refine z_getI C d8_loose_73 fl_134 kZ_2 ?_
    exact z_iret C d8_loose_76 hf
  · have hf := zie c1 hf
    refine z_aload_n C d8_loose_45 rfl ?_
    refine z_getR C d8_loose_46 fl_261 kZ_1 2 rfl (zn0 kZ_2) ?_
    obtain ⟨r2, s2, h2, hf⟩ := zbx hf
    refine z_callVv C (as := []) d8_loose_49 w_598 yy5_standByDraws (c5_standByDraws x.2.1 g h2) yc5_standByDraws kZ_2 rfl rfl (Nat.le_of_ble_eq_true rfl) ⟨Nat.le_of_ble_eq_true rfl, Nat.le_of_ble_eq_true rfl⟩ ⟨Nat.zero_le _, Nat.zero_le _⟩ ?_
    refine z_aload_n C d8_loose_52 rfl ?_
    refine z_getR C d8_loose_53 fl_261 kZ_1 2 rfl (zn0 kZ_2) ?_
    refine z_aload_n C d8_loose_56 rfl ?_
    refine z_getR C d8_loose_57 fl_264 kZ_1 83 rfl (zn0 kZ_83) ?_
    obtain ⟨r3, s3, h3, hf⟩ := zbx hf
    refine z_callVv C (as := [zr 83]) d8_loose_60 w_584 yy5_passHour (c5_passHour x.2.1 g h3) yc5_passHour kZ_2 rfl rfl (Nat.le_of_ble_eq_true rfl) ⟨Nat.le_of_ble_eq_true rfl, Nat.le_of_ble_eq_true rfl⟩ ⟨Nat.zero_le _, Nat.zero_le _⟩ ?_
    refine z_iinc C d8_loose_63 rfl kI_1 (Nat.le_of_ble_eq_true rfl) rfl (L' := [some (zr 1), some (zi x1), some (zi (x2 + (1 : Int32)))]) rfl ?_
    refine z_goto C d8_loose_66 ?_
    exact hq40 _ _ _ hf
theorem j8_loose_40l {x : ZX} {g : ZG} (C : zC x g b8_loose R8 (some .int) 3 7 204) {k : Nat} {r : Int32} {σr : ZS}  : ∀ (n : Nat) (x1 : Int32) (x2 : Int32) (σ : ZS), f8_loose_40 k  n x1 x2 σ = some (r, σr) → zw x g 3 0 0 (zMQ x g (some (zi r)) σr) σ 40 [some (zr 1), some (zi x1), some (zi x2)] [] := by
  intro n
  induction n with
  | zero => intro x1 x2 σ hf; exact absurd (show none = some (r, σr) from hf) (fun z => by cases z)
  | succ n ih => intro x1 x2 σ hf; exact j8_loose_40 C  ih (show b8_loose_40 k  (f8_loose_40 k  n) x1 x2 σ = some (r, σr) from hf)
def f8_loose (k : Nat) (x1 : Int32) (σ : ZS) : Option (Int32 × ZS) :=
  if x1 < (1 : Int32) then (
  zbd (f8_error k (1 : Int32) σ) fun r2 s2 =>
  some (r2, s2))
  else (
  if x1 ≤ (24 : Int32) then (
  if ((σ 2 10) + x1) ≤ (9999 : Int32) then (
  f8_loose_40 k  k x1 (0 : Int32) σ)
  else (
  zbd (f8_error k (3 : Int32) σ) fun r5 s5 =>
  some (r5, s5)))
  else (
  zbd (f8_error k (1 : Int32) σ) fun r6 s6 =>
  some (r6, s6)))
theorem c8_loose (l : Launch) (g : ZG) {k : Nat} {x1 : Int32} {σ : ZS} {r : Int32} {σr : ZS} (hf : f8_loose k x1 σ = some (r, σr)) : zT l g y8_loose b8_loose 3 (some .int) 7 204 [zr 1, zi x1] σ (some (zi r)) σr := by
  unfold f8_loose at hf
  refine zT_start (own := R8) rfl (by decide +kernel) 1 (L := [some (zr 1), some (zi x1), none]) rfl rfl (fun x hl C => ?_)
  subst hl
  refine z_iload_n C d8_loose_0 rfl ?_
  refine z_iconst C (1 : Int32) d8_loose_1 kI_1 ?_
  refine z_icmp_lt C d8_loose_2 (fun c1 => ?_) (fun c1 => ?_)
  · have hf := zit c1 hf
    refine z_aload_n C d8_loose_11 rfl ?_
    refine z_iconst C (1 : Int32) d8_loose_12 kI_1 ?_
    obtain ⟨r2, s2, h2, hf⟩ := zbx hf
    refine z_callVi C (as := [zi (1 : Int32)]) d8_loose_13 w_308 yy8_error (c8_error x.2.1 g h2) yc8_error kZ_1 rfl rfl (Nat.le_of_ble_eq_true rfl) ⟨Nat.le_of_ble_eq_true rfl, Nat.le_of_ble_eq_true rfl⟩ ⟨Nat.zero_le _, Nat.zero_le _⟩ ?_
    exact z_iret C d8_loose_16 hf
  · have hf := zie c1 hf
    refine z_iload_n C d8_loose_5 rfl ?_
    refine z_bipush C (24 : Int32) d8_loose_6 kB_24 ?_
    refine z_icmp_le C d8_loose_8 (fun c3 => ?_) (fun c3 => ?_)
    · have hf := zit c3 hf
      refine z_aload_n C d8_loose_17 rfl ?_
      refine z_getR C d8_loose_18 fl_261 kZ_1 2 rfl (zn0 kZ_2) ?_
      refine z_getI C d8_loose_21 fl_134 kZ_2 ?_
      refine z_iload_n C d8_loose_24 rfl ?_
      refine z_iadd C d8_loose_25 ?_
      refine z_sipush C (9999 : Int32) d8_loose_26 kS_9999 ?_
      refine z_icmp_le C d8_loose_29 (fun c4 => ?_) (fun c4 => ?_)
      · have hf := zit c4 hf
        refine z_iconst C (0 : Int32) d8_loose_38 kI_0 ?_
        refine z_istore_n C d8_loose_39 (Nat.le_of_ble_eq_true rfl) rfl (L' := [some (zr 1), some (zi x1), some (zi (0 : Int32))]) rfl ?_
        exact j8_loose_40l C  _ _ _ _ hf
      · have hf := zie c4 hf
        refine z_aload_n C d8_loose_32 rfl ?_
        refine z_iconst C (3 : Int32) d8_loose_33 kI_3 ?_
        obtain ⟨r5, s5, h5, hf⟩ := zbx hf
        refine z_callVi C (as := [zi (3 : Int32)]) d8_loose_34 w_308 yy8_error (c8_error x.2.1 g h5) yc8_error kZ_1 rfl rfl (Nat.le_of_ble_eq_true rfl) ⟨Nat.le_of_ble_eq_true rfl, Nat.le_of_ble_eq_true rfl⟩ ⟨Nat.zero_le _, Nat.zero_le _⟩ ?_
        exact z_iret C d8_loose_37 hf
    · have hf := zie c3 hf
      refine z_aload_n C d8_loose_11 rfl ?_
      refine z_iconst C (1 : Int32) d8_loose_12 kI_1 ?_
      obtain ⟨r6, s6, h6, hf⟩ := zbx hf
      refine z_callVi C (as := [zi (1 : Int32)]) d8_loose_13 w_308 yy8_error (c8_error x.2.1 g h6) yc8_error kZ_1 rfl rfl (Nat.le_of_ble_eq_true rfl) ⟨Nat.le_of_ble_eq_true rfl, Nat.le_of_ble_eq_true rfl⟩ ⟨Nat.zero_le _, Nat.zero_le _⟩ ?_
      exact z_iret C d8_loose_16 hf
theorem d4_holds_0 : zd b4_holds 0 (.iload_n 2) 1 1 := ⟨by decide +kernel, rfl⟩
theorem d4_holds_1 : zdb b4_holds 1 (.ifCond .lt 29) 29 4 30 := ⟨by decide +kernel, rfl, by decide⟩
theorem d4_holds_4 : zd b4_holds 4 (.iload_n 1) 1 5 := ⟨by decide +kernel, rfl⟩
theorem d4_holds_5 : zdb b4_holds 5 (.ifCond .lt 25) 25 8 30 := ⟨by decide +kernel, rfl, by decide⟩
theorem d4_holds_8 : zd b4_holds 8 (.iload_n 2) 1 9 := ⟨by decide +kernel, rfl⟩
theorem d4_holds_9 : zd b4_holds 9 (.aload_n 0) 1 10 := ⟨by decide +kernel, rfl⟩
theorem d4_holds_10 : zd b4_holds 10 (.getfield 25) 3 13 := ⟨by decide +kernel, rfl⟩
theorem d4_holds_13 : zdb b4_holds 13 (.if_icmp .gt 17) 17 16 30 := ⟨by decide +kernel, rfl, by decide⟩
theorem d4_holds_16 : zd b4_holds 16 (.iload_n 1) 1 17 := ⟨by decide +kernel, rfl⟩
theorem d4_holds_17 : zd b4_holds 17 (.aload_n 0) 1 18 := ⟨by decide +kernel, rfl⟩
theorem d4_holds_18 : zd b4_holds 18 (.getfield 25) 3 21 := ⟨by decide +kernel, rfl⟩
theorem d4_holds_21 : zd b4_holds 21 (.iload_n 2) 1 22 := ⟨by decide +kernel, rfl⟩
theorem d4_holds_22 : zd b4_holds 22 .isub 1 23 := ⟨by decide +kernel, rfl⟩
theorem d4_holds_23 : zdb b4_holds 23 (.if_icmp .gt 7) 7 26 30 := ⟨by decide +kernel, rfl, by decide⟩
theorem d4_holds_26 : zd b4_holds 26 (.iconst 1) 1 27 := ⟨by decide +kernel, rfl⟩
theorem d4_holds_27 : zdb b4_holds 27 (.goto 4) 4 30 31 := ⟨by decide +kernel, rfl, by decide⟩
theorem d4_holds_30 : zd b4_holds 30 (.iconst 0) 1 31 := ⟨by decide +kernel, rfl⟩
theorem d4_holds_31 : zd b4_holds 31 .ireturn 1 32 := ⟨by decide +kernel, rfl⟩
def f4_holds (k : Nat) (t : Nat) (x1 : Int32) (x2 : Int32) (σ : ZS) : Option (Int32 × ZS) :=
  if zsh t = 5 then (
  if x2 < 0 then (
  some ((0 : Int32), σ))
  else (
  if x1 < 0 then (
  some ((0 : Int32), σ))
  else (
  if (σ t 2) < x2 then (
  some ((0 : Int32), σ))
  else (
  if ((σ t 2) - x2) < x1 then (
  some ((0 : Int32), σ))
  else (
  some ((1 : Int32), σ)))))) else none
theorem c4_holds (l : Launch) (g : ZG) {k : Nat} {t : Nat} {x1 : Int32} {x2 : Int32} {σ : ZS} {r : Int32} {σr : ZS} (hf : f4_holds k t x1 x2 σ = some (r, σr)) : zT l g y4_holds b4_holds 3 (some .boolean) 1 60 [zr t, zi x1, zi x2] σ (some (zi r)) σr := by
  unfold f4_holds at hf
  obtain ⟨ht, hf⟩ := zgo hf
  refine zT_start (own := R4) rfl (by decide +kernel) 0 (L := [some (zr t), some (zi x1), some (zi x2)]) rfl rfl (fun x hl C => ?_)
  subst hl
  refine z_iload_n C d4_holds_0 rfl ?_
  refine z_if_lt C d4_holds_1 (fun c1 => ?_) (fun c1 => ?_)
  · have hf := zit c1 hf
    refine z_iconst C (0 : Int32) d4_holds_30 kI_0 ?_
    exact z_zret C d4_holds_31 (Or.inl rfl) hf
  · have hf := zie c1 hf
    refine z_iload_n C d4_holds_4 rfl ?_
    refine z_if_lt C d4_holds_5 (fun c2 => ?_) (fun c2 => ?_)
    · have hf := zit c2 hf
      refine z_iconst C (0 : Int32) d4_holds_30 kI_0 ?_
      exact z_zret C d4_holds_31 (Or.inl rfl) hf
    · have hf := zie c2 hf
      refine z_iload_n C d4_holds_8 rfl ?_
      refine z_aload_n C d4_holds_9 rfl ?_
      refine z_getI C d4_holds_10 fl_252 ht ?_
      refine z_icmp_gt C d4_holds_13 (fun c3 => ?_) (fun c3 => ?_)
      · have hf := zit c3 hf
        refine z_iconst C (0 : Int32) d4_holds_30 kI_0 ?_
        exact z_zret C d4_holds_31 (Or.inl rfl) hf
      · have hf := zie c3 hf
        refine z_iload_n C d4_holds_16 rfl ?_
        refine z_aload_n C d4_holds_17 rfl ?_
        refine z_getI C d4_holds_18 fl_252 ht ?_
        refine z_iload_n C d4_holds_21 rfl ?_
        refine z_isub C d4_holds_22 ?_
        refine z_icmp_gt C d4_holds_23 (fun c4 => ?_) (fun c4 => ?_)
        · have hf := zit c4 hf
          refine z_iconst C (0 : Int32) d4_holds_30 kI_0 ?_
          exact z_zret C d4_holds_31 (Or.inl rfl) hf
        · have hf := zie c4 hf
          refine z_iconst C (1 : Int32) d4_holds_26 kI_1 ?_
          refine z_goto C d4_holds_27 ?_
          exact z_zret C d4_holds_31 (Or.inr rfl) hf
