/-! methods, printed by wip/whole/gen: GlassTax$Voices.say, GlassTax$Voices.sayGlass, GlassTax$Voices.saySpoon, GlassTax$Voices.sayBowl, GlassTax$Voices.saySilvered, GlassTax$Voices.sayOnly, GlassTax$Voices.answer, GlassTax.voice, GlassTaxModel.about, GlassTaxModel.byteHere, GlassTaxModel.step, GlassTaxModel.nameOf, GlassTaxModel.in, GlassTaxModel.number -/
theorem d7_say_0 : zd b7_say 0 (.aload_n 0) 1 1 := ⟨by decide +kernel, rfl⟩
theorem d7_say_1 : zd b7_say 1 (.getfield 32) 3 4 := ⟨by decide +kernel, rfl⟩
theorem d7_say_4 : zdb b7_say 4 (.ifCond .ne 10) 10 7 14 := ⟨by decide +kernel, rfl, by decide⟩
theorem d7_say_7 : zd b7_say 7 (.iload 4) 2 9 := ⟨by decide +kernel, rfl⟩
theorem d7_say_9 : zd b7_say 9 (.bipush 30) 2 11 := ⟨by decide +kernel, rfl⟩
theorem d7_say_11 : zdb b7_say 11 (.if_icmp .le 5) 5 14 16 := ⟨by decide +kernel, rfl, by decide⟩
theorem d7_say_14 : zd b7_say 14 (.iconst 0) 1 15 := ⟨by decide +kernel, rfl⟩
theorem d7_say_15 : zd b7_say 15 .ireturn 1 16 := ⟨by decide +kernel, rfl⟩
theorem d7_say_16 : zd b7_say 16 (.iload_n 1) 1 17 := ⟨by decide +kernel, rfl⟩
theorem d7_say_17 : zd b7_say 17 (.iload_n 2) 1 18 := ⟨by decide +kernel, rfl⟩
theorem d7_say_18 : zd b7_say 18 (.invokestatic 40) 3 21 := ⟨by decide +kernel, rfl⟩
theorem d7_say_21 : zd b7_say 21 (.istore 5) 2 23 := ⟨by decide +kernel, rfl⟩
theorem d7_say_23 : zd b7_say 23 (.aload_n 0) 1 24 := ⟨by decide +kernel, rfl⟩
theorem d7_say_24 : zd b7_say 24 (.getfield 29) 3 27 := ⟨by decide +kernel, rfl⟩
theorem d7_say_27 : zdb b7_say 27 (.ifCond .lt 36) 36 30 63 := ⟨by decide +kernel, rfl, by decide⟩
theorem d7_say_30 : zd b7_say 30 (.aload_n 0) 1 31 := ⟨by decide +kernel, rfl⟩
theorem d7_say_31 : zd b7_say 31 (.getfield 29) 3 34 := ⟨by decide +kernel, rfl⟩
theorem d7_say_34 : zd b7_say 34 (.aload_n 0) 1 35 := ⟨by decide +kernel, rfl⟩
theorem d7_say_35 : zd b7_say 35 (.getfield 11) 3 38 := ⟨by decide +kernel, rfl⟩
theorem d7_say_38 : zd b7_say 38 .arraylength 1 39 := ⟨by decide +kernel, rfl⟩
theorem d7_say_39 : zdb b7_say 39 (.if_icmp .ge 24) 24 42 63 := ⟨by decide +kernel, rfl, by decide⟩
theorem d7_say_42 : zd b7_say 42 (.aload_n 0) 1 43 := ⟨by decide +kernel, rfl⟩
theorem d7_say_43 : zd b7_say 43 (.getfield 11) 3 46 := ⟨by decide +kernel, rfl⟩
theorem d7_say_46 : zd b7_say 46 (.aload_n 0) 1 47 := ⟨by decide +kernel, rfl⟩
theorem d7_say_47 : zd b7_say 47 (.getfield 29) 3 50 := ⟨by decide +kernel, rfl⟩
theorem d7_say_50 : zd b7_say 50 (.iload 5) 2 52 := ⟨by decide +kernel, rfl⟩
theorem d7_say_52 : zd b7_say 52 .iastore 1 53 := ⟨by decide +kernel, rfl⟩
theorem d7_say_53 : zd b7_say 53 (.aload_n 0) 1 54 := ⟨by decide +kernel, rfl⟩
theorem d7_say_54 : zd b7_say 54 .dup 1 55 := ⟨by decide +kernel, rfl⟩
theorem d7_say_55 : zd b7_say 55 (.getfield 29) 3 58 := ⟨by decide +kernel, rfl⟩
theorem d7_say_58 : zd b7_say 58 (.iconst 1) 1 59 := ⟨by decide +kernel, rfl⟩
theorem d7_say_59 : zd b7_say 59 .iadd 1 60 := ⟨by decide +kernel, rfl⟩
theorem d7_say_60 : zd b7_say 60 (.putfield 29) 3 63 := ⟨by decide +kernel, rfl⟩
theorem d7_say_63 : zd b7_say 63 (.iload 5) 2 65 := ⟨by decide +kernel, rfl⟩
theorem d7_say_65 : zd b7_say 65 (.bipush 10) 2 67 := ⟨by decide +kernel, rfl⟩
theorem d7_say_67 : zd b7_say 67 .idiv 1 68 := ⟨by decide +kernel, rfl⟩
theorem d7_say_68 : decode b7_say 68 = .ok ((.tableswitch 92 1 7 #[44, 56, 92, 92, 68, 92, 80]), 44) := by decide +kernel
theorem d7_say_112 : zd b7_say 112 (.aload_n 0) 1 113 := ⟨by decide +kernel, rfl⟩
theorem d7_say_113 : zd b7_say 113 (.iload 5) 2 115 := ⟨by decide +kernel, rfl⟩
theorem d7_say_115 : zd b7_say 115 (.iload_n 3) 1 116 := ⟨by decide +kernel, rfl⟩
theorem d7_say_116 : zd b7_say 116 (.iload 4) 2 118 := ⟨by decide +kernel, rfl⟩
theorem d7_say_118 : zd b7_say 118 (.iconst 1) 1 119 := ⟨by decide +kernel, rfl⟩
theorem d7_say_119 : zd b7_say 119 .iadd 1 120 := ⟨by decide +kernel, rfl⟩
theorem d7_say_120 : zd b7_say 120 (.invokevirtual 44) 3 123 := ⟨by decide +kernel, rfl⟩
theorem d7_say_123 : zd b7_say 123 .ireturn 1 124 := ⟨by decide +kernel, rfl⟩
theorem d7_say_124 : zd b7_say 124 (.aload_n 0) 1 125 := ⟨by decide +kernel, rfl⟩
theorem d7_say_125 : zd b7_say 125 (.iload 5) 2 127 := ⟨by decide +kernel, rfl⟩
theorem d7_say_127 : zd b7_say 127 (.iload_n 3) 1 128 := ⟨by decide +kernel, rfl⟩
theorem d7_say_128 : zd b7_say 128 (.iload 4) 2 130 := ⟨by decide +kernel, rfl⟩
theorem d7_say_130 : zd b7_say 130 (.iconst 1) 1 131 := ⟨by decide +kernel, rfl⟩
theorem d7_say_131 : zd b7_say 131 .iadd 1 132 := ⟨by decide +kernel, rfl⟩
theorem d7_say_132 : zd b7_say 132 (.invokevirtual 48) 3 135 := ⟨by decide +kernel, rfl⟩
theorem d7_say_135 : zd b7_say 135 .ireturn 1 136 := ⟨by decide +kernel, rfl⟩
theorem d7_say_136 : zd b7_say 136 (.aload_n 0) 1 137 := ⟨by decide +kernel, rfl⟩
theorem d7_say_137 : zd b7_say 137 (.iload 5) 2 139 := ⟨by decide +kernel, rfl⟩
theorem d7_say_139 : zd b7_say 139 (.iload_n 3) 1 140 := ⟨by decide +kernel, rfl⟩
theorem d7_say_140 : zd b7_say 140 (.iload 4) 2 142 := ⟨by decide +kernel, rfl⟩
theorem d7_say_142 : zd b7_say 142 (.iconst 1) 1 143 := ⟨by decide +kernel, rfl⟩
theorem d7_say_143 : zd b7_say 143 .iadd 1 144 := ⟨by decide +kernel, rfl⟩
theorem d7_say_144 : zd b7_say 144 (.invokevirtual 51) 3 147 := ⟨by decide +kernel, rfl⟩
theorem d7_say_147 : zd b7_say 147 .ireturn 1 148 := ⟨by decide +kernel, rfl⟩
theorem d7_say_148 : zd b7_say 148 (.aload_n 0) 1 149 := ⟨by decide +kernel, rfl⟩
theorem d7_say_149 : zd b7_say 149 (.iload 5) 2 151 := ⟨by decide +kernel, rfl⟩
theorem d7_say_151 : zd b7_say 151 (.iload_n 3) 1 152 := ⟨by decide +kernel, rfl⟩
theorem d7_say_152 : zd b7_say 152 (.iload 4) 2 154 := ⟨by decide +kernel, rfl⟩
theorem d7_say_154 : zd b7_say 154 (.iconst 1) 1 155 := ⟨by decide +kernel, rfl⟩
theorem d7_say_155 : zd b7_say 155 .iadd 1 156 := ⟨by decide +kernel, rfl⟩
theorem d7_say_156 : zd b7_say 156 (.invokevirtual 54) 3 159 := ⟨by decide +kernel, rfl⟩
theorem d7_say_159 : zd b7_say 159 .ireturn 1 160 := ⟨by decide +kernel, rfl⟩
theorem d7_say_160 : zd b7_say 160 (.aload_n 0) 1 161 := ⟨by decide +kernel, rfl⟩
theorem d7_say_161 : zd b7_say 161 (.iload 5) 2 163 := ⟨by decide +kernel, rfl⟩
theorem d7_say_163 : zd b7_say 163 (.iload_n 3) 1 164 := ⟨by decide +kernel, rfl⟩
theorem d7_say_164 : zd b7_say 164 (.iload 4) 2 166 := ⟨by decide +kernel, rfl⟩
theorem d7_say_166 : zd b7_say 166 (.iconst 1) 1 167 := ⟨by decide +kernel, rfl⟩
theorem d7_say_167 : zd b7_say 167 .iadd 1 168 := ⟨by decide +kernel, rfl⟩
theorem d7_say_168 : zd b7_say 168 (.invokevirtual 57) 3 171 := ⟨by decide +kernel, rfl⟩
theorem d7_say_171 : zd b7_say 171 .ireturn 1 172 := ⟨by decide +kernel, rfl⟩
theorem d7_sayGlass_0 : zd b7_sayGlass 0 (.iload_n 1) 1 1 := ⟨by decide +kernel, rfl⟩
theorem d7_sayGlass_1 : decode b7_sayGlass 1 = .ok ((.tableswitch 65 10 12 #[27, 34, 48]), 27) := by decide +kernel
theorem d7_sayGlass_28 : zd b7_sayGlass 28 (.iload_n 2) 1 29 := ⟨by decide +kernel, rfl⟩
theorem d7_sayGlass_29 : zd b7_sayGlass 29 (.aload_n 0) 1 30 := ⟨by decide +kernel, rfl⟩
theorem d7_sayGlass_30 : zd b7_sayGlass 30 (.getfield 22) 3 33 := ⟨by decide +kernel, rfl⟩
theorem d7_sayGlass_33 : zd b7_sayGlass 33 .iadd 1 34 := ⟨by decide +kernel, rfl⟩
theorem d7_sayGlass_34 : zd b7_sayGlass 34 .ireturn 1 35 := ⟨by decide +kernel, rfl⟩
theorem d7_sayGlass_35 : zd b7_sayGlass 35 (.aload_n 0) 1 36 := ⟨by decide +kernel, rfl⟩
theorem d7_sayGlass_36 : zd b7_sayGlass 36 (.aload_n 0) 1 37 := ⟨by decide +kernel, rfl⟩
theorem d7_sayGlass_37 : zd b7_sayGlass 37 (.getfield 21) 3 40 := ⟨by decide +kernel, rfl⟩
theorem d7_sayGlass_40 : zd b7_sayGlass 40 (.iconst 0) 1 41 := ⟨by decide +kernel, rfl⟩
theorem d7_sayGlass_41 : zd b7_sayGlass 41 (.iload_n 2) 1 42 := ⟨by decide +kernel, rfl⟩
theorem d7_sayGlass_42 : zd b7_sayGlass 42 (.iload_n 3) 1 43 := ⟨by decide +kernel, rfl⟩
theorem d7_sayGlass_43 : zd b7_sayGlass 43 (.invokevirtual 36) 3 46 := ⟨by decide +kernel, rfl⟩
theorem d7_sayGlass_46 : zd b7_sayGlass 46 (.iconst 2) 1 47 := ⟨by decide +kernel, rfl⟩
theorem d7_sayGlass_47 : zd b7_sayGlass 47 .imul 1 48 := ⟨by decide +kernel, rfl⟩
theorem d7_sayGlass_48 : zd b7_sayGlass 48 .ireturn 1 49 := ⟨by decide +kernel, rfl⟩
theorem d7_sayGlass_49 : zd b7_sayGlass 49 (.aload_n 0) 1 50 := ⟨by decide +kernel, rfl⟩
theorem d7_sayGlass_50 : zd b7_sayGlass 50 (.aload_n 0) 1 51 := ⟨by decide +kernel, rfl⟩
theorem d7_sayGlass_51 : zd b7_sayGlass 51 (.getfield 21) 3 54 := ⟨by decide +kernel, rfl⟩
theorem d7_sayGlass_54 : zd b7_sayGlass 54 (.iconst 1) 1 55 := ⟨by decide +kernel, rfl⟩
theorem d7_sayGlass_55 : zd b7_sayGlass 55 (.iload_n 2) 1 56 := ⟨by decide +kernel, rfl⟩
theorem d7_sayGlass_56 : zd b7_sayGlass 56 (.iload_n 3) 1 57 := ⟨by decide +kernel, rfl⟩
theorem d7_sayGlass_57 : zd b7_sayGlass 57 (.invokevirtual 36) 3 60 := ⟨by decide +kernel, rfl⟩
theorem d7_sayGlass_60 : zd b7_sayGlass 60 (.aload_n 0) 1 61 := ⟨by decide +kernel, rfl⟩
theorem d7_sayGlass_61 : zd b7_sayGlass 61 (.getfield 28) 3 64 := ⟨by decide +kernel, rfl⟩
theorem d7_sayGlass_64 : zd b7_sayGlass 64 .isub 1 65 := ⟨by decide +kernel, rfl⟩
theorem d7_sayGlass_65 : zd b7_sayGlass 65 .ireturn 1 66 := ⟨by decide +kernel, rfl⟩
theorem d7_sayGlass_66 : zd b7_sayGlass 66 (.aload_n 0) 1 67 := ⟨by decide +kernel, rfl⟩
theorem d7_sayGlass_67 : zd b7_sayGlass 67 (.getfield 28) 3 70 := ⟨by decide +kernel, rfl⟩
theorem d7_sayGlass_70 : zd b7_sayGlass 70 (.aload_n 0) 1 71 := ⟨by decide +kernel, rfl⟩
theorem d7_sayGlass_71 : zd b7_sayGlass 71 (.getfield 22) 3 74 := ⟨by decide +kernel, rfl⟩
theorem d7_sayGlass_74 : zd b7_sayGlass 74 .isub 1 75 := ⟨by decide +kernel, rfl⟩
theorem d7_sayGlass_75 : zd b7_sayGlass 75 (.istore 4) 2 77 := ⟨by decide +kernel, rfl⟩
theorem d7_sayGlass_77 : zd b7_sayGlass 77 (.aload_n 0) 1 78 := ⟨by decide +kernel, rfl⟩
theorem d7_sayGlass_78 : zd b7_sayGlass 78 (.iload 4) 2 80 := ⟨by decide +kernel, rfl⟩
theorem d7_sayGlass_80 : zdb b7_sayGlass 80 (.ifCond .ne 7) 7 83 87 := ⟨by decide +kernel, rfl, by decide⟩
theorem d7_sayGlass_83 : zd b7_sayGlass 83 (.iconst 1) 1 84 := ⟨by decide +kernel, rfl⟩
theorem d7_sayGlass_84 : zdb b7_sayGlass 84 (.goto 4) 4 87 88 := ⟨by decide +kernel, rfl, by decide⟩
theorem d7_sayGlass_87 : zd b7_sayGlass 87 (.iconst 0) 1 88 := ⟨by decide +kernel, rfl⟩
theorem d7_sayGlass_88 : zd b7_sayGlass 88 (.putfield 32) 3 91 := ⟨by decide +kernel, rfl⟩
theorem d7_sayGlass_91 : zd b7_sayGlass 91 (.iload 4) 2 93 := ⟨by decide +kernel, rfl⟩
theorem d7_sayGlass_93 : zdb b7_sayGlass 93 (.ifCond .ne 7) 7 96 100 := ⟨by decide +kernel, rfl, by decide⟩
theorem d7_sayGlass_96 : zd b7_sayGlass 96 (.iconst 0) 1 97 := ⟨by decide +kernel, rfl⟩
theorem d7_sayGlass_97 : zdb b7_sayGlass 97 (.goto 7) 7 100 104 := ⟨by decide +kernel, rfl, by decide⟩
theorem d7_sayGlass_100 : zd b7_sayGlass 100 (.iload_n 2) 1 101 := ⟨by decide +kernel, rfl⟩
theorem d7_sayGlass_101 : zd b7_sayGlass 101 (.iload 4) 2 103 := ⟨by decide +kernel, rfl⟩
theorem d7_sayGlass_103 : zd b7_sayGlass 103 .idiv 1 104 := ⟨by decide +kernel, rfl⟩
theorem d7_sayGlass_104 : zd b7_sayGlass 104 .ireturn 1 105 := ⟨by decide +kernel, rfl⟩
theorem d7_saySpoon_0 : zd b7_saySpoon 0 (.iload_n 1) 1 1 := ⟨by decide +kernel, rfl⟩
theorem d7_saySpoon_1 : zd b7_saySpoon 1 (.bipush 20) 2 3 := ⟨by decide +kernel, rfl⟩
theorem d7_saySpoon_3 : zdb b7_saySpoon 3 (.if_icmp .ne 14) 14 6 17 := ⟨by decide +kernel, rfl, by decide⟩
theorem d7_saySpoon_6 : zd b7_saySpoon 6 (.aload_n 0) 1 7 := ⟨by decide +kernel, rfl⟩
theorem d7_saySpoon_7 : zd b7_saySpoon 7 (.iconst 0) 1 8 := ⟨by decide +kernel, rfl⟩
theorem d7_saySpoon_8 : zd b7_saySpoon 8 (.iconst 0) 1 9 := ⟨by decide +kernel, rfl⟩
theorem d7_saySpoon_9 : zd b7_saySpoon 9 (.iload_n 2) 1 10 := ⟨by decide +kernel, rfl⟩
theorem d7_saySpoon_10 : zd b7_saySpoon 10 (.iload_n 3) 1 11 := ⟨by decide +kernel, rfl⟩
theorem d7_saySpoon_11 : zd b7_saySpoon 11 (.invokevirtual 36) 3 14 := ⟨by decide +kernel, rfl⟩
theorem d7_saySpoon_14 : zd b7_saySpoon 14 (.iconst 4) 1 15 := ⟨by decide +kernel, rfl⟩
theorem d7_saySpoon_15 : zd b7_saySpoon 15 .isub 1 16 := ⟨by decide +kernel, rfl⟩
theorem d7_saySpoon_16 : zd b7_saySpoon 16 .ireturn 1 17 := ⟨by decide +kernel, rfl⟩
theorem d7_saySpoon_17 : zd b7_saySpoon 17 (.aload_n 0) 1 18 := ⟨by decide +kernel, rfl⟩
theorem d7_saySpoon_18 : zd b7_saySpoon 18 (.iconst 0) 1 19 := ⟨by decide +kernel, rfl⟩
theorem d7_saySpoon_19 : zd b7_saySpoon 19 (.iconst 3) 1 20 := ⟨by decide +kernel, rfl⟩
theorem d7_saySpoon_20 : zd b7_saySpoon 20 (.iload_n 2) 1 21 := ⟨by decide +kernel, rfl⟩
theorem d7_saySpoon_21 : zd b7_saySpoon 21 (.iload_n 3) 1 22 := ⟨by decide +kernel, rfl⟩
theorem d7_saySpoon_22 : zd b7_saySpoon 22 (.invokevirtual 36) 3 25 := ⟨by decide +kernel, rfl⟩
theorem d7_saySpoon_25 : zd b7_saySpoon 25 (.istore 4) 2 27 := ⟨by decide +kernel, rfl⟩
theorem d7_saySpoon_27 : zd b7_saySpoon 27 (.iload 4) 2 29 := ⟨by decide +kernel, rfl⟩
theorem d7_saySpoon_29 : zd b7_saySpoon 29 (.aload_n 0) 1 30 := ⟨by decide +kernel, rfl⟩
theorem d7_saySpoon_30 : zd b7_saySpoon 30 (.aload_n 0) 1 31 := ⟨by decide +kernel, rfl⟩
theorem d7_saySpoon_31 : zd b7_saySpoon 31 (.getfield 21) 3 34 := ⟨by decide +kernel, rfl⟩
theorem d7_saySpoon_34 : zd b7_saySpoon 34 (.iconst 1) 1 35 := ⟨by decide +kernel, rfl⟩
theorem d7_saySpoon_35 : zd b7_saySpoon 35 (.iconst 1) 1 36 := ⟨by decide +kernel, rfl⟩
theorem d7_saySpoon_36 : zd b7_saySpoon 36 (.iload_n 3) 1 37 := ⟨by decide +kernel, rfl⟩
theorem d7_saySpoon_37 : zd b7_saySpoon 37 (.invokevirtual 36) 3 40 := ⟨by decide +kernel, rfl⟩
theorem d7_saySpoon_40 : zd b7_saySpoon 40 .iadd 1 41 := ⟨by decide +kernel, rfl⟩
theorem d7_saySpoon_41 : zd b7_saySpoon 41 .ireturn 1 42 := ⟨by decide +kernel, rfl⟩
theorem d7_sayBowl_0 : zd b7_sayBowl 0 (.iload_n 1) 1 1 := ⟨by decide +kernel, rfl⟩
theorem d7_sayBowl_1 : zd b7_sayBowl 1 (.bipush 50) 2 3 := ⟨by decide +kernel, rfl⟩
theorem d7_sayBowl_3 : zdb b7_sayBowl 3 (.if_icmp .ne 14) 14 6 17 := ⟨by decide +kernel, rfl, by decide⟩
theorem d7_sayBowl_6 : zd b7_sayBowl 6 (.aload_n 0) 1 7 := ⟨by decide +kernel, rfl⟩
theorem d7_sayBowl_7 : zd b7_sayBowl 7 (.iconst 1) 1 8 := ⟨by decide +kernel, rfl⟩
theorem d7_sayBowl_8 : zd b7_sayBowl 8 (.iconst 0) 1 9 := ⟨by decide +kernel, rfl⟩
theorem d7_sayBowl_9 : zd b7_sayBowl 9 (.iload_n 2) 1 10 := ⟨by decide +kernel, rfl⟩
theorem d7_sayBowl_10 : zd b7_sayBowl 10 (.iload_n 3) 1 11 := ⟨by decide +kernel, rfl⟩
theorem d7_sayBowl_11 : zd b7_sayBowl 11 (.invokevirtual 36) 3 14 := ⟨by decide +kernel, rfl⟩
theorem d7_sayBowl_14 : zd b7_sayBowl 14 (.iconst 3) 1 15 := ⟨by decide +kernel, rfl⟩
theorem d7_sayBowl_15 : zd b7_sayBowl 15 .imul 1 16 := ⟨by decide +kernel, rfl⟩
theorem d7_sayBowl_16 : zd b7_sayBowl 16 .ireturn 1 17 := ⟨by decide +kernel, rfl⟩
theorem d7_sayBowl_17 : zd b7_sayBowl 17 (.aload_n 0) 1 18 := ⟨by decide +kernel, rfl⟩
theorem d7_sayBowl_18 : zd b7_sayBowl 18 (.iconst 1) 1 19 := ⟨by decide +kernel, rfl⟩
theorem d7_sayBowl_19 : zd b7_sayBowl 19 (.iconst 2) 1 20 := ⟨by decide +kernel, rfl⟩
theorem d7_sayBowl_20 : zd b7_sayBowl 20 (.iload_n 2) 1 21 := ⟨by decide +kernel, rfl⟩
theorem d7_sayBowl_21 : zd b7_sayBowl 21 (.iload_n 3) 1 22 := ⟨by decide +kernel, rfl⟩
theorem d7_sayBowl_22 : zd b7_sayBowl 22 (.invokevirtual 36) 3 25 := ⟨by decide +kernel, rfl⟩
theorem d7_sayBowl_25 : zd b7_sayBowl 25 (.aload_n 0) 1 26 := ⟨by decide +kernel, rfl⟩
theorem d7_sayBowl_26 : zd b7_sayBowl 26 (.getfield 22) 3 29 := ⟨by decide +kernel, rfl⟩
theorem d7_sayBowl_29 : zd b7_sayBowl 29 .ixor 1 30 := ⟨by decide +kernel, rfl⟩
theorem d7_sayBowl_30 : zd b7_sayBowl 30 .ireturn 1 31 := ⟨by decide +kernel, rfl⟩
theorem d7_saySilvered_0 : zd b7_saySilvered 0 (.iload_n 1) 1 1 := ⟨by decide +kernel, rfl⟩
theorem d7_saySilvered_1 : zd b7_saySilvered 1 (.bipush 70) 2 3 := ⟨by decide +kernel, rfl⟩
theorem d7_saySilvered_3 : zdb b7_saySilvered 3 (.if_icmp .ne 8) 8 6 11 := ⟨by decide +kernel, rfl, by decide⟩
theorem d7_saySilvered_6 : zd b7_saySilvered 6 (.bipush 9) 2 8 := ⟨by decide +kernel, rfl⟩
theorem d7_saySilvered_8 : zdb b7_saySilvered 8 (.goto 16) 16 11 24 := ⟨by decide +kernel, rfl, by decide⟩
theorem d7_saySilvered_11 : zd b7_saySilvered 11 (.aload_n 0) 1 12 := ⟨by decide +kernel, rfl⟩
theorem d7_saySilvered_12 : zd b7_saySilvered 12 (.iconst 0) 1 13 := ⟨by decide +kernel, rfl⟩
theorem d7_saySilvered_13 : zd b7_saySilvered 13 (.iconst 1) 1 14 := ⟨by decide +kernel, rfl⟩
theorem d7_saySilvered_14 : zd b7_saySilvered 14 (.iload_n 2) 1 15 := ⟨by decide +kernel, rfl⟩
theorem d7_saySilvered_15 : zd b7_saySilvered 15 (.iload_n 3) 1 16 := ⟨by decide +kernel, rfl⟩
theorem d7_saySilvered_16 : zd b7_saySilvered 16 (.invokevirtual 36) 3 19 := ⟨by decide +kernel, rfl⟩
theorem d7_saySilvered_19 : zd b7_saySilvered 19 (.aload_n 0) 1 20 := ⟨by decide +kernel, rfl⟩
theorem d7_saySilvered_20 : zd b7_saySilvered 20 (.getfield 28) 3 23 := ⟨by decide +kernel, rfl⟩
theorem d7_saySilvered_23 : zd b7_saySilvered 23 .iadd 1 24 := ⟨by decide +kernel, rfl⟩
theorem d7_saySilvered_24 : zd b7_saySilvered 24 .ireturn 1 25 := ⟨by decide +kernel, rfl⟩
theorem d7_sayOnly_0 : zd b7_sayOnly 0 (.iload_n 1) 1 1 := ⟨by decide +kernel, rfl⟩
theorem d7_sayOnly_1 : decode b7_sayOnly 1 = .ok ((.lookupswitch 68 #[(30, 35), (40, 46), (60, 57)]), 35) := by decide +kernel
theorem d7_sayOnly_36 : zd b7_sayOnly 36 (.iconst 0) 1 37 := ⟨by decide +kernel, rfl⟩
theorem d7_sayOnly_37 : zd b7_sayOnly 37 (.aload_n 0) 1 38 := ⟨by decide +kernel, rfl⟩
theorem d7_sayOnly_38 : zd b7_sayOnly 38 (.iconst 0) 1 39 := ⟨by decide +kernel, rfl⟩
theorem d7_sayOnly_39 : zd b7_sayOnly 39 (.iconst 1) 1 40 := ⟨by decide +kernel, rfl⟩
theorem d7_sayOnly_40 : zd b7_sayOnly 40 (.iload_n 2) 1 41 := ⟨by decide +kernel, rfl⟩
theorem d7_sayOnly_41 : zd b7_sayOnly 41 (.iload_n 3) 1 42 := ⟨by decide +kernel, rfl⟩
theorem d7_sayOnly_42 : zd b7_sayOnly 42 (.invokevirtual 36) 3 45 := ⟨by decide +kernel, rfl⟩
theorem d7_sayOnly_45 : zd b7_sayOnly 45 .isub 1 46 := ⟨by decide +kernel, rfl⟩
theorem d7_sayOnly_46 : zd b7_sayOnly 46 .ireturn 1 47 := ⟨by decide +kernel, rfl⟩
theorem d7_sayOnly_47 : zd b7_sayOnly 47 (.aload_n 0) 1 48 := ⟨by decide +kernel, rfl⟩
theorem d7_sayOnly_48 : zd b7_sayOnly 48 (.iconst 0) 1 49 := ⟨by decide +kernel, rfl⟩
theorem d7_sayOnly_49 : zd b7_sayOnly 49 (.iconst 2) 1 50 := ⟨by decide +kernel, rfl⟩
theorem d7_sayOnly_50 : zd b7_sayOnly 50 (.iload_n 2) 1 51 := ⟨by decide +kernel, rfl⟩
theorem d7_sayOnly_51 : zd b7_sayOnly 51 (.iconst 2) 1 52 := ⟨by decide +kernel, rfl⟩
theorem d7_sayOnly_52 : zd b7_sayOnly 52 .idiv 1 53 := ⟨by decide +kernel, rfl⟩
theorem d7_sayOnly_53 : zd b7_sayOnly 53 (.iload_n 3) 1 54 := ⟨by decide +kernel, rfl⟩
theorem d7_sayOnly_54 : zd b7_sayOnly 54 (.invokevirtual 36) 3 57 := ⟨by decide +kernel, rfl⟩
theorem d7_sayOnly_57 : zd b7_sayOnly 57 .ireturn 1 58 := ⟨by decide +kernel, rfl⟩
theorem d7_sayOnly_58 : zd b7_sayOnly 58 (.aload_n 0) 1 59 := ⟨by decide +kernel, rfl⟩
theorem d7_sayOnly_59 : zd b7_sayOnly 59 (.iconst 2) 1 60 := ⟨by decide +kernel, rfl⟩
theorem d7_sayOnly_60 : zd b7_sayOnly 60 (.iconst 1) 1 61 := ⟨by decide +kernel, rfl⟩
theorem d7_sayOnly_61 : zd b7_sayOnly 61 (.iload_n 2) 1 62 := ⟨by decide +kernel, rfl⟩
theorem d7_sayOnly_62 : zd b7_sayOnly 62 (.iconst 1) 1 63 := ⟨by decide +kernel, rfl⟩
theorem d7_sayOnly_63 : zd b7_sayOnly 63 .iadd 1 64 := ⟨by decide +kernel, rfl⟩
theorem d7_sayOnly_64 : zd b7_sayOnly 64 (.iload_n 3) 1 65 := ⟨by decide +kernel, rfl⟩
theorem d7_sayOnly_65 : zd b7_sayOnly 65 (.invokevirtual 36) 3 68 := ⟨by decide +kernel, rfl⟩
theorem d7_sayOnly_68 : zd b7_sayOnly 68 .ireturn 1 69 := ⟨by decide +kernel, rfl⟩
theorem d7_sayOnly_69 : zd b7_sayOnly 69 (.iconst 0) 1 70 := ⟨by decide +kernel, rfl⟩
theorem d7_sayOnly_70 : zd b7_sayOnly 70 .ireturn 1 71 := ⟨by decide +kernel, rfl⟩
def zGVO (l : Launch) (g : ZG) (F Lo : Nat) (rc : Nat → List Int32 → ZS → Option (Int32 × ZS)) : Prop :=
  (∀ (a0 : Int32) (a1 : Int32) (a2 : Int32) (a3 : Int32) (σ : ZS) (r : Int32) (σr : ZS), rc 0 [a0, a1, a2, a3] σ = some (r, σr) → zT l g y7_say b7_say 6 (some .int) (F) (Lo) [zr 90, zi a0, zi a1, zi a2, zi a3] σ (some (zi r)) σr) ∧
  (∀ (a0 : Int32) (a1 : Int32) (a2 : Int32) (σ : ZS) (r : Int32) (σr : ZS), rc 1 [a0, a1, a2] σ = some (r, σr) → zT l g y7_sayGlass b7_sayGlass 5 (some .int) (F) (Lo) [zr 90, zi a0, zi a1, zi a2] σ (some (zi r)) σr) ∧
  (∀ (a0 : Int32) (a1 : Int32) (a2 : Int32) (σ : ZS) (r : Int32) (σr : ZS), rc 2 [a0, a1, a2] σ = some (r, σr) → zT l g y7_saySpoon b7_saySpoon 5 (some .int) (F) (Lo) [zr 90, zi a0, zi a1, zi a2] σ (some (zi r)) σr) ∧
  (∀ (a0 : Int32) (a1 : Int32) (a2 : Int32) (σ : ZS) (r : Int32) (σr : ZS), rc 3 [a0, a1, a2] σ = some (r, σr) → zT l g y7_sayBowl b7_sayBowl 4 (some .int) (F) (Lo) [zr 90, zi a0, zi a1, zi a2] σ (some (zi r)) σr) ∧
  (∀ (a0 : Int32) (a1 : Int32) (a2 : Int32) (σ : ZS) (r : Int32) (σr : ZS), rc 4 [a0, a1, a2] σ = some (r, σr) → zT l g y7_saySilvered b7_saySilvered 4 (some .int) (F) (Lo) [zr 90, zi a0, zi a1, zi a2] σ (some (zi r)) σr) ∧
  (∀ (a0 : Int32) (a1 : Int32) (a2 : Int32) (σ : ZS) (r : Int32) (σr : ZS), rc 5 [a0, a1, a2] σ = some (r, σr) → zT l g y7_sayOnly b7_sayOnly 4 (some .int) (F) (Lo) [zr 90, zi a0, zi a1, zi a2] σ (some (zi r)) σr)
def b7_say_63 (k : Nat) (rc : Nat → List Int32 → ZS → Option (Int32 × ZS)) (x3 : Int32) (x4 : Int32) (x5 : Int32) (σ : ZS) : Option (Int32 × ZS) :=
  if (x5 / (10 : Int32)) = (1 : Int32) then (
  zbd (rc 1 [x5, x3, (x4 + (1 : Int32))] σ) fun r2 s2 =>
  some (r2, s2))
  else (
  if (x5 / (10 : Int32)) = (2 : Int32) then (
  zbd (rc 2 [x5, x3, (x4 + (1 : Int32))] σ) fun r4 s4 =>
  some (r4, s4))
  else (
  if (x5 / (10 : Int32)) = (3 : Int32) then (
  zbd (rc 5 [x5, x3, (x4 + (1 : Int32))] σ) fun r6 s6 =>
  some (r6, s6))
  else (
  if (x5 / (10 : Int32)) = (4 : Int32) then (
  zbd (rc 5 [x5, x3, (x4 + (1 : Int32))] σ) fun r8 s8 =>
  some (r8, s8))
  else (
  if (x5 / (10 : Int32)) = (5 : Int32) then (
  zbd (rc 3 [x5, x3, (x4 + (1 : Int32))] σ) fun r10 s10 =>
  some (r10, s10))
  else (
  if (x5 / (10 : Int32)) = (6 : Int32) then (
  zbd (rc 5 [x5, x3, (x4 + (1 : Int32))] σ) fun r12 s12 =>
  some (r12, s12))
  else (
  if (x5 / (10 : Int32)) = (7 : Int32) then (
  zbd (rc 4 [x5, x3, (x4 + (1 : Int32))] σ) fun r14 s14 =>
  some (r14, s14))
  else (
  zbd (rc 5 [x5, x3, (x4 + (1 : Int32))] σ) fun r15 s15 =>
  some (r15, s15))))))))
theorem j7_say_63 {x : ZX} {g : ZG} {F Lo : Nat} (C : zC x g b7_say R7 (some .int) 6 (F + 1) (Lo + 25)) {k : Nat} (hF : 2 ≤ F ∧ 84 ≤ Lo) {rc : Nat → List Int32 → ZS → Option (Int32 × ZS)} (hrc : zGVO x.2.1 g F Lo rc) {r : Int32} {σr : ZS}  {x3 : Int32} {x4 : Int32} {x5 : Int32} {σ : ZS} (hf : b7_say_63 k rc  x3 x4 x5 σ = some (r, σr)) : zw x g 6 0 0 (zMQ x g (some (zi r)) σr) σ 63 [some (zr 90), none, none, some (zi x3), some (zi x4), some (zi x5)] [] := by
  unfold b7_say_63 at hf
  refine z_iload C d7_say_63 rfl ?_
  refine z_bipush C (10 : Int32) d7_say_65 kB_10 ?_
  refine z_idiv C d7_say_67 (by decide) ?_
  refine z_tsw C [((1 : Int32), 112), ((2 : Int32), 124), ((3 : Int32), 160), ((4 : Int32), 160), ((5 : Int32), 136), ((6 : Int32), 160), ((7 : Int32), 148)] (d := 160) d7_say_68 (by decide) (by decide) (by decide +kernel) ?_
  refine z_swc (fun c1 => ?_) (fun c1 => ?_)
  · have hf := zit c1 hf
    refine z_aload_n C d7_say_112 rfl ?_
    refine z_iload C d7_say_113 rfl ?_
    refine z_iload_n C d7_say_115 rfl ?_
    refine z_iload C d7_say_116 rfl ?_
    refine z_iconst C (1 : Int32) d7_say_118 kI_1 ?_
    refine z_iadd C d7_say_119 ?_
    obtain ⟨r2, s2, h2, hf⟩ := zbx hf
    refine z_callVi C (as := [zi x5, zi x3, zi (x4 + (1 : Int32))]) d7_say_120 w_717 yy7_sayGlass (hrc.2.1 _ _ _ _ _ _ h2) yc7_sayGlass kZ_90 rfl rfl (Nat.le_of_ble_eq_true rfl) ⟨by omega, by omega⟩ ⟨Nat.zero_le _, Nat.zero_le _⟩ ?_
    exact z_iret C d7_say_123 hf
  · have hf := zie c1 hf
    refine z_swc (fun c3 => ?_) (fun c3 => ?_)
    · have hf := zit c3 hf
      refine z_aload_n C d7_say_124 rfl ?_
      refine z_iload C d7_say_125 rfl ?_
      refine z_iload_n C d7_say_127 rfl ?_
      refine z_iload C d7_say_128 rfl ?_
      refine z_iconst C (1 : Int32) d7_say_130 kI_1 ?_
      refine z_iadd C d7_say_131 ?_
      obtain ⟨r4, s4, h4, hf⟩ := zbx hf
      refine z_callVi C (as := [zi x5, zi x3, zi (x4 + (1 : Int32))]) d7_say_132 w_721 yy7_saySpoon (hrc.2.2.1 _ _ _ _ _ _ h4) yc7_saySpoon kZ_90 rfl rfl (Nat.le_of_ble_eq_true rfl) ⟨by omega, by omega⟩ ⟨Nat.zero_le _, Nat.zero_le _⟩ ?_
      exact z_iret C d7_say_135 hf
    · have hf := zie c3 hf
      refine z_swc (fun c5 => ?_) (fun c5 => ?_)
      · have hf := zit c5 hf
        refine z_aload_n C d7_say_160 rfl ?_
        refine z_iload C d7_say_161 rfl ?_
        refine z_iload_n C d7_say_163 rfl ?_
        refine z_iload C d7_say_164 rfl ?_
        refine z_iconst C (1 : Int32) d7_say_166 kI_1 ?_
        refine z_iadd C d7_say_167 ?_
        obtain ⟨r6, s6, h6, hf⟩ := zbx hf
        refine z_callVi C (as := [zi x5, zi x3, zi (x4 + (1 : Int32))]) d7_say_168 w_733 yy7_sayOnly (hrc.2.2.2.2.2 _ _ _ _ _ _ h6) yc7_sayOnly kZ_90 rfl rfl (Nat.le_of_ble_eq_true rfl) ⟨by omega, by omega⟩ ⟨Nat.zero_le _, Nat.zero_le _⟩ ?_
        exact z_iret C d7_say_171 hf
      · have hf := zie c5 hf
        refine z_swc (fun c7 => ?_) (fun c7 => ?_)
        · have hf := zit c7 hf
          refine z_aload_n C d7_say_160 rfl ?_
          refine z_iload C d7_say_161 rfl ?_
          refine z_iload_n C d7_say_163 rfl ?_
          refine z_iload C d7_say_164 rfl ?_
          refine z_iconst C (1 : Int32) d7_say_166 kI_1 ?_
          refine z_iadd C d7_say_167 ?_
          obtain ⟨r8, s8, h8, hf⟩ := zbx hf
          refine z_callVi C (as := [zi x5, zi x3, zi (x4 + (1 : Int32))]) d7_say_168 w_733 yy7_sayOnly (hrc.2.2.2.2.2 _ _ _ _ _ _ h8) yc7_sayOnly kZ_90 rfl rfl (Nat.le_of_ble_eq_true rfl) ⟨by omega, by omega⟩ ⟨Nat.zero_le _, Nat.zero_le _⟩ ?_
          exact z_iret C d7_say_171 hf
        · have hf := zie c7 hf
          refine z_swc (fun c9 => ?_) (fun c9 => ?_)
          · have hf := zit c9 hf
            refine z_aload_n C d7_say_136 rfl ?_
            refine z_iload C d7_say_137 rfl ?_
            refine z_iload_n C d7_say_139 rfl ?_
            refine z_iload C d7_say_140 rfl ?_
            refine z_iconst C (1 : Int32) d7_say_142 kI_1 ?_
            refine z_iadd C d7_say_143 ?_
            obtain ⟨r10, s10, h10, hf⟩ := zbx hf
            refine z_callVi C (as := [zi x5, zi x3, zi (x4 + (1 : Int32))]) d7_say_144 w_725 yy7_sayBowl (hrc.2.2.2.1 _ _ _ _ _ _ h10) yc7_sayBowl kZ_90 rfl rfl (Nat.le_of_ble_eq_true rfl) ⟨by omega, by omega⟩ ⟨Nat.zero_le _, Nat.zero_le _⟩ ?_
            exact z_iret C d7_say_147 hf
          · have hf := zie c9 hf
            refine z_swc (fun c11 => ?_) (fun c11 => ?_)
            · have hf := zit c11 hf
              refine z_aload_n C d7_say_160 rfl ?_
              refine z_iload C d7_say_161 rfl ?_
              refine z_iload_n C d7_say_163 rfl ?_
              refine z_iload C d7_say_164 rfl ?_
              refine z_iconst C (1 : Int32) d7_say_166 kI_1 ?_
              refine z_iadd C d7_say_167 ?_
              obtain ⟨r12, s12, h12, hf⟩ := zbx hf
              refine z_callVi C (as := [zi x5, zi x3, zi (x4 + (1 : Int32))]) d7_say_168 w_733 yy7_sayOnly (hrc.2.2.2.2.2 _ _ _ _ _ _ h12) yc7_sayOnly kZ_90 rfl rfl (Nat.le_of_ble_eq_true rfl) ⟨by omega, by omega⟩ ⟨Nat.zero_le _, Nat.zero_le _⟩ ?_
              exact z_iret C d7_say_171 hf
            · have hf := zie c11 hf
              refine z_swc (fun c13 => ?_) (fun c13 => ?_)
              · have hf := zit c13 hf
                refine z_aload_n C d7_say_148 rfl ?_
                refine z_iload C d7_say_149 rfl ?_
                refine z_iload_n C d7_say_151 rfl ?_
                refine z_iload C d7_say_152 rfl ?_
                refine z_iconst C (1 : Int32) d7_say_154 kI_1 ?_
                refine z_iadd C d7_say_155 ?_
                obtain ⟨r14, s14, h14, hf⟩ := zbx hf
                refine z_callVi C (as := [zi x5, zi x3, zi (x4 + (1 : Int32))]) d7_say_156 w_729 yy7_saySilvered (hrc.2.2.2.2.1 _ _ _ _ _ _ h14) yc7_saySilvered kZ_90 rfl rfl (Nat.le_of_ble_eq_true rfl) ⟨by omega, by omega⟩ ⟨Nat.zero_le _, Nat.zero_le _⟩ ?_
                exact z_iret C d7_say_159 hf
              · have hf := zie c13 hf
                refine z_sw0 ?_
                refine z_aload_n C d7_say_160 rfl ?_
                refine z_iload C d7_say_161 rfl ?_
                refine z_iload_n C d7_say_163 rfl ?_
                refine z_iload C d7_say_164 rfl ?_
                refine z_iconst C (1 : Int32) d7_say_166 kI_1 ?_
                refine z_iadd C d7_say_167 ?_
                obtain ⟨r15, s15, h15, hf⟩ := zbx hf
                refine z_callVi C (as := [zi x5, zi x3, zi (x4 + (1 : Int32))]) d7_say_168 w_733 yy7_sayOnly (hrc.2.2.2.2.2 _ _ _ _ _ _ h15) yc7_sayOnly kZ_90 rfl rfl (Nat.le_of_ble_eq_true rfl) ⟨by omega, by omega⟩ ⟨Nat.zero_le _, Nat.zero_le _⟩ ?_
                exact z_iret C d7_say_171 hf
def f7_say (k : Nat) (rc : Nat → List Int32 → ZS → Option (Int32 × ZS)) (x1 : Int32) (x2 : Int32) (x3 : Int32) (x4 : Int32) (σ : ZS) : Option (Int32 × ZS) :=
  if (σ 90 2) = 0 then (
  if x4 ≤ (30 : Int32) then (
  zbd (f7_bodyFrom k x1 x2 σ) fun r3 s3 =>
  if (s3 90 1) < 0 then (
  b7_say_63 k rc  x3 x4 r3 s3)
  else (
  if (30 : Int32) ≤ (s3 90 1) then (
  b7_say_63 k rc  x3 x4 r3 s3)
  else (
  if zin (s3 90 1) 30 then (
  zput (zu s3 91 ((s3 90 1).toNatClampNeg) r3) fun s7 =>
  zput (zu s7 90 1 ((s7 90 1) + (1 : Int32))) fun s8 =>
  b7_say_63 k rc  x3 x4 r3 s8) else none)))
  else (
  some ((0 : Int32), σ)))
  else (
  some ((0 : Int32), σ))
theorem c7_say (l : Launch) (g : ZG) {F Lo : Nat} {k : Nat} (hF : 2 ≤ F ∧ 84 ≤ Lo) {rc : Nat → List Int32 → ZS → Option (Int32 × ZS)} (hrc : zGVO l g F Lo rc) {x1 : Int32} {x2 : Int32} {x3 : Int32} {x4 : Int32} {σ : ZS} {r : Int32} {σr : ZS} (hf : f7_say k rc x1 x2 x3 x4 σ = some (r, σr)) : zT l g y7_say b7_say 6 (some .int) (F + 1) (Lo + 25) [zr 90, zi x1, zi x2, zi x3, zi x4] σ (some (zi r)) σr := by
  unfold f7_say at hf
  refine zT_start (own := R7) rfl (by decide +kernel) 1 (L := [some (zr 90), some (zi x1), some (zi x2), some (zi x3), some (zi x4), none]) rfl rfl (fun x hl C => ?_)
  subst hl
  refine z_aload_n C d7_say_0 rfl ?_
  refine z_getI C d7_say_1 fl_223 kZ_90 ?_
  refine z_if_ne C d7_say_4 (fun c1 => ?_) (fun c1 => ?_)
  · have hf := zit c1 hf
    refine z_iload C d7_say_7 rfl ?_
    refine z_bipush C (30 : Int32) d7_say_9 kB_30 ?_
    refine z_icmp_le C d7_say_11 (fun c2 => ?_) (fun c2 => ?_)
    · have hf := zit c2 hf
      refine z_iload_n C d7_say_16 rfl ?_
      refine z_iload_n C d7_say_17 rfl ?_
      obtain ⟨r3, s3, h3, hf⟩ := zbx hf
      refine z_callSi C (as := [zi x1, zi x2]) d7_say_18 w_711 yy7_bodyFrom (c7_bodyFrom x.2.1 g h3) rfl rfl (Nat.le_of_ble_eq_true rfl) ⟨by omega, by omega⟩ ⟨Nat.zero_le _, Nat.zero_le _⟩ ?_
      refine z_istore C d7_say_21 (Nat.le_of_ble_eq_true rfl) rfl (L' := [some (zr 90), some (zi x1), some (zi x2), some (zi x3), some (zi x4), some (zi r3)]) rfl ?_
      refine z_aload_n C d7_say_23 rfl ?_
      refine z_getI C d7_say_24 fl_221 kZ_90 ?_
      refine z_if_lt C d7_say_27 (fun c4 => ?_) (fun c4 => ?_)
      · have hf := zit c4 hf
        refine z_drop [true, false, false, true, true, true] (L' := [some (zr 90), none, none, some (zi x3), some (zi x4), some (zi r3)]) rfl ?_
        exact j7_say_63 C hF hrc  hf
      · have hf := zie c4 hf
        refine z_aload_n C d7_say_30 rfl ?_
        refine z_getI C d7_say_31 fl_221 kZ_90 ?_
        refine z_aload_n C d7_say_34 rfl ?_
        refine z_getR C d7_say_35 fl_220 kZ_90 91 rfl (zn0 kZ_91) ?_
        refine z_alen C (30 : Int32) d7_say_38 kZ_91 kL_91 kO_30 ?_
        refine z_icmp_ge C d7_say_39 (fun c5 => ?_) (fun c5 => ?_)
        · have hf := zit c5 hf
          refine z_drop [true, false, false, true, true, true] (L' := [some (zr 90), none, none, some (zi x3), some (zi x4), some (zi r3)]) rfl ?_
          exact j7_say_63 C hF hrc  hf
        · have hf := zie c5 hf
          refine z_aload_n C d7_say_42 rfl ?_
          refine z_getR C d7_say_43 fl_220 kZ_90 91 rfl (zn0 kZ_91) ?_
          refine z_aload_n C d7_say_46 rfl ?_
          refine z_getI C d7_say_47 fl_221 kZ_90 ?_
          refine z_iload C d7_say_50 rfl ?_
          obtain ⟨g6, hf⟩ := zgo hf
          obtain ⟨s7, e7, hf⟩ := zpx hf
          refine z_iast C d7_say_52 kZ_91 kL_91 g6 rfl e7 ?_
          refine z_aload_n C d7_say_53 rfl ?_
          refine z_dup C d7_say_54 rfl ?_
          refine z_getI C d7_say_55 fl_221 kZ_90 ?_
          refine z_iconst C (1 : Int32) d7_say_58 kI_1 ?_
          refine z_iadd C d7_say_59 ?_
          obtain ⟨s8, e8, hf⟩ := zpx hf
          refine z_putI C d7_say_60 fl_221 ft_7_1 kZ_90 e8 ?_
          refine z_drop [true, false, false, true, true, true] (L' := [some (zr 90), none, none, some (zi x3), some (zi x4), some (zi r3)]) rfl ?_
          exact j7_say_63 C hF hrc  hf
    · have hf := zie c2 hf
      refine z_iconst C (0 : Int32) d7_say_14 kI_0 ?_
      exact z_iret C d7_say_15 hf
  · have hf := zie c1 hf
    refine z_iconst C (0 : Int32) d7_say_14 kI_0 ?_
    exact z_iret C d7_say_15 hf
def f7_sayGlass (k : Nat) (rc : Nat → List Int32 → ZS → Option (Int32 × ZS)) (x1 : Int32) (x2 : Int32) (x3 : Int32) (σ : ZS) : Option (Int32 × ZS) :=
  if x1 = (10 : Int32) then (
  some ((x2 + (σ 90 4)), σ))
  else (
  if x1 = (11 : Int32) then (
  zbd (rc 0 [(σ 90 3), (0 : Int32), x2, x3] σ) fun r3 s3 =>
  some ((r3 * (2 : Int32)), s3))
  else (
  if x1 = (12 : Int32) then (
  zbd (rc 0 [(σ 90 3), (1 : Int32), x2, x3] σ) fun r5 s5 =>
  some ((r5 - (s5 90 5)), s5))
  else (
  if ((σ 90 5) - (σ 90 4)) = 0 then (
  zput (zu σ 90 2 (1 : Int32)) fun s7 =>
  if ((σ 90 5) - (σ 90 4)) = 0 then (
  some ((0 : Int32), s7))
  else (
  if ¬ ((σ 90 5) - (σ 90 4)) = 0 then (
  some ((x2 / ((σ 90 5) - (σ 90 4))), s7)) else none))
  else (
  zput (zu σ 90 2 (0 : Int32)) fun s10 =>
  if ((σ 90 5) - (σ 90 4)) = 0 then (
  some ((0 : Int32), s10))
  else (
  if ¬ ((σ 90 5) - (σ 90 4)) = 0 then (
  some ((x2 / ((σ 90 5) - (σ 90 4))), s10)) else none)))))
theorem c7_sayGlass (l : Launch) (g : ZG) {F Lo : Nat} {k : Nat} (hF : 2 ≤ F ∧ 84 ≤ Lo) {rc : Nat → List Int32 → ZS → Option (Int32 × ZS)} (hrc : zGVO l g F Lo rc) {x1 : Int32} {x2 : Int32} {x3 : Int32} {σ : ZS} {r : Int32} {σr : ZS} (hf : f7_sayGlass k rc x1 x2 x3 σ = some (r, σr)) : zT l g y7_sayGlass b7_sayGlass 5 (some .int) (F + 1) (Lo + 25) [zr 90, zi x1, zi x2, zi x3] σ (some (zi r)) σr := by
  unfold f7_sayGlass at hf
  refine zT_start (own := R7) rfl (by decide +kernel) 1 (L := [some (zr 90), some (zi x1), some (zi x2), some (zi x3), none]) rfl rfl (fun x hl C => ?_)
  subst hl
  refine z_iload_n C d7_sayGlass_0 rfl ?_
  refine z_tsw C [((10 : Int32), 28), ((11 : Int32), 35), ((12 : Int32), 49)] (d := 66) d7_sayGlass_1 (by decide) (by decide) (by decide +kernel) ?_
  refine z_swc (fun c1 => ?_) (fun c1 => ?_)
  · have hf := zit c1 hf
    refine z_iload_n C d7_sayGlass_28 rfl ?_
    refine z_aload_n C d7_sayGlass_29 rfl ?_
    refine z_getI C d7_sayGlass_30 fl_226 kZ_90 ?_
    refine z_iadd C d7_sayGlass_33 ?_
    exact z_iret C d7_sayGlass_34 hf
  · have hf := zie c1 hf
    refine z_swc (fun c2 => ?_) (fun c2 => ?_)
    · have hf := zit c2 hf
      refine z_aload_n C d7_sayGlass_35 rfl ?_
      refine z_aload_n C d7_sayGlass_36 rfl ?_
      refine z_getI C d7_sayGlass_37 fl_225 kZ_90 ?_
      refine z_iconst C (0 : Int32) d7_sayGlass_40 kI_0 ?_
      refine z_iload_n C d7_sayGlass_41 rfl ?_
      refine z_iload_n C d7_sayGlass_42 rfl ?_
      obtain ⟨r3, s3, h3, hf⟩ := zbx hf
      refine z_callVi C (as := [zi (σ 90 3), zi (0 : Int32), zi x2, zi x3]) d7_sayGlass_43 w_707 yy7_say (hrc.1 _ _ _ _ _ _ _ h3) yc7_say kZ_90 rfl rfl (Nat.le_of_ble_eq_true rfl) ⟨by omega, by omega⟩ ⟨Nat.zero_le _, Nat.zero_le _⟩ ?_
      refine z_iconst C (2 : Int32) d7_sayGlass_46 kI_2 ?_
      refine z_imul C d7_sayGlass_47 ?_
      exact z_iret C d7_sayGlass_48 hf
    · have hf := zie c2 hf
      refine z_swc (fun c4 => ?_) (fun c4 => ?_)
      · have hf := zit c4 hf
        refine z_aload_n C d7_sayGlass_49 rfl ?_
        refine z_aload_n C d7_sayGlass_50 rfl ?_
        refine z_getI C d7_sayGlass_51 fl_225 kZ_90 ?_
        refine z_iconst C (1 : Int32) d7_sayGlass_54 kI_1 ?_
        refine z_iload_n C d7_sayGlass_55 rfl ?_
        refine z_iload_n C d7_sayGlass_56 rfl ?_
        obtain ⟨r5, s5, h5, hf⟩ := zbx hf
        refine z_callVi C (as := [zi (σ 90 3), zi (1 : Int32), zi x2, zi x3]) d7_sayGlass_57 w_707 yy7_say (hrc.1 _ _ _ _ _ _ _ h5) yc7_say kZ_90 rfl rfl (Nat.le_of_ble_eq_true rfl) ⟨by omega, by omega⟩ ⟨Nat.zero_le _, Nat.zero_le _⟩ ?_
        refine z_aload_n C d7_sayGlass_60 rfl ?_
        refine z_getI C d7_sayGlass_61 fl_227 kZ_90 ?_
        refine z_isub C d7_sayGlass_64 ?_
        exact z_iret C d7_sayGlass_65 hf
      · have hf := zie c4 hf
        refine z_sw0 ?_
        refine z_aload_n C d7_sayGlass_66 rfl ?_
        refine z_getI C d7_sayGlass_67 fl_227 kZ_90 ?_
        refine z_aload_n C d7_sayGlass_70 rfl ?_
        refine z_getI C d7_sayGlass_71 fl_226 kZ_90 ?_
        refine z_isub C d7_sayGlass_74 ?_
        refine z_istore C d7_sayGlass_75 (Nat.le_of_ble_eq_true rfl) rfl (L' := [some (zr 90), some (zi x1), some (zi x2), some (zi x3), some (zi ((σ 90 5) - (σ 90 4)))]) rfl ?_
        refine z_aload_n C d7_sayGlass_77 rfl ?_
        refine z_iload C d7_sayGlass_78 rfl ?_
        refine z_if_ne C d7_sayGlass_80 (fun c6 => ?_) (fun c6 => ?_)
        · have hf := zit c6 hf
          refine z_iconst C (1 : Int32) d7_sayGlass_83 kI_1 ?_
          refine z_goto C d7_sayGlass_84 ?_
          obtain ⟨s7, e7, hf⟩ := zpx hf
          refine z_putZ C d7_sayGlass_88 fl_223 ft_7_2 kZ_90 (Or.inr rfl) e7 ?_
          refine z_iload C d7_sayGlass_91 rfl ?_
          refine z_if_ne C d7_sayGlass_93 (fun c8 => ?_) (fun c8 => ?_)
          · have hf := zit c8 hf
            refine z_iconst C (0 : Int32) d7_sayGlass_96 kI_0 ?_
            refine z_goto C d7_sayGlass_97 ?_
            exact z_iret C d7_sayGlass_104 hf
          · have hf := zie c8 hf
            refine z_iload_n C d7_sayGlass_100 rfl ?_
            refine z_iload C d7_sayGlass_101 rfl ?_
            obtain ⟨g9, hf⟩ := zgo hf
            refine z_idiv C d7_sayGlass_103 g9 ?_
            exact z_iret C d7_sayGlass_104 hf
        · have hf := zie c6 hf
          refine z_iconst C (0 : Int32) d7_sayGlass_87 kI_0 ?_
          obtain ⟨s10, e10, hf⟩ := zpx hf
          refine z_putZ C d7_sayGlass_88 fl_223 ft_7_2 kZ_90 (Or.inl rfl) e10 ?_
          refine z_iload C d7_sayGlass_91 rfl ?_
          refine z_if_ne C d7_sayGlass_93 (fun c11 => ?_) (fun c11 => ?_)
          · have hf := zit c11 hf
            refine z_iconst C (0 : Int32) d7_sayGlass_96 kI_0 ?_
            refine z_goto C d7_sayGlass_97 ?_
            exact z_iret C d7_sayGlass_104 hf
          · have hf := zie c11 hf
            refine z_iload_n C d7_sayGlass_100 rfl ?_
            refine z_iload C d7_sayGlass_101 rfl ?_
            obtain ⟨g12, hf⟩ := zgo hf
            refine z_idiv C d7_sayGlass_103 g12 ?_
            exact z_iret C d7_sayGlass_104 hf
def f7_saySpoon (k : Nat) (rc : Nat → List Int32 → ZS → Option (Int32 × ZS)) (x1 : Int32) (x2 : Int32) (x3 : Int32) (σ : ZS) : Option (Int32 × ZS) :=
  if x1 = (20 : Int32) then (
  zbd (rc 0 [(0 : Int32), (0 : Int32), x2, x3] σ) fun r2 s2 =>
  some ((r2 - (4 : Int32)), s2))
  else (
  zbd (rc 0 [(0 : Int32), (3 : Int32), x2, x3] σ) fun r3 s3 =>
  zbd (rc 0 [(s3 90 3), (1 : Int32), (1 : Int32), x3] s3) fun r4 s4 =>
  some ((r3 + r4), s4))
theorem c7_saySpoon (l : Launch) (g : ZG) {F Lo : Nat} {k : Nat} (hF : 2 ≤ F ∧ 84 ≤ Lo) {rc : Nat → List Int32 → ZS → Option (Int32 × ZS)} (hrc : zGVO l g F Lo rc) {x1 : Int32} {x2 : Int32} {x3 : Int32} {σ : ZS} {r : Int32} {σr : ZS} (hf : f7_saySpoon k rc x1 x2 x3 σ = some (r, σr)) : zT l g y7_saySpoon b7_saySpoon 5 (some .int) (F + 1) (Lo + 25) [zr 90, zi x1, zi x2, zi x3] σ (some (zi r)) σr := by
  unfold f7_saySpoon at hf
  refine zT_start (own := R7) rfl (by decide +kernel) 1 (L := [some (zr 90), some (zi x1), some (zi x2), some (zi x3), none]) rfl rfl (fun x hl C => ?_)
  subst hl
  refine z_iload_n C d7_saySpoon_0 rfl ?_
  refine z_bipush C (20 : Int32) d7_saySpoon_1 kB_20 ?_
  refine z_icmp_ne C d7_saySpoon_3 (fun c1 => ?_) (fun c1 => ?_)
  · have hf := zit c1 hf
    refine z_aload_n C d7_saySpoon_6 rfl ?_
    refine z_iconst C (0 : Int32) d7_saySpoon_7 kI_0 ?_
    refine z_iconst C (0 : Int32) d7_saySpoon_8 kI_0 ?_
    refine z_iload_n C d7_saySpoon_9 rfl ?_
    refine z_iload_n C d7_saySpoon_10 rfl ?_
    obtain ⟨r2, s2, h2, hf⟩ := zbx hf
    refine z_callVi C (as := [zi (0 : Int32), zi (0 : Int32), zi x2, zi x3]) d7_saySpoon_11 w_707 yy7_say (hrc.1 _ _ _ _ _ _ _ h2) yc7_say kZ_90 rfl rfl (Nat.le_of_ble_eq_true rfl) ⟨by omega, by omega⟩ ⟨Nat.zero_le _, Nat.zero_le _⟩ ?_
    refine z_iconst C (4 : Int32) d7_saySpoon_14 kI_4 ?_
    refine z_isub C d7_saySpoon_15 ?_
    exact z_iret C d7_saySpoon_16 hf
  · have hf := zie c1 hf
    refine z_aload_n C d7_saySpoon_17 rfl ?_
    refine z_iconst C (0 : Int32) d7_saySpoon_18 kI_0 ?_
    refine z_iconst C (3 : Int32) d7_saySpoon_19 kI_3 ?_
    refine z_iload_n C d7_saySpoon_20 rfl ?_
    refine z_iload_n C d7_saySpoon_21 rfl ?_
    obtain ⟨r3, s3, h3, hf⟩ := zbx hf
    refine z_callVi C (as := [zi (0 : Int32), zi (3 : Int32), zi x2, zi x3]) d7_saySpoon_22 w_707 yy7_say (hrc.1 _ _ _ _ _ _ _ h3) yc7_say kZ_90 rfl rfl (Nat.le_of_ble_eq_true rfl) ⟨by omega, by omega⟩ ⟨Nat.zero_le _, Nat.zero_le _⟩ ?_
    refine z_istore C d7_saySpoon_25 (Nat.le_of_ble_eq_true rfl) rfl (L' := [some (zr 90), some (zi x1), some (zi x2), some (zi x3), some (zi r3)]) rfl ?_
    refine z_iload C d7_saySpoon_27 rfl ?_
    refine z_aload_n C d7_saySpoon_29 rfl ?_
    refine z_aload_n C d7_saySpoon_30 rfl ?_
    refine z_getI C d7_saySpoon_31 fl_225 kZ_90 ?_
    refine z_iconst C (1 : Int32) d7_saySpoon_34 kI_1 ?_
    refine z_iconst C (1 : Int32) d7_saySpoon_35 kI_1 ?_
    refine z_iload_n C d7_saySpoon_36 rfl ?_
    obtain ⟨r4, s4, h4, hf⟩ := zbx hf
    refine z_callVi C (as := [zi (s3 90 3), zi (1 : Int32), zi (1 : Int32), zi x3]) d7_saySpoon_37 w_707 yy7_say (hrc.1 _ _ _ _ _ _ _ h4) yc7_say kZ_90 rfl rfl (Nat.le_of_ble_eq_true rfl) ⟨by omega, by omega⟩ ⟨Nat.zero_le _, Nat.zero_le _⟩ ?_
    refine z_iadd C d7_saySpoon_40 ?_
    exact z_iret C d7_saySpoon_41 hf
def f7_sayBowl (k : Nat) (rc : Nat → List Int32 → ZS → Option (Int32 × ZS)) (x1 : Int32) (x2 : Int32) (x3 : Int32) (σ : ZS) : Option (Int32 × ZS) :=
  if x1 = (50 : Int32) then (
  zbd (rc 0 [(1 : Int32), (0 : Int32), x2, x3] σ) fun r2 s2 =>
  some ((r2 * (3 : Int32)), s2))
  else (
  zbd (rc 0 [(1 : Int32), (2 : Int32), x2, x3] σ) fun r3 s3 =>
  some ((r3 ^^^ (s3 90 4)), s3))
theorem c7_sayBowl (l : Launch) (g : ZG) {F Lo : Nat} {k : Nat} (hF : 2 ≤ F ∧ 84 ≤ Lo) {rc : Nat → List Int32 → ZS → Option (Int32 × ZS)} (hrc : zGVO l g F Lo rc) {x1 : Int32} {x2 : Int32} {x3 : Int32} {σ : ZS} {r : Int32} {σr : ZS} (hf : f7_sayBowl k rc x1 x2 x3 σ = some (r, σr)) : zT l g y7_sayBowl b7_sayBowl 4 (some .int) (F + 1) (Lo + 25) [zr 90, zi x1, zi x2, zi x3] σ (some (zi r)) σr := by
  unfold f7_sayBowl at hf
  refine zT_start (own := R7) rfl (by decide +kernel) 0 (L := [some (zr 90), some (zi x1), some (zi x2), some (zi x3)]) rfl rfl (fun x hl C => ?_)
  subst hl
  refine z_iload_n C d7_sayBowl_0 rfl ?_
  refine z_bipush C (50 : Int32) d7_sayBowl_1 kB_50 ?_
  refine z_icmp_ne C d7_sayBowl_3 (fun c1 => ?_) (fun c1 => ?_)
  · have hf := zit c1 hf
    refine z_aload_n C d7_sayBowl_6 rfl ?_
    refine z_iconst C (1 : Int32) d7_sayBowl_7 kI_1 ?_
    refine z_iconst C (0 : Int32) d7_sayBowl_8 kI_0 ?_
    refine z_iload_n C d7_sayBowl_9 rfl ?_
    refine z_iload_n C d7_sayBowl_10 rfl ?_
    obtain ⟨r2, s2, h2, hf⟩ := zbx hf
    refine z_callVi C (as := [zi (1 : Int32), zi (0 : Int32), zi x2, zi x3]) d7_sayBowl_11 w_707 yy7_say (hrc.1 _ _ _ _ _ _ _ h2) yc7_say kZ_90 rfl rfl (Nat.le_of_ble_eq_true rfl) ⟨by omega, by omega⟩ ⟨Nat.zero_le _, Nat.zero_le _⟩ ?_
    refine z_iconst C (3 : Int32) d7_sayBowl_14 kI_3 ?_
    refine z_imul C d7_sayBowl_15 ?_
    exact z_iret C d7_sayBowl_16 hf
  · have hf := zie c1 hf
    refine z_aload_n C d7_sayBowl_17 rfl ?_
    refine z_iconst C (1 : Int32) d7_sayBowl_18 kI_1 ?_
    refine z_iconst C (2 : Int32) d7_sayBowl_19 kI_2 ?_
    refine z_iload_n C d7_sayBowl_20 rfl ?_
    refine z_iload_n C d7_sayBowl_21 rfl ?_
    obtain ⟨r3, s3, h3, hf⟩ := zbx hf
    refine z_callVi C (as := [zi (1 : Int32), zi (2 : Int32), zi x2, zi x3]) d7_sayBowl_22 w_707 yy7_say (hrc.1 _ _ _ _ _ _ _ h3) yc7_say kZ_90 rfl rfl (Nat.le_of_ble_eq_true rfl) ⟨by omega, by omega⟩ ⟨Nat.zero_le _, Nat.zero_le _⟩ ?_
    refine z_aload_n C d7_sayBowl_25 rfl ?_
    refine z_getI C d7_sayBowl_26 fl_226 kZ_90 ?_
    refine z_ixor C d7_sayBowl_29 ?_
    exact z_iret C d7_sayBowl_30 hf
def f7_saySilvered (k : Nat) (rc : Nat → List Int32 → ZS → Option (Int32 × ZS)) (x1 : Int32) (x2 : Int32) (x3 : Int32) (σ : ZS) : Option (Int32 × ZS) :=
  if x1 = (70 : Int32) then (
  some ((9 : Int32), σ))
  else (
  zbd (rc 0 [(0 : Int32), (1 : Int32), x2, x3] σ) fun r2 s2 =>
  some ((r2 + (s2 90 5)), s2))
theorem c7_saySilvered (l : Launch) (g : ZG) {F Lo : Nat} {k : Nat} (hF : 2 ≤ F ∧ 84 ≤ Lo) {rc : Nat → List Int32 → ZS → Option (Int32 × ZS)} (hrc : zGVO l g F Lo rc) {x1 : Int32} {x2 : Int32} {x3 : Int32} {σ : ZS} {r : Int32} {σr : ZS} (hf : f7_saySilvered k rc x1 x2 x3 σ = some (r, σr)) : zT l g y7_saySilvered b7_saySilvered 4 (some .int) (F + 1) (Lo + 25) [zr 90, zi x1, zi x2, zi x3] σ (some (zi r)) σr := by
  unfold f7_saySilvered at hf
  refine zT_start (own := R7) rfl (by decide +kernel) 0 (L := [some (zr 90), some (zi x1), some (zi x2), some (zi x3)]) rfl rfl (fun x hl C => ?_)
  subst hl
  refine z_iload_n C d7_saySilvered_0 rfl ?_
  refine z_bipush C (70 : Int32) d7_saySilvered_1 kB_70 ?_
  refine z_icmp_ne C d7_saySilvered_3 (fun c1 => ?_) (fun c1 => ?_)
  · have hf := zit c1 hf
    refine z_bipush C (9 : Int32) d7_saySilvered_6 kB_9 ?_
    refine z_goto C d7_saySilvered_8 ?_
    exact z_iret C d7_saySilvered_24 hf
  · have hf := zie c1 hf
    refine z_aload_n C d7_saySilvered_11 rfl ?_
    refine z_iconst C (0 : Int32) d7_saySilvered_12 kI_0 ?_
    refine z_iconst C (1 : Int32) d7_saySilvered_13 kI_1 ?_
    refine z_iload_n C d7_saySilvered_14 rfl ?_
    refine z_iload_n C d7_saySilvered_15 rfl ?_
    obtain ⟨r2, s2, h2, hf⟩ := zbx hf
    refine z_callVi C (as := [zi (0 : Int32), zi (1 : Int32), zi x2, zi x3]) d7_saySilvered_16 w_707 yy7_say (hrc.1 _ _ _ _ _ _ _ h2) yc7_say kZ_90 rfl rfl (Nat.le_of_ble_eq_true rfl) ⟨by omega, by omega⟩ ⟨Nat.zero_le _, Nat.zero_le _⟩ ?_
    refine z_aload_n C d7_saySilvered_19 rfl ?_
    refine z_getI C d7_saySilvered_20 fl_227 kZ_90 ?_
    refine z_iadd C d7_saySilvered_23 ?_
    exact z_iret C d7_saySilvered_24 hf
def f7_sayOnly (k : Nat) (rc : Nat → List Int32 → ZS → Option (Int32 × ZS)) (x1 : Int32) (x2 : Int32) (x3 : Int32) (σ : ZS) : Option (Int32 × ZS) :=
  if x1 = (30 : Int32) then (
  zbd (rc 0 [(0 : Int32), (1 : Int32), x2, x3] σ) fun r2 s2 =>
  some (((0 : Int32) - r2), s2))
  else (
  if x1 = (40 : Int32) then (
  zbd (rc 0 [(0 : Int32), (2 : Int32), (x2 / (2 : Int32)), x3] σ) fun r4 s4 =>
  some (r4, s4))
  else (
  if x1 = (60 : Int32) then (
  zbd (rc 0 [(2 : Int32), (1 : Int32), (x2 + (1 : Int32)), x3] σ) fun r6 s6 =>
  some (r6, s6))
  else (
  some ((0 : Int32), σ))))
theorem c7_sayOnly (l : Launch) (g : ZG) {F Lo : Nat} {k : Nat} (hF : 2 ≤ F ∧ 84 ≤ Lo) {rc : Nat → List Int32 → ZS → Option (Int32 × ZS)} (hrc : zGVO l g F Lo rc) {x1 : Int32} {x2 : Int32} {x3 : Int32} {σ : ZS} {r : Int32} {σr : ZS} (hf : f7_sayOnly k rc x1 x2 x3 σ = some (r, σr)) : zT l g y7_sayOnly b7_sayOnly 4 (some .int) (F + 1) (Lo + 25) [zr 90, zi x1, zi x2, zi x3] σ (some (zi r)) σr := by
  unfold f7_sayOnly at hf
  refine zT_start (own := R7) rfl (by decide +kernel) 0 (L := [some (zr 90), some (zi x1), some (zi x2), some (zi x3)]) rfl rfl (fun x hl C => ?_)
  subst hl
  refine z_iload_n C d7_sayOnly_0 rfl ?_
  refine z_lsw C [((30 : Int32), 36), ((40 : Int32), 47), ((60 : Int32), 58)] (d := 69) d7_sayOnly_1 (by decide +kernel) (by decide) (by decide +kernel) ?_
  refine z_swc (fun c1 => ?_) (fun c1 => ?_)
  · have hf := zit c1 hf
    refine z_iconst C (0 : Int32) d7_sayOnly_36 kI_0 ?_
    refine z_aload_n C d7_sayOnly_37 rfl ?_
    refine z_iconst C (0 : Int32) d7_sayOnly_38 kI_0 ?_
    refine z_iconst C (1 : Int32) d7_sayOnly_39 kI_1 ?_
    refine z_iload_n C d7_sayOnly_40 rfl ?_
    refine z_iload_n C d7_sayOnly_41 rfl ?_
    obtain ⟨r2, s2, h2, hf⟩ := zbx hf
    refine z_callVi C (as := [zi (0 : Int32), zi (1 : Int32), zi x2, zi x3]) d7_sayOnly_42 w_707 yy7_say (hrc.1 _ _ _ _ _ _ _ h2) yc7_say kZ_90 rfl rfl (Nat.le_of_ble_eq_true rfl) ⟨by omega, by omega⟩ ⟨Nat.zero_le _, Nat.zero_le _⟩ ?_
    refine z_isub C d7_sayOnly_45 ?_
    exact z_iret C d7_sayOnly_46 hf
  · have hf := zie c1 hf
    refine z_swc (fun c3 => ?_) (fun c3 => ?_)
    · have hf := zit c3 hf
      refine z_aload_n C d7_sayOnly_47 rfl ?_
      refine z_iconst C (0 : Int32) d7_sayOnly_48 kI_0 ?_
      refine z_iconst C (2 : Int32) d7_sayOnly_49 kI_2 ?_
      refine z_iload_n C d7_sayOnly_50 rfl ?_
      refine z_iconst C (2 : Int32) d7_sayOnly_51 kI_2 ?_
      refine z_idiv C d7_sayOnly_52 (by decide) ?_
      refine z_iload_n C d7_sayOnly_53 rfl ?_
      obtain ⟨r4, s4, h4, hf⟩ := zbx hf
      refine z_callVi C (as := [zi (0 : Int32), zi (2 : Int32), zi (x2 / (2 : Int32)), zi x3]) d7_sayOnly_54 w_707 yy7_say (hrc.1 _ _ _ _ _ _ _ h4) yc7_say kZ_90 rfl rfl (Nat.le_of_ble_eq_true rfl) ⟨by omega, by omega⟩ ⟨Nat.zero_le _, Nat.zero_le _⟩ ?_
      exact z_iret C d7_sayOnly_57 hf
    · have hf := zie c3 hf
      refine z_swc (fun c5 => ?_) (fun c5 => ?_)
      · have hf := zit c5 hf
        refine z_aload_n C d7_sayOnly_58 rfl ?_
        refine z_iconst C (2 : Int32) d7_sayOnly_59 kI_2 ?_
        refine z_iconst C (1 : Int32) d7_sayOnly_60 kI_1 ?_
        refine z_iload_n C d7_sayOnly_61 rfl ?_
        refine z_iconst C (1 : Int32) d7_sayOnly_62 kI_1 ?_
        refine z_iadd C d7_sayOnly_63 ?_
        refine z_iload_n C d7_sayOnly_64 rfl ?_
        obtain ⟨r6, s6, h6, hf⟩ := zbx hf
        refine z_callVi C (as := [zi (2 : Int32), zi (1 : Int32), zi (x2 + (1 : Int32)), zi x3]) d7_sayOnly_65 w_707 yy7_say (hrc.1 _ _ _ _ _ _ _ h6) yc7_say kZ_90 rfl rfl (Nat.le_of_ble_eq_true rfl) ⟨by omega, by omega⟩ ⟨Nat.zero_le _, Nat.zero_le _⟩ ?_
        exact z_iret C d7_sayOnly_68 hf
      · have hf := zie c5 hf
        refine z_sw0 ?_
        refine z_iconst C (0 : Int32) d7_sayOnly_69 kI_0 ?_
        exact z_iret C d7_sayOnly_70 hf
def fVO (k : Nat) : Nat → Nat → List Int32 → ZS → Option (Int32 × ZS)
  | 0, _, _, _ => none
  | d + 1, 0, [a0, a1, a2, a3], σ => f7_say k (fVO k d) a0 a1 a2 a3 σ
  | d + 1, 1, [a0, a1, a2], σ => f7_sayGlass k (fVO k d) a0 a1 a2 σ
  | d + 1, 2, [a0, a1, a2], σ => f7_saySpoon k (fVO k d) a0 a1 a2 σ
  | d + 1, 3, [a0, a1, a2], σ => f7_sayBowl k (fVO k d) a0 a1 a2 σ
  | d + 1, 4, [a0, a1, a2], σ => f7_saySilvered k (fVO k d) a0 a1 a2 σ
  | d + 1, 5, [a0, a1, a2], σ => f7_sayOnly k (fVO k d) a0 a1 a2 σ
  | _ + 1, _, _, _ => none
theorem cVO (l : Launch) (g : ZG) (k : Nat) : ∀ d : Nat, zGVO l g (2 + d) (84 + 25 * d) (fVO k d)
  | 0 => ⟨(fun _ _ _ _ _ _ _ h => nomatch (show none = some _ from h)), (fun _ _ _ _ _ _ h => nomatch (show none = some _ from h)), (fun _ _ _ _ _ _ h => nomatch (show none = some _ from h)), (fun _ _ _ _ _ _ h => nomatch (show none = some _ from h)), (fun _ _ _ _ _ _ h => nomatch (show none = some _ from h)), (fun _ _ _ _ _ _ h => nomatch (show none = some _ from h))⟩
  | d + 1 => by
    have ih := cVO l g k d
    have hF : 2 ≤ 2 + d ∧ 84 ≤ 84 + 25 * d := ⟨by omega, by omega⟩
    refine ⟨?_, ?_, ?_, ?_, ?_, ?_⟩
    · intro a0 a1 a2 a3 σ r σr h
      exact c7_say l g hF ih (show f7_say k (fVO k d) a0 a1 a2 a3 σ = some (r, σr) from h)
    · intro a0 a1 a2 σ r σr h
      exact c7_sayGlass l g hF ih (show f7_sayGlass k (fVO k d) a0 a1 a2 σ = some (r, σr) from h)
    · intro a0 a1 a2 σ r σr h
      exact c7_saySpoon l g hF ih (show f7_saySpoon k (fVO k d) a0 a1 a2 σ = some (r, σr) from h)
    · intro a0 a1 a2 σ r σr h
      exact c7_sayBowl l g hF ih (show f7_sayBowl k (fVO k d) a0 a1 a2 σ = some (r, σr) from h)
    · intro a0 a1 a2 σ r σr h
      exact c7_saySilvered l g hF ih (show f7_saySilvered k (fVO k d) a0 a1 a2 σ = some (r, σr) from h)
    · intro a0 a1 a2 σ r σr h
      exact c7_sayOnly l g hF ih (show f7_sayOnly k (fVO k d) a0 a1 a2 σ = some (r, σr) from h)
def f7_sayx (k : Nat) (a0 : Int32) (a1 : Int32) (a2 : Int32) (a3 : Int32) (σ : ZS) : Option (Int32 × ZS) := fVO k 60 0 [a0, a1, a2, a3] σ
theorem c7_sayx (l : Launch) (g : ZG) {k : Nat} {a0 : Int32} {a1 : Int32} {a2 : Int32} {a3 : Int32} {σ : ZS} {r : Int32} {σr : ZS} (hf : f7_sayx k a0 a1 a2 a3 σ = some (r, σr)) : zT l g y7_say b7_say 6 (some .int) 62 1584 [zr 90, zi a0, zi a1, zi a2, zi a3] σ (some (zi r)) σr := (cVO l g k 60).1 _ _ _ _ _ _ _ hf
def f7_sayGlassx (k : Nat) (a0 : Int32) (a1 : Int32) (a2 : Int32) (σ : ZS) : Option (Int32 × ZS) := fVO k 60 1 [a0, a1, a2] σ
theorem c7_sayGlassx (l : Launch) (g : ZG) {k : Nat} {a0 : Int32} {a1 : Int32} {a2 : Int32} {σ : ZS} {r : Int32} {σr : ZS} (hf : f7_sayGlassx k a0 a1 a2 σ = some (r, σr)) : zT l g y7_sayGlass b7_sayGlass 5 (some .int) 62 1584 [zr 90, zi a0, zi a1, zi a2] σ (some (zi r)) σr := (cVO l g k 60).2.1 _ _ _ _ _ _ hf
def f7_saySpoonx (k : Nat) (a0 : Int32) (a1 : Int32) (a2 : Int32) (σ : ZS) : Option (Int32 × ZS) := fVO k 60 2 [a0, a1, a2] σ
theorem c7_saySpoonx (l : Launch) (g : ZG) {k : Nat} {a0 : Int32} {a1 : Int32} {a2 : Int32} {σ : ZS} {r : Int32} {σr : ZS} (hf : f7_saySpoonx k a0 a1 a2 σ = some (r, σr)) : zT l g y7_saySpoon b7_saySpoon 5 (some .int) 62 1584 [zr 90, zi a0, zi a1, zi a2] σ (some (zi r)) σr := (cVO l g k 60).2.2.1 _ _ _ _ _ _ hf
def f7_sayBowlx (k : Nat) (a0 : Int32) (a1 : Int32) (a2 : Int32) (σ : ZS) : Option (Int32 × ZS) := fVO k 60 3 [a0, a1, a2] σ
theorem c7_sayBowlx (l : Launch) (g : ZG) {k : Nat} {a0 : Int32} {a1 : Int32} {a2 : Int32} {σ : ZS} {r : Int32} {σr : ZS} (hf : f7_sayBowlx k a0 a1 a2 σ = some (r, σr)) : zT l g y7_sayBowl b7_sayBowl 4 (some .int) 62 1584 [zr 90, zi a0, zi a1, zi a2] σ (some (zi r)) σr := (cVO l g k 60).2.2.2.1 _ _ _ _ _ _ hf
def f7_saySilveredx (k : Nat) (a0 : Int32) (a1 : Int32) (a2 : Int32) (σ : ZS) : Option (Int32 × ZS) := fVO k 60 4 [a0, a1, a2] σ
theorem c7_saySilveredx (l : Launch) (g : ZG) {k : Nat} {a0 : Int32} {a1 : Int32} {a2 : Int32} {σ : ZS} {r : Int32} {σr : ZS} (hf : f7_saySilveredx k a0 a1 a2 σ = some (r, σr)) : zT l g y7_saySilvered b7_saySilvered 4 (some .int) 62 1584 [zr 90, zi a0, zi a1, zi a2] σ (some (zi r)) σr := (cVO l g k 60).2.2.2.2.1 _ _ _ _ _ _ hf
def f7_sayOnlyx (k : Nat) (a0 : Int32) (a1 : Int32) (a2 : Int32) (σ : ZS) : Option (Int32 × ZS) := fVO k 60 5 [a0, a1, a2] σ
theorem c7_sayOnlyx (l : Launch) (g : ZG) {k : Nat} {a0 : Int32} {a1 : Int32} {a2 : Int32} {σ : ZS} {r : Int32} {σr : ZS} (hf : f7_sayOnlyx k a0 a1 a2 σ = some (r, σr)) : zT l g y7_sayOnly b7_sayOnly 4 (some .int) 62 1584 [zr 90, zi a0, zi a1, zi a2] σ (some (zi r)) σr := (cVO l g k 60).2.2.2.2.2 _ _ _ _ _ _ hf
theorem d7_answer_0 : zd b7_answer 0 (.aload_n 0) 1 1 := ⟨by decide +kernel, rfl⟩
theorem d7_answer_1 : zd b7_answer 1 (.aload_n 1) 1 2 := ⟨by decide +kernel, rfl⟩
theorem d7_answer_2 : zd b7_answer 2 (.getfield 15) 3 5 := ⟨by decide +kernel, rfl⟩
theorem d7_answer_5 : zd b7_answer 5 (.putfield 21) 3 8 := ⟨by decide +kernel, rfl⟩
theorem d7_answer_8 : zd b7_answer 8 (.aload_n 0) 1 9 := ⟨by decide +kernel, rfl⟩
theorem d7_answer_9 : zd b7_answer 9 (.iload_n 2) 1 10 := ⟨by decide +kernel, rfl⟩
theorem d7_answer_10 : zd b7_answer 10 (.putfield 22) 3 13 := ⟨by decide +kernel, rfl⟩
theorem d7_answer_13 : zd b7_answer 13 (.aload_n 0) 1 14 := ⟨by decide +kernel, rfl⟩
theorem d7_answer_14 : zd b7_answer 14 (.aload_n 1) 1 15 := ⟨by decide +kernel, rfl⟩
theorem d7_answer_15 : zd b7_answer 15 (.getfield 25) 3 18 := ⟨by decide +kernel, rfl⟩
theorem d7_answer_18 : zd b7_answer 18 (.putfield 28) 3 21 := ⟨by decide +kernel, rfl⟩
theorem d7_answer_21 : zd b7_answer 21 (.aload_n 0) 1 22 := ⟨by decide +kernel, rfl⟩
theorem d7_answer_22 : zd b7_answer 22 (.iconst 0) 1 23 := ⟨by decide +kernel, rfl⟩
theorem d7_answer_23 : zd b7_answer 23 (.putfield 29) 3 26 := ⟨by decide +kernel, rfl⟩
theorem d7_answer_26 : zd b7_answer 26 (.aload_n 0) 1 27 := ⟨by decide +kernel, rfl⟩
theorem d7_answer_27 : zd b7_answer 27 (.iconst 0) 1 28 := ⟨by decide +kernel, rfl⟩
theorem d7_answer_28 : zd b7_answer 28 (.putfield 32) 3 31 := ⟨by decide +kernel, rfl⟩
theorem d7_answer_31 : zd b7_answer 31 (.aload_n 0) 1 32 := ⟨by decide +kernel, rfl⟩
theorem d7_answer_32 : zd b7_answer 32 (.aload_n 0) 1 33 := ⟨by decide +kernel, rfl⟩
theorem d7_answer_33 : zd b7_answer 33 (.getfield 21) 3 36 := ⟨by decide +kernel, rfl⟩
theorem d7_answer_36 : zd b7_answer 36 (.iload_n 3) 1 37 := ⟨by decide +kernel, rfl⟩
theorem d7_answer_37 : zd b7_answer 37 (.iload 4) 2 39 := ⟨by decide +kernel, rfl⟩
theorem d7_answer_39 : zd b7_answer 39 (.iconst 0) 1 40 := ⟨by decide +kernel, rfl⟩
theorem d7_answer_40 : zd b7_answer 40 (.invokevirtual 36) 3 43 := ⟨by decide +kernel, rfl⟩
theorem d7_answer_43 : zd b7_answer 43 .ireturn 1 44 := ⟨by decide +kernel, rfl⟩
def f7_answer (k : Nat) (x1 : Nat) (x2 : Int32) (x3 : Int32) (x4 : Int32) (σ : ZS) : Option (Int32 × ZS) :=
  if zsh x1 = 1 then (
  zput (zu σ 90 3 (σ x1 0)) fun s2 =>
  zput (zu s2 90 4 x2) fun s3 =>
  zput (zu s3 90 5 (s3 x1 1)) fun s4 =>
  zput (zu s4 90 1 (0 : Int32)) fun s5 =>
  zput (zu s5 90 2 (0 : Int32)) fun s6 =>
  zbd (f7_sayx k (s6 90 3) x3 x4 (0 : Int32) s6) fun r7 s7 =>
  some (r7, s7)) else none
theorem c7_answer (l : Launch) (g : ZG) {k : Nat} {x1 : Nat} {x2 : Int32} {x3 : Int32} {x4 : Int32} {σ : ZS} {r : Int32} {σr : ZS} (hf : f7_answer k x1 x2 x3 x4 σ = some (r, σr)) : zT l g y7_answer b7_answer 5 (some .int) 63 1609 [zr 90, zr x1, zi x2, zi x3, zi x4] σ (some (zi r)) σr := by
  unfold f7_answer at hf
  refine zT_start (own := R7) rfl (by decide +kernel) 0 (L := [some (zr 90), some (zr x1), some (zi x2), some (zi x3), some (zi x4)]) rfl rfl (fun x hl C => ?_)
  subst hl
  refine z_aload_n C d7_answer_0 rfl ?_
  refine z_aload_n C d7_answer_1 rfl ?_
  obtain ⟨g1, hf⟩ := zgo hf
  refine z_getI C d7_answer_2 fl_47 g1 ?_
  obtain ⟨s2, e2, hf⟩ := zpx hf
  refine z_putI C d7_answer_5 fl_225 ft_7_3 kZ_90 e2 ?_
  refine z_aload_n C d7_answer_8 rfl ?_
  refine z_iload_n C d7_answer_9 rfl ?_
  obtain ⟨s3, e3, hf⟩ := zpx hf
  refine z_putI C d7_answer_10 fl_226 ft_7_4 kZ_90 e3 ?_
  refine z_aload_n C d7_answer_13 rfl ?_
  refine z_aload_n C d7_answer_14 rfl ?_
  refine z_getI C d7_answer_15 fl_51 g1 ?_
  obtain ⟨s4, e4, hf⟩ := zpx hf
  refine z_putI C d7_answer_18 fl_227 ft_7_5 kZ_90 e4 ?_
  refine z_aload_n C d7_answer_21 rfl ?_
  refine z_iconst C (0 : Int32) d7_answer_22 kI_0 ?_
  obtain ⟨s5, e5, hf⟩ := zpx hf
  refine z_putI C d7_answer_23 fl_221 ft_7_1 kZ_90 e5 ?_
  refine z_aload_n C d7_answer_26 rfl ?_
  refine z_iconst C (0 : Int32) d7_answer_27 kI_0 ?_
  obtain ⟨s6, e6, hf⟩ := zpx hf
  refine z_putZ C d7_answer_28 fl_223 ft_7_2 kZ_90 (Or.inl rfl) e6 ?_
  refine z_aload_n C d7_answer_31 rfl ?_
  refine z_aload_n C d7_answer_32 rfl ?_
  refine z_getI C d7_answer_33 fl_225 kZ_90 ?_
  refine z_iload_n C d7_answer_36 rfl ?_
  refine z_iload C d7_answer_37 rfl ?_
  refine z_iconst C (0 : Int32) d7_answer_39 kI_0 ?_
  obtain ⟨r7, s7, h7, hf⟩ := zbx hf
  refine z_callVi C (as := [zi (s6 90 3), zi x3, zi x4, zi (0 : Int32)]) d7_answer_40 w_707 yy7_say (c7_sayx x.2.1 g h7) yc7_say kZ_90 rfl rfl (Nat.le_of_ble_eq_true rfl) ⟨Nat.le_of_ble_eq_true rfl, Nat.le_of_ble_eq_true rfl⟩ ⟨Nat.zero_le _, Nat.zero_le _⟩ ?_
  exact z_iret C d7_answer_43 hf
theorem d8_voice_0 : zd b8_voice 0 (.aload_n 0) 1 1 := ⟨by decide +kernel, rfl⟩
theorem d8_voice_1 : zd b8_voice 1 (.getfield 10) 3 4 := ⟨by decide +kernel, rfl⟩
theorem d8_voice_4 : zd b8_voice 4 (.iload_n 1) 1 5 := ⟨by decide +kernel, rfl⟩
theorem d8_voice_5 : zd b8_voice 5 (.invokevirtual 82) 3 8 := ⟨by decide +kernel, rfl⟩
theorem d8_voice_8 : zd b8_voice 8 (.astore 4) 2 10 := ⟨by decide +kernel, rfl⟩
theorem d8_voice_10 : zd b8_voice 10 (.aload 4) 2 12 := ⟨by decide +kernel, rfl⟩
theorem d8_voice_12 : zdb b8_voice 12 (.ifnull 12) 12 15 24 := ⟨by decide +kernel, rfl, by decide⟩
theorem d8_voice_15 : zd b8_voice 15 (.iload_n 2) 1 16 := ⟨by decide +kernel, rfl⟩
theorem d8_voice_16 : zdb b8_voice 16 (.ifCond .lt 8) 8 19 24 := ⟨by decide +kernel, rfl, by decide⟩
theorem d8_voice_19 : zd b8_voice 19 (.iload_n 2) 1 20 := ⟨by decide +kernel, rfl⟩
theorem d8_voice_20 : zd b8_voice 20 (.iconst 4) 1 21 := ⟨by decide +kernel, rfl⟩
theorem d8_voice_21 : zdb b8_voice 21 (.if_icmp .lt 9) 9 24 30 := ⟨by decide +kernel, rfl, by decide⟩
theorem d8_voice_24 : zd b8_voice 24 (.aload_n 0) 1 25 := ⟨by decide +kernel, rfl⟩
theorem d8_voice_25 : zd b8_voice 25 (.iconst 1) 1 26 := ⟨by decide +kernel, rfl⟩
theorem d8_voice_26 : zd b8_voice 26 (.invokevirtual 67) 3 29 := ⟨by decide +kernel, rfl⟩
theorem d8_voice_29 : zd b8_voice 29 .ireturn 1 30 := ⟨by decide +kernel, rfl⟩
theorem d8_voice_30 : zd b8_voice 30 (.aload_n 0) 1 31 := ⟨by decide +kernel, rfl⟩
theorem d8_voice_31 : zd b8_voice 31 (.getfield 39) 3 34 := ⟨by decide +kernel, rfl⟩
theorem d8_voice_34 : zd b8_voice 34 (.aload 4) 2 36 := ⟨by decide +kernel, rfl⟩
theorem d8_voice_36 : zd b8_voice 36 (.iload_n 1) 1 37 := ⟨by decide +kernel, rfl⟩
theorem d8_voice_37 : zd b8_voice 37 (.iload_n 2) 1 38 := ⟨by decide +kernel, rfl⟩
theorem d8_voice_38 : zd b8_voice 38 (.iload_n 3) 1 39 := ⟨by decide +kernel, rfl⟩
theorem d8_voice_39 : zd b8_voice 39 (.invokevirtual 244) 3 42 := ⟨by decide +kernel, rfl⟩
theorem d8_voice_42 : zd b8_voice 42 (.istore 5) 2 44 := ⟨by decide +kernel, rfl⟩
theorem d8_voice_44 : zd b8_voice 44 (.aload_n 0) 1 45 := ⟨by decide +kernel, rfl⟩
theorem d8_voice_45 : zd b8_voice 45 (.getfield 39) 3 48 := ⟨by decide +kernel, rfl⟩
theorem d8_voice_48 : zd b8_voice 48 (.getfield 248) 3 51 := ⟨by decide +kernel, rfl⟩
theorem d8_voice_51 : zdb b8_voice 51 (.ifCond .eq 12) 12 54 63 := ⟨by decide +kernel, rfl, by decide⟩
theorem d8_voice_54 : zd b8_voice 54 (.aload_n 0) 1 55 := ⟨by decide +kernel, rfl⟩
theorem d8_voice_55 : zd b8_voice 55 (.bipush 6) 2 57 := ⟨by decide +kernel, rfl⟩
theorem d8_voice_57 : zd b8_voice 57 (.invokevirtual 67) 3 60 := ⟨by decide +kernel, rfl⟩
theorem d8_voice_60 : zdb b8_voice 60 (.goto 5) 5 63 65 := ⟨by decide +kernel, rfl, by decide⟩
theorem d8_voice_63 : zd b8_voice 63 (.iload 5) 2 65 := ⟨by decide +kernel, rfl⟩
theorem d8_voice_65 : zd b8_voice 65 .ireturn 1 66 := ⟨by decide +kernel, rfl⟩
def f8_voice (k : Nat) (x1 : Int32) (x2 : Int32) (x3 : Int32) (σ : ZS) : Option (Int32 × ZS) :=
  zbd (f5_glassOf k 2 x1 σ) fun r1 s1 =>
  if r1 = 0 then (
  zbd (f8_error k (1 : Int32) s1) fun r3 s3 =>
  some (r3, s3))
  else (
  if x2 < 0 then (
  zbd (f8_error k (1 : Int32) s1) fun r5 s5 =>
  some (r5, s5))
  else (
  if x2 < (4 : Int32) then (
  zbd (f7_answer k r1 x1 x2 x3 s1) fun r7 s7 =>
  if (s7 90 2) = 0 then (
  some (r7, s7))
  else (
  zbd (f8_error k (6 : Int32) s7) fun r9 s9 =>
  some (r9, s9)))
  else (
  zbd (f8_error k (1 : Int32) s1) fun r10 s10 =>
  some (r10, s10))))
theorem c8_voice (l : Launch) (g : ZG) {k : Nat} {x1 : Int32} {x2 : Int32} {x3 : Int32} {σ : ZS} {r : Int32} {σr : ZS} (hf : f8_voice k x1 x2 x3 σ = some (r, σr)) : zT l g y8_voice b8_voice 6 (some .int) 64 1633 [zr 1, zi x1, zi x2, zi x3] σ (some (zi r)) σr := by
  unfold f8_voice at hf
  refine zT_start (own := R8) rfl (by decide +kernel) 2 (L := [some (zr 1), some (zi x1), some (zi x2), some (zi x3), none, none]) rfl rfl (fun x hl C => ?_)
  subst hl
  refine z_aload_n C d8_voice_0 rfl ?_
  refine z_getR C d8_voice_1 fl_261 kZ_1 2 rfl (zn0 kZ_2) ?_
  refine z_iload_n C d8_voice_4 rfl ?_
  obtain ⟨r1, s1, h1, hf⟩ := zbx hf
  refine z_callVr C (as := [zi x1]) d8_voice_5 w_334 yy5_glassOf (c5_glassOf x.2.1 g h1) yc5_glassOf kZ_2 rfl rfl (Nat.le_of_ble_eq_true rfl) ⟨Nat.le_of_ble_eq_true rfl, Nat.le_of_ble_eq_true rfl⟩ ⟨Nat.zero_le _, Nat.zero_le _⟩ ?_
  refine z_astore C d8_voice_8 (Nat.le_of_ble_eq_true rfl) rfl (L' := [some (zr 1), some (zi x1), some (zi x2), some (zi x3), some (zr r1), none]) rfl ?_
  refine z_aload C d8_voice_10 rfl ?_
  refine z_ifnull C d8_voice_12 (fun c2 => ?_) (fun c2 => ?_)
  · have hf := zit c2 hf
    refine z_aload_n C d8_voice_24 rfl ?_
    refine z_iconst C (1 : Int32) d8_voice_25 kI_1 ?_
    obtain ⟨r3, s3, h3, hf⟩ := zbx hf
    refine z_callVi C (as := [zi (1 : Int32)]) d8_voice_26 w_308 yy8_error (c8_error x.2.1 g h3) yc8_error kZ_1 rfl rfl (Nat.le_of_ble_eq_true rfl) ⟨Nat.le_of_ble_eq_true rfl, Nat.le_of_ble_eq_true rfl⟩ ⟨Nat.zero_le _, Nat.zero_le _⟩ ?_
    exact z_iret C d8_voice_29 hf
  · have hf := zie c2 hf
    refine z_iload_n C d8_voice_15 rfl ?_
    refine z_if_lt C d8_voice_16 (fun c4 => ?_) (fun c4 => ?_)
    · have hf := zit c4 hf
      refine z_aload_n C d8_voice_24 rfl ?_
      refine z_iconst C (1 : Int32) d8_voice_25 kI_1 ?_
      obtain ⟨r5, s5, h5, hf⟩ := zbx hf
      refine z_callVi C (as := [zi (1 : Int32)]) d8_voice_26 w_308 yy8_error (c8_error x.2.1 g h5) yc8_error kZ_1 rfl rfl (Nat.le_of_ble_eq_true rfl) ⟨Nat.le_of_ble_eq_true rfl, Nat.le_of_ble_eq_true rfl⟩ ⟨Nat.zero_le _, Nat.zero_le _⟩ ?_
      exact z_iret C d8_voice_29 hf
    · have hf := zie c4 hf
      refine z_iload_n C d8_voice_19 rfl ?_
      refine z_iconst C (4 : Int32) d8_voice_20 kI_4 ?_
      refine z_icmp_lt C d8_voice_21 (fun c6 => ?_) (fun c6 => ?_)
      · have hf := zit c6 hf
        refine z_aload_n C d8_voice_30 rfl ?_
        refine z_getR C d8_voice_31 fl_266 kZ_1 90 rfl (zn0 kZ_90) ?_
        refine z_aload C d8_voice_34 rfl ?_
        refine z_iload_n C d8_voice_36 rfl ?_
        refine z_iload_n C d8_voice_37 rfl ?_
        refine z_iload_n C d8_voice_38 rfl ?_
        obtain ⟨r7, s7, h7, hf⟩ := zbx hf
        refine z_callVi C (as := [zr r1, zi x1, zi x2, zi x3]) d8_voice_39 w_703 yy7_answer (c7_answer x.2.1 g h7) yc7_answer kZ_90 rfl rfl (Nat.le_of_ble_eq_true rfl) ⟨Nat.le_of_ble_eq_true rfl, Nat.le_of_ble_eq_true rfl⟩ ⟨Nat.zero_le _, Nat.zero_le _⟩ ?_
        refine z_istore C d8_voice_42 (Nat.le_of_ble_eq_true rfl) rfl (L' := [some (zr 1), some (zi x1), some (zi x2), some (zi x3), some (zr r1), some (zi r7)]) rfl ?_
        refine z_aload_n C d8_voice_44 rfl ?_
        refine z_getR C d8_voice_45 fl_266 kZ_1 90 rfl (zn0 kZ_90) ?_
        refine z_getI C d8_voice_48 fl_224 kZ_90 ?_
        refine z_if_eq C d8_voice_51 (fun c8 => ?_) (fun c8 => ?_)
        · have hf := zit c8 hf
          refine z_iload C d8_voice_63 rfl ?_
          exact z_iret C d8_voice_65 hf
        · have hf := zie c8 hf
          refine z_aload_n C d8_voice_54 rfl ?_
          refine z_bipush C (6 : Int32) d8_voice_55 kB_6 ?_
          obtain ⟨r9, s9, h9, hf⟩ := zbx hf
          refine z_callVi C (as := [zi (6 : Int32)]) d8_voice_57 w_308 yy8_error (c8_error x.2.1 g h9) yc8_error kZ_1 rfl rfl (Nat.le_of_ble_eq_true rfl) ⟨Nat.le_of_ble_eq_true rfl, Nat.le_of_ble_eq_true rfl⟩ ⟨Nat.zero_le _, Nat.zero_le _⟩ ?_
          refine z_goto C d8_voice_60 ?_
          exact z_iret C d8_voice_65 hf
      · have hf := zie c6 hf
        refine z_aload_n C d8_voice_24 rfl ?_
        refine z_iconst C (1 : Int32) d8_voice_25 kI_1 ?_
        obtain ⟨r10, s10, h10, hf⟩ := zbx hf
        refine z_callVi C (as := [zi (1 : Int32)]) d8_voice_26 w_308 yy8_error (c8_error x.2.1 g h10) yc8_error kZ_1 rfl rfl (Nat.le_of_ble_eq_true rfl) ⟨Nat.le_of_ble_eq_true rfl, Nat.le_of_ble_eq_true rfl⟩ ⟨Nat.zero_le _, Nat.zero_le _⟩ ?_
        exact z_iret C d8_voice_29 hf
theorem d9_about_0 : zd b9_about 0 (.aload_n 0) 1 1 := ⟨by decide +kernel, rfl⟩
theorem d9_about_1 : zd b9_about 1 (.getfield 9) 3 4 := ⟨by decide +kernel, rfl⟩
theorem d9_about_4 : zd b9_about 4 (.bipush 46) 2 6 := ⟨by decide +kernel, rfl⟩
theorem d9_about_6 : zd b9_about 6 (.iconst 3) 1 7 := ⟨by decide +kernel, rfl⟩
theorem d9_about_7 : zd b9_about 7 (.iload_n 1) 1 8 := ⟨by decide +kernel, rfl⟩
theorem d9_about_8 : zd b9_about 8 .imul 1 9 := ⟨by decide +kernel, rfl⟩
theorem d9_about_9 : zd b9_about 9 .iadd 1 10 := ⟨by decide +kernel, rfl⟩
theorem d9_about_10 : zd b9_about 10 (.iload_n 2) 1 11 := ⟨by decide +kernel, rfl⟩
theorem d9_about_11 : zd b9_about 11 .iadd 1 12 := ⟨by decide +kernel, rfl⟩
theorem d9_about_12 : zd b9_about 12 .iaload 1 13 := ⟨by decide +kernel, rfl⟩
theorem d9_about_13 : zd b9_about 13 .ireturn 1 14 := ⟨by decide +kernel, rfl⟩
def f9_about (k : Nat) (x1 : Int32) (x2 : Int32) (σ : ZS) : Option (Int32 × ZS) :=
  if zin (((46 : Int32) + ((3 : Int32) * x1)) + x2) 390 then (
  some ((σ 104 (((46 : Int32) + ((3 : Int32) * x1)) + x2).toNatClampNeg), σ)) else none
theorem c9_about (l : Launch) (g : ZG) {k : Nat} {x1 : Int32} {x2 : Int32} {σ : ZS} {r : Int32} {σr : ZS} (hf : f9_about k x1 x2 σ = some (r, σr)) : zT l g y9_about b9_about 3 (some .int) 1 60 [zr 103, zi x1, zi x2] σ (some (zi r)) σr := by
  unfold f9_about at hf
  refine zT_start (own := R9) rfl (by decide +kernel) 0 (L := [some (zr 103), some (zi x1), some (zi x2)]) rfl rfl (fun x hl C => ?_)
  subst hl
  refine z_aload_n C d9_about_0 rfl ?_
  refine z_getR C d9_about_1 fl_817 kZ_103 104 rfl (zn0 kZ_104) ?_
  refine z_bipush C (46 : Int32) d9_about_4 kB_46 ?_
  refine z_iconst C (3 : Int32) d9_about_6 kI_3 ?_
  refine z_iload_n C d9_about_7 rfl ?_
  refine z_imul C d9_about_8 ?_
  refine z_iadd C d9_about_9 ?_
  refine z_iload_n C d9_about_10 rfl ?_
  refine z_iadd C d9_about_11 ?_
  obtain ⟨g1, hf⟩ := zgo hf
  refine z_iald C d9_about_12 kZ_104 kL_104 g1 ((((46 : Int32) + ((3 : Int32) * x1)) + x2).toNatClampNeg) rfl ?_
  exact z_iret C d9_about_13 hf
theorem d9_byteHere_0 : zd b9_byteHere 0 (.aload_n 0) 1 1 := ⟨by decide +kernel, rfl⟩
theorem d9_byteHere_1 : zd b9_byteHere 1 (.getfield 155) 3 4 := ⟨by decide +kernel, rfl⟩
theorem d9_byteHere_4 : zd b9_byteHere 4 (.aload_n 0) 1 5 := ⟨by decide +kernel, rfl⟩
theorem d9_byteHere_5 : zd b9_byteHere 5 (.getfield 9) 3 8 := ⟨by decide +kernel, rfl⟩
theorem d9_byteHere_8 : zd b9_byteHere 8 (.iconst 4) 1 9 := ⟨by decide +kernel, rfl⟩
theorem d9_byteHere_9 : zd b9_byteHere 9 .iaload 1 10 := ⟨by decide +kernel, rfl⟩
theorem d9_byteHere_10 : zdb b9_byteHere 10 (.if_icmp .ge 18) 18 13 28 := ⟨by decide +kernel, rfl, by decide⟩
theorem d9_byteHere_13 : zd b9_byteHere 13 (.aload_n 0) 1 14 := ⟨by decide +kernel, rfl⟩
theorem d9_byteHere_14 : zd b9_byteHere 14 (.getfield 9) 3 17 := ⟨by decide +kernel, rfl⟩
theorem d9_byteHere_17 : zd b9_byteHere 17 (.bipush 64) 2 19 := ⟨by decide +kernel, rfl⟩
theorem d9_byteHere_19 : zd b9_byteHere 19 (.aload_n 0) 1 20 := ⟨by decide +kernel, rfl⟩
theorem d9_byteHere_20 : zd b9_byteHere 20 (.getfield 155) 3 23 := ⟨by decide +kernel, rfl⟩
theorem d9_byteHere_23 : zd b9_byteHere 23 .iadd 1 24 := ⟨by decide +kernel, rfl⟩
theorem d9_byteHere_24 : zd b9_byteHere 24 .iaload 1 25 := ⟨by decide +kernel, rfl⟩
theorem d9_byteHere_25 : zdb b9_byteHere 25 (.goto 4) 4 28 29 := ⟨by decide +kernel, rfl, by decide⟩
theorem d9_byteHere_28 : zd b9_byteHere 28 (.iconst (-1)) 1 29 := ⟨by decide +kernel, rfl⟩
theorem d9_byteHere_29 : zd b9_byteHere 29 .ireturn 1 30 := ⟨by decide +kernel, rfl⟩
def f9_byteHere (k : Nat)  (σ : ZS) : Option (Int32 × ZS) :=
  if (σ 104 4) ≤ (σ 103 19) then (
  some ((-1 : Int32), σ))
  else (
  if zin ((64 : Int32) + (σ 103 19)) 390 then (
  some ((σ 104 ((64 : Int32) + (σ 103 19)).toNatClampNeg), σ)) else none)
theorem c9_byteHere (l : Launch) (g : ZG) {k : Nat}  {σ : ZS} {r : Int32} {σr : ZS} (hf : f9_byteHere k  σ = some (r, σr)) : zT l g y9_byteHere b9_byteHere 1 (some .int) 1 60 [zr 103] σ (some (zi r)) σr := by
  unfold f9_byteHere at hf
  refine zT_start (own := R9) rfl (by decide +kernel) 0 (L := [some (zr 103)]) rfl rfl (fun x hl C => ?_)
  subst hl
  refine z_aload_n C d9_byteHere_0 rfl ?_
  refine z_getI C d9_byteHere_1 fl_836 kZ_103 ?_
  refine z_aload_n C d9_byteHere_4 rfl ?_
  refine z_getR C d9_byteHere_5 fl_817 kZ_103 104 rfl (zn0 kZ_104) ?_
  refine z_iconst C (4 : Int32) d9_byteHere_8 kI_4 ?_
  refine z_iald C d9_byteHere_9 kZ_104 kL_104 ⟨by decide, by decide⟩ (4) kN_4 ?_
  refine z_icmp_ge C d9_byteHere_10 (fun c1 => ?_) (fun c1 => ?_)
  · have hf := zit c1 hf
    refine z_iconst C (-1 : Int32) d9_byteHere_28 kI_m1 ?_
    exact z_iret C d9_byteHere_29 hf
  · have hf := zie c1 hf
    refine z_aload_n C d9_byteHere_13 rfl ?_
    refine z_getR C d9_byteHere_14 fl_817 kZ_103 104 rfl (zn0 kZ_104) ?_
    refine z_bipush C (64 : Int32) d9_byteHere_17 kB_64 ?_
    refine z_aload_n C d9_byteHere_19 rfl ?_
    refine z_getI C d9_byteHere_20 fl_836 kZ_103 ?_
    refine z_iadd C d9_byteHere_23 ?_
    obtain ⟨g2, hf⟩ := zgo hf
    refine z_iald C d9_byteHere_24 kZ_104 kL_104 g2 (((64 : Int32) + (σ 103 19)).toNatClampNeg) rfl ?_
    refine z_goto C d9_byteHere_25 ?_
    exact z_iret C d9_byteHere_29 hf
theorem d9_step_0 : zd b9_step 0 (.aload_n 0) 1 1 := ⟨by decide +kernel, rfl⟩
theorem d9_step_1 : zd b9_step 1 (.getfield 158) 3 4 := ⟨by decide +kernel, rfl⟩
theorem d9_step_4 : zd b9_step 4 (.aload_n 0) 1 5 := ⟨by decide +kernel, rfl⟩
theorem d9_step_5 : zd b9_step 5 (.getfield 37) 3 8 := ⟨by decide +kernel, rfl⟩
theorem d9_step_8 : zd b9_step 8 .arraylength 1 9 := ⟨by decide +kernel, rfl⟩
theorem d9_step_9 : zdb b9_step 9 (.if_icmp .ge 33) 33 12 42 := ⟨by decide +kernel, rfl, by decide⟩
theorem d9_step_12 : zd b9_step 12 (.aload_n 0) 1 13 := ⟨by decide +kernel, rfl⟩
theorem d9_step_13 : zd b9_step 13 (.getfield 37) 3 16 := ⟨by decide +kernel, rfl⟩
theorem d9_step_16 : zd b9_step 16 (.aload_n 0) 1 17 := ⟨by decide +kernel, rfl⟩
theorem d9_step_17 : zd b9_step 17 (.getfield 158) 3 20 := ⟨by decide +kernel, rfl⟩
theorem d9_step_20 : zd b9_step 20 (.iload_n 1) 1 21 := ⟨by decide +kernel, rfl⟩
theorem d9_step_21 : zd b9_step 21 .iastore 1 22 := ⟨by decide +kernel, rfl⟩
theorem d9_step_22 : zd b9_step 22 (.aload_n 0) 1 23 := ⟨by decide +kernel, rfl⟩
theorem d9_step_23 : zd b9_step 23 (.getfield 40) 3 26 := ⟨by decide +kernel, rfl⟩
theorem d9_step_26 : zd b9_step 26 (.aload_n 0) 1 27 := ⟨by decide +kernel, rfl⟩
theorem d9_step_27 : zd b9_step 27 (.getfield 158) 3 30 := ⟨by decide +kernel, rfl⟩
theorem d9_step_30 : zd b9_step 30 (.iload_n 2) 1 31 := ⟨by decide +kernel, rfl⟩
theorem d9_step_31 : zd b9_step 31 .iastore 1 32 := ⟨by decide +kernel, rfl⟩
theorem d9_step_32 : zd b9_step 32 (.aload_n 0) 1 33 := ⟨by decide +kernel, rfl⟩
theorem d9_step_33 : zd b9_step 33 .dup 1 34 := ⟨by decide +kernel, rfl⟩
theorem d9_step_34 : zd b9_step 34 (.getfield 158) 3 37 := ⟨by decide +kernel, rfl⟩
theorem d9_step_37 : zd b9_step 37 (.iconst 1) 1 38 := ⟨by decide +kernel, rfl⟩
theorem d9_step_38 : zd b9_step 38 .iadd 1 39 := ⟨by decide +kernel, rfl⟩
theorem d9_step_39 : zd b9_step 39 (.putfield 158) 3 42 := ⟨by decide +kernel, rfl⟩
theorem d9_step_42 : zd b9_step 42 .return_ 1 43 := ⟨by decide +kernel, rfl⟩
def f9_step (k : Nat) (x1 : Int32) (x2 : Int32) (σ : ZS) : Option (Unit × ZS) :=
  if (60 : Int32) ≤ (σ 103 18) then (
  some ((), σ))
  else (
  if zin (σ 103 18) 60 then (
  zput (zu σ 113 ((σ 103 18).toNatClampNeg) x1) fun s3 =>
  if zin (s3 103 18) 60 then (
  zput (zu s3 114 ((s3 103 18).toNatClampNeg) x2) fun s5 =>
  zput (zu s5 103 18 ((s5 103 18) + (1 : Int32))) fun s6 =>
  some ((), s6)) else none) else none)
theorem c9_step (l : Launch) (g : ZG) {k : Nat} {x1 : Int32} {x2 : Int32} {σ : ZS} {r : Unit} {σr : ZS} (hf : f9_step k x1 x2 σ = some (r, σr)) : zT l g y9_step b9_step 3 none 1 60 [zr 103, zi x1, zi x2] σ none σr := by
  unfold f9_step at hf
  refine zT_start (own := R9) rfl (by decide +kernel) 0 (L := [some (zr 103), some (zi x1), some (zi x2)]) rfl rfl (fun x hl C => ?_)
  subst hl
  refine z_aload_n C d9_step_0 rfl ?_
  refine z_getI C d9_step_1 fl_835 kZ_103 ?_
  refine z_aload_n C d9_step_4 rfl ?_
  refine z_getR C d9_step_5 fl_831 kZ_103 113 rfl (zn0 kZ_113) ?_
  refine z_alen C (60 : Int32) d9_step_8 kZ_113 kL_113 kO_60 ?_
  refine z_icmp_ge C d9_step_9 (fun c1 => ?_) (fun c1 => ?_)
  · have hf := zit c1 hf
    exact z_vret C d9_step_42 hf
  · have hf := zie c1 hf
    refine z_aload_n C d9_step_12 rfl ?_
    refine z_getR C d9_step_13 fl_831 kZ_103 113 rfl (zn0 kZ_113) ?_
    refine z_aload_n C d9_step_16 rfl ?_
    refine z_getI C d9_step_17 fl_835 kZ_103 ?_
    refine z_iload_n C d9_step_20 rfl ?_
    obtain ⟨g2, hf⟩ := zgo hf
    obtain ⟨s3, e3, hf⟩ := zpx hf
    refine z_iast C d9_step_21 kZ_113 kL_113 g2 rfl e3 ?_
    refine z_aload_n C d9_step_22 rfl ?_
    refine z_getR C d9_step_23 fl_832 kZ_103 114 rfl (zn0 kZ_114) ?_
    refine z_aload_n C d9_step_26 rfl ?_
    refine z_getI C d9_step_27 fl_835 kZ_103 ?_
    refine z_iload_n C d9_step_30 rfl ?_
    obtain ⟨g4, hf⟩ := zgo hf
    obtain ⟨s5, e5, hf⟩ := zpx hf
    refine z_iast C d9_step_31 kZ_114 kL_114 g4 rfl e5 ?_
    refine z_aload_n C d9_step_32 rfl ?_
    refine z_dup C d9_step_33 rfl ?_
    refine z_getI C d9_step_34 fl_835 kZ_103 ?_
    refine z_iconst C (1 : Int32) d9_step_37 kI_1 ?_
    refine z_iadd C d9_step_38 ?_
    obtain ⟨s6, e6, hf⟩ := zpx hf
    refine z_putI C d9_step_39 fl_835 ft_9_18 kZ_103 e6 ?_
    exact z_vret C d9_step_42 hf
theorem d9_nameOf_0 : zd b9_nameOf 0 (.iload_n 1) 1 1 := ⟨by decide +kernel, rfl⟩
theorem d9_nameOf_1 : decode b9_nameOf 1 = .ok ((.tableswitch 134 104 116 #[100, 134, 134, 67, 134, 67, 67, 134, 100, 134, 134, 134, 100]), 67) := by decide +kernel
theorem d9_nameOf_68 : zd b9_nameOf 68 (.aload_n 0) 1 69 := ⟨by decide +kernel, rfl⟩
theorem d9_nameOf_69 : zd b9_nameOf 69 (.getfield 161) 3 72 := ⟨by decide +kernel, rfl⟩
theorem d9_nameOf_72 : zdb b9_nameOf 72 (.ifCond .eq 7) 7 75 79 := ⟨by decide +kernel, rfl, by decide⟩
theorem d9_nameOf_75 : zd b9_nameOf 75 (.iconst (-1)) 1 76 := ⟨by decide +kernel, rfl⟩
theorem d9_nameOf_76 : zdb b9_nameOf 76 (.goto 24) 24 79 100 := ⟨by decide +kernel, rfl, by decide⟩
theorem d9_nameOf_79 : zd b9_nameOf 79 (.iload_n 1) 1 80 := ⟨by decide +kernel, rfl⟩
theorem d9_nameOf_80 : zd b9_nameOf 80 (.bipush 110) 2 82 := ⟨by decide +kernel, rfl⟩
theorem d9_nameOf_82 : zdb b9_nameOf 82 (.if_icmp .ne 7) 7 85 89 := ⟨by decide +kernel, rfl, by decide⟩
theorem d9_nameOf_85 : zd b9_nameOf 85 (.iconst 0) 1 86 := ⟨by decide +kernel, rfl⟩
theorem d9_nameOf_86 : zdb b9_nameOf 86 (.goto 14) 14 89 100 := ⟨by decide +kernel, rfl, by decide⟩
theorem d9_nameOf_89 : zd b9_nameOf 89 (.iload_n 1) 1 90 := ⟨by decide +kernel, rfl⟩
theorem d9_nameOf_90 : zd b9_nameOf 90 (.bipush 107) 2 92 := ⟨by decide +kernel, rfl⟩
theorem d9_nameOf_92 : zdb b9_nameOf 92 (.if_icmp .ne 7) 7 95 99 := ⟨by decide +kernel, rfl, by decide⟩
theorem d9_nameOf_95 : zd b9_nameOf 95 (.iconst 1) 1 96 := ⟨by decide +kernel, rfl⟩
theorem d9_nameOf_96 : zdb b9_nameOf 96 (.goto 4) 4 99 100 := ⟨by decide +kernel, rfl, by decide⟩
theorem d9_nameOf_99 : zd b9_nameOf 99 (.iconst 2) 1 100 := ⟨by decide +kernel, rfl⟩
theorem d9_nameOf_100 : zd b9_nameOf 100 .ireturn 1 101 := ⟨by decide +kernel, rfl⟩
theorem d9_nameOf_101 : zd b9_nameOf 101 (.aload_n 0) 1 102 := ⟨by decide +kernel, rfl⟩
theorem d9_nameOf_102 : zd b9_nameOf 102 (.getfield 161) 3 105 := ⟨by decide +kernel, rfl⟩
theorem d9_nameOf_105 : zd b9_nameOf 105 (.iconst 1) 1 106 := ⟨by decide +kernel, rfl⟩
theorem d9_nameOf_106 : zdb b9_nameOf 106 (.if_icmp .eq 7) 7 109 113 := ⟨by decide +kernel, rfl, by decide⟩
theorem d9_nameOf_109 : zd b9_nameOf 109 (.iconst (-1)) 1 110 := ⟨by decide +kernel, rfl⟩
theorem d9_nameOf_110 : zdb b9_nameOf 110 (.goto 24) 24 113 134 := ⟨by decide +kernel, rfl, by decide⟩
theorem d9_nameOf_113 : zd b9_nameOf 113 (.iload_n 1) 1 114 := ⟨by decide +kernel, rfl⟩
theorem d9_nameOf_114 : zd b9_nameOf 114 (.bipush 116) 2 116 := ⟨by decide +kernel, rfl⟩
theorem d9_nameOf_116 : zdb b9_nameOf 116 (.if_icmp .ne 7) 7 119 123 := ⟨by decide +kernel, rfl, by decide⟩
theorem d9_nameOf_119 : zd b9_nameOf 119 (.iconst 0) 1 120 := ⟨by decide +kernel, rfl⟩
theorem d9_nameOf_120 : zdb b9_nameOf 120 (.goto 14) 14 123 134 := ⟨by decide +kernel, rfl, by decide⟩
theorem d9_nameOf_123 : zd b9_nameOf 123 (.iload_n 1) 1 124 := ⟨by decide +kernel, rfl⟩
theorem d9_nameOf_124 : zd b9_nameOf 124 (.bipush 104) 2 126 := ⟨by decide +kernel, rfl⟩
theorem d9_nameOf_126 : zdb b9_nameOf 126 (.if_icmp .ne 7) 7 129 133 := ⟨by decide +kernel, rfl, by decide⟩
theorem d9_nameOf_129 : zd b9_nameOf 129 (.iconst 1) 1 130 := ⟨by decide +kernel, rfl⟩
theorem d9_nameOf_130 : zdb b9_nameOf 130 (.goto 4) 4 133 134 := ⟨by decide +kernel, rfl, by decide⟩
theorem d9_nameOf_133 : zd b9_nameOf 133 (.iconst 2) 1 134 := ⟨by decide +kernel, rfl⟩
theorem d9_nameOf_134 : zd b9_nameOf 134 .ireturn 1 135 := ⟨by decide +kernel, rfl⟩
theorem d9_nameOf_135 : zd b9_nameOf 135 (.iconst (-1)) 1 136 := ⟨by decide +kernel, rfl⟩
theorem d9_nameOf_136 : zd b9_nameOf 136 .ireturn 1 137 := ⟨by decide +kernel, rfl⟩
def f9_nameOf (k : Nat) (x1 : Int32) (σ : ZS) : Option (Int32 × ZS) :=
  if x1 = (104 : Int32) then (
  if (σ 103 22) = (1 : Int32) then (
  if x1 = (116 : Int32) then (
  some ((0 : Int32), σ))
  else (
  if x1 = (104 : Int32) then (
  some ((1 : Int32), σ))
  else (
  some ((2 : Int32), σ))))
  else (
  some ((-1 : Int32), σ)))
  else (
  if x1 = (105 : Int32) then (
  some ((-1 : Int32), σ))
  else (
  if x1 = (106 : Int32) then (
  some ((-1 : Int32), σ))
  else (
  if x1 = (107 : Int32) then (
  if (σ 103 22) = 0 then (
  if x1 = (110 : Int32) then (
  some ((0 : Int32), σ))
  else (
  if x1 = (107 : Int32) then (
  some ((1 : Int32), σ))
  else (
  some ((2 : Int32), σ))))
  else (
  some ((-1 : Int32), σ)))
  else (
  if x1 = (108 : Int32) then (
  some ((-1 : Int32), σ))
  else (
  if x1 = (109 : Int32) then (
  if (σ 103 22) = 0 then (
  if x1 = (110 : Int32) then (
  some ((0 : Int32), σ))
  else (
  if x1 = (107 : Int32) then (
  some ((1 : Int32), σ))
  else (
  some ((2 : Int32), σ))))
  else (
  some ((-1 : Int32), σ)))
  else (
  if x1 = (110 : Int32) then (
  if (σ 103 22) = 0 then (
  if x1 = (110 : Int32) then (
  some ((0 : Int32), σ))
  else (
  if x1 = (107 : Int32) then (
  some ((1 : Int32), σ))
  else (
  some ((2 : Int32), σ))))
  else (
  some ((-1 : Int32), σ)))
  else (
  if x1 = (111 : Int32) then (
  some ((-1 : Int32), σ))
  else (
  if x1 = (112 : Int32) then (
  if (σ 103 22) = (1 : Int32) then (
  if x1 = (116 : Int32) then (
  some ((0 : Int32), σ))
  else (
  if x1 = (104 : Int32) then (
  some ((1 : Int32), σ))
  else (
  some ((2 : Int32), σ))))
  else (
  some ((-1 : Int32), σ)))
  else (
  if x1 = (113 : Int32) then (
  some ((-1 : Int32), σ))
  else (
  if x1 = (114 : Int32) then (
  some ((-1 : Int32), σ))
  else (
  if x1 = (115 : Int32) then (
  some ((-1 : Int32), σ))
  else (
  if x1 = (116 : Int32) then (
  if (σ 103 22) = (1 : Int32) then (
  if x1 = (116 : Int32) then (
  some ((0 : Int32), σ))
  else (
  if x1 = (104 : Int32) then (
  some ((1 : Int32), σ))
  else (
  some ((2 : Int32), σ))))
  else (
  some ((-1 : Int32), σ)))
  else (
  some ((-1 : Int32), σ))))))))))))))
theorem c9_nameOf (l : Launch) (g : ZG) {k : Nat} {x1 : Int32} {σ : ZS} {r : Int32} {σr : ZS} (hf : f9_nameOf k x1 σ = some (r, σr)) : zT l g y9_nameOf b9_nameOf 2 (some .int) 1 60 [zr 103, zi x1] σ (some (zi r)) σr := by
  unfold f9_nameOf at hf
  refine zT_start (own := R9) rfl (by decide +kernel) 0 (L := [some (zr 103), some (zi x1)]) rfl rfl (fun x hl C => ?_)
  subst hl
  refine z_iload_n C d9_nameOf_0 rfl ?_
  refine z_tsw C [((104 : Int32), 101), ((105 : Int32), 135), ((106 : Int32), 135), ((107 : Int32), 68), ((108 : Int32), 135), ((109 : Int32), 68), ((110 : Int32), 68), ((111 : Int32), 135), ((112 : Int32), 101), ((113 : Int32), 135), ((114 : Int32), 135), ((115 : Int32), 135), ((116 : Int32), 101)] (d := 135) d9_nameOf_1 (by decide) (by decide) (by decide +kernel) ?_
  refine z_swc (fun c1 => ?_) (fun c1 => ?_)
  · have hf := zit c1 hf
    refine z_aload_n C d9_nameOf_101 rfl ?_
    refine z_getI C d9_nameOf_102 fl_839 kZ_103 ?_
    refine z_iconst C (1 : Int32) d9_nameOf_105 kI_1 ?_
    refine z_icmp_eq C d9_nameOf_106 (fun c2 => ?_) (fun c2 => ?_)
    · have hf := zit c2 hf
      refine z_iload_n C d9_nameOf_113 rfl ?_
      refine z_bipush C (116 : Int32) d9_nameOf_114 kB_116 ?_
      refine z_icmp_ne C d9_nameOf_116 (fun c3 => ?_) (fun c3 => ?_)
      · have hf := zit c3 hf
        refine z_iconst C (0 : Int32) d9_nameOf_119 kI_0 ?_
        refine z_goto C d9_nameOf_120 ?_
        exact z_iret C d9_nameOf_134 hf
      · have hf := zie c3 hf
        refine z_iload_n C d9_nameOf_123 rfl ?_
        refine z_bipush C (104 : Int32) d9_nameOf_124 kB_104 ?_
        refine z_icmp_ne C d9_nameOf_126 (fun c4 => ?_) (fun c4 => ?_)
        · have hf := zit c4 hf
          refine z_iconst C (1 : Int32) d9_nameOf_129 kI_1 ?_
          refine z_goto C d9_nameOf_130 ?_
          exact z_iret C d9_nameOf_134 hf
        · have hf := zie c4 hf
          refine z_iconst C (2 : Int32) d9_nameOf_133 kI_2 ?_
          exact z_iret C d9_nameOf_134 hf
    · have hf := zie c2 hf
      refine z_iconst C (-1 : Int32) d9_nameOf_109 kI_m1 ?_
      refine z_goto C d9_nameOf_110 ?_
      exact z_iret C d9_nameOf_134 hf
  · have hf := zie c1 hf
    refine z_swc (fun c5 => ?_) (fun c5 => ?_)
    · have hf := zit c5 hf
      refine z_iconst C (-1 : Int32) d9_nameOf_135 kI_m1 ?_
      exact z_iret C d9_nameOf_136 hf
    · have hf := zie c5 hf
      refine z_swc (fun c6 => ?_) (fun c6 => ?_)
      · have hf := zit c6 hf
        refine z_iconst C (-1 : Int32) d9_nameOf_135 kI_m1 ?_
        exact z_iret C d9_nameOf_136 hf
      · have hf := zie c6 hf
        refine z_swc (fun c7 => ?_) (fun c7 => ?_)
        · have hf := zit c7 hf
          refine z_aload_n C d9_nameOf_68 rfl ?_
          refine z_getI C d9_nameOf_69 fl_839 kZ_103 ?_
          refine z_if_eq C d9_nameOf_72 (fun c8 => ?_) (fun c8 => ?_)
          · have hf := zit c8 hf
            refine z_iload_n C d9_nameOf_79 rfl ?_
            refine z_bipush C (110 : Int32) d9_nameOf_80 kB_110 ?_
            refine z_icmp_ne C d9_nameOf_82 (fun c9 => ?_) (fun c9 => ?_)
            · have hf := zit c9 hf
              refine z_iconst C (0 : Int32) d9_nameOf_85 kI_0 ?_
              refine z_goto C d9_nameOf_86 ?_
              exact z_iret C d9_nameOf_100 hf
            · have hf := zie c9 hf
              refine z_iload_n C d9_nameOf_89 rfl ?_
              refine z_bipush C (107 : Int32) d9_nameOf_90 kB_107 ?_
              refine z_icmp_ne C d9_nameOf_92 (fun c10 => ?_) (fun c10 => ?_)
              · have hf := zit c10 hf
                refine z_iconst C (1 : Int32) d9_nameOf_95 kI_1 ?_
                refine z_goto C d9_nameOf_96 ?_
                exact z_iret C d9_nameOf_100 hf
              · have hf := zie c10 hf
                refine z_iconst C (2 : Int32) d9_nameOf_99 kI_2 ?_
                exact z_iret C d9_nameOf_100 hf
          · have hf := zie c8 hf
            refine z_iconst C (-1 : Int32) d9_nameOf_75 kI_m1 ?_
            refine z_goto C d9_nameOf_76 ?_
            exact z_iret C d9_nameOf_100 hf
        · have hf := zie c7 hf
          refine z_swc (fun c11 => ?_) (fun c11 => ?_)
          · have hf := zit c11 hf
            refine z_iconst C (-1 : Int32) d9_nameOf_135 kI_m1 ?_
            exact z_iret C d9_nameOf_136 hf
          · have hf := zie c11 hf
            refine z_swc (fun c12 => ?_) (fun c12 => ?_)
            · have hf := zit c12 hf
              refine z_aload_n C d9_nameOf_68 rfl ?_
              refine z_getI C d9_nameOf_69 fl_839 kZ_103 ?_
              refine z_if_eq C d9_nameOf_72 (fun c13 => ?_) (fun c13 => ?_)
              · have hf := zit c13 hf
                refine z_iload_n C d9_nameOf_79 rfl ?_
                refine z_bipush C (110 : Int32) d9_nameOf_80 kB_110 ?_
                refine z_icmp_ne C d9_nameOf_82 (fun c14 => ?_) (fun c14 => ?_)
                · have hf := zit c14 hf
                  refine z_iconst C (0 : Int32) d9_nameOf_85 kI_0 ?_
                  refine z_goto C d9_nameOf_86 ?_
                  exact z_iret C d9_nameOf_100 hf
                · have hf := zie c14 hf
                  refine z_iload_n C d9_nameOf_89 rfl ?_
                  refine z_bipush C (107 : Int32) d9_nameOf_90 kB_107 ?_
                  refine z_icmp_ne C d9_nameOf_92 (fun c15 => ?_) (fun c15 => ?_)
                  · have hf := zit c15 hf
                    refine z_iconst C (1 : Int32) d9_nameOf_95 kI_1 ?_
                    refine z_goto C d9_nameOf_96 ?_
                    exact z_iret C d9_nameOf_100 hf
                  · have hf := zie c15 hf
                    refine z_iconst C (2 : Int32) d9_nameOf_99 kI_2 ?_
                    exact z_iret C d9_nameOf_100 hf
              · have hf := zie c13 hf
                refine z_iconst C (-1 : Int32) d9_nameOf_75 kI_m1 ?_
                refine z_goto C d9_nameOf_76 ?_
                exact z_iret C d9_nameOf_100 hf
            · have hf := zie c12 hf
              refine z_swc (fun c16 => ?_) (fun c16 => ?_)
              · have hf := zit c16 hf
                refine z_aload_n C d9_nameOf_68 rfl ?_
                refine z_getI C d9_nameOf_69 fl_839 kZ_103 ?_
                refine z_if_eq C d9_nameOf_72 (fun c17 => ?_) (fun c17 => ?_)
                · have hf := zit c17 hf
                  refine z_iload_n C d9_nameOf_79 rfl ?_
                  refine z_bipush C (110 : Int32) d9_nameOf_80 kB_110 ?_
                  refine z_icmp_ne C d9_nameOf_82 (fun c18 => ?_) (fun c18 => ?_)
                  · have hf := zit c18 hf
                    refine z_iconst C (0 : Int32) d9_nameOf_85 kI_0 ?_
                    refine z_goto C d9_nameOf_86 ?_
                    exact z_iret C d9_nameOf_100 hf
                  · have hf := zie c18 hf
                    refine z_iload_n C d9_nameOf_89 rfl ?_
                    refine z_bipush C (107 : Int32) d9_nameOf_90 kB_107 ?_
                    refine z_icmp_ne C d9_nameOf_92 (fun c19 => ?_) (fun c19 => ?_)
                    · have hf := zit c19 hf
                      refine z_iconst C (1 : Int32) d9_nameOf_95 kI_1 ?_
                      refine z_goto C d9_nameOf_96 ?_
                      exact z_iret C d9_nameOf_100 hf
                    · have hf := zie c19 hf
                      refine z_iconst C (2 : Int32) d9_nameOf_99 kI_2 ?_
                      exact z_iret C d9_nameOf_100 hf
                · have hf := zie c17 hf
                  refine z_iconst C (-1 : Int32) d9_nameOf_75 kI_m1 ?_
                  refine z_goto C d9_nameOf_76 ?_
                  exact z_iret C d9_nameOf_100 hf
              · have hf := zie c16 hf
                refine z_swc (fun c20 => ?_) (fun c20 => ?_)
                · have hf := zit c20 hf
                  refine z_iconst C (-1 : Int32) d9_nameOf_135 kI_m1 ?_
                  exact z_iret C d9_nameOf_136 hf
                · have hf := zie c20 hf
                  refine z_swc (fun c21 => ?_) (fun c21 => ?_)
                  · have hf := zit c21 hf
                    refine z_aload_n C d9_nameOf_101 rfl ?_
                    refine z_getI C d9_nameOf_102 fl_839 kZ_103 ?_
                    refine z_iconst C (1 : Int32) d9_nameOf_105 kI_1 ?_
                    refine z_icmp_eq C d9_nameOf_106 (fun c22 => ?_) (fun c22 => ?_)
                    · have hf := zit c22 hf
                      refine z_iload_n C d9_nameOf_113 rfl ?_
                      refine z_bipush C (116 : Int32) d9_nameOf_114 kB_116 ?_
                      refine z_icmp_ne C d9_nameOf_116 (fun c23 => ?_) (fun c23 => ?_)
                      · have hf := zit c23 hf
                        refine z_iconst C (0 : Int32) d9_nameOf_119 kI_0 ?_
                        refine z_goto C d9_nameOf_120 ?_
                        exact z_iret C d9_nameOf_134 hf
                      · have hf := zie c23 hf
                        refine z_iload_n C d9_nameOf_123 rfl ?_
                        refine z_bipush C (104 : Int32) d9_nameOf_124 kB_104 ?_
                        refine z_icmp_ne C d9_nameOf_126 (fun c24 => ?_) (fun c24 => ?_)
                        · have hf := zit c24 hf
                          refine z_iconst C (1 : Int32) d9_nameOf_129 kI_1 ?_
                          refine z_goto C d9_nameOf_130 ?_
                          exact z_iret C d9_nameOf_134 hf
                        · have hf := zie c24 hf
                          refine z_iconst C (2 : Int32) d9_nameOf_133 kI_2 ?_
                          exact z_iret C d9_nameOf_134 hf
                    · have hf := zie c22 hf
                      refine z_iconst C (-1 : Int32) d9_nameOf_109 kI_m1 ?_
                      refine z_goto C d9_nameOf_110 ?_
                      exact z_iret C d9_nameOf_134 hf
                  · have hf := zie c21 hf
                    refine z_swc (fun c25 => ?_) (fun c25 => ?_)
                    · have hf := zit c25 hf
                      refine z_iconst C (-1 : Int32) d9_nameOf_135 kI_m1 ?_
                      exact z_iret C d9_nameOf_136 hf
                    · have hf := zie c25 hf
                      refine z_swc (fun c26 => ?_) (fun c26 => ?_)
                      · have hf := zit c26 hf
                        refine z_iconst C (-1 : Int32) d9_nameOf_135 kI_m1 ?_
                        exact z_iret C d9_nameOf_136 hf
                      · have hf := zie c26 hf
                        refine z_swc (fun c27 => ?_) (fun c27 => ?_)
                        · have hf := zit c27 hf
                          refine z_iconst C (-1 : Int32) d9_nameOf_135 kI_m1 ?_
                          exact z_iret C d9_nameOf_136 hf
                        · have hf := zie c27 hf
                          refine z_swc (fun c28 => ?_) (fun c28 => ?_)
                          · have hf := zit c28 hf
                            refine z_aload_n C d9_nameOf_101 rfl ?_
                            refine z_getI C d9_nameOf_102 fl_839 kZ_103 ?_
                            refine z_iconst C (1 : Int32) d9_nameOf_105 kI_1 ?_
                            refine z_icmp_eq C d9_nameOf_106 (fun c29 => ?_) (fun c29 => ?_)
                            · have hf := zit c29 hf
                              refine z_iload_n C d9_nameOf_113 rfl ?_
                              refine z_bipush C (116 : Int32) d9_nameOf_114 kB_116 ?_
                              refine z_icmp_ne C d9_nameOf_116 (fun c30 => ?_) (fun c30 => ?_)
                              · have hf := zit c30 hf
                                refine z_iconst C (0 : Int32) d9_nameOf_119 kI_0 ?_
                                refine z_goto C d9_nameOf_120 ?_
                                exact z_iret C d9_nameOf_134 hf
                              · have hf := zie c30 hf
                                refine z_iload_n C d9_nameOf_123 rfl ?_
                                refine z_bipush C (104 : Int32) d9_nameOf_124 kB_104 ?_
                                refine z_icmp_ne C d9_nameOf_126 (fun c31 => ?_) (fun c31 => ?_)
                                · have hf := zit c31 hf
                                  refine z_iconst C (1 : Int32) d9_nameOf_129 kI_1 ?_
                                  refine z_goto C d9_nameOf_130 ?_
                                  exact z_iret C d9_nameOf_134 hf
                                · have hf := zie c31 hf
                                  refine z_iconst C (2 : Int32) d9_nameOf_133 kI_2 ?_
                                  exact z_iret C d9_nameOf_134 hf
                            · have hf := zie c29 hf
                              refine z_iconst C (-1 : Int32) d9_nameOf_109 kI_m1 ?_
                              refine z_goto C d9_nameOf_110 ?_
                              exact z_iret C d9_nameOf_134 hf
                          · have hf := zie c28 hf
                            refine z_sw0 ?_
                            refine z_iconst C (-1 : Int32) d9_nameOf_135 kI_m1 ?_
                            exact z_iret C d9_nameOf_136 hf
theorem d9_in_0 : zd b9_in 0 (.iload_n 0) 1 1 := ⟨by decide +kernel, rfl⟩
theorem d9_in_1 : zd b9_in 1 (.iload_n 1) 1 2 := ⟨by decide +kernel, rfl⟩
theorem d9_in_2 : zdb b9_in 2 (.if_icmp .lt 12) 12 5 14 := ⟨by decide +kernel, rfl, by decide⟩
theorem d9_in_5 : zd b9_in 5 (.iload_n 0) 1 6 := ⟨by decide +kernel, rfl⟩
theorem d9_in_6 : zd b9_in 6 (.iload_n 2) 1 7 := ⟨by decide +kernel, rfl⟩
theorem d9_in_7 : zdb b9_in 7 (.if_icmp .gt 7) 7 10 14 := ⟨by decide +kernel, rfl, by decide⟩
theorem d9_in_10 : zd b9_in 10 (.iconst 1) 1 11 := ⟨by decide +kernel, rfl⟩
theorem d9_in_11 : zdb b9_in 11 (.goto 4) 4 14 15 := ⟨by decide +kernel, rfl, by decide⟩
theorem d9_in_14 : zd b9_in 14 (.iconst 0) 1 15 := ⟨by decide +kernel, rfl⟩
theorem d9_in_15 : zd b9_in 15 .ireturn 1 16 := ⟨by decide +kernel, rfl⟩
def f9_in (k : Nat) (x0 : Int32) (x1 : Int32) (x2 : Int32) (σ : ZS) : Option (Int32 × ZS) :=
  if x0 < x1 then (
  some ((0 : Int32), σ))
  else (
  if x2 < x0 then (
  some ((0 : Int32), σ))
  else (
  some ((1 : Int32), σ)))
theorem c9_in (l : Launch) (g : ZG) {k : Nat} {x0 : Int32} {x1 : Int32} {x2 : Int32} {σ : ZS} {r : Int32} {σr : ZS} (hf : f9_in k x0 x1 x2 σ = some (r, σr)) : zT l g y9_in b9_in 3 (some .boolean) 1 60 [zi x0, zi x1, zi x2] σ (some (zi r)) σr := by
  unfold f9_in at hf
  refine zT_start (own := R9) rfl (by decide +kernel) 0 (L := [some (zi x0), some (zi x1), some (zi x2)]) rfl rfl (fun x hl C => ?_)
  subst hl
  refine z_iload_n C d9_in_0 rfl ?_
  refine z_iload_n C d9_in_1 rfl ?_
  refine z_icmp_lt C d9_in_2 (fun c1 => ?_) (fun c1 => ?_)
  · have hf := zit c1 hf
    refine z_iconst C (0 : Int32) d9_in_14 kI_0 ?_
    exact z_zret C d9_in_15 (Or.inl rfl) hf
  · have hf := zie c1 hf
    refine z_iload_n C d9_in_5 rfl ?_
    refine z_iload_n C d9_in_6 rfl ?_
    refine z_icmp_gt C d9_in_7 (fun c2 => ?_) (fun c2 => ?_)
    · have hf := zit c2 hf
      refine z_iconst C (0 : Int32) d9_in_14 kI_0 ?_
      exact z_zret C d9_in_15 (Or.inl rfl) hf
    · have hf := zie c2 hf
      refine z_iconst C (1 : Int32) d9_in_10 kI_1 ?_
      refine z_goto C d9_in_11 ?_
      exact z_zret C d9_in_15 (Or.inr rfl) hf
theorem d9_number_0 : zd b9_number 0 (.iconst 0) 1 1 := ⟨by decide +kernel, rfl⟩
theorem d9_number_1 : zd b9_number 1 (.istore_n 1) 1 2 := ⟨by decide +kernel, rfl⟩
theorem d9_number_2 : zd b9_number 2 (.iconst 0) 1 3 := ⟨by decide +kernel, rfl⟩
theorem d9_number_3 : zd b9_number 3 (.istore_n 2) 1 4 := ⟨by decide +kernel, rfl⟩
theorem d9_number_4 : zd b9_number 4 (.iload_n 2) 1 5 := ⟨by decide +kernel, rfl⟩
theorem d9_number_5 : zd b9_number 5 (.iconst 4) 1 6 := ⟨by decide +kernel, rfl⟩
theorem d9_number_6 : zdb b9_number 6 (.if_icmp .ge 46) 46 9 52 := ⟨by decide +kernel, rfl, by decide⟩
theorem d9_number_9 : zd b9_number 9 (.aload_n 0) 1 10 := ⟨by decide +kernel, rfl⟩
theorem d9_number_10 : zd b9_number 10 (.invokevirtual 164) 3 13 := ⟨by decide +kernel, rfl⟩
theorem d9_number_13 : zd b9_number 13 (.bipush 48) 2 15 := ⟨by decide +kernel, rfl⟩
theorem d9_number_15 : zd b9_number 15 (.bipush 57) 2 17 := ⟨by decide +kernel, rfl⟩
theorem d9_number_17 : zd b9_number 17 (.invokestatic 56) 3 20 := ⟨by decide +kernel, rfl⟩
theorem d9_number_20 : zdb b9_number 20 (.ifCond .eq 32) 32 23 52 := ⟨by decide +kernel, rfl, by decide⟩
theorem d9_number_23 : zd b9_number 23 (.bipush 10) 2 25 := ⟨by decide +kernel, rfl⟩
theorem d9_number_25 : zd b9_number 25 (.iload_n 1) 1 26 := ⟨by decide +kernel, rfl⟩
theorem d9_number_26 : zd b9_number 26 .imul 1 27 := ⟨by decide +kernel, rfl⟩
theorem d9_number_27 : zd b9_number 27 (.aload_n 0) 1 28 := ⟨by decide +kernel, rfl⟩
theorem d9_number_28 : zd b9_number 28 (.invokevirtual 164) 3 31 := ⟨by decide +kernel, rfl⟩
theorem d9_number_31 : zd b9_number 31 .iadd 1 32 := ⟨by decide +kernel, rfl⟩
theorem d9_number_32 : zd b9_number 32 (.bipush 48) 2 34 := ⟨by decide +kernel, rfl⟩
theorem d9_number_34 : zd b9_number 34 .isub 1 35 := ⟨by decide +kernel, rfl⟩
theorem d9_number_35 : zd b9_number 35 (.istore_n 1) 1 36 := ⟨by decide +kernel, rfl⟩
theorem d9_number_36 : zd b9_number 36 (.aload_n 0) 1 37 := ⟨by decide +kernel, rfl⟩
theorem d9_number_37 : zd b9_number 37 .dup 1 38 := ⟨by decide +kernel, rfl⟩
theorem d9_number_38 : zd b9_number 38 (.getfield 155) 3 41 := ⟨by decide +kernel, rfl⟩
theorem d9_number_41 : zd b9_number 41 (.iconst 1) 1 42 := ⟨by decide +kernel, rfl⟩
theorem d9_number_42 : zd b9_number 42 .iadd 1 43 := ⟨by decide +kernel, rfl⟩
theorem d9_number_43 : zd b9_number 43 (.putfield 155) 3 46 := ⟨by decide +kernel, rfl⟩
theorem d9_number_46 : zd b9_number 46 (.iinc 2 1) 3 49 := ⟨by decide +kernel, rfl⟩
theorem d9_number_49 : zdb b9_number 49 (.goto (-45)) (-45) 52 4 := ⟨by decide +kernel, rfl, by decide⟩
theorem d9_number_52 : zd b9_number 52 (.aload_n 0) 1 53 := ⟨by decide +kernel, rfl⟩
theorem d9_number_53 : zd b9_number 53 (.iload_n 2) 1 54 := ⟨by decide +kernel, rfl⟩
theorem d9_number_54 : zdb b9_number 54 (.ifCond .ne 7) 7 57 61 := ⟨by decide +kernel, rfl, by decide⟩
theorem d9_number_57 : zd b9_number 57 (.iconst 1) 1 58 := ⟨by decide +kernel, rfl⟩
theorem d9_number_58 : zdb b9_number 58 (.goto 4) 4 61 62 := ⟨by decide +kernel, rfl, by decide⟩
theorem d9_number_61 : zd b9_number 61 (.iconst 0) 1 62 := ⟨by decide +kernel, rfl⟩
theorem d9_number_62 : zd b9_number 62 (.putfield 168) 3 65 := ⟨by decide +kernel, rfl⟩
theorem d9_number_65 : zd b9_number 65 (.aload_n 0) 1 66 := ⟨by decide +kernel, rfl⟩
theorem d9_number_66 : zd b9_number 66 (.iconst 1) 1 67 := ⟨by decide +kernel, rfl⟩
theorem d9_number_67 : zd b9_number 67 (.iload_n 1) 1 68 := ⟨by decide +kernel, rfl⟩
theorem d9_number_68 : zd b9_number 68 (.invokevirtual 171) 3 71 := ⟨by decide +kernel, rfl⟩
theorem d9_number_71 : zd b9_number 71 .return_ 1 72 := ⟨by decide +kernel, rfl⟩
def b9_number_52 (k : Nat) (x1 : Int32) (x2 : Int32) (σ : ZS) : Option (Unit × ZS) :=
  if x2 = 0 then (
  zput (zu σ 103 21 (1 : Int32)) fun s2 =>
  zbd (f9_step k (1 : Int32) x1 s2) fun _ s3 =>
  some ((), s3))
  else (
  zput (zu σ 103 21 (0 : Int32)) fun s4 =>
  zbd (f9_step k (1 : Int32) x1 s4) fun _ s5 =>
  some ((), s5))
theorem j9_number_52 {x : ZX} {g : ZG} (C : zC x g b9_number R9 none 3 2 82) {k : Nat} {r : Unit} {σr : ZS}  {x1 : Int32} {x2 : Int32} {σ : ZS} (hf : b9_number_52 k  x1 x2 σ = some (r, σr)) : zw x g 3 0 0 (zMQ x g none σr) σ 52 [some (zr 103), some (zi x1), some (zi x2)] [] := by
  unfold b9_number_52 at hf
  refine z_aload_n C d9_number_52 rfl ?_
  refine z_iload_n C d9_number_53 rfl ?_
  refine z_if_ne C d9_number_54 (fun c1 => ?_) (fun c1 => ?_)
  · have hf := zit c1 hf
    refine z_iconst C (1 : Int32) d9_number_57 kI_1 ?_
    refine z_goto C d9_number_58 ?_
    obtain ⟨s2, e2, hf⟩ := zpx hf
    refine z_putZ C d9_number_62 fl_838 ft_9_21 kZ_103 (Or.inr rfl) e2 ?_
    refine z_aload_n C d9_number_65 rfl ?_
    refine z_iconst C (1 : Int32) d9_number_66 kI_1 ?_
    refine z_iload_n C d9_number_67 rfl ?_
    obtain ⟨r3, s3, h3, hf⟩ := zbx hf
    refine z_callVv C (as := [zi (1 : Int32), zi x1]) d9_number_68 w_1085 yy9_step (c9_step x.2.1 g h3) yc9_step kZ_103 rfl rfl (Nat.le_of_ble_eq_true rfl) ⟨Nat.le_of_ble_eq_true rfl, Nat.le_of_ble_eq_true rfl⟩ ⟨Nat.zero_le _, Nat.zero_le _⟩ ?_
    exact z_vret C d9_number_71 hf
  · have hf := zie c1 hf
    refine z_iconst C (0 : Int32) d9_number_61 kI_0 ?_
    obtain ⟨s4, e4, hf⟩ := zpx hf
    refine z_putZ C d9_number_62 fl_838 ft_9_21 kZ_103 (Or.inl rfl) e4 ?_
    refine z_aload_n C d9_number_65 rfl ?_
    refine z_iconst C (1 : Int32) d9_number_66 kI_1 ?_
    refine z_iload_n C d9_number_67 rfl ?_
    obtain ⟨r5, s5, h5, hf⟩ := zbx hf
    refine z_callVv C (as := [zi (1 : Int32), zi x1]) d9_number_68 w_1085 yy9_step (c9_step x.2.1 g h5) yc9_step kZ_103 rfl rfl (Nat.le_of_ble_eq_true rfl) ⟨Nat.le_of_ble_eq_true rfl, Nat.le_of_ble_eq_true rfl⟩ ⟨Nat.zero_le _, Nat.zero_le _⟩ ?_
    exact z_vret C d9_number_71 hf
def b9_number_4 (k : Nat) (q4 : Int32 → Int32 → ZS → Option (Unit × ZS)) (x1 : Int32) (x2 : Int32) (σ : ZS) : Option (Unit × ZS) :=
  if (4 : Int32) ≤ x2 then (
  b9_number_52 k  x1 x2 σ)
  else (
  zbd (f9_byteHere k σ) fun r2 s2 =>
  zbd (f9_in k r2 (48 : Int32) (57 : Int32) s2) fun r3 s3 =>
  if r3 = 0 then (
  b9_number_52 k  x1 x2 s3)
  else (
  zbd (f9_byteHere k s3) fun r5 s5 =>
  zput (zu s5 103 19 ((s5 103 19) + (1 : Int32))) fun s6 =>
  q4 ((((10 : Int32) * x1) + r5) - (48 : Int32)) (x2 + (1 : Int32)) s6))
def f9_number_4 (k : Nat) : Nat → Int32 → Int32 → ZS → Option (Unit × ZS)
  | 0 => fun _ _ _ => none
  | n + 1 => b9_number_4 k  (f9_number_4 k  n)
theorem j9_number_4 {x : ZX} {g : ZG} (C : zC x g b9_number R9 none 3 2 82) {k : Nat} {r : Unit} {σr : ZS}  {q4 : Int32 → Int32 → ZS → Option (Unit × ZS)} (hq4 : (∀ (x1 : Int32) (x2 : Int32) (σ : ZS), q4 x1 x2 σ = some (r, σr) → zw x g 3 0 0 (zMQ x g none σr) σ 4 [some (zr 103), some (zi x1), some (zi x2)] [])) {x1 : Int32} {x2 : Int32} {σ : ZS} (hf : b9_number_4 k q4 x1 x2 σ = some (r, σr)) : zw x g 3 0 0 (zMQ x g none σr) σ 4 [some (zr 103), some (zi x1), some (zi x2)] [] := by
  unfold b9_number_4 at hf
  refine z_iload_n C d9_number_4 rfl ?_
  refine z_iconst C (4 : Int32) d9_number_5 kI_4 ?_
  refine z_icmp_ge C d9_number_6 (fun c1 => ?_) (fun c1 => ?_)
  · have hf := zit c1 hf
    exact j9_number_52 C  hf
  · have hf := zie c1 hf
    refine z_aload_n C d9_number_9 rfl ?_
    obtain ⟨r2, s2, h2, hf⟩ := zbx hf
    refine z_callVi C (as := []) d9_number_10 w_1077 yy9_byteHere (c9_byteHere x.2.1 g h2) yc9_byteHere kZ_103 rfl rfl (Nat.le_of_ble_eq_true rfl) ⟨Nat.le_of_ble_eq_true rfl, Nat.le_of_ble_eq_true rfl⟩ ⟨Nat.zero_le _, Nat.zero_le _⟩ ?_
    refine z_bipush C (48 : Int32) d9_number_13 kB_48 ?_
    refine z_bipush C (57 : Int32) d9_number_15 kB_57 ?_
    obtain ⟨r3, s3, h3, hf⟩ := zbx hf
    refine z_callSi C (as := [zi r2, zi (48 : Int32), zi (57 : Int32)]) d9_number_17 w_906 yy9_in (c9_in x.2.1 g h3) rfl rfl (Nat.le_of_ble_eq_true rfl) ⟨Nat.le_of_ble_eq_true rfl, Nat.le_of_ble_eq_true rfl⟩ ⟨Nat.zero_le _, Nat.zero_le _⟩ ?_
    refine z_if_eq C d9_number_20 (fun c4 => ?_) (fun c4 => ?_)
    · have hf := zit c4 hf
      exact j9_number_52 C  hf
    · have hf := zie c4 hf
      refine z_bipush C (10 : Int32) d9_number_23 kB_10 ?_
      refine z_iload_n C d9_number_25 rfl ?_
      refine z_imul C d9_number_26 ?_
      refine z_aload_n C d9_number_27 rfl ?_
      obtain ⟨r5, s5, h5, hf⟩ := zbx hf
      refine z_callVi C (as := []) d9_number_28 w_1077 yy9_byteHere (c9_byteHere x.2.1 g h5) yc9_byteHere kZ_103 rfl rfl (Nat.le_of_ble_eq_true rfl) ⟨Nat.le_of_ble_eq_true rfl, Nat.le_of_ble_eq_true rfl⟩ ⟨Nat.zero_le _, Nat.zero_le _⟩ ?_
      refine z_iadd C d9_number_31 ?_
      refine z_bipush C (48 : Int32) d9_number_32 kB_48 ?_
      refine z_isub C d9_number_34 ?_
      refine z_istore_n C d9_number_35 (Nat.le_of_ble_eq_true rfl) rfl (L' := [some (zr 103), some (zi ((((10 : Int32) * x1) + r5) - (48 : Int32))), some (zi x2)]) rfl ?_
      refine z_aload_n C d9_number_36 rfl ?_
      refine z_dup C d9_number_37 rfl ?_
      refine z_getI C d9_number_38 fl_836 kZ_103 ?_
      refine z_iconst C (1 : Int32) d9_number_41 kI_1 ?_
      refine z_iadd C d9_number_42 ?_
      obtain ⟨s6, e6, hf⟩ := zpx hf
      refine z_putI C d9_number_43 fl_836 ft_9_19 kZ_103 e6 ?_
      refine z_iinc C d9_number_46 rfl kI_1 (Nat.le_of_ble_eq_true rfl) rfl (L' := [some (zr 103), some (zi ((((10 : Int32) * x1) + r5) - (48 : Int32))), some (zi (x2 + (1 : Int32)))]) rfl ?_
      refine z_goto C d9_number_49 ?_
      exact hq4 _ _ _ hf
theorem j9_number_4l {x : ZX} {g : ZG} (C : zC x g b9_number R9 none 3 2 82) {k : Nat} {r : Unit} {σr : ZS}  : ∀ (n : Nat) (x1 : Int32) (x2 : Int32) (σ : ZS), f9_number_4 k  n x1 x2 σ = some (r, σr) → zw x g 3 0 0 (zMQ x g none σr) σ 4 [some (zr 103), some (zi x1), some (zi x2)] [] := by
  intro n
  induction n with
  | zero => intro x1 x2 σ hf; exact absurd (show none = some (r, σr) from hf) (fun z => by cases z)
  | succ n ih => intro x1 x2 σ hf; exact j9_number_4 C  ih (show b9_number_4 k  (f9_number_4 k  n) x1 x2 σ = some (r, σr) from hf)
def f9_number (k : Nat)  (σ : ZS) : Option (Unit × ZS) :=
  f9_number_4 k  k (0 : Int32) (0 : Int32) σ
theorem c9_number (l : Launch) (g : ZG) {k : Nat}  {σ : ZS} {r : Unit} {σr : ZS} (hf : f9_number k  σ = some (r, σr)) : zT l g y9_number b9_number 3 none 2 82 [zr 103] σ none σr := by
  unfold f9_number at hf
  refine zT_start (own := R9) rfl (by decide +kernel) 2 (L := [some (zr 103), none, none]) rfl rfl (fun x hl C => ?_)
  subst hl
  refine z_iconst C (0 : Int32) d9_number_0 kI_0 ?_
  refine z_istore_n C d9_number_1 (Nat.le_of_ble_eq_true rfl) rfl (L' := [some (zr 103), some (zi (0 : Int32)), none]) rfl ?_
  refine z_iconst C (0 : Int32) d9_number_2 kI_0 ?_
  refine z_istore_n C d9_number_3 (Nat.le_of_ble_eq_true rfl) rfl (L' := [some (zr 103), some (zi (0 : Int32)), some (zi (0 : Int32))]) rfl ?_
  exact j9_number_4l C  _ _ _ _ hf
