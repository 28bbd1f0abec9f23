/-! methods, printed by wip/whole/gen: GlassTaxModel.opens, GlassTaxModel.one, GlassTaxModel.times, GlassTaxModel.sum, GlassTaxModel.compares, GlassTaxModel.all, GlassTaxModel.any, GlassTaxModel.around, GlassTaxModel.error, GlassTaxModel.isGlass, GlassTaxModel.of, GlassTaxModel.as, GlassTaxModel.isCell, GlassTaxModel.isFour, GlassTaxModel.glassAt, GlassTaxModel.held, GlassTaxModel.twoOf, GlassTaxModel.works -/
theorem d9_opens_0 : zd b9_opens 0 (.aload_n 0) 1 1 := ⟨by decide +kernel, rfl⟩
theorem d9_opens_1 : zd b9_opens 1 (.getfield 174) 3 4 := ⟨by decide +kernel, rfl⟩
theorem d9_opens_4 : zd b9_opens 4 (.iconst 5) 1 5 := ⟨by decide +kernel, rfl⟩
theorem d9_opens_5 : zdb b9_opens 5 (.if_icmp .ne 9) 9 8 14 := ⟨by decide +kernel, rfl, by decide⟩
theorem d9_opens_8 : zd b9_opens 8 (.aload_n 0) 1 9 := ⟨by decide +kernel, rfl⟩
theorem d9_opens_9 : zd b9_opens 9 (.iconst 1) 1 10 := ⟨by decide +kernel, rfl⟩
theorem d9_opens_10 : zd b9_opens 10 (.putfield 168) 3 13 := ⟨by decide +kernel, rfl⟩
theorem d9_opens_13 : zd b9_opens 13 .return_ 1 14 := ⟨by decide +kernel, rfl⟩
theorem d9_opens_14 : zd b9_opens 14 (.aload_n 0) 1 15 := ⟨by decide +kernel, rfl⟩
theorem d9_opens_15 : zd b9_opens 15 .dup 1 16 := ⟨by decide +kernel, rfl⟩
theorem d9_opens_16 : zd b9_opens 16 (.getfield 174) 3 19 := ⟨by decide +kernel, rfl⟩
theorem d9_opens_19 : zd b9_opens 19 (.iconst 1) 1 20 := ⟨by decide +kernel, rfl⟩
theorem d9_opens_20 : zd b9_opens 20 .iadd 1 21 := ⟨by decide +kernel, rfl⟩
theorem d9_opens_21 : zd b9_opens 21 (.putfield 174) 3 24 := ⟨by decide +kernel, rfl⟩
theorem d9_opens_24 : zd b9_opens 24 (.aload_n 0) 1 25 := ⟨by decide +kernel, rfl⟩
theorem d9_opens_25 : zd b9_opens 25 .dup 1 26 := ⟨by decide +kernel, rfl⟩
theorem d9_opens_26 : zd b9_opens 26 (.getfield 155) 3 29 := ⟨by decide +kernel, rfl⟩
theorem d9_opens_29 : zd b9_opens 29 (.iconst 1) 1 30 := ⟨by decide +kernel, rfl⟩
theorem d9_opens_30 : zd b9_opens 30 .iadd 1 31 := ⟨by decide +kernel, rfl⟩
theorem d9_opens_31 : zd b9_opens 31 (.putfield 155) 3 34 := ⟨by decide +kernel, rfl⟩
theorem d9_opens_34 : zd b9_opens 34 (.iload_n 1) 1 35 := ⟨by decide +kernel, rfl⟩
theorem d9_opens_35 : zd b9_opens 35 (.bipush 33) 2 37 := ⟨by decide +kernel, rfl⟩
theorem d9_opens_37 : zdb b9_opens 37 (.if_icmp .ne 16) 16 40 53 := ⟨by decide +kernel, rfl, by decide⟩
theorem d9_opens_40 : zd b9_opens 40 (.aload_n 0) 1 41 := ⟨by decide +kernel, rfl⟩
theorem d9_opens_41 : zd b9_opens 41 (.invokevirtual 177) 3 44 := ⟨by decide +kernel, rfl⟩
theorem d9_opens_44 : zd b9_opens 44 (.aload_n 0) 1 45 := ⟨by decide +kernel, rfl⟩
theorem d9_opens_45 : zd b9_opens 45 (.iconst 3) 1 46 := ⟨by decide +kernel, rfl⟩
theorem d9_opens_46 : zd b9_opens 46 (.iconst 0) 1 47 := ⟨by decide +kernel, rfl⟩
theorem d9_opens_47 : zd b9_opens 47 (.invokevirtual 171) 3 50 := ⟨by decide +kernel, rfl⟩
theorem d9_opens_50 : zdb b9_opens 50 (.goto 53) 53 53 103 := ⟨by decide +kernel, rfl, by decide⟩
theorem d9_opens_53 : zd b9_opens 53 (.aload_n 0) 1 54 := ⟨by decide +kernel, rfl⟩
theorem d9_opens_54 : zd b9_opens 54 (.invokevirtual 180) 3 57 := ⟨by decide +kernel, rfl⟩
theorem d9_opens_57 : zd b9_opens 57 (.aload_n 0) 1 58 := ⟨by decide +kernel, rfl⟩
theorem d9_opens_58 : zd b9_opens 58 (.aload_n 0) 1 59 := ⟨by decide +kernel, rfl⟩
theorem d9_opens_59 : zd b9_opens 59 (.getfield 168) 3 62 := ⟨by decide +kernel, rfl⟩
theorem d9_opens_62 : zdb b9_opens 62 (.ifCond .ne 12) 12 65 74 := ⟨by decide +kernel, rfl, by decide⟩
theorem d9_opens_65 : zd b9_opens 65 (.aload_n 0) 1 66 := ⟨by decide +kernel, rfl⟩
theorem d9_opens_66 : zd b9_opens 66 (.invokevirtual 164) 3 69 := ⟨by decide +kernel, rfl⟩
theorem d9_opens_69 : zd b9_opens 69 (.bipush 41) 2 71 := ⟨by decide +kernel, rfl⟩
theorem d9_opens_71 : zdb b9_opens 71 (.if_icmp .eq 7) 7 74 78 := ⟨by decide +kernel, rfl, by decide⟩
theorem d9_opens_74 : zd b9_opens 74 (.iconst 1) 1 75 := ⟨by decide +kernel, rfl⟩
theorem d9_opens_75 : zdb b9_opens 75 (.goto 4) 4 78 79 := ⟨by decide +kernel, rfl, by decide⟩
theorem d9_opens_78 : zd b9_opens 78 (.iconst 0) 1 79 := ⟨by decide +kernel, rfl⟩
theorem d9_opens_79 : zd b9_opens 79 (.putfield 168) 3 82 := ⟨by decide +kernel, rfl⟩
theorem d9_opens_82 : zd b9_opens 82 (.aload_n 0) 1 83 := ⟨by decide +kernel, rfl⟩
theorem d9_opens_83 : zd b9_opens 83 .dup 1 84 := ⟨by decide +kernel, rfl⟩
theorem d9_opens_84 : zd b9_opens 84 (.getfield 155) 3 87 := ⟨by decide +kernel, rfl⟩
theorem d9_opens_87 : zd b9_opens 87 (.aload_n 0) 1 88 := ⟨by decide +kernel, rfl⟩
theorem d9_opens_88 : zd b9_opens 88 (.getfield 168) 3 91 := ⟨by decide +kernel, rfl⟩
theorem d9_opens_91 : zdb b9_opens 91 (.ifCond .eq 7) 7 94 98 := ⟨by decide +kernel, rfl, by decide⟩
theorem d9_opens_94 : zd b9_opens 94 (.iconst 0) 1 95 := ⟨by decide +kernel, rfl⟩
theorem d9_opens_95 : zdb b9_opens 95 (.goto 4) 4 98 99 := ⟨by decide +kernel, rfl, by decide⟩
theorem d9_opens_98 : zd b9_opens 98 (.iconst 1) 1 99 := ⟨by decide +kernel, rfl⟩
theorem d9_opens_99 : zd b9_opens 99 .iadd 1 100 := ⟨by decide +kernel, rfl⟩
theorem d9_opens_100 : zd b9_opens 100 (.putfield 155) 3 103 := ⟨by decide +kernel, rfl⟩
theorem d9_opens_103 : zd b9_opens 103 (.aload_n 0) 1 104 := ⟨by decide +kernel, rfl⟩
theorem d9_opens_104 : zd b9_opens 104 .dup 1 105 := ⟨by decide +kernel, rfl⟩
theorem d9_opens_105 : zd b9_opens 105 (.getfield 174) 3 108 := ⟨by decide +kernel, rfl⟩
theorem d9_opens_108 : zd b9_opens 108 (.iconst 1) 1 109 := ⟨by decide +kernel, rfl⟩
theorem d9_opens_109 : zd b9_opens 109 .isub 1 110 := ⟨by decide +kernel, rfl⟩
theorem d9_opens_110 : zd b9_opens 110 (.putfield 174) 3 113 := ⟨by decide +kernel, rfl⟩
theorem d9_opens_113 : zd b9_opens 113 .return_ 1 114 := ⟨by decide +kernel, rfl⟩
theorem d9_one_0 : zd b9_one 0 (.aload_n 0) 1 1 := ⟨by decide +kernel, rfl⟩
theorem d9_one_1 : zd b9_one 1 (.invokevirtual 164) 3 4 := ⟨by decide +kernel, rfl⟩
theorem d9_one_4 : zd b9_one 4 (.istore_n 1) 1 5 := ⟨by decide +kernel, rfl⟩
theorem d9_one_5 : zd b9_one 5 (.aload_n 0) 1 6 := ⟨by decide +kernel, rfl⟩
theorem d9_one_6 : zd b9_one 6 (.iload_n 1) 1 7 := ⟨by decide +kernel, rfl⟩
theorem d9_one_7 : zd b9_one 7 (.invokevirtual 183) 3 10 := ⟨by decide +kernel, rfl⟩
theorem d9_one_10 : zd b9_one 10 (.istore_n 2) 1 11 := ⟨by decide +kernel, rfl⟩
theorem d9_one_11 : zd b9_one 11 (.iload_n 2) 1 12 := ⟨by decide +kernel, rfl⟩
theorem d9_one_12 : zdb b9_one 12 (.ifCond .lt 22) 22 15 34 := ⟨by decide +kernel, rfl, by decide⟩
theorem d9_one_15 : zd b9_one 15 (.aload_n 0) 1 16 := ⟨by decide +kernel, rfl⟩
theorem d9_one_16 : zd b9_one 16 .dup 1 17 := ⟨by decide +kernel, rfl⟩
theorem d9_one_17 : zd b9_one 17 (.getfield 155) 3 20 := ⟨by decide +kernel, rfl⟩
theorem d9_one_20 : zd b9_one 20 (.iconst 1) 1 21 := ⟨by decide +kernel, rfl⟩
theorem d9_one_21 : zd b9_one 21 .iadd 1 22 := ⟨by decide +kernel, rfl⟩
theorem d9_one_22 : zd b9_one 22 (.putfield 155) 3 25 := ⟨by decide +kernel, rfl⟩
theorem d9_one_25 : zd b9_one 25 (.aload_n 0) 1 26 := ⟨by decide +kernel, rfl⟩
theorem d9_one_26 : zd b9_one 26 (.iconst 2) 1 27 := ⟨by decide +kernel, rfl⟩
theorem d9_one_27 : zd b9_one 27 (.iload_n 2) 1 28 := ⟨by decide +kernel, rfl⟩
theorem d9_one_28 : zd b9_one 28 (.invokevirtual 171) 3 31 := ⟨by decide +kernel, rfl⟩
theorem d9_one_31 : zdb b9_one 31 (.goto 27) 27 34 58 := ⟨by decide +kernel, rfl, by decide⟩
theorem d9_one_34 : zd b9_one 34 (.iload_n 1) 1 35 := ⟨by decide +kernel, rfl⟩
theorem d9_one_35 : zd b9_one 35 (.bipush 33) 2 37 := ⟨by decide +kernel, rfl⟩
theorem d9_one_37 : zdb b9_one 37 (.if_icmp .eq 9) 9 40 46 := ⟨by decide +kernel, rfl, by decide⟩
theorem d9_one_40 : zd b9_one 40 (.iload_n 1) 1 41 := ⟨by decide +kernel, rfl⟩
theorem d9_one_41 : zd b9_one 41 (.bipush 40) 2 43 := ⟨by decide +kernel, rfl⟩
theorem d9_one_43 : zdb b9_one 43 (.if_icmp .ne 11) 11 46 54 := ⟨by decide +kernel, rfl, by decide⟩
theorem d9_one_46 : zd b9_one 46 (.aload_n 0) 1 47 := ⟨by decide +kernel, rfl⟩
theorem d9_one_47 : zd b9_one 47 (.iload_n 1) 1 48 := ⟨by decide +kernel, rfl⟩
theorem d9_one_48 : zd b9_one 48 (.invokevirtual 186) 3 51 := ⟨by decide +kernel, rfl⟩
theorem d9_one_51 : zdb b9_one 51 (.goto 7) 7 54 58 := ⟨by decide +kernel, rfl, by decide⟩
theorem d9_one_54 : zd b9_one 54 (.aload_n 0) 1 55 := ⟨by decide +kernel, rfl⟩
theorem d9_one_55 : zd b9_one 55 (.invokevirtual 189) 3 58 := ⟨by decide +kernel, rfl⟩
theorem d9_one_58 : zd b9_one 58 .return_ 1 59 := ⟨by decide +kernel, rfl⟩
theorem d9_times_0 : zd b9_times 0 (.aload_n 0) 1 1 := ⟨by decide +kernel, rfl⟩
theorem d9_times_1 : zd b9_times 1 (.invokevirtual 177) 3 4 := ⟨by decide +kernel, rfl⟩
theorem d9_times_4 : zd b9_times 4 (.aload_n 0) 1 5 := ⟨by decide +kernel, rfl⟩
theorem d9_times_5 : zd b9_times 5 (.getfield 168) 3 8 := ⟨by decide +kernel, rfl⟩
theorem d9_times_8 : zdb b9_times 8 (.ifCond .ne 58) 58 11 66 := ⟨by decide +kernel, rfl, by decide⟩
theorem d9_times_11 : zd b9_times 11 (.aload_n 0) 1 12 := ⟨by decide +kernel, rfl⟩
theorem d9_times_12 : zd b9_times 12 (.invokevirtual 164) 3 15 := ⟨by decide +kernel, rfl⟩
theorem d9_times_15 : zd b9_times 15 (.bipush 42) 2 17 := ⟨by decide +kernel, rfl⟩
theorem d9_times_17 : zdb b9_times 17 (.if_icmp .eq 21) 21 20 38 := ⟨by decide +kernel, rfl, by decide⟩
theorem d9_times_20 : zd b9_times 20 (.aload_n 0) 1 21 := ⟨by decide +kernel, rfl⟩
theorem d9_times_21 : zd b9_times 21 (.invokevirtual 164) 3 24 := ⟨by decide +kernel, rfl⟩
theorem d9_times_24 : zd b9_times 24 (.bipush 47) 2 26 := ⟨by decide +kernel, rfl⟩
theorem d9_times_26 : zdb b9_times 26 (.if_icmp .eq 12) 12 29 38 := ⟨by decide +kernel, rfl, by decide⟩
theorem d9_times_29 : zd b9_times 29 (.aload_n 0) 1 30 := ⟨by decide +kernel, rfl⟩
theorem d9_times_30 : zd b9_times 30 (.invokevirtual 164) 3 33 := ⟨by decide +kernel, rfl⟩
theorem d9_times_33 : zd b9_times 33 (.bipush 37) 2 35 := ⟨by decide +kernel, rfl⟩
theorem d9_times_35 : zdb b9_times 35 (.if_icmp .ne 31) 31 38 66 := ⟨by decide +kernel, rfl, by decide⟩
theorem d9_times_38 : zd b9_times 38 (.aload_n 0) 1 39 := ⟨by decide +kernel, rfl⟩
theorem d9_times_39 : zd b9_times 39 (.invokevirtual 164) 3 42 := ⟨by decide +kernel, rfl⟩
theorem d9_times_42 : zd b9_times 42 (.istore_n 1) 1 43 := ⟨by decide +kernel, rfl⟩
theorem d9_times_43 : zd b9_times 43 (.aload_n 0) 1 44 := ⟨by decide +kernel, rfl⟩
theorem d9_times_44 : zd b9_times 44 .dup 1 45 := ⟨by decide +kernel, rfl⟩
theorem d9_times_45 : zd b9_times 45 (.getfield 155) 3 48 := ⟨by decide +kernel, rfl⟩
theorem d9_times_48 : zd b9_times 48 (.iconst 1) 1 49 := ⟨by decide +kernel, rfl⟩
theorem d9_times_49 : zd b9_times 49 .iadd 1 50 := ⟨by decide +kernel, rfl⟩
theorem d9_times_50 : zd b9_times 50 (.putfield 155) 3 53 := ⟨by decide +kernel, rfl⟩
theorem d9_times_53 : zd b9_times 53 (.aload_n 0) 1 54 := ⟨by decide +kernel, rfl⟩
theorem d9_times_54 : zd b9_times 54 (.invokevirtual 177) 3 57 := ⟨by decide +kernel, rfl⟩
theorem d9_times_57 : zd b9_times 57 (.aload_n 0) 1 58 := ⟨by decide +kernel, rfl⟩
theorem d9_times_58 : zd b9_times 58 (.iload_n 1) 1 59 := ⟨by decide +kernel, rfl⟩
theorem d9_times_59 : zd b9_times 59 (.iconst 0) 1 60 := ⟨by decide +kernel, rfl⟩
theorem d9_times_60 : zd b9_times 60 (.invokevirtual 171) 3 63 := ⟨by decide +kernel, rfl⟩
theorem d9_times_63 : zdb b9_times 63 (.goto (-59)) (-59) 66 4 := ⟨by decide +kernel, rfl, by decide⟩
theorem d9_times_66 : zd b9_times 66 .return_ 1 67 := ⟨by decide +kernel, rfl⟩
theorem d9_sum_0 : zd b9_sum 0 (.aload_n 0) 1 1 := ⟨by decide +kernel, rfl⟩
theorem d9_sum_1 : zd b9_sum 1 (.invokevirtual 192) 3 4 := ⟨by decide +kernel, rfl⟩
theorem d9_sum_4 : zd b9_sum 4 (.aload_n 0) 1 5 := ⟨by decide +kernel, rfl⟩
theorem d9_sum_5 : zd b9_sum 5 (.getfield 168) 3 8 := ⟨by decide +kernel, rfl⟩
theorem d9_sum_8 : zdb b9_sum 8 (.ifCond .ne 49) 49 11 57 := ⟨by decide +kernel, rfl, by decide⟩
theorem d9_sum_11 : zd b9_sum 11 (.aload_n 0) 1 12 := ⟨by decide +kernel, rfl⟩
theorem d9_sum_12 : zd b9_sum 12 (.invokevirtual 164) 3 15 := ⟨by decide +kernel, rfl⟩
theorem d9_sum_15 : zd b9_sum 15 (.bipush 43) 2 17 := ⟨by decide +kernel, rfl⟩
theorem d9_sum_17 : zdb b9_sum 17 (.if_icmp .eq 12) 12 20 29 := ⟨by decide +kernel, rfl, by decide⟩
theorem d9_sum_20 : zd b9_sum 20 (.aload_n 0) 1 21 := ⟨by decide +kernel, rfl⟩
theorem d9_sum_21 : zd b9_sum 21 (.invokevirtual 164) 3 24 := ⟨by decide +kernel, rfl⟩
theorem d9_sum_24 : zd b9_sum 24 (.bipush 45) 2 26 := ⟨by decide +kernel, rfl⟩
theorem d9_sum_26 : zdb b9_sum 26 (.if_icmp .ne 31) 31 29 57 := ⟨by decide +kernel, rfl, by decide⟩
theorem d9_sum_29 : zd b9_sum 29 (.aload_n 0) 1 30 := ⟨by decide +kernel, rfl⟩
theorem d9_sum_30 : zd b9_sum 30 (.invokevirtual 164) 3 33 := ⟨by decide +kernel, rfl⟩
theorem d9_sum_33 : zd b9_sum 33 (.istore_n 1) 1 34 := ⟨by decide +kernel, rfl⟩
theorem d9_sum_34 : zd b9_sum 34 (.aload_n 0) 1 35 := ⟨by decide +kernel, rfl⟩
theorem d9_sum_35 : zd b9_sum 35 .dup 1 36 := ⟨by decide +kernel, rfl⟩
theorem d9_sum_36 : zd b9_sum 36 (.getfield 155) 3 39 := ⟨by decide +kernel, rfl⟩
theorem d9_sum_39 : zd b9_sum 39 (.iconst 1) 1 40 := ⟨by decide +kernel, rfl⟩
theorem d9_sum_40 : zd b9_sum 40 .iadd 1 41 := ⟨by decide +kernel, rfl⟩
theorem d9_sum_41 : zd b9_sum 41 (.putfield 155) 3 44 := ⟨by decide +kernel, rfl⟩
theorem d9_sum_44 : zd b9_sum 44 (.aload_n 0) 1 45 := ⟨by decide +kernel, rfl⟩
theorem d9_sum_45 : zd b9_sum 45 (.invokevirtual 192) 3 48 := ⟨by decide +kernel, rfl⟩
theorem d9_sum_48 : zd b9_sum 48 (.aload_n 0) 1 49 := ⟨by decide +kernel, rfl⟩
theorem d9_sum_49 : zd b9_sum 49 (.iload_n 1) 1 50 := ⟨by decide +kernel, rfl⟩
theorem d9_sum_50 : zd b9_sum 50 (.iconst 0) 1 51 := ⟨by decide +kernel, rfl⟩
theorem d9_sum_51 : zd b9_sum 51 (.invokevirtual 171) 3 54 := ⟨by decide +kernel, rfl⟩
theorem d9_sum_54 : zdb b9_sum 54 (.goto (-50)) (-50) 57 4 := ⟨by decide +kernel, rfl, by decide⟩
theorem d9_sum_57 : zd b9_sum 57 .return_ 1 58 := ⟨by decide +kernel, rfl⟩
theorem d9_compares_0 : zd b9_compares 0 (.aload_n 0) 1 1 := ⟨by decide +kernel, rfl⟩
theorem d9_compares_1 : zd b9_compares 1 (.invokevirtual 195) 3 4 := ⟨by decide +kernel, rfl⟩
theorem d9_compares_4 : zd b9_compares 4 (.aload_n 0) 1 5 := ⟨by decide +kernel, rfl⟩
theorem d9_compares_5 : zd b9_compares 5 (.invokevirtual 164) 3 8 := ⟨by decide +kernel, rfl⟩
theorem d9_compares_8 : zd b9_compares 8 (.istore_n 1) 1 9 := ⟨by decide +kernel, rfl⟩
theorem d9_compares_9 : zd b9_compares 9 (.aload_n 0) 1 10 := ⟨by decide +kernel, rfl⟩
theorem d9_compares_10 : zd b9_compares 10 (.getfield 168) 3 13 := ⟨by decide +kernel, rfl⟩
theorem d9_compares_13 : zdb b9_compares 13 (.ifCond .ne 41) 41 16 54 := ⟨by decide +kernel, rfl, by decide⟩
theorem d9_compares_16 : zd b9_compares 16 (.iload_n 1) 1 17 := ⟨by decide +kernel, rfl⟩
theorem d9_compares_17 : zd b9_compares 17 (.bipush 60) 2 19 := ⟨by decide +kernel, rfl⟩
theorem d9_compares_19 : zdb b9_compares 19 (.if_icmp .eq 15) 15 22 34 := ⟨by decide +kernel, rfl, by decide⟩
theorem d9_compares_22 : zd b9_compares 22 (.iload_n 1) 1 23 := ⟨by decide +kernel, rfl⟩
theorem d9_compares_23 : zd b9_compares 23 (.bipush 61) 2 25 := ⟨by decide +kernel, rfl⟩
theorem d9_compares_25 : zdb b9_compares 25 (.if_icmp .eq 9) 9 28 34 := ⟨by decide +kernel, rfl, by decide⟩
theorem d9_compares_28 : zd b9_compares 28 (.iload_n 1) 1 29 := ⟨by decide +kernel, rfl⟩
theorem d9_compares_29 : zd b9_compares 29 (.bipush 62) 2 31 := ⟨by decide +kernel, rfl⟩
theorem d9_compares_31 : zdb b9_compares 31 (.if_icmp .ne 23) 23 34 54 := ⟨by decide +kernel, rfl, by decide⟩
theorem d9_compares_34 : zd b9_compares 34 (.aload_n 0) 1 35 := ⟨by decide +kernel, rfl⟩
theorem d9_compares_35 : zd b9_compares 35 .dup 1 36 := ⟨by decide +kernel, rfl⟩
theorem d9_compares_36 : zd b9_compares 36 (.getfield 155) 3 39 := ⟨by decide +kernel, rfl⟩
theorem d9_compares_39 : zd b9_compares 39 (.iconst 1) 1 40 := ⟨by decide +kernel, rfl⟩
theorem d9_compares_40 : zd b9_compares 40 .iadd 1 41 := ⟨by decide +kernel, rfl⟩
theorem d9_compares_41 : zd b9_compares 41 (.putfield 155) 3 44 := ⟨by decide +kernel, rfl⟩
theorem d9_compares_44 : zd b9_compares 44 (.aload_n 0) 1 45 := ⟨by decide +kernel, rfl⟩
theorem d9_compares_45 : zd b9_compares 45 (.invokevirtual 195) 3 48 := ⟨by decide +kernel, rfl⟩
theorem d9_compares_48 : zd b9_compares 48 (.aload_n 0) 1 49 := ⟨by decide +kernel, rfl⟩
theorem d9_compares_49 : zd b9_compares 49 (.iload_n 1) 1 50 := ⟨by decide +kernel, rfl⟩
theorem d9_compares_50 : zd b9_compares 50 (.iconst 0) 1 51 := ⟨by decide +kernel, rfl⟩
theorem d9_compares_51 : zd b9_compares 51 (.invokevirtual 171) 3 54 := ⟨by decide +kernel, rfl⟩
theorem d9_compares_54 : zd b9_compares 54 .return_ 1 55 := ⟨by decide +kernel, rfl⟩
theorem d9_all_0 : zd b9_all 0 (.aload_n 0) 1 1 := ⟨by decide +kernel, rfl⟩
theorem d9_all_1 : zd b9_all 1 (.invokevirtual 198) 3 4 := ⟨by decide +kernel, rfl⟩
theorem d9_all_4 : zd b9_all 4 (.aload_n 0) 1 5 := ⟨by decide +kernel, rfl⟩
theorem d9_all_5 : zd b9_all 5 (.getfield 168) 3 8 := ⟨by decide +kernel, rfl⟩
theorem d9_all_8 : zdb b9_all 8 (.ifCond .ne 36) 36 11 44 := ⟨by decide +kernel, rfl, by decide⟩
theorem d9_all_11 : zd b9_all 11 (.aload_n 0) 1 12 := ⟨by decide +kernel, rfl⟩
theorem d9_all_12 : zd b9_all 12 (.invokevirtual 164) 3 15 := ⟨by decide +kernel, rfl⟩
theorem d9_all_15 : zd b9_all 15 (.bipush 38) 2 17 := ⟨by decide +kernel, rfl⟩
theorem d9_all_17 : zdb b9_all 17 (.if_icmp .ne 27) 27 20 44 := ⟨by decide +kernel, rfl, by decide⟩
theorem d9_all_20 : zd b9_all 20 (.aload_n 0) 1 21 := ⟨by decide +kernel, rfl⟩
theorem d9_all_21 : zd b9_all 21 .dup 1 22 := ⟨by decide +kernel, rfl⟩
theorem d9_all_22 : zd b9_all 22 (.getfield 155) 3 25 := ⟨by decide +kernel, rfl⟩
theorem d9_all_25 : zd b9_all 25 (.iconst 1) 1 26 := ⟨by decide +kernel, rfl⟩
theorem d9_all_26 : zd b9_all 26 .iadd 1 27 := ⟨by decide +kernel, rfl⟩
theorem d9_all_27 : zd b9_all 27 (.putfield 155) 3 30 := ⟨by decide +kernel, rfl⟩
theorem d9_all_30 : zd b9_all 30 (.aload_n 0) 1 31 := ⟨by decide +kernel, rfl⟩
theorem d9_all_31 : zd b9_all 31 (.invokevirtual 198) 3 34 := ⟨by decide +kernel, rfl⟩
theorem d9_all_34 : zd b9_all 34 (.aload_n 0) 1 35 := ⟨by decide +kernel, rfl⟩
theorem d9_all_35 : zd b9_all 35 (.bipush 38) 2 37 := ⟨by decide +kernel, rfl⟩
theorem d9_all_37 : zd b9_all 37 (.iconst 0) 1 38 := ⟨by decide +kernel, rfl⟩
theorem d9_all_38 : zd b9_all 38 (.invokevirtual 171) 3 41 := ⟨by decide +kernel, rfl⟩
theorem d9_all_41 : zdb b9_all 41 (.goto (-37)) (-37) 44 4 := ⟨by decide +kernel, rfl, by decide⟩
theorem d9_all_44 : zd b9_all 44 .return_ 1 45 := ⟨by decide +kernel, rfl⟩
theorem d9_any_0 : zd b9_any 0 (.aload_n 0) 1 1 := ⟨by decide +kernel, rfl⟩
theorem d9_any_1 : zd b9_any 1 (.invokevirtual 201) 3 4 := ⟨by decide +kernel, rfl⟩
theorem d9_any_4 : zd b9_any 4 (.aload_n 0) 1 5 := ⟨by decide +kernel, rfl⟩
theorem d9_any_5 : zd b9_any 5 (.getfield 168) 3 8 := ⟨by decide +kernel, rfl⟩
theorem d9_any_8 : zdb b9_any 8 (.ifCond .ne 36) 36 11 44 := ⟨by decide +kernel, rfl, by decide⟩
theorem d9_any_11 : zd b9_any 11 (.aload_n 0) 1 12 := ⟨by decide +kernel, rfl⟩
theorem d9_any_12 : zd b9_any 12 (.invokevirtual 164) 3 15 := ⟨by decide +kernel, rfl⟩
theorem d9_any_15 : zd b9_any 15 (.bipush 124) 2 17 := ⟨by decide +kernel, rfl⟩
theorem d9_any_17 : zdb b9_any 17 (.if_icmp .ne 27) 27 20 44 := ⟨by decide +kernel, rfl, by decide⟩
theorem d9_any_20 : zd b9_any 20 (.aload_n 0) 1 21 := ⟨by decide +kernel, rfl⟩
theorem d9_any_21 : zd b9_any 21 .dup 1 22 := ⟨by decide +kernel, rfl⟩
theorem d9_any_22 : zd b9_any 22 (.getfield 155) 3 25 := ⟨by decide +kernel, rfl⟩
theorem d9_any_25 : zd b9_any 25 (.iconst 1) 1 26 := ⟨by decide +kernel, rfl⟩
theorem d9_any_26 : zd b9_any 26 .iadd 1 27 := ⟨by decide +kernel, rfl⟩
theorem d9_any_27 : zd b9_any 27 (.putfield 155) 3 30 := ⟨by decide +kernel, rfl⟩
theorem d9_any_30 : zd b9_any 30 (.aload_n 0) 1 31 := ⟨by decide +kernel, rfl⟩
theorem d9_any_31 : zd b9_any 31 (.invokevirtual 201) 3 34 := ⟨by decide +kernel, rfl⟩
theorem d9_any_34 : zd b9_any 34 (.aload_n 0) 1 35 := ⟨by decide +kernel, rfl⟩
theorem d9_any_35 : zd b9_any 35 (.bipush 124) 2 37 := ⟨by decide +kernel, rfl⟩
theorem d9_any_37 : zd b9_any 37 (.iconst 0) 1 38 := ⟨by decide +kernel, rfl⟩
theorem d9_any_38 : zd b9_any 38 (.invokevirtual 171) 3 41 := ⟨by decide +kernel, rfl⟩
theorem d9_any_41 : zdb b9_any 41 (.goto (-37)) (-37) 44 4 := ⟨by decide +kernel, rfl, by decide⟩
theorem d9_any_44 : zd b9_any 44 .return_ 1 45 := ⟨by decide +kernel, rfl⟩
def zGPA (l : Launch) (g : ZG) (F Lo : Nat) (rc : Nat → List Int32 → ZS → Option (Int32 × ZS)) : Prop :=
  (∀ (a0 : Int32) (σ : ZS) (r : Int32) (σr : ZS), rc 0 [a0] σ = some (r, σr) → zT l g y9_opens b9_opens 2 none (F) (Lo) [zr 103, zi a0] σ none σr) ∧
  (∀ (σ : ZS) (r : Int32) (σr : ZS), rc 1 [] σ = some (r, σr) → zT l g y9_one b9_one 3 none (F) (Lo) [zr 103] σ none σr) ∧
  (∀ (σ : ZS) (r : Int32) (σr : ZS), rc 2 [] σ = some (r, σr) → zT l g y9_times b9_times 2 none (F) (Lo) [zr 103] σ none σr) ∧
  (∀ (σ : ZS) (r : Int32) (σr : ZS), rc 3 [] σ = some (r, σr) → zT l g y9_sum b9_sum 2 none (F) (Lo) [zr 103] σ none σr) ∧
  (∀ (σ : ZS) (r : Int32) (σr : ZS), rc 4 [] σ = some (r, σr) → zT l g y9_compares b9_compares 2 none (F) (Lo) [zr 103] σ none σr) ∧
  (∀ (σ : ZS) (r : Int32) (σr : ZS), rc 5 [] σ = some (r, σr) → zT l g y9_all b9_all 1 none (F) (Lo) [zr 103] σ none σr) ∧
  (∀ (σ : ZS) (r : Int32) (σr : ZS), rc 6 [] σ = some (r, σr) → zT l g y9_any b9_any 1 none (F) (Lo) [zr 103] σ none σr)
def b9_opens_79 (k : Nat) (rc : Nat → List Int32 → ZS → Option (Int32 × ZS)) (v0 : Nat) (v1 : Int32) (σ : ZS) : Option (Unit × ZS) :=
  if zsh v0 = 10 then (
  if zbo v1 then (
  zput (zu σ v0 21 v1) fun s3 =>
  if (s3 103 21) = 0 then (
  zput (zu s3 103 19 ((s3 103 19) + (1 : Int32))) fun s5 =>
  zput (zu s5 103 20 ((s5 103 20) - (1 : Int32))) fun s6 =>
  some ((), s6))
  else (
  zput (zu s3 103 19 ((s3 103 19) + (0 : Int32))) fun s7 =>
  zput (zu s7 103 20 ((s7 103 20) - (1 : Int32))) fun s8 =>
  some ((), s8))) else none) else none
theorem j9_opens_79 {x : ZX} {g : ZG} {F Lo : Nat} (C : zC x g b9_opens R9 none 2 (F + 1) (Lo + 22)) {k : Nat} (hF : 3 ≤ F ∧ 104 ≤ Lo) {rc : Nat → List Int32 → ZS → Option (Int32 × ZS)} (hrc : zGPA x.2.1 g F Lo rc) {r : Unit} {σr : ZS}  {v0 : Nat} {v1 : Int32} {σ : ZS} (hf : b9_opens_79 k rc  v0 v1 σ = some (r, σr)) : zw x g 2 0 0 (zMQ x g none σr) σ 79 [some (zr 103), none] [zi v1, zr v0] := by
  unfold b9_opens_79 at hf
  obtain ⟨g1, hf⟩ := zgo hf
  obtain ⟨g2, hf⟩ := zgo hf
  obtain ⟨s3, e3, hf⟩ := zpx hf
  refine z_putZ C d9_opens_79 fl_838 ft_9_21 g1 g2 e3 ?_
  refine z_aload_n C d9_opens_82 rfl ?_
  refine z_dup C d9_opens_83 rfl ?_
  refine z_getI C d9_opens_84 fl_836 kZ_103 ?_
  refine z_aload_n C d9_opens_87 rfl ?_
  refine z_getI C d9_opens_88 fl_838 kZ_103 ?_
  refine z_if_eq C d9_opens_91 (fun c4 => ?_) (fun c4 => ?_)
  · have hf := zit c4 hf
    refine z_iconst C (1 : Int32) d9_opens_98 kI_1 ?_
    refine z_iadd C d9_opens_99 ?_
    obtain ⟨s5, e5, hf⟩ := zpx hf
    refine z_putI C d9_opens_100 fl_836 ft_9_19 kZ_103 e5 ?_
    refine z_aload_n C d9_opens_103 rfl ?_
    refine z_dup C d9_opens_104 rfl ?_
    refine z_getI C d9_opens_105 fl_837 kZ_103 ?_
    refine z_iconst C (1 : Int32) d9_opens_108 kI_1 ?_
    refine z_isub C d9_opens_109 ?_
    obtain ⟨s6, e6, hf⟩ := zpx hf
    refine z_putI C d9_opens_110 fl_837 ft_9_20 kZ_103 e6 ?_
    exact z_vret C d9_opens_113 hf
  · have hf := zie c4 hf
    refine z_iconst C (0 : Int32) d9_opens_94 kI_0 ?_
    refine z_goto C d9_opens_95 ?_
    refine z_iadd C d9_opens_99 ?_
    obtain ⟨s7, e7, hf⟩ := zpx hf
    refine z_putI C d9_opens_100 fl_836 ft_9_19 kZ_103 e7 ?_
    refine z_aload_n C d9_opens_103 rfl ?_
    refine z_dup C d9_opens_104 rfl ?_
    refine z_getI C d9_opens_105 fl_837 kZ_103 ?_
    refine z_iconst C (1 : Int32) d9_opens_108 kI_1 ?_
    refine z_isub C d9_opens_109 ?_
    obtain ⟨s8, e8, hf⟩ := zpx hf
    refine z_putI C d9_opens_110 fl_837 ft_9_20 kZ_103 e8 ?_
    exact z_vret C d9_opens_113 hf
def f9_opens (k : Nat) (rc : Nat → List Int32 → ZS → Option (Int32 × ZS)) (x1 : Int32) (σ : ZS) : Option (Unit × ZS) :=
  if (σ 103 20) = (5 : Int32) then (
  zput (zu σ 103 21 (1 : Int32)) fun s2 =>
  some ((), s2))
  else (
  zput (zu σ 103 20 ((σ 103 20) + (1 : Int32))) fun s3 =>
  zput (zu s3 103 19 ((s3 103 19) + (1 : Int32))) fun s4 =>
  if x1 = (33 : Int32) then (
  zbd (rc 1 [] s4) fun _ s6 =>
  zbd (f9_step k (3 : Int32) (0 : Int32) s6) fun _ s7 =>
  zput (zu s7 103 20 ((s7 103 20) - (1 : Int32))) fun s8 =>
  some ((), s8))
  else (
  zbd (rc 6 [] s4) fun _ s9 =>
  if (s9 103 21) = 0 then (
  zbd (f9_byteHere k s9) fun r11 s11 =>
  if r11 = (41 : Int32) then (
  b9_opens_79 k rc  103 (0 : Int32) s11)
  else (
  b9_opens_79 k rc  103 (1 : Int32) s11))
  else (
  b9_opens_79 k rc  103 (1 : Int32) s9)))
theorem c9_opens (l : Launch) (g : ZG) {F Lo : Nat} {k : Nat} (hF : 3 ≤ F ∧ 104 ≤ Lo) {rc : Nat → List Int32 → ZS → Option (Int32 × ZS)} (hrc : zGPA l g F Lo rc) {x1 : Int32} {σ : ZS} {r : Unit} {σr : ZS} (hf : f9_opens k rc x1 σ = some (r, σr)) : zT l g y9_opens b9_opens 2 none (F + 1) (Lo + 22) [zr 103, zi x1] σ none σr := by
  unfold f9_opens at hf
  refine zT_start (own := R9) rfl (by decide +kernel) 0 (L := [some (zr 103), some (zi x1)]) rfl rfl (fun x hl C => ?_)
  subst hl
  refine z_aload_n C d9_opens_0 rfl ?_
  refine z_getI C d9_opens_1 fl_837 kZ_103 ?_
  refine z_iconst C (5 : Int32) d9_opens_4 kI_5 ?_
  refine z_icmp_ne C d9_opens_5 (fun c1 => ?_) (fun c1 => ?_)
  · have hf := zit c1 hf
    refine z_aload_n C d9_opens_8 rfl ?_
    refine z_iconst C (1 : Int32) d9_opens_9 kI_1 ?_
    obtain ⟨s2, e2, hf⟩ := zpx hf
    refine z_putZ C d9_opens_10 fl_838 ft_9_21 kZ_103 (Or.inr rfl) e2 ?_
    exact z_vret C d9_opens_13 hf
  · have hf := zie c1 hf
    refine z_aload_n C d9_opens_14 rfl ?_
    refine z_dup C d9_opens_15 rfl ?_
    refine z_getI C d9_opens_16 fl_837 kZ_103 ?_
    refine z_iconst C (1 : Int32) d9_opens_19 kI_1 ?_
    refine z_iadd C d9_opens_20 ?_
    obtain ⟨s3, e3, hf⟩ := zpx hf
    refine z_putI C d9_opens_21 fl_837 ft_9_20 kZ_103 e3 ?_
    refine z_aload_n C d9_opens_24 rfl ?_
    refine z_dup C d9_opens_25 rfl ?_
    refine z_getI C d9_opens_26 fl_836 kZ_103 ?_
    refine z_iconst C (1 : Int32) d9_opens_29 kI_1 ?_
    refine z_iadd C d9_opens_30 ?_
    obtain ⟨s4, e4, hf⟩ := zpx hf
    refine z_putI C d9_opens_31 fl_836 ft_9_19 kZ_103 e4 ?_
    refine z_iload_n C d9_opens_34 rfl ?_
    refine z_bipush C (33 : Int32) d9_opens_35 kB_33 ?_
    refine z_icmp_ne C d9_opens_37 (fun c5 => ?_) (fun c5 => ?_)
    · have hf := zit c5 hf
      refine z_aload_n C d9_opens_40 rfl ?_
      obtain ⟨r6, s6, h6, hf⟩ := zbx hf
      refine z_callVv C (as := []) d9_opens_41 w_1073 yy9_one (hrc.2.1 _ _ _ h6) yc9_one kZ_103 rfl rfl (Nat.le_of_ble_eq_true rfl) ⟨by omega, by omega⟩ ⟨Nat.zero_le _, Nat.zero_le _⟩ ?_
      refine z_aload_n C d9_opens_44 rfl ?_
      refine z_iconst C (3 : Int32) d9_opens_45 kI_3 ?_
      refine z_iconst C (0 : Int32) d9_opens_46 kI_0 ?_
      obtain ⟨r7, s7, h7, hf⟩ := zbx hf
      refine z_callVv C (as := [zi (3 : Int32), zi (0 : Int32)]) d9_opens_47 w_1085 yy9_step (c9_step x.2.1 g h7) yc9_step kZ_103 rfl rfl (Nat.le_of_ble_eq_true rfl) ⟨by omega, by omega⟩ ⟨Nat.zero_le _, Nat.zero_le _⟩ ?_
      refine z_goto C d9_opens_50 ?_
      refine z_aload_n C d9_opens_103 rfl ?_
      refine z_dup C d9_opens_104 rfl ?_
      refine z_getI C d9_opens_105 fl_837 kZ_103 ?_
      refine z_iconst C (1 : Int32) d9_opens_108 kI_1 ?_
      refine z_isub C d9_opens_109 ?_
      obtain ⟨s8, e8, hf⟩ := zpx hf
      refine z_putI C d9_opens_110 fl_837 ft_9_20 kZ_103 e8 ?_
      exact z_vret C d9_opens_113 hf
    · have hf := zie c5 hf
      refine z_aload_n C d9_opens_53 rfl ?_
      obtain ⟨r9, s9, h9, hf⟩ := zbx hf
      refine z_callVv C (as := []) d9_opens_54 w_1053 yy9_any (hrc.2.2.2.2.2.2 _ _ _ h9) yc9_any kZ_103 rfl rfl (Nat.le_of_ble_eq_true rfl) ⟨by omega, by omega⟩ ⟨Nat.zero_le _, Nat.zero_le _⟩ ?_
      refine z_aload_n C d9_opens_57 rfl ?_
      refine z_aload_n C d9_opens_58 rfl ?_
      refine z_getI C d9_opens_59 fl_838 kZ_103 ?_
      refine z_if_ne C d9_opens_62 (fun c10 => ?_) (fun c10 => ?_)
      · have hf := zit c10 hf
        refine z_aload_n C d9_opens_65 rfl ?_
        obtain ⟨r11, s11, h11, hf⟩ := zbx hf
        refine z_callVi C (as := []) d9_opens_66 w_1077 yy9_byteHere (c9_byteHere x.2.1 g h11) yc9_byteHere kZ_103 rfl rfl (Nat.le_of_ble_eq_true rfl) ⟨by omega, by omega⟩ ⟨Nat.zero_le _, Nat.zero_le _⟩ ?_
        refine z_bipush C (41 : Int32) d9_opens_69 kB_41 ?_
        refine z_icmp_eq C d9_opens_71 (fun c12 => ?_) (fun c12 => ?_)
        · have hf := zit c12 hf
          refine z_iconst C (0 : Int32) d9_opens_78 kI_0 ?_
          refine z_drop [true, false] (L' := [some (zr 103), none]) rfl ?_
          exact j9_opens_79 C hF hrc  hf
        · have hf := zie c12 hf
          refine z_iconst C (1 : Int32) d9_opens_74 kI_1 ?_
          refine z_goto C d9_opens_75 ?_
          refine z_drop [true, false] (L' := [some (zr 103), none]) rfl ?_
          exact j9_opens_79 C hF hrc  hf
      · have hf := zie c10 hf
        refine z_iconst C (1 : Int32) d9_opens_74 kI_1 ?_
        refine z_goto C d9_opens_75 ?_
        refine z_drop [true, false] (L' := [some (zr 103), none]) rfl ?_
        exact j9_opens_79 C hF hrc  hf
def f9_one (k : Nat) (rc : Nat → List Int32 → ZS → Option (Int32 × ZS))  (σ : ZS) : Option (Unit × ZS) :=
  zbd (f9_byteHere k σ) fun r1 s1 =>
  zbd (f9_nameOf k r1 s1) fun r2 s2 =>
  if r2 < 0 then (
  if r1 = (33 : Int32) then (
  zbd (rc 0 [r1] s2) fun _ s5 =>
  some ((), s5))
  else (
  if r1 = (40 : Int32) then (
  zbd (rc 0 [r1] s2) fun _ s7 =>
  some ((), s7))
  else (
  zbd (f9_number k s2) fun _ s8 =>
  some ((), s8))))
  else (
  zput (zu s2 103 19 ((s2 103 19) + (1 : Int32))) fun s9 =>
  zbd (f9_step k (2 : Int32) r2 s9) fun _ s10 =>
  some ((), s10))
theorem c9_one (l : Launch) (g : ZG) {F Lo : Nat} {k : Nat} (hF : 3 ≤ F ∧ 104 ≤ Lo) {rc : Nat → List Int32 → ZS → Option (Int32 × ZS)} (hrc : zGPA l g F Lo rc)  {σ : ZS} {r : Unit} {σr : ZS} (hf : f9_one k rc  σ = some (r, σr)) : zT l g y9_one b9_one 3 none (F + 1) (Lo + 22) [zr 103] σ none σr := by
  unfold f9_one at hf
  refine zT_start (own := R9) rfl (by decide +kernel) 2 (L := [some (zr 103), none, none]) rfl rfl (fun x hl C => ?_)
  subst hl
  refine z_aload_n C d9_one_0 rfl ?_
  obtain ⟨r1, s1, h1, hf⟩ := zbx hf
  refine z_callVi C (as := []) d9_one_1 w_1077 yy9_byteHere (c9_byteHere x.2.1 g h1) yc9_byteHere kZ_103 rfl rfl (Nat.le_of_ble_eq_true rfl) ⟨by omega, by omega⟩ ⟨Nat.zero_le _, Nat.zero_le _⟩ ?_
  refine z_istore_n C d9_one_4 (Nat.le_of_ble_eq_true rfl) rfl (L' := [some (zr 103), some (zi r1), none]) rfl ?_
  refine z_aload_n C d9_one_5 rfl ?_
  refine z_iload_n C d9_one_6 rfl ?_
  obtain ⟨r2, s2, h2, hf⟩ := zbx hf
  refine z_callVi C (as := [zi r1]) d9_one_7 w_1081 yy9_nameOf (c9_nameOf x.2.1 g h2) yc9_nameOf kZ_103 rfl rfl (Nat.le_of_ble_eq_true rfl) ⟨by omega, by omega⟩ ⟨Nat.zero_le _, Nat.zero_le _⟩ ?_
  refine z_istore_n C d9_one_10 (Nat.le_of_ble_eq_true rfl) rfl (L' := [some (zr 103), some (zi r1), some (zi r2)]) rfl ?_
  refine z_iload_n C d9_one_11 rfl ?_
  refine z_if_lt C d9_one_12 (fun c3 => ?_) (fun c3 => ?_)
  · have hf := zit c3 hf
    refine z_iload_n C d9_one_34 rfl ?_
    refine z_bipush C (33 : Int32) d9_one_35 kB_33 ?_
    refine z_icmp_eq C d9_one_37 (fun c4 => ?_) (fun c4 => ?_)
    · have hf := zit c4 hf
      refine z_aload_n C d9_one_46 rfl ?_
      refine z_iload_n C d9_one_47 rfl ?_
      obtain ⟨r5, s5, h5, hf⟩ := zbx hf
      refine z_callVv C (as := [zi r1]) d9_one_48 w_1089 yy9_opens (hrc.1 _ _ _ _ h5) yc9_opens kZ_103 rfl rfl (Nat.le_of_ble_eq_true rfl) ⟨by omega, by omega⟩ ⟨Nat.zero_le _, Nat.zero_le _⟩ ?_
      refine z_goto C d9_one_51 ?_
      exact z_vret C d9_one_58 hf
    · have hf := zie c4 hf
      refine z_iload_n C d9_one_40 rfl ?_
      refine z_bipush C (40 : Int32) d9_one_41 kB_40 ?_
      refine z_icmp_ne C d9_one_43 (fun c6 => ?_) (fun c6 => ?_)
      · have hf := zit c6 hf
        refine z_aload_n C d9_one_46 rfl ?_
        refine z_iload_n C d9_one_47 rfl ?_
        obtain ⟨r7, s7, h7, hf⟩ := zbx hf
        refine z_callVv C (as := [zi r1]) d9_one_48 w_1089 yy9_opens (hrc.1 _ _ _ _ h7) yc9_opens kZ_103 rfl rfl (Nat.le_of_ble_eq_true rfl) ⟨by omega, by omega⟩ ⟨Nat.zero_le _, Nat.zero_le _⟩ ?_
        refine z_goto C d9_one_51 ?_
        exact z_vret C d9_one_58 hf
      · have hf := zie c6 hf
        refine z_aload_n C d9_one_54 rfl ?_
        obtain ⟨r8, s8, h8, hf⟩ := zbx hf
        refine z_callVv C (as := []) d9_one_55 w_1093 yy9_number (c9_number x.2.1 g h8) yc9_number kZ_103 rfl rfl (Nat.le_of_ble_eq_true rfl) ⟨by omega, by omega⟩ ⟨Nat.zero_le _, Nat.zero_le _⟩ ?_
        exact z_vret C d9_one_58 hf
  · have hf := zie c3 hf
    refine z_aload_n C d9_one_15 rfl ?_
    refine z_dup C d9_one_16 rfl ?_
    refine z_getI C d9_one_17 fl_836 kZ_103 ?_
    refine z_iconst C (1 : Int32) d9_one_20 kI_1 ?_
    refine z_iadd C d9_one_21 ?_
    obtain ⟨s9, e9, hf⟩ := zpx hf
    refine z_putI C d9_one_22 fl_836 ft_9_19 kZ_103 e9 ?_
    refine z_aload_n C d9_one_25 rfl ?_
    refine z_iconst C (2 : Int32) d9_one_26 kI_2 ?_
    refine z_iload_n C d9_one_27 rfl ?_
    obtain ⟨r10, s10, h10, hf⟩ := zbx hf
    refine z_callVv C (as := [zi (2 : Int32), zi r2]) d9_one_28 w_1085 yy9_step (c9_step x.2.1 g h10) yc9_step kZ_103 rfl rfl (Nat.le_of_ble_eq_true rfl) ⟨by omega, by omega⟩ ⟨Nat.zero_le _, Nat.zero_le _⟩ ?_
    refine z_goto C d9_one_31 ?_
    exact z_vret C d9_one_58 hf
def b9_times_38 (k : Nat) (rc : Nat → List Int32 → ZS → Option (Int32 × ZS)) (q4 : ZS → Option (Unit × ZS))  (σ : ZS) : Option (Unit × ZS) :=
  zbd (f9_byteHere k σ) fun r1 s1 =>
  zput (zu s1 103 19 ((s1 103 19) + (1 : Int32))) fun s2 =>
  zbd (rc 1 [] s2) fun _ s3 =>
  zbd (f9_step k r1 (0 : Int32) s3) fun _ s4 =>
  q4 s4
theorem j9_times_38 {x : ZX} {g : ZG} {F Lo : Nat} (C : zC x g b9_times R9 none 2 (F + 1) (Lo + 22)) {k : Nat} (hF : 3 ≤ F ∧ 104 ≤ Lo) {rc : Nat → List Int32 → ZS → Option (Int32 × ZS)} (hrc : zGPA x.2.1 g F Lo rc) {r : Unit} {σr : ZS}  {q4 : ZS → Option (Unit × ZS)} (hq4 : (∀  (σ : ZS), q4  σ = some (r, σr) → zw x g 2 0 0 (zMQ x g none σr) σ 4 [some (zr 103), none] []))  {σ : ZS} (hf : b9_times_38 k rc q4  σ = some (r, σr)) : zw x g 2 0 0 (zMQ x g none σr) σ 38 [some (zr 103), none] [] := by
  unfold b9_times_38 at hf
  refine z_aload_n C d9_times_38 rfl ?_
  obtain ⟨r1, s1, h1, hf⟩ := zbx hf
  refine z_callVi C (as := []) d9_times_39 w_1077 yy9_byteHere (c9_byteHere x.2.1 g h1) yc9_byteHere kZ_103 rfl rfl (Nat.le_of_ble_eq_true rfl) ⟨by omega, by omega⟩ ⟨Nat.zero_le _, Nat.zero_le _⟩ ?_
  refine z_istore_n C d9_times_42 (Nat.le_of_ble_eq_true rfl) rfl (L' := [some (zr 103), some (zi r1)]) rfl ?_
  refine z_aload_n C d9_times_43 rfl ?_
  refine z_dup C d9_times_44 rfl ?_
  refine z_getI C d9_times_45 fl_836 kZ_103 ?_
  refine z_iconst C (1 : Int32) d9_times_48 kI_1 ?_
  refine z_iadd C d9_times_49 ?_
  obtain ⟨s2, e2, hf⟩ := zpx hf
  refine z_putI C d9_times_50 fl_836 ft_9_19 kZ_103 e2 ?_
  refine z_aload_n C d9_times_53 rfl ?_
  obtain ⟨r3, s3, h3, hf⟩ := zbx hf
  refine z_callVv C (as := []) d9_times_54 w_1073 yy9_one (hrc.2.1 _ _ _ h3) yc9_one kZ_103 rfl rfl (Nat.le_of_ble_eq_true rfl) ⟨by omega, by omega⟩ ⟨Nat.zero_le _, Nat.zero_le _⟩ ?_
  refine z_aload_n C d9_times_57 rfl ?_
  refine z_iload_n C d9_times_58 rfl ?_
  refine z_iconst C (0 : Int32) d9_times_59 kI_0 ?_
  obtain ⟨r4, s4, h4, hf⟩ := zbx hf
  refine z_callVv C (as := [zi r1, zi (0 : Int32)]) d9_times_60 w_1085 yy9_step (c9_step x.2.1 g h4) yc9_step kZ_103 rfl rfl (Nat.le_of_ble_eq_true rfl) ⟨by omega, by omega⟩ ⟨Nat.zero_le _, Nat.zero_le _⟩ ?_
  refine z_goto C d9_times_63 ?_
  refine z_drop [true, false] (L' := [some (zr 103), none]) rfl ?_
  exact hq4 _ hf
def b9_times_4 (k : Nat) (rc : Nat → List Int32 → ZS → Option (Int32 × ZS)) (q4 : ZS → Option (Unit × ZS))  (σ : ZS) : Option (Unit × ZS) :=
  if (σ 103 21) = 0 then (
  zbd (f9_byteHere k σ) fun r2 s2 =>
  if r2 = (42 : Int32) then (
  b9_times_38 k rc q4 s2)
  else (
  zbd (f9_byteHere k s2) fun r4 s4 =>
  if r4 = (47 : Int32) then (
  b9_times_38 k rc q4 s4)
  else (
  zbd (f9_byteHere k s4) fun r6 s6 =>
  if r6 = (37 : Int32) then (
  b9_times_38 k rc q4 s6)
  else (
  some ((), s6)))))
  else (
  some ((), σ))
def f9_times_4 (k : Nat) (rc : Nat → List Int32 → ZS → Option (Int32 × ZS)) : Nat → ZS → Option (Unit × ZS)
  | 0 => fun  _ => none
  | n + 1 => b9_times_4 k rc  (f9_times_4 k rc  n)
theorem j9_times_4 {x : ZX} {g : ZG} {F Lo : Nat} (C : zC x g b9_times R9 none 2 (F + 1) (Lo + 22)) {k : Nat} (hF : 3 ≤ F ∧ 104 ≤ Lo) {rc : Nat → List Int32 → ZS → Option (Int32 × ZS)} (hrc : zGPA x.2.1 g F Lo rc) {r : Unit} {σr : ZS}  {q4 : ZS → Option (Unit × ZS)} (hq4 : (∀  (σ : ZS), q4  σ = some (r, σr) → zw x g 2 0 0 (zMQ x g none σr) σ 4 [some (zr 103), none] []))  {σ : ZS} (hf : b9_times_4 k rc q4  σ = some (r, σr)) : zw x g 2 0 0 (zMQ x g none σr) σ 4 [some (zr 103), none] [] := by
  unfold b9_times_4 at hf
  refine z_aload_n C d9_times_4 rfl ?_
  refine z_getI C d9_times_5 fl_838 kZ_103 ?_
  refine z_if_ne C d9_times_8 (fun c1 => ?_) (fun c1 => ?_)
  · have hf := zit c1 hf
    refine z_aload_n C d9_times_11 rfl ?_
    obtain ⟨r2, s2, h2, hf⟩ := zbx hf
    refine z_callVi C (as := []) d9_times_12 w_1077 yy9_byteHere (c9_byteHere x.2.1 g h2) yc9_byteHere kZ_103 rfl rfl (Nat.le_of_ble_eq_true rfl) ⟨by omega, by omega⟩ ⟨Nat.zero_le _, Nat.zero_le _⟩ ?_
    refine z_bipush C (42 : Int32) d9_times_15 kB_42 ?_
    refine z_icmp_eq C d9_times_17 (fun c3 => ?_) (fun c3 => ?_)
    · have hf := zit c3 hf
      exact j9_times_38 C hF hrc hq4 hf
    · have hf := zie c3 hf
      refine z_aload_n C d9_times_20 rfl ?_
      obtain ⟨r4, s4, h4, hf⟩ := zbx hf
      refine z_callVi C (as := []) d9_times_21 w_1077 yy9_byteHere (c9_byteHere x.2.1 g h4) yc9_byteHere kZ_103 rfl rfl (Nat.le_of_ble_eq_true rfl) ⟨by omega, by omega⟩ ⟨Nat.zero_le _, Nat.zero_le _⟩ ?_
      refine z_bipush C (47 : Int32) d9_times_24 kB_47 ?_
      refine z_icmp_eq C d9_times_26 (fun c5 => ?_) (fun c5 => ?_)
      · have hf := zit c5 hf
        exact j9_times_38 C hF hrc hq4 hf
      · have hf := zie c5 hf
        refine z_aload_n C d9_times_29 rfl ?_
        obtain ⟨r6, s6, h6, hf⟩ := zbx hf
        refine z_callVi C (as := []) d9_times_30 w_1077 yy9_byteHere (c9_byteHere x.2.1 g h6) yc9_byteHere kZ_103 rfl rfl (Nat.le_of_ble_eq_true rfl) ⟨by omega, by omega⟩ ⟨Nat.zero_le _, Nat.zero_le _⟩ ?_
        refine z_bipush C (37 : Int32) d9_times_33 kB_37 ?_
        refine z_icmp_ne C d9_times_35 (fun c7 => ?_) (fun c7 => ?_)
        · have hf := zit c7 hf
          exact j9_times_38 C hF hrc hq4 hf
        · have hf := zie c7 hf
          exact z_vret C d9_times_66 hf
  · have hf := zie c1 hf
    exact z_vret C d9_times_66 hf
theorem j9_times_4l {x : ZX} {g : ZG} {F Lo : Nat} (C : zC x g b9_times R9 none 2 (F + 1) (Lo + 22)) {k : Nat} (hF : 3 ≤ F ∧ 104 ≤ Lo) {rc : Nat → List Int32 → ZS → Option (Int32 × ZS)} (hrc : zGPA x.2.1 g F Lo rc) {r : Unit} {σr : ZS}  : ∀ (n : Nat)  (σ : ZS), f9_times_4 k rc  n  σ = some (r, σr) → zw x g 2 0 0 (zMQ x g none σr) σ 4 [some (zr 103), none] [] := by
  intro n
  induction n with
  | zero => intro  σ hf; exact absurd (show none = some (r, σr) from hf) (fun z => by cases z)
  | succ n ih => intro  σ hf; exact j9_times_4 C hF hrc  ih (show b9_times_4 k rc  (f9_times_4 k rc  n)  σ = some (r, σr) from hf)
def f9_times (k : Nat) (rc : Nat → List Int32 → ZS → Option (Int32 × ZS))  (σ : ZS) : Option (Unit × ZS) :=
  zbd (rc 1 [] σ) fun _ s1 =>
  f9_times_4 k rc  k s1
theorem c9_times (l : Launch) (g : ZG) {F Lo : Nat} {k : Nat} (hF : 3 ≤ F ∧ 104 ≤ Lo) {rc : Nat → List Int32 → ZS → Option (Int32 × ZS)} (hrc : zGPA l g F Lo rc)  {σ : ZS} {r : Unit} {σr : ZS} (hf : f9_times k rc  σ = some (r, σr)) : zT l g y9_times b9_times 2 none (F + 1) (Lo + 22) [zr 103] σ none σr := by
  unfold f9_times at hf
  refine zT_start (own := R9) rfl (by decide +kernel) 1 (L := [some (zr 103), none]) rfl rfl (fun x hl C => ?_)
  subst hl
  refine z_aload_n C d9_times_0 rfl ?_
  obtain ⟨r1, s1, h1, hf⟩ := zbx hf
  refine z_callVv C (as := []) d9_times_1 w_1073 yy9_one (hrc.2.1 _ _ _ h1) yc9_one kZ_103 rfl rfl (Nat.le_of_ble_eq_true rfl) ⟨by omega, by omega⟩ ⟨Nat.zero_le _, Nat.zero_le _⟩ ?_
  exact j9_times_4l C hF hrc  _ _ hf
def b9_sum_29 (k : Nat) (rc : Nat → List Int32 → ZS → Option (Int32 × ZS)) (q4 : ZS → Option (Unit × ZS))  (σ : ZS) : Option (Unit × ZS) :=
  zbd (f9_byteHere k σ) fun r1 s1 =>
  zput (zu s1 103 19 ((s1 103 19) + (1 : Int32))) fun s2 =>
  zbd (rc 2 [] s2) fun _ s3 =>
  zbd (f9_step k r1 (0 : Int32) s3) fun _ s4 =>
  q4 s4
theorem j9_sum_29 {x : ZX} {g : ZG} {F Lo : Nat} (C : zC x g b9_sum R9 none 2 (F + 1) (Lo + 22)) {k : Nat} (hF : 3 ≤ F ∧ 104 ≤ Lo) {rc : Nat → List Int32 → ZS → Option (Int32 × ZS)} (hrc : zGPA x.2.1 g F Lo rc) {r : Unit} {σr : ZS}  {q4 : ZS → Option (Unit × ZS)} (hq4 : (∀  (σ : ZS), q4  σ = some (r, σr) → zw x g 2 0 0 (zMQ x g none σr) σ 4 [some (zr 103), none] []))  {σ : ZS} (hf : b9_sum_29 k rc q4  σ = some (r, σr)) : zw x g 2 0 0 (zMQ x g none σr) σ 29 [some (zr 103), none] [] := by
  unfold b9_sum_29 at hf
  refine z_aload_n C d9_sum_29 rfl ?_
  obtain ⟨r1, s1, h1, hf⟩ := zbx hf
  refine z_callVi C (as := []) d9_sum_30 w_1077 yy9_byteHere (c9_byteHere x.2.1 g h1) yc9_byteHere kZ_103 rfl rfl (Nat.le_of_ble_eq_true rfl) ⟨by omega, by omega⟩ ⟨Nat.zero_le _, Nat.zero_le _⟩ ?_
  refine z_istore_n C d9_sum_33 (Nat.le_of_ble_eq_true rfl) rfl (L' := [some (zr 103), some (zi r1)]) rfl ?_
  refine z_aload_n C d9_sum_34 rfl ?_
  refine z_dup C d9_sum_35 rfl ?_
  refine z_getI C d9_sum_36 fl_836 kZ_103 ?_
  refine z_iconst C (1 : Int32) d9_sum_39 kI_1 ?_
  refine z_iadd C d9_sum_40 ?_
  obtain ⟨s2, e2, hf⟩ := zpx hf
  refine z_putI C d9_sum_41 fl_836 ft_9_19 kZ_103 e2 ?_
  refine z_aload_n C d9_sum_44 rfl ?_
  obtain ⟨r3, s3, h3, hf⟩ := zbx hf
  refine z_callVv C (as := []) d9_sum_45 w_1069 yy9_times (hrc.2.2.1 _ _ _ h3) yc9_times kZ_103 rfl rfl (Nat.le_of_ble_eq_true rfl) ⟨by omega, by omega⟩ ⟨Nat.zero_le _, Nat.zero_le _⟩ ?_
  refine z_aload_n C d9_sum_48 rfl ?_
  refine z_iload_n C d9_sum_49 rfl ?_
  refine z_iconst C (0 : Int32) d9_sum_50 kI_0 ?_
  obtain ⟨r4, s4, h4, hf⟩ := zbx hf
  refine z_callVv C (as := [zi r1, zi (0 : Int32)]) d9_sum_51 w_1085 yy9_step (c9_step x.2.1 g h4) yc9_step kZ_103 rfl rfl (Nat.le_of_ble_eq_true rfl) ⟨by omega, by omega⟩ ⟨Nat.zero_le _, Nat.zero_le _⟩ ?_
  refine z_goto C d9_sum_54 ?_
  refine z_drop [true, false] (L' := [some (zr 103), none]) rfl ?_
  exact hq4 _ hf
def b9_sum_4 (k : Nat) (rc : Nat → List Int32 → ZS → Option (Int32 × ZS)) (q4 : ZS → Option (Unit × ZS))  (σ : ZS) : Option (Unit × ZS) :=
  if (σ 103 21) = 0 then (
  zbd (f9_byteHere k σ) fun r2 s2 =>
  if r2 = (43 : Int32) then (
  b9_sum_29 k rc q4 s2)
  else (
  zbd (f9_byteHere k s2) fun r4 s4 =>
  if r4 = (45 : Int32) then (
  b9_sum_29 k rc q4 s4)
  else (
  some ((), s4))))
  else (
  some ((), σ))
def f9_sum_4 (k : Nat) (rc : Nat → List Int32 → ZS → Option (Int32 × ZS)) : Nat → ZS → Option (Unit × ZS)
  | 0 => fun  _ => none
  | n + 1 => b9_sum_4 k rc  (f9_sum_4 k rc  n)
theorem j9_sum_4 {x : ZX} {g : ZG} {F Lo : Nat} (C : zC x g b9_sum R9 none 2 (F + 1) (Lo + 22)) {k : Nat} (hF : 3 ≤ F ∧ 104 ≤ Lo) {rc : Nat → List Int32 → ZS → Option (Int32 × ZS)} (hrc : zGPA x.2.1 g F Lo rc) {r : Unit} {σr : ZS}  {q4 : ZS → Option (Unit × ZS)} (hq4 : (∀  (σ : ZS), q4  σ = some (r, σr) → zw x g 2 0 0 (zMQ x g none σr) σ 4 [some (zr 103), none] []))  {σ : ZS} (hf : b9_sum_4 k rc q4  σ = some (r, σr)) : zw x g 2 0 0 (zMQ x g none σr) σ 4 [some (zr 103), none] [] := by
  unfold b9_sum_4 at hf
  refine z_aload_n C d9_sum_4 rfl ?_
  refine z_getI C d9_sum_5 fl_838 kZ_103 ?_
  refine z_if_ne C d9_sum_8 (fun c1 => ?_) (fun c1 => ?_)
  · have hf := zit c1 hf
    refine z_aload_n C d9_sum_11 rfl ?_
    obtain ⟨r2, s2, h2, hf⟩ := zbx hf
    refine z_callVi C (as := []) d9_sum_12 w_1077 yy9_byteHere (c9_byteHere x.2.1 g h2) yc9_byteHere kZ_103 rfl rfl (Nat.le_of_ble_eq_true rfl) ⟨by omega, by omega⟩ ⟨Nat.zero_le _, Nat.zero_le _⟩ ?_
    refine z_bipush C (43 : Int32) d9_sum_15 kB_43 ?_
    refine z_icmp_eq C d9_sum_17 (fun c3 => ?_) (fun c3 => ?_)
    · have hf := zit c3 hf
      exact j9_sum_29 C hF hrc hq4 hf
    · have hf := zie c3 hf
      refine z_aload_n C d9_sum_20 rfl ?_
      obtain ⟨r4, s4, h4, hf⟩ := zbx hf
      refine z_callVi C (as := []) d9_sum_21 w_1077 yy9_byteHere (c9_byteHere x.2.1 g h4) yc9_byteHere kZ_103 rfl rfl (Nat.le_of_ble_eq_true rfl) ⟨by omega, by omega⟩ ⟨Nat.zero_le _, Nat.zero_le _⟩ ?_
      refine z_bipush C (45 : Int32) d9_sum_24 kB_45 ?_
      refine z_icmp_ne C d9_sum_26 (fun c5 => ?_) (fun c5 => ?_)
      · have hf := zit c5 hf
        exact j9_sum_29 C hF hrc hq4 hf
      · have hf := zie c5 hf
        exact z_vret C d9_sum_57 hf
  · have hf := zie c1 hf
    exact z_vret C d9_sum_57 hf
theorem j9_sum_4l {x : ZX} {g : ZG} {F Lo : Nat} (C : zC x g b9_sum R9 none 2 (F + 1) (Lo + 22)) {k : Nat} (hF : 3 ≤ F ∧ 104 ≤ Lo) {rc : Nat → List Int32 → ZS → Option (Int32 × ZS)} (hrc : zGPA x.2.1 g F Lo rc) {r : Unit} {σr : ZS}  : ∀ (n : Nat)  (σ : ZS), f9_sum_4 k rc  n  σ = some (r, σr) → zw x g 2 0 0 (zMQ x g none σr) σ 4 [some (zr 103), none] [] := by
  intro n
  induction n with
  | zero => intro  σ hf; exact absurd (show none = some (r, σr) from hf) (fun z => by cases z)
  | succ n ih => intro  σ hf; exact j9_sum_4 C hF hrc  ih (show b9_sum_4 k rc  (f9_sum_4 k rc  n)  σ = some (r, σr) from hf)
def f9_sum (k : Nat) (rc : Nat → List Int32 → ZS → Option (Int32 × ZS))  (σ : ZS) : Option (Unit × ZS) :=
  zbd (rc 2 [] σ) fun _ s1 =>
  f9_sum_4 k rc  k s1
theorem c9_sum (l : Launch) (g : ZG) {F Lo : Nat} {k : Nat} (hF : 3 ≤ F ∧ 104 ≤ Lo) {rc : Nat → List Int32 → ZS → Option (Int32 × ZS)} (hrc : zGPA l g F Lo rc)  {σ : ZS} {r : Unit} {σr : ZS} (hf : f9_sum k rc  σ = some (r, σr)) : zT l g y9_sum b9_sum 2 none (F + 1) (Lo + 22) [zr 103] σ none σr := by
  unfold f9_sum at hf
  refine zT_start (own := R9) rfl (by decide +kernel) 1 (L := [some (zr 103), none]) rfl rfl (fun x hl C => ?_)
  subst hl
  refine z_aload_n C d9_sum_0 rfl ?_
  obtain ⟨r1, s1, h1, hf⟩ := zbx hf
  refine z_callVv C (as := []) d9_sum_1 w_1069 yy9_times (hrc.2.2.1 _ _ _ h1) yc9_times kZ_103 rfl rfl (Nat.le_of_ble_eq_true rfl) ⟨by omega, by omega⟩ ⟨Nat.zero_le _, Nat.zero_le _⟩ ?_
  exact j9_sum_4l C hF hrc  _ _ hf
def f9_compares (k : Nat) (rc : Nat → List Int32 → ZS → Option (Int32 × ZS))  (σ : ZS) : Option (Unit × ZS) :=
  zbd (rc 3 [] σ) fun _ s1 =>
  zbd (f9_byteHere k s1) fun r2 s2 =>
  if (s2 103 21) = 0 then (
  if r2 = (60 : Int32) then (
  zput (zu s2 103 19 ((s2 103 19) + (1 : Int32))) fun s5 =>
  zbd (rc 3 [] s5) fun _ s6 =>
  zbd (f9_step k r2 (0 : Int32) s6) fun _ s7 =>
  some ((), s7))
  else (
  if r2 = (61 : Int32) then (
  zput (zu s2 103 19 ((s2 103 19) + (1 : Int32))) fun s9 =>
  zbd (rc 3 [] s9) fun _ s10 =>
  zbd (f9_step k r2 (0 : Int32) s10) fun _ s11 =>
  some ((), s11))
  else (
  if r2 = (62 : Int32) then (
  zput (zu s2 103 19 ((s2 103 19) + (1 : Int32))) fun s13 =>
  zbd (rc 3 [] s13) fun _ s14 =>
  zbd (f9_step k r2 (0 : Int32) s14) fun _ s15 =>
  some ((), s15))
  else (
  some ((), s2)))))
  else (
  some ((), s2))
theorem c9_compares (l : Launch) (g : ZG) {F Lo : Nat} {k : Nat} (hF : 3 ≤ F ∧ 104 ≤ Lo) {rc : Nat → List Int32 → ZS → Option (Int32 × ZS)} (hrc : zGPA l g F Lo rc)  {σ : ZS} {r : Unit} {σr : ZS} (hf : f9_compares k rc  σ = some (r, σr)) : zT l g y9_compares b9_compares 2 none (F + 1) (Lo + 22) [zr 103] σ none σr := by
  unfold f9_compares at hf
  refine zT_start (own := R9) rfl (by decide +kernel) 1 (L := [some (zr 103), none]) rfl rfl (fun x hl C => ?_)
  subst hl
  refine z_aload_n C d9_compares_0 rfl ?_
  obtain ⟨r1, s1, h1, hf⟩ := zbx hf
  refine z_callVv C (as := []) d9_compares_1 w_1065 yy9_sum (hrc.2.2.2.1 _ _ _ h1) yc9_sum kZ_103 rfl rfl (Nat.le_of_ble_eq_true rfl) ⟨by omega, by omega⟩ ⟨Nat.zero_le _, Nat.zero_le _⟩ ?_
  refine z_aload_n C d9_compares_4 rfl ?_
  obtain ⟨r2, s2, h2, hf⟩ := zbx hf
  refine z_callVi C (as := []) d9_compares_5 w_1077 yy9_byteHere (c9_byteHere x.2.1 g h2) yc9_byteHere kZ_103 rfl rfl (Nat.le_of_ble_eq_true rfl) ⟨by omega, by omega⟩ ⟨Nat.zero_le _, Nat.zero_le _⟩ ?_
  refine z_istore_n C d9_compares_8 (Nat.le_of_ble_eq_true rfl) rfl (L' := [some (zr 103), some (zi r2)]) rfl ?_
  refine z_aload_n C d9_compares_9 rfl ?_
  refine z_getI C d9_compares_10 fl_838 kZ_103 ?_
  refine z_if_ne C d9_compares_13 (fun c3 => ?_) (fun c3 => ?_)
  · have hf := zit c3 hf
    refine z_iload_n C d9_compares_16 rfl ?_
    refine z_bipush C (60 : Int32) d9_compares_17 kB_60 ?_
    refine z_icmp_eq C d9_compares_19 (fun c4 => ?_) (fun c4 => ?_)
    · have hf := zit c4 hf
      refine z_aload_n C d9_compares_34 rfl ?_
      refine z_dup C d9_compares_35 rfl ?_
      refine z_getI C d9_compares_36 fl_836 kZ_103 ?_
      refine z_iconst C (1 : Int32) d9_compares_39 kI_1 ?_
      refine z_iadd C d9_compares_40 ?_
      obtain ⟨s5, e5, hf⟩ := zpx hf
      refine z_putI C d9_compares_41 fl_836 ft_9_19 kZ_103 e5 ?_
      refine z_aload_n C d9_compares_44 rfl ?_
      obtain ⟨r6, s6, h6, hf⟩ := zbx hf
      refine z_callVv C (as := []) d9_compares_45 w_1065 yy9_sum (hrc.2.2.2.1 _ _ _ h6) yc9_sum kZ_103 rfl rfl (Nat.le_of_ble_eq_true rfl) ⟨by omega, by omega⟩ ⟨Nat.zero_le _, Nat.zero_le _⟩ ?_
      refine z_aload_n C d9_compares_48 rfl ?_
      refine z_iload_n C d9_compares_49 rfl ?_
      refine z_iconst C (0 : Int32) d9_compares_50 kI_0 ?_
      obtain ⟨r7, s7, h7, hf⟩ := zbx hf
      refine z_callVv C (as := [zi r2, zi (0 : Int32)]) d9_compares_51 w_1085 yy9_step (c9_step x.2.1 g h7) yc9_step kZ_103 rfl rfl (Nat.le_of_ble_eq_true rfl) ⟨by omega, by omega⟩ ⟨Nat.zero_le _, Nat.zero_le _⟩ ?_
      exact z_vret C d9_compares_54 hf
    · have hf := zie c4 hf
      refine z_iload_n C d9_compares_22 rfl ?_
      refine z_bipush C (61 : Int32) d9_compares_23 kB_61 ?_
      refine z_icmp_eq C d9_compares_25 (fun c8 => ?_) (fun c8 => ?_)
      · have hf := zit c8 hf
        refine z_aload_n C d9_compares_34 rfl ?_
        refine z_dup C d9_compares_35 rfl ?_
        refine z_getI C d9_compares_36 fl_836 kZ_103 ?_
        refine z_iconst C (1 : Int32) d9_compares_39 kI_1 ?_
        refine z_iadd C d9_compares_40 ?_
        obtain ⟨s9, e9, hf⟩ := zpx hf
        refine z_putI C d9_compares_41 fl_836 ft_9_19 kZ_103 e9 ?_
        refine z_aload_n C d9_compares_44 rfl ?_
        obtain ⟨r10, s10, h10, hf⟩ := zbx hf
        refine z_callVv C (as := []) d9_compares_45 w_1065 yy9_sum (hrc.2.2.2.1 _ _ _ h10) yc9_sum kZ_103 rfl rfl (Nat.le_of_ble_eq_true rfl) ⟨by omega, by omega⟩ ⟨Nat.zero_le _, Nat.zero_le _⟩ ?_
        refine z_aload_n C d9_compares_48 rfl ?_
        refine z_iload_n C d9_compares_49 rfl ?_
        refine z_iconst C (0 : Int32) d9_compares_50 kI_0 ?_
        obtain ⟨r11, s11, h11, hf⟩ := zbx hf
        refine z_callVv C (as := [zi r2, zi (0 : Int32)]) d9_compares_51 w_1085 yy9_step (c9_step x.2.1 g h11) yc9_step kZ_103 rfl rfl (Nat.le_of_ble_eq_true rfl) ⟨by omega, by omega⟩ ⟨Nat.zero_le _, Nat.zero_le _⟩ ?_
        exact z_vret C d9_compares_54 hf
      · have hf := zie c8 hf
        refine z_iload_n C d9_compares_28 rfl ?_
        refine z_bipush C (62 : Int32) d9_compares_29 kB_62 ?_
        refine z_icmp_ne C d9_compares_31 (fun c12 => ?_) (fun c12 => ?_)
        · have hf := zit c12 hf
          refine z_aload_n C d9_compares_34 rfl ?_
          refine z_dup C d9_compares_35 rfl ?_
          refine z_getI C d9_compares_36 fl_836 kZ_103 ?_
          refine z_iconst C (1 : Int32) d9_compares_39 kI_1 ?_
          refine z_iadd C d9_compares_40 ?_
          obtain ⟨s13, e13, hf⟩ := zpx hf
          refine z_putI C d9_compares_41 fl_836 ft_9_19 kZ_103 e13 ?_
          refine z_aload_n C d9_compares_44 rfl ?_
          obtain ⟨r14, s14, h14, hf⟩ := zbx hf
          refine z_callVv C (as := []) d9_compares_45 w_1065 yy9_sum (hrc.2.2.2.1 _ _ _ h14) yc9_sum kZ_103 rfl rfl (Nat.le_of_ble_eq_true rfl) ⟨by omega, by omega⟩ ⟨Nat.zero_le _, Nat.zero_le _⟩ ?_
          refine z_aload_n C d9_compares_48 rfl ?_
          refine z_iload_n C d9_compares_49 rfl ?_
          refine z_iconst C (0 : Int32) d9_compares_50 kI_0 ?_
          obtain ⟨r15, s15, h15, hf⟩ := zbx hf
          refine z_callVv C (as := [zi r2, zi (0 : Int32)]) d9_compares_51 w_1085 yy9_step (c9_step x.2.1 g h15) yc9_step kZ_103 rfl rfl (Nat.le_of_ble_eq_true rfl) ⟨by omega, by omega⟩ ⟨Nat.zero_le _, Nat.zero_le _⟩ ?_
          exact z_vret C d9_compares_54 hf
        · have hf := zie c12 hf
          exact z_vret C d9_compares_54 hf
  · have hf := zie c3 hf
    exact z_vret C d9_compares_54 hf
def b9_all_4 (k : Nat) (rc : Nat → List Int32 → ZS → Option (Int32 × ZS)) (q4 : ZS → Option (Unit × ZS))  (σ : ZS) : Option (Unit × ZS) :=
  if (σ 103 21) = 0 then (
  zbd (f9_byteHere k σ) fun r2 s2 =>
  if r2 = (38 : Int32) then (
  zput (zu s2 103 19 ((s2 103 19) + (1 : Int32))) fun s4 =>
  zbd (rc 4 [] s4) fun _ s5 =>
  zbd (f9_step k (38 : Int32) (0 : Int32) s5) fun _ s6 =>
  q4 s6)
  else (
  some ((), s2)))
  else (
  some ((), σ))
def f9_all_4 (k : Nat) (rc : Nat → List Int32 → ZS → Option (Int32 × ZS)) : Nat → ZS → Option (Unit × ZS)
  | 0 => fun  _ => none
  | n + 1 => b9_all_4 k rc  (f9_all_4 k rc  n)
theorem j9_all_4 {x : ZX} {g : ZG} {F Lo : Nat} (C : zC x g b9_all R9 none 1 (F + 1) (Lo + 22)) {k : Nat} (hF : 3 ≤ F ∧ 104 ≤ Lo) {rc : Nat → List Int32 → ZS → Option (Int32 × ZS)} (hrc : zGPA x.2.1 g F Lo rc) {r : Unit} {σr : ZS}  {q4 : ZS → Option (Unit × ZS)} (hq4 : (∀  (σ : ZS), q4  σ = some (r, σr) → zw x g 1 0 0 (zMQ x g none σr) σ 4 [some (zr 103)] []))  {σ : ZS} (hf : b9_all_4 k rc q4  σ = some (r, σr)) : zw x g 1 0 0 (zMQ x g none σr) σ 4 [some (zr 103)] [] := by
  unfold b9_all_4 at hf
  refine z_aload_n C d9_all_4 rfl ?_
  refine z_getI C d9_all_5 fl_838 kZ_103 ?_
  refine z_if_ne C d9_all_8 (fun c1 => ?_) (fun c1 => ?_)
  · have hf := zit c1 hf
    refine z_aload_n C d9_all_11 rfl ?_
    obtain ⟨r2, s2, h2, hf⟩ := zbx hf
    refine z_callVi C (as := []) d9_all_12 w_1077 yy9_byteHere (c9_byteHere x.2.1 g h2) yc9_byteHere kZ_103 rfl rfl (Nat.le_of_ble_eq_true rfl) ⟨by omega, by omega⟩ ⟨Nat.zero_le _, Nat.zero_le _⟩ ?_
    refine z_bipush C (38 : Int32) d9_all_15 kB_38 ?_
    refine z_icmp_ne C d9_all_17 (fun c3 => ?_) (fun c3 => ?_)
    · have hf := zit c3 hf
      refine z_aload_n C d9_all_20 rfl ?_
      refine z_dup C d9_all_21 rfl ?_
      refine z_getI C d9_all_22 fl_836 kZ_103 ?_
      refine z_iconst C (1 : Int32) d9_all_25 kI_1 ?_
      refine z_iadd C d9_all_26 ?_
      obtain ⟨s4, e4, hf⟩ := zpx hf
      refine z_putI C d9_all_27 fl_836 ft_9_19 kZ_103 e4 ?_
      refine z_aload_n C d9_all_30 rfl ?_
      obtain ⟨r5, s5, h5, hf⟩ := zbx hf
      refine z_callVv C (as := []) d9_all_31 w_1061 yy9_compares (hrc.2.2.2.2.1 _ _ _ h5) yc9_compares kZ_103 rfl rfl (Nat.le_of_ble_eq_true rfl) ⟨by omega, by omega⟩ ⟨Nat.zero_le _, Nat.zero_le _⟩ ?_
      refine z_aload_n C d9_all_34 rfl ?_
      refine z_bipush C (38 : Int32) d9_all_35 kB_38 ?_
      refine z_iconst C (0 : Int32) d9_all_37 kI_0 ?_
      obtain ⟨r6, s6, h6, hf⟩ := zbx hf
      refine z_callVv C (as := [zi (38 : Int32), zi (0 : Int32)]) d9_all_38 w_1085 yy9_step (c9_step x.2.1 g h6) yc9_step kZ_103 rfl rfl (Nat.le_of_ble_eq_true rfl) ⟨by omega, by omega⟩ ⟨Nat.zero_le _, Nat.zero_le _⟩ ?_
      refine z_goto C d9_all_41 ?_
      exact hq4 _ hf
    · have hf := zie c3 hf
      exact z_vret C d9_all_44 hf
  · have hf := zie c1 hf
    exact z_vret C d9_all_44 hf
theorem j9_all_4l {x : ZX} {g : ZG} {F Lo : Nat} (C : zC x g b9_all R9 none 1 (F + 1) (Lo + 22)) {k : Nat} (hF : 3 ≤ F ∧ 104 ≤ Lo) {rc : Nat → List Int32 → ZS → Option (Int32 × ZS)} (hrc : zGPA x.2.1 g F Lo rc) {r : Unit} {σr : ZS}  : ∀ (n : Nat)  (σ : ZS), f9_all_4 k rc  n  σ = some (r, σr) → zw x g 1 0 0 (zMQ x g none σr) σ 4 [some (zr 103)] [] := by
  intro n
  induction n with
  | zero => intro  σ hf; exact absurd (show none = some (r, σr) from hf) (fun z => by cases z)
  | succ n ih => intro  σ hf; exact j9_all_4 C hF hrc  ih (show b9_all_4 k rc  (f9_all_4 k rc  n)  σ = some (r, σr) from hf)
def f9_all (k : Nat) (rc : Nat → List Int32 → ZS → Option (Int32 × ZS))  (σ : ZS) : Option (Unit × ZS) :=
  zbd (rc 4 [] σ) fun _ s1 =>
  f9_all_4 k rc  k s1
theorem c9_all (l : Launch) (g : ZG) {F Lo : Nat} {k : Nat} (hF : 3 ≤ F ∧ 104 ≤ Lo) {rc : Nat → List Int32 → ZS → Option (Int32 × ZS)} (hrc : zGPA l g F Lo rc)  {σ : ZS} {r : Unit} {σr : ZS} (hf : f9_all k rc  σ = some (r, σr)) : zT l g y9_all b9_all 1 none (F + 1) (Lo + 22) [zr 103] σ none σr := by
  unfold f9_all at hf
  refine zT_start (own := R9) rfl (by decide +kernel) 0 (L := [some (zr 103)]) rfl rfl (fun x hl C => ?_)
  subst hl
  refine z_aload_n C d9_all_0 rfl ?_
  obtain ⟨r1, s1, h1, hf⟩ := zbx hf
  refine z_callVv C (as := []) d9_all_1 w_1061 yy9_compares (hrc.2.2.2.2.1 _ _ _ h1) yc9_compares kZ_103 rfl rfl (Nat.le_of_ble_eq_true rfl) ⟨by omega, by omega⟩ ⟨Nat.zero_le _, Nat.zero_le _⟩ ?_
  exact j9_all_4l C hF hrc  _ _ hf
def b9_any_4 (k : Nat) (rc : Nat → List Int32 → ZS → Option (Int32 × ZS)) (q4 : ZS → Option (Unit × ZS))  (σ : ZS) : Option (Unit × ZS) :=
  if (σ 103 21) = 0 then (
  zbd (f9_byteHere k σ) fun r2 s2 =>
  if r2 = (124 : Int32) then (
  zput (zu s2 103 19 ((s2 103 19) + (1 : Int32))) fun s4 =>
  zbd (rc 5 [] s4) fun _ s5 =>
  zbd (f9_step k (124 : Int32) (0 : Int32) s5) fun _ s6 =>
  q4 s6)
  else (
  some ((), s2)))
  else (
  some ((), σ))
def f9_any_4 (k : Nat) (rc : Nat → List Int32 → ZS → Option (Int32 × ZS)) : Nat → ZS → Option (Unit × ZS)
  | 0 => fun  _ => none
  | n + 1 => b9_any_4 k rc  (f9_any_4 k rc  n)
theorem j9_any_4 {x : ZX} {g : ZG} {F Lo : Nat} (C : zC x g b9_any R9 none 1 (F + 1) (Lo + 22)) {k : Nat} (hF : 3 ≤ F ∧ 104 ≤ Lo) {rc : Nat → List Int32 → ZS → Option (Int32 × ZS)} (hrc : zGPA x.2.1 g F Lo rc) {r : Unit} {σr : ZS}  {q4 : ZS → Option (Unit × ZS)} (hq4 : (∀  (σ : ZS), q4  σ = some (r, σr) → zw x g 1 0 0 (zMQ x g none σr) σ 4 [some (zr 103)] []))  {σ : ZS} (hf : b9_any_4 k rc q4  σ = some (r, σr)) : zw x g 1 0 0 (zMQ x g none σr) σ 4 [some (zr 103)] [] := by
  unfold b9_any_4 at hf
  refine z_aload_n C d9_any_4 rfl ?_
  refine z_getI C d9_any_5 fl_838 kZ_103 ?_
  refine z_if_ne C d9_any_8 (fun c1 => ?_) (fun c1 => ?_)
  · have hf := zit c1 hf
    refine z_aload_n C d9_any_11 rfl ?_
    obtain ⟨r2, s2, h2, hf⟩ := zbx hf
    refine z_callVi C (as := []) d9_any_12 w_1077 yy9_byteHere (c9_byteHere x.2.1 g h2) yc9_byteHere kZ_103 rfl rfl (Nat.le_of_ble_eq_true rfl) ⟨by omega, by omega⟩ ⟨Nat.zero_le _, Nat.zero_le _⟩ ?_
    refine z_bipush C (124 : Int32) d9_any_15 kB_124 ?_
    refine z_icmp_ne C d9_any_17 (fun c3 => ?_) (fun c3 => ?_)
    · have hf := zit c3 hf
      refine z_aload_n C d9_any_20 rfl ?_
      refine z_dup C d9_any_21 rfl ?_
      refine z_getI C d9_any_22 fl_836 kZ_103 ?_
      refine z_iconst C (1 : Int32) d9_any_25 kI_1 ?_
      refine z_iadd C d9_any_26 ?_
      obtain ⟨s4, e4, hf⟩ := zpx hf
      refine z_putI C d9_any_27 fl_836 ft_9_19 kZ_103 e4 ?_
      refine z_aload_n C d9_any_30 rfl ?_
      obtain ⟨r5, s5, h5, hf⟩ := zbx hf
      refine z_callVv C (as := []) d9_any_31 w_1057 yy9_all (hrc.2.2.2.2.2.1 _ _ _ h5) yc9_all kZ_103 rfl rfl (Nat.le_of_ble_eq_true rfl) ⟨by omega, by omega⟩ ⟨Nat.zero_le _, Nat.zero_le _⟩ ?_
      refine z_aload_n C d9_any_34 rfl ?_
      refine z_bipush C (124 : Int32) d9_any_35 kB_124 ?_
      refine z_iconst C (0 : Int32) d9_any_37 kI_0 ?_
      obtain ⟨r6, s6, h6, hf⟩ := zbx hf
      refine z_callVv C (as := [zi (124 : Int32), zi (0 : Int32)]) d9_any_38 w_1085 yy9_step (c9_step x.2.1 g h6) yc9_step kZ_103 rfl rfl (Nat.le_of_ble_eq_true rfl) ⟨by omega, by omega⟩ ⟨Nat.zero_le _, Nat.zero_le _⟩ ?_
      refine z_goto C d9_any_41 ?_
      exact hq4 _ hf
    · have hf := zie c3 hf
      exact z_vret C d9_any_44 hf
  · have hf := zie c1 hf
    exact z_vret C d9_any_44 hf
theorem j9_any_4l {x : ZX} {g : ZG} {F Lo : Nat} (C : zC x g b9_any R9 none 1 (F + 1) (Lo + 22)) {k : Nat} (hF : 3 ≤ F ∧ 104 ≤ Lo) {rc : Nat → List Int32 → ZS → Option (Int32 × ZS)} (hrc : zGPA x.2.1 g F Lo rc) {r : Unit} {σr : ZS}  : ∀ (n : Nat)  (σ : ZS), f9_any_4 k rc  n  σ = some (r, σr) → zw x g 1 0 0 (zMQ x g none σr) σ 4 [some (zr 103)] [] := by
  intro n
  induction n with
  | zero => intro  σ hf; exact absurd (show none = some (r, σr) from hf) (fun z => by cases z)
  | succ n ih => intro  σ hf; exact j9_any_4 C hF hrc  ih (show b9_any_4 k rc  (f9_any_4 k rc  n)  σ = some (r, σr) from hf)
def f9_any (k : Nat) (rc : Nat → List Int32 → ZS → Option (Int32 × ZS))  (σ : ZS) : Option (Unit × ZS) :=
  zbd (rc 5 [] σ) fun _ s1 =>
  f9_any_4 k rc  k s1
theorem c9_any (l : Launch) (g : ZG) {F Lo : Nat} {k : Nat} (hF : 3 ≤ F ∧ 104 ≤ Lo) {rc : Nat → List Int32 → ZS → Option (Int32 × ZS)} (hrc : zGPA l g F Lo rc)  {σ : ZS} {r : Unit} {σr : ZS} (hf : f9_any k rc  σ = some (r, σr)) : zT l g y9_any b9_any 1 none (F + 1) (Lo + 22) [zr 103] σ none σr := by
  unfold f9_any at hf
  refine zT_start (own := R9) rfl (by decide +kernel) 0 (L := [some (zr 103)]) rfl rfl (fun x hl C => ?_)
  subst hl
  refine z_aload_n C d9_any_0 rfl ?_
  obtain ⟨r1, s1, h1, hf⟩ := zbx hf
  refine z_callVv C (as := []) d9_any_1 w_1057 yy9_all (hrc.2.2.2.2.2.1 _ _ _ h1) yc9_all kZ_103 rfl rfl (Nat.le_of_ble_eq_true rfl) ⟨by omega, by omega⟩ ⟨Nat.zero_le _, Nat.zero_le _⟩ ?_
  exact j9_any_4l C hF hrc  _ _ hf
def fPA (k : Nat) : Nat → Nat → List Int32 → ZS → Option (Int32 × ZS)
  | 0, _, _, _ => none
  | d + 1, 0, [a0], σ => zbd (f9_opens k (fPA k d) a0 σ) fun _ s => some (0, s)
  | d + 1, 1, [], σ => zbd (f9_one k (fPA k d)  σ) fun _ s => some (0, s)
  | d + 1, 2, [], σ => zbd (f9_times k (fPA k d)  σ) fun _ s => some (0, s)
  | d + 1, 3, [], σ => zbd (f9_sum k (fPA k d)  σ) fun _ s => some (0, s)
  | d + 1, 4, [], σ => zbd (f9_compares k (fPA k d)  σ) fun _ s => some (0, s)
  | d + 1, 5, [], σ => zbd (f9_all k (fPA k d)  σ) fun _ s => some (0, s)
  | d + 1, 6, [], σ => zbd (f9_any k (fPA k d)  σ) fun _ s => some (0, s)
  | _ + 1, _, _, _ => none
theorem cPA (l : Launch) (g : ZG) (k : Nat) : ∀ d : Nat, zGPA l g (3 + d) (104 + 22 * d) (fPA k d)
  | 0 => ⟨(fun _ _ _ _ h => nomatch (show none = some _ from h)), (fun  _ _ _ h => nomatch (show none = some _ from h)), (fun  _ _ _ h => nomatch (show none = some _ from h)), (fun  _ _ _ h => nomatch (show none = some _ from h)), (fun  _ _ _ h => nomatch (show none = some _ from h)), (fun  _ _ _ h => nomatch (show none = some _ from h)), (fun  _ _ _ h => nomatch (show none = some _ from h))⟩
  | d + 1 => by
    have ih := cPA l g k d
    have hF : 3 ≤ 3 + d ∧ 104 ≤ 104 + 22 * d := ⟨by omega, by omega⟩
    refine ⟨?_, ?_, ?_, ?_, ?_, ?_, ?_⟩
    · intro a0 σ r σr h
      obtain ⟨u, s, h1, h2⟩ := zbx (show zbd (f9_opens k (fPA k d) a0 σ) (fun _ s => some ((0 : Int32), s)) = some (r, σr) from h)
      cases h2
      exact c9_opens l g hF ih h1
    · intro  σ r σr h
      obtain ⟨u, s, h1, h2⟩ := zbx (show zbd (f9_one k (fPA k d)  σ) (fun _ s => some ((0 : Int32), s)) = some (r, σr) from h)
      cases h2
      exact c9_one l g hF ih h1
    · intro  σ r σr h
      obtain ⟨u, s, h1, h2⟩ := zbx (show zbd (f9_times k (fPA k d)  σ) (fun _ s => some ((0 : Int32), s)) = some (r, σr) from h)
      cases h2
      exact c9_times l g hF ih h1
    · intro  σ r σr h
      obtain ⟨u, s, h1, h2⟩ := zbx (show zbd (f9_sum k (fPA k d)  σ) (fun _ s => some ((0 : Int32), s)) = some (r, σr) from h)
      cases h2
      exact c9_sum l g hF ih h1
    · intro  σ r σr h
      obtain ⟨u, s, h1, h2⟩ := zbx (show zbd (f9_compares k (fPA k d)  σ) (fun _ s => some ((0 : Int32), s)) = some (r, σr) from h)
      cases h2
      exact c9_compares l g hF ih h1
    · intro  σ r σr h
      obtain ⟨u, s, h1, h2⟩ := zbx (show zbd (f9_all k (fPA k d)  σ) (fun _ s => some ((0 : Int32), s)) = some (r, σr) from h)
      cases h2
      exact c9_all l g hF ih h1
    · intro  σ r σr h
      obtain ⟨u, s, h1, h2⟩ := zbx (show zbd (f9_any k (fPA k d)  σ) (fun _ s => some ((0 : Int32), s)) = some (r, σr) from h)
      cases h2
      exact c9_any l g hF ih h1
def f9_opensx (k : Nat) (a0 : Int32) (σ : ZS) : Option (Unit × ZS) := zbd (fPA k 80 0 [a0] σ) fun _ s => some ((), s)
theorem c9_opensx (l : Launch) (g : ZG) {k : Nat} {a0 : Int32} {σ : ZS} {r : Unit} {σr : ZS} (hf : f9_opensx k a0 σ = some (r, σr)) : zT l g y9_opens b9_opens 2 none 83 1864 [zr 103, zi a0] σ none σr := by
  obtain ⟨u, s, h1, h2⟩ := zbx hf
  cases h2
  exact (cPA l g k 80).1 _ _ _ _ h1
def f9_onex (k : Nat)  (σ : ZS) : Option (Unit × ZS) := zbd (fPA k 80 1 [] σ) fun _ s => some ((), s)
theorem c9_onex (l : Launch) (g : ZG) {k : Nat}  {σ : ZS} {r : Unit} {σr : ZS} (hf : f9_onex k  σ = some (r, σr)) : zT l g y9_one b9_one 3 none 83 1864 [zr 103] σ none σr := by
  obtain ⟨u, s, h1, h2⟩ := zbx hf
  cases h2
  exact (cPA l g k 80).2.1  _ _ _ h1
def f9_timesx (k : Nat)  (σ : ZS) : Option (Unit × ZS) := zbd (fPA k 80 2 [] σ) fun _ s => some ((), s)
theorem c9_timesx (l : Launch) (g : ZG) {k : Nat}  {σ : ZS} {r : Unit} {σr : ZS} (hf : f9_timesx k  σ = some (r, σr)) : zT l g y9_times b9_times 2 none 83 1864 [zr 103] σ none σr := by
  obtain ⟨u, s, h1, h2⟩ := zbx hf
  cases h2
  exact (cPA l g k 80).2.2.1  _ _ _ h1
def f9_sumx (k : Nat)  (σ : ZS) : Option (Unit × ZS) := zbd (fPA k 80 3 [] σ) fun _ s => some ((), s)
theorem c9_sumx (l : Launch) (g : ZG) {k : Nat}  {σ : ZS} {r : Unit} {σr : ZS} (hf : f9_sumx k  σ = some (r, σr)) : zT l g y9_sum b9_sum 2 none 83 1864 [zr 103] σ none σr := by
  obtain ⟨u, s, h1, h2⟩ := zbx hf
  cases h2
  exact (cPA l g k 80).2.2.2.1  _ _ _ h1
def f9_comparesx (k : Nat)  (σ : ZS) : Option (Unit × ZS) := zbd (fPA k 80 4 [] σ) fun _ s => some ((), s)
theorem c9_comparesx (l : Launch) (g : ZG) {k : Nat}  {σ : ZS} {r : Unit} {σr : ZS} (hf : f9_comparesx k  σ = some (r, σr)) : zT l g y9_compares b9_compares 2 none 83 1864 [zr 103] σ none σr := by
  obtain ⟨u, s, h1, h2⟩ := zbx hf
  cases h2
  exact (cPA l g k 80).2.2.2.2.1  _ _ _ h1
def f9_allx (k : Nat)  (σ : ZS) : Option (Unit × ZS) := zbd (fPA k 80 5 [] σ) fun _ s => some ((), s)
theorem c9_allx (l : Launch) (g : ZG) {k : Nat}  {σ : ZS} {r : Unit} {σr : ZS} (hf : f9_allx k  σ = some (r, σr)) : zT l g y9_all b9_all 1 none 83 1864 [zr 103] σ none σr := by
  obtain ⟨u, s, h1, h2⟩ := zbx hf
  cases h2
  exact (cPA l g k 80).2.2.2.2.2.1  _ _ _ h1
def f9_anyx (k : Nat)  (σ : ZS) : Option (Unit × ZS) := zbd (fPA k 80 6 [] σ) fun _ s => some ((), s)
theorem c9_anyx (l : Launch) (g : ZG) {k : Nat}  {σ : ZS} {r : Unit} {σr : ZS} (hf : f9_anyx k  σ = some (r, σr)) : zT l g y9_any b9_any 1 none 83 1864 [zr 103] σ none σr := by
  obtain ⟨u, s, h1, h2⟩ := zbx hf
  cases h2
  exact (cPA l g k 80).2.2.2.2.2.2  _ _ _ h1
theorem d9_around_0 : zd b9_around 0 (.iload_n 0) 1 1 := ⟨by decide +kernel, rfl⟩
theorem d9_around_1 : zd b9_around 1 (.iconst 2) 1 2 := ⟨by decide +kernel, rfl⟩
theorem d9_around_2 : zd b9_around 2 .iadd 1 3 := ⟨by decide +kernel, rfl⟩
theorem d9_around_3 : zd b9_around 3 (.iconst 4) 1 4 := ⟨by decide +kernel, rfl⟩
theorem d9_around_4 : zd b9_around 4 .irem 1 5 := ⟨by decide +kernel, rfl⟩
theorem d9_around_5 : zd b9_around 5 .ireturn 1 6 := ⟨by decide +kernel, rfl⟩
def f9_around (k : Nat) (x0 : Int32) (σ : ZS) : Option (Int32 × ZS) :=
  some (((x0 + (2 : Int32)) % (4 : Int32)), σ)
theorem c9_around (l : Launch) (g : ZG) {k : Nat} {x0 : Int32} {σ : ZS} {r : Int32} {σr : ZS} (hf : f9_around k x0 σ = some (r, σr)) : zT l g y9_around b9_around 1 (some .int) 1 60 [zi x0] σ (some (zi r)) σr := by
  unfold f9_around at hf
  refine zT_start (own := R9) rfl (by decide +kernel) 0 (L := [some (zi x0)]) rfl rfl (fun x hl C => ?_)
  subst hl
  refine z_iload_n C d9_around_0 rfl ?_
  refine z_iconst C (2 : Int32) d9_around_1 kI_2 ?_
  refine z_iadd C d9_around_2 ?_
  refine z_iconst C (4 : Int32) d9_around_3 kI_4 ?_
  refine z_irem C d9_around_4 (by decide) ?_
  exact z_iret C d9_around_5 hf
theorem d9_error_0 : zd b9_error 0 (.aload_n 0) 1 1 := ⟨by decide +kernel, rfl⟩
theorem d9_error_1 : zd b9_error 1 (.getfield 19) 3 4 := ⟨by decide +kernel, rfl⟩
theorem d9_error_4 : zd b9_error 4 (.ldc 55) 2 6 := ⟨by decide +kernel, rfl⟩
theorem d9_error_6 : zd b9_error 6 (.iload_n 1) 1 7 := ⟨by decide +kernel, rfl⟩
theorem d9_error_7 : zd b9_error 7 .isub 1 8 := ⟨by decide +kernel, rfl⟩
theorem d9_error_8 : zd b9_error 8 .dup2 1 9 := ⟨by decide +kernel, rfl⟩
theorem d9_error_9 : zd b9_error 9 .iaload 1 10 := ⟨by decide +kernel, rfl⟩
theorem d9_error_10 : zd b9_error 10 (.iconst 1) 1 11 := ⟨by decide +kernel, rfl⟩
theorem d9_error_11 : zd b9_error 11 .iadd 1 12 := ⟨by decide +kernel, rfl⟩
theorem d9_error_12 : zd b9_error 12 .iastore 1 13 := ⟨by decide +kernel, rfl⟩
theorem d9_error_13 : zd b9_error 13 (.iload_n 1) 1 14 := ⟨by decide +kernel, rfl⟩
theorem d9_error_14 : zd b9_error 14 .ireturn 1 15 := ⟨by decide +kernel, rfl⟩
def f9_error (k : Nat) (x1 : Int32) (σ : ZS) : Option (Int32 × ZS) :=
  if zin ((-1000000000 : Int32) - x1) 7 then (
  if zin ((-1000000000 : Int32) - x1) 7 then (
  zput (zu σ 107 (((-1000000000 : Int32) - x1).toNatClampNeg) ((σ 107 ((-1000000000 : Int32) - x1).toNatClampNeg) + (1 : Int32))) fun s3 =>
  some (x1, s3)) else none) else none
theorem c9_error (l : Launch) (g : ZG) {k : Nat} {x1 : Int32} {σ : ZS} {r : Int32} {σr : ZS} (hf : f9_error k x1 σ = some (r, σr)) : zT l g y9_error b9_error 2 (some .int) 1 60 [zr 103, zi x1] σ (some (zi r)) σr := by
  unfold f9_error at hf
  refine zT_start (own := R9) rfl (by decide +kernel) 0 (L := [some (zr 103), some (zi x1)]) rfl rfl (fun x hl C => ?_)
  subst hl
  refine z_aload_n C d9_error_0 rfl ?_
  refine z_getR C d9_error_1 fl_821 kZ_103 107 rfl (zn0 kZ_107) ?_
  refine z_ldc C (-1000000000 : Int32) d9_error_4 w_920 ?_
  refine z_iload_n C d9_error_6 rfl ?_
  refine z_isub C d9_error_7 ?_
  refine z_dup2 C d9_error_8 rfl rfl ?_
  obtain ⟨g1, hf⟩ := zgo hf
  refine z_iald C d9_error_9 kZ_107 kL_107 g1 (((-1000000000 : Int32) - x1).toNatClampNeg) rfl ?_
  refine z_iconst C (1 : Int32) d9_error_10 kI_1 ?_
  refine z_iadd C d9_error_11 ?_
  obtain ⟨g2, hf⟩ := zgo hf
  obtain ⟨s3, e3, hf⟩ := zpx hf
  refine z_iast C d9_error_12 kZ_107 kL_107 g2 rfl e3 ?_
  refine z_iload_n C d9_error_13 rfl ?_
  exact z_iret C d9_error_14 hf
theorem d9_isGlass_0 : zd b9_isGlass 0 (.iload_n 1) 1 1 := ⟨by decide +kernel, rfl⟩
theorem d9_isGlass_1 : zd b9_isGlass 1 (.iconst 0) 1 2 := ⟨by decide +kernel, rfl⟩
theorem d9_isGlass_2 : zd b9_isGlass 2 (.aload_n 0) 1 3 := ⟨by decide +kernel, rfl⟩
theorem d9_isGlass_3 : zd b9_isGlass 3 (.getfield 9) 3 6 := ⟨by decide +kernel, rfl⟩
theorem d9_isGlass_6 : zd b9_isGlass 6 (.iconst 2) 1 7 := ⟨by decide +kernel, rfl⟩
theorem d9_isGlass_7 : zd b9_isGlass 7 .iaload 1 8 := ⟨by decide +kernel, rfl⟩
theorem d9_isGlass_8 : zd b9_isGlass 8 (.iconst 1) 1 9 := ⟨by decide +kernel, rfl⟩
theorem d9_isGlass_9 : zd b9_isGlass 9 .isub 1 10 := ⟨by decide +kernel, rfl⟩
theorem d9_isGlass_10 : zd b9_isGlass 10 (.invokestatic 56) 3 13 := ⟨by decide +kernel, rfl⟩
theorem d9_isGlass_13 : zd b9_isGlass 13 .ireturn 1 14 := ⟨by decide +kernel, rfl⟩
def f9_isGlass (k : Nat) (x1 : Int32) (σ : ZS) : Option (Int32 × ZS) :=
  zbd (f9_in k x1 (0 : Int32) ((σ 104 2) - (1 : Int32)) σ) fun r1 s1 =>
  if zbo r1 then (
  some (r1, s1)) else none
theorem c9_isGlass (l : Launch) (g : ZG) {k : Nat} {x1 : Int32} {σ : ZS} {r : Int32} {σr : ZS} (hf : f9_isGlass k x1 σ = some (r, σr)) : zT l g y9_isGlass b9_isGlass 2 (some .boolean) 2 82 [zr 103, zi x1] σ (some (zi r)) σr := by
  unfold f9_isGlass at hf
  refine zT_start (own := R9) rfl (by decide +kernel) 0 (L := [some (zr 103), some (zi x1)]) rfl rfl (fun x hl C => ?_)
  subst hl
  refine z_iload_n C d9_isGlass_0 rfl ?_
  refine z_iconst C (0 : Int32) d9_isGlass_1 kI_0 ?_
  refine z_aload_n C d9_isGlass_2 rfl ?_
  refine z_getR C d9_isGlass_3 fl_817 kZ_103 104 rfl (zn0 kZ_104) ?_
  refine z_iconst C (2 : Int32) d9_isGlass_6 kI_2 ?_
  refine z_iald C d9_isGlass_7 kZ_104 kL_104 ⟨by decide, by decide⟩ (2) kN_2 ?_
  refine z_iconst C (1 : Int32) d9_isGlass_8 kI_1 ?_
  refine z_isub C d9_isGlass_9 ?_
  obtain ⟨r1, s1, h1, hf⟩ := zbx hf
  refine z_callSi C (as := [zi x1, zi (0 : Int32), zi ((σ 104 2) - (1 : Int32))]) d9_isGlass_10 w_906 yy9_in (c9_in x.2.1 g h1) rfl rfl (Nat.le_of_ble_eq_true rfl) ⟨Nat.le_of_ble_eq_true rfl, Nat.le_of_ble_eq_true rfl⟩ ⟨Nat.zero_le _, Nat.zero_le _⟩ ?_
  obtain ⟨g2, hf⟩ := zgo hf
  exact z_zret C d9_isGlass_13 g2 hf
theorem d9_of_0 : zd b9_of 0 (.aload_n 0) 1 1 := ⟨by decide +kernel, rfl⟩
theorem d9_of_1 : zd b9_of 1 (.getfield 9) 3 4 := ⟨by decide +kernel, rfl⟩
theorem d9_of_4 : zd b9_of 4 (.bipush 6) 2 6 := ⟨by decide +kernel, rfl⟩
theorem d9_of_6 : zd b9_of 6 (.iconst 5) 1 7 := ⟨by decide +kernel, rfl⟩
theorem d9_of_7 : zd b9_of 7 (.iload_n 1) 1 8 := ⟨by decide +kernel, rfl⟩
theorem d9_of_8 : zd b9_of 8 .imul 1 9 := ⟨by decide +kernel, rfl⟩
theorem d9_of_9 : zd b9_of 9 .iadd 1 10 := ⟨by decide +kernel, rfl⟩
theorem d9_of_10 : zd b9_of 10 (.iload_n 2) 1 11 := ⟨by decide +kernel, rfl⟩
theorem d9_of_11 : zd b9_of 11 .iadd 1 12 := ⟨by decide +kernel, rfl⟩
theorem d9_of_12 : zd b9_of 12 .iaload 1 13 := ⟨by decide +kernel, rfl⟩
theorem d9_of_13 : zd b9_of 13 .ireturn 1 14 := ⟨by decide +kernel, rfl⟩
def f9_of (k : Nat) (x1 : Int32) (x2 : Int32) (σ : ZS) : Option (Int32 × ZS) :=
  if zin (((6 : Int32) + ((5 : Int32) * x1)) + x2) 390 then (
  some ((σ 104 (((6 : Int32) + ((5 : Int32) * x1)) + x2).toNatClampNeg), σ)) else none
theorem c9_of (l : Launch) (g : ZG) {k : Nat} {x1 : Int32} {x2 : Int32} {σ : ZS} {r : Int32} {σr : ZS} (hf : f9_of k x1 x2 σ = some (r, σr)) : zT l g y9_of b9_of 3 (some .int) 1 60 [zr 103, zi x1, zi x2] σ (some (zi r)) σr := by
  unfold f9_of at hf
  refine zT_start (own := R9) rfl (by decide +kernel) 0 (L := [some (zr 103), some (zi x1), some (zi x2)]) rfl rfl (fun x hl C => ?_)
  subst hl
  refine z_aload_n C d9_of_0 rfl ?_
  refine z_getR C d9_of_1 fl_817 kZ_103 104 rfl (zn0 kZ_104) ?_
  refine z_bipush C (6 : Int32) d9_of_4 kB_6 ?_
  refine z_iconst C (5 : Int32) d9_of_6 kI_5 ?_
  refine z_iload_n C d9_of_7 rfl ?_
  refine z_imul C d9_of_8 ?_
  refine z_iadd C d9_of_9 ?_
  refine z_iload_n C d9_of_10 rfl ?_
  refine z_iadd C d9_of_11 ?_
  obtain ⟨g1, hf⟩ := zgo hf
  refine z_iald C d9_of_12 kZ_104 kL_104 g1 ((((6 : Int32) + ((5 : Int32) * x1)) + x2).toNatClampNeg) rfl ?_
  exact z_iret C d9_of_13 hf
theorem d9_as_0 : zd b9_as 0 (.aload_n 0) 1 1 := ⟨by decide +kernel, rfl⟩
theorem d9_as_1 : zd b9_as 1 (.iload_n 1) 1 2 := ⟨by decide +kernel, rfl⟩
theorem d9_as_2 : zd b9_as 2 (.invokevirtual 136) 3 5 := ⟨by decide +kernel, rfl⟩
theorem d9_as_5 : zdb b9_as 5 (.ifCond .eq 13) 13 8 18 := ⟨by decide +kernel, rfl, by decide⟩
theorem d9_as_8 : zd b9_as 8 (.iload_n 2) 1 9 := ⟨by decide +kernel, rfl⟩
theorem d9_as_9 : zd b9_as 9 (.iconst 0) 1 10 := ⟨by decide +kernel, rfl⟩
theorem d9_as_10 : zd b9_as 10 (.bipush 6) 2 12 := ⟨by decide +kernel, rfl⟩
theorem d9_as_12 : zd b9_as 12 (.invokestatic 56) 3 15 := ⟨by decide +kernel, rfl⟩
theorem d9_as_15 : zdb b9_as 15 (.ifCond .ne 10) 10 18 25 := ⟨by decide +kernel, rfl, by decide⟩
theorem d9_as_18 : zd b9_as 18 (.aload_n 0) 1 19 := ⟨by decide +kernel, rfl⟩
theorem d9_as_19 : zd b9_as 19 (.ldc 130) 2 21 := ⟨by decide +kernel, rfl⟩
theorem d9_as_21 : zd b9_as 21 (.invokevirtual 131) 3 24 := ⟨by decide +kernel, rfl⟩
theorem d9_as_24 : zd b9_as 24 .ireturn 1 25 := ⟨by decide +kernel, rfl⟩
theorem d9_as_25 : zd b9_as 25 (.aload_n 0) 1 26 := ⟨by decide +kernel, rfl⟩
theorem d9_as_26 : zd b9_as 26 (.iload_n 1) 1 27 := ⟨by decide +kernel, rfl⟩
theorem d9_as_27 : zd b9_as 27 (.iconst 0) 1 28 := ⟨by decide +kernel, rfl⟩
theorem d9_as_28 : zd b9_as 28 (.invokevirtual 60) 3 31 := ⟨by decide +kernel, rfl⟩
theorem d9_as_31 : zd b9_as 31 (.istore_n 3) 1 32 := ⟨by decide +kernel, rfl⟩
theorem d9_as_32 : zd b9_as 32 (.iload_n 2) 1 33 := ⟨by decide +kernel, rfl⟩
theorem d9_as_33 : zdb b9_as 33 (.ifCond .eq 28) 28 36 61 := ⟨by decide +kernel, rfl, by decide⟩
theorem d9_as_36 : zd b9_as 36 (.iload_n 2) 1 37 := ⟨by decide +kernel, rfl⟩
theorem d9_as_37 : zd b9_as 37 (.iload_n 3) 1 38 := ⟨by decide +kernel, rfl⟩
theorem d9_as_38 : zdb b9_as 38 (.if_icmp .eq 23) 23 41 61 := ⟨by decide +kernel, rfl, by decide⟩
theorem d9_as_41 : zd b9_as 41 (.iload_n 2) 1 42 := ⟨by decide +kernel, rfl⟩
theorem d9_as_42 : zd b9_as 42 (.iconst 1) 1 43 := ⟨by decide +kernel, rfl⟩
theorem d9_as_43 : zdb b9_as 43 (.if_icmp .ne 8) 8 46 51 := ⟨by decide +kernel, rfl, by decide⟩
theorem d9_as_46 : zd b9_as 46 (.iload_n 3) 1 47 := ⟨by decide +kernel, rfl⟩
theorem d9_as_47 : zd b9_as 47 (.iconst 4) 1 48 := ⟨by decide +kernel, rfl⟩
theorem d9_as_48 : zdb b9_as 48 (.if_icmp .eq 13) 13 51 61 := ⟨by decide +kernel, rfl, by decide⟩
theorem d9_as_51 : zd b9_as 51 (.iload_n 2) 1 52 := ⟨by decide +kernel, rfl⟩
theorem d9_as_52 : zd b9_as 52 (.iconst 2) 1 53 := ⟨by decide +kernel, rfl⟩
theorem d9_as_53 : zdb b9_as 53 (.if_icmp .ne 12) 12 56 65 := ⟨by decide +kernel, rfl, by decide⟩
theorem d9_as_56 : zd b9_as 56 (.iload_n 3) 1 57 := ⟨by decide +kernel, rfl⟩
theorem d9_as_57 : zd b9_as 57 (.iconst 5) 1 58 := ⟨by decide +kernel, rfl⟩
theorem d9_as_58 : zdb b9_as 58 (.if_icmp .ne 7) 7 61 65 := ⟨by decide +kernel, rfl, by decide⟩
theorem d9_as_61 : zd b9_as 61 (.iconst 1) 1 62 := ⟨by decide +kernel, rfl⟩
theorem d9_as_62 : zdb b9_as 62 (.goto 4) 4 65 66 := ⟨by decide +kernel, rfl, by decide⟩
theorem d9_as_65 : zd b9_as 65 (.iconst 0) 1 66 := ⟨by decide +kernel, rfl⟩
theorem d9_as_66 : zd b9_as 66 (.istore 4) 2 68 := ⟨by decide +kernel, rfl⟩
theorem d9_as_68 : zd b9_as 68 (.iload 4) 2 70 := ⟨by decide +kernel, rfl⟩
theorem d9_as_70 : zdb b9_as 70 (.ifCond .eq 12) 12 73 82 := ⟨by decide +kernel, rfl, by decide⟩
theorem d9_as_73 : zd b9_as 73 (.aload_n 0) 1 74 := ⟨by decide +kernel, rfl⟩
theorem d9_as_74 : zd b9_as 74 (.iload_n 1) 1 75 := ⟨by decide +kernel, rfl⟩
theorem d9_as_75 : zd b9_as 75 (.iconst 1) 1 76 := ⟨by decide +kernel, rfl⟩
theorem d9_as_76 : zd b9_as 76 (.invokevirtual 60) 3 79 := ⟨by decide +kernel, rfl⟩
theorem d9_as_79 : zdb b9_as 79 (.goto 9) 9 82 88 := ⟨by decide +kernel, rfl, by decide⟩
theorem d9_as_82 : zd b9_as 82 (.aload_n 0) 1 83 := ⟨by decide +kernel, rfl⟩
theorem d9_as_83 : zd b9_as 83 (.ldc 142) 2 85 := ⟨by decide +kernel, rfl⟩
theorem d9_as_85 : zd b9_as 85 (.invokevirtual 131) 3 88 := ⟨by decide +kernel, rfl⟩
theorem d9_as_88 : zd b9_as 88 .ireturn 1 89 := ⟨by decide +kernel, rfl⟩
def b9_as_61 (k : Nat) (x1 : Int32) (σ : ZS) : Option (Int32 × ZS) :=
  if (1 : Int32) = 0 then (
  zbd (f9_error k (-1000000005 : Int32) σ) fun r2 s2 =>
  some (r2, s2))
  else (
  zbd (f9_of k x1 (1 : Int32) σ) fun r3 s3 =>
  some (r3, s3))
theorem j9_as_61 {x : ZX} {g : ZG} (C : zC x g b9_as R9 (some .int) 5 3 103) {k : Nat} {r : Int32} {σr : ZS}  {x1 : Int32} {σ : ZS} (hf : b9_as_61 k  x1 σ = some (r, σr)) : zw x g 5 0 0 (zMQ x g (some (zi r)) σr) σ 61 [some (zr 103), some (zi x1), none, none, none] [] := by
  unfold b9_as_61 at hf
  refine z_iconst C (1 : Int32) d9_as_61 kI_1 ?_
  refine z_goto C d9_as_62 ?_
  refine z_istore C d9_as_66 (Nat.le_of_ble_eq_true rfl) rfl (L' := [some (zr 103), some (zi x1), none, none, some (zi (1 : Int32))]) rfl ?_
  refine z_iload C d9_as_68 rfl ?_
  refine z_if_eq C d9_as_70 (fun c1 => ?_) (fun c1 => ?_)
  · have hf := zit c1 hf
    refine z_aload_n C d9_as_82 rfl ?_
    refine z_ldc C (-1000000005 : Int32) d9_as_83 w_969 ?_
    obtain ⟨r2, s2, h2, hf⟩ := zbx hf
    refine z_callVi C (as := [zi (-1000000005 : Int32)]) d9_as_85 w_916 yy9_error (c9_error x.2.1 g h2) yc9_error kZ_103 rfl rfl (Nat.le_of_ble_eq_true rfl) ⟨Nat.le_of_ble_eq_true rfl, Nat.le_of_ble_eq_true rfl⟩ ⟨Nat.zero_le _, Nat.zero_le _⟩ ?_
    exact z_iret C d9_as_88 hf
  · have hf := zie c1 hf
    refine z_aload_n C d9_as_73 rfl ?_
    refine z_iload_n C d9_as_74 rfl ?_
    refine z_iconst C (1 : Int32) d9_as_75 kI_1 ?_
    obtain ⟨r3, s3, h3, hf⟩ := zbx hf
    refine z_callVi C (as := [zi x1, zi (1 : Int32)]) d9_as_76 w_926 yy9_of (c9_of x.2.1 g h3) yc9_of kZ_103 rfl rfl (Nat.le_of_ble_eq_true rfl) ⟨Nat.le_of_ble_eq_true rfl, Nat.le_of_ble_eq_true rfl⟩ ⟨Nat.zero_le _, Nat.zero_le _⟩ ?_
    refine z_goto C d9_as_79 ?_
    exact z_iret C d9_as_88 hf
def b9_as_51 (k : Nat) (x1 : Int32) (x2 : Int32) (x3 : Int32) (σ : ZS) : Option (Int32 × ZS) :=
  if x2 = (2 : Int32) then (
  if x3 = (5 : Int32) then (
  b9_as_61 k  x1 σ)
  else (
  if (0 : Int32) = 0 then (
  zbd (f9_error k (-1000000005 : Int32) σ) fun r4 s4 =>
  some (r4, s4))
  else (
  zbd (f9_of k x1 (1 : Int32) σ) fun r5 s5 =>
  some (r5, s5))))
  else (
  if (0 : Int32) = 0 then (
  zbd (f9_error k (-1000000005 : Int32) σ) fun r7 s7 =>
  some (r7, s7))
  else (
  zbd (f9_of k x1 (1 : Int32) σ) fun r8 s8 =>
  some (r8, s8)))
theorem j9_as_51 {x : ZX} {g : ZG} (C : zC x g b9_as R9 (some .int) 5 3 103) {k : Nat} {r : Int32} {σr : ZS}  {x1 : Int32} {x2 : Int32} {x3 : Int32} {σ : ZS} (hf : b9_as_51 k  x1 x2 x3 σ = some (r, σr)) : zw x g 5 0 0 (zMQ x g (some (zi r)) σr) σ 51 [some (zr 103), some (zi x1), some (zi x2), some (zi x3), none] [] := by
  unfold b9_as_51 at hf
  refine z_iload_n C d9_as_51 rfl ?_
  refine z_iconst C (2 : Int32) d9_as_52 kI_2 ?_
  refine z_icmp_ne C d9_as_53 (fun c1 => ?_) (fun c1 => ?_)
  · have hf := zit c1 hf
    refine z_iload_n C d9_as_56 rfl ?_
    refine z_iconst C (5 : Int32) d9_as_57 kI_5 ?_
    refine z_icmp_ne C d9_as_58 (fun c2 => ?_) (fun c2 => ?_)
    · have hf := zit c2 hf
      refine z_drop [true, true, false, false, false] (L' := [some (zr 103), some (zi x1), none, none, none]) rfl ?_
      exact j9_as_61 C  hf
    · have hf := zie c2 hf
      refine z_iconst C (0 : Int32) d9_as_65 kI_0 ?_
      refine z_istore C d9_as_66 (Nat.le_of_ble_eq_true rfl) rfl (L' := [some (zr 103), some (zi x1), some (zi x2), some (zi x3), some (zi (0 : Int32))]) rfl ?_
      refine z_iload C d9_as_68 rfl ?_
      refine z_if_eq C d9_as_70 (fun c3 => ?_) (fun c3 => ?_)
      · have hf := zit c3 hf
        refine z_aload_n C d9_as_82 rfl ?_
        refine z_ldc C (-1000000005 : Int32) d9_as_83 w_969 ?_
        obtain ⟨r4, s4, h4, hf⟩ := zbx hf
        refine z_callVi C (as := [zi (-1000000005 : Int32)]) d9_as_85 w_916 yy9_error (c9_error x.2.1 g h4) yc9_error kZ_103 rfl rfl (Nat.le_of_ble_eq_true rfl) ⟨Nat.le_of_ble_eq_true rfl, Nat.le_of_ble_eq_true rfl⟩ ⟨Nat.zero_le _, Nat.zero_le _⟩ ?_
        exact z_iret C d9_as_88 hf
      · have hf := zie c3 hf
        refine z_aload_n C d9_as_73 rfl ?_
        refine z_iload_n C d9_as_74 rfl ?_
        refine z_iconst C (1 : Int32) d9_as_75 kI_1 ?_
        obtain ⟨r5, s5, h5, hf⟩ := zbx hf
        refine z_callVi C (as := [zi x1, zi (1 : Int32)]) d9_as_76 w_926 yy9_of (c9_of x.2.1 g h5) yc9_of kZ_103 rfl rfl (Nat.le_of_ble_eq_true rfl) ⟨Nat.le_of_ble_eq_true rfl, Nat.le_of_ble_eq_true rfl⟩ ⟨Nat.zero_le _, Nat.zero_le _⟩ ?_
        refine z_goto C d9_as_79 ?_
        exact z_iret C d9_as_88 hf
  · have hf := zie c1 hf
    refine z_iconst C (0 : Int32) d9_as_65 kI_0 ?_
    refine z_istore C d9_as_66 (Nat.le_of_ble_eq_true rfl) rfl (L' := [some (zr 103), some (zi x1), some (zi x2), some (zi x3), some (zi (0 : Int32))]) rfl ?_
    refine z_iload C d9_as_68 rfl ?_
    refine z_if_eq C d9_as_70 (fun c6 => ?_) (fun c6 => ?_)
    · have hf := zit c6 hf
      refine z_aload_n C d9_as_82 rfl ?_
      refine z_ldc C (-1000000005 : Int32) d9_as_83 w_969 ?_
      obtain ⟨r7, s7, h7, hf⟩ := zbx hf
      refine z_callVi C (as := [zi (-1000000005 : Int32)]) d9_as_85 w_916 yy9_error (c9_error x.2.1 g h7) yc9_error kZ_103 rfl rfl (Nat.le_of_ble_eq_true rfl) ⟨Nat.le_of_ble_eq_true rfl, Nat.le_of_ble_eq_true rfl⟩ ⟨Nat.zero_le _, Nat.zero_le _⟩ ?_
      exact z_iret C d9_as_88 hf
    · have hf := zie c6 hf
      refine z_aload_n C d9_as_73 rfl ?_
      refine z_iload_n C d9_as_74 rfl ?_
      refine z_iconst C (1 : Int32) d9_as_75 kI_1 ?_
      obtain ⟨r8, s8, h8, hf⟩ := zbx hf
      refine z_callVi C (as := [zi x1, zi (1 : Int32)]) d9_as_76 w_926 yy9_of (c9_of x.2.1 g h8) yc9_of kZ_103 rfl rfl (Nat.le_of_ble_eq_true rfl) ⟨Nat.le_of_ble_eq_true rfl, Nat.le_of_ble_eq_true rfl⟩ ⟨Nat.zero_le _, Nat.zero_le _⟩ ?_
      refine z_goto C d9_as_79 ?_
      exact z_iret C d9_as_88 hf
def f9_as (k : Nat) (x1 : Int32) (x2 : Int32) (σ : ZS) : Option (Int32 × ZS) :=
  zbd (f9_isGlass k x1 σ) fun r1 s1 =>
  if r1 = 0 then (
  zbd (f9_error k (-1000000001 : Int32) s1) fun r3 s3 =>
  some (r3, s3))
  else (
  zbd (f9_in k x2 (0 : Int32) (6 : Int32) s1) fun r4 s4 =>
  if r4 = 0 then (
  zbd (f9_error k (-1000000001 : Int32) s4) fun r6 s6 =>
  some (r6, s6))
  else (
  zbd (f9_of k x1 (0 : Int32) s4) fun r7 s7 =>
  if x2 = 0 then (
  b9_as_61 k  x1 s7)
  else (
  if x2 = r7 then (
  b9_as_61 k  x1 s7)
  else (
  if x2 = (1 : Int32) then (
  if r7 = (4 : Int32) then (
  b9_as_61 k  x1 s7)
  else (
  b9_as_51 k  x1 x2 r7 s7))
  else (
  b9_as_51 k  x1 x2 r7 s7)))))
theorem c9_as (l : Launch) (g : ZG) {k : Nat} {x1 : Int32} {x2 : Int32} {σ : ZS} {r : Int32} {σr : ZS} (hf : f9_as k x1 x2 σ = some (r, σr)) : zT l g y9_as b9_as 5 (some .int) 3 103 [zr 103, zi x1, zi x2] σ (some (zi r)) σr := by
  unfold f9_as at hf
  refine zT_start (own := R9) rfl (by decide +kernel) 2 (L := [some (zr 103), some (zi x1), some (zi x2), none, none]) rfl rfl (fun x hl C => ?_)
  subst hl
  refine z_aload_n C d9_as_0 rfl ?_
  refine z_iload_n C d9_as_1 rfl ?_
  obtain ⟨r1, s1, h1, hf⟩ := zbx hf
  refine z_callVi C (as := [zi x1]) d9_as_2 w_935 yy9_isGlass (c9_isGlass x.2.1 g h1) yc9_isGlass kZ_103 rfl rfl (Nat.le_of_ble_eq_true rfl) ⟨Nat.le_of_ble_eq_true rfl, Nat.le_of_ble_eq_true rfl⟩ ⟨Nat.zero_le _, Nat.zero_le _⟩ ?_
  refine z_if_eq C d9_as_5 (fun c2 => ?_) (fun c2 => ?_)
  · have hf := zit c2 hf
    refine z_aload_n C d9_as_18 rfl ?_
    refine z_ldc C (-1000000001 : Int32) d9_as_19 w_915 ?_
    obtain ⟨r3, s3, h3, hf⟩ := zbx hf
    refine z_callVi C (as := [zi (-1000000001 : Int32)]) d9_as_21 w_916 yy9_error (c9_error x.2.1 g h3) yc9_error kZ_103 rfl rfl (Nat.le_of_ble_eq_true rfl) ⟨Nat.le_of_ble_eq_true rfl, Nat.le_of_ble_eq_true rfl⟩ ⟨Nat.zero_le _, Nat.zero_le _⟩ ?_
    exact z_iret C d9_as_24 hf
  · have hf := zie c2 hf
    refine z_iload_n C d9_as_8 rfl ?_
    refine z_iconst C (0 : Int32) d9_as_9 kI_0 ?_
    refine z_bipush C (6 : Int32) d9_as_10 kB_6 ?_
    obtain ⟨r4, s4, h4, hf⟩ := zbx hf
    refine z_callSi C (as := [zi x2, zi (0 : Int32), zi (6 : Int32)]) d9_as_12 w_906 yy9_in (c9_in x.2.1 g h4) rfl rfl (Nat.le_of_ble_eq_true rfl) ⟨Nat.le_of_ble_eq_true rfl, Nat.le_of_ble_eq_true rfl⟩ ⟨Nat.zero_le _, Nat.zero_le _⟩ ?_
    refine z_if_ne C d9_as_15 (fun c5 => ?_) (fun c5 => ?_)
    · have hf := zit c5 hf
      refine z_aload_n C d9_as_18 rfl ?_
      refine z_ldc C (-1000000001 : Int32) d9_as_19 w_915 ?_
      obtain ⟨r6, s6, h6, hf⟩ := zbx hf
      refine z_callVi C (as := [zi (-1000000001 : Int32)]) d9_as_21 w_916 yy9_error (c9_error x.2.1 g h6) yc9_error kZ_103 rfl rfl (Nat.le_of_ble_eq_true rfl) ⟨Nat.le_of_ble_eq_true rfl, Nat.le_of_ble_eq_true rfl⟩ ⟨Nat.zero_le _, Nat.zero_le _⟩ ?_
      exact z_iret C d9_as_24 hf
    · have hf := zie c5 hf
      refine z_aload_n C d9_as_25 rfl ?_
      refine z_iload_n C d9_as_26 rfl ?_
      refine z_iconst C (0 : Int32) d9_as_27 kI_0 ?_
      obtain ⟨r7, s7, h7, hf⟩ := zbx hf
      refine z_callVi C (as := [zi x1, zi (0 : Int32)]) d9_as_28 w_926 yy9_of (c9_of x.2.1 g h7) yc9_of kZ_103 rfl rfl (Nat.le_of_ble_eq_true rfl) ⟨Nat.le_of_ble_eq_true rfl, Nat.le_of_ble_eq_true rfl⟩ ⟨Nat.zero_le _, Nat.zero_le _⟩ ?_
      refine z_istore_n C d9_as_31 (Nat.le_of_ble_eq_true rfl) rfl (L' := [some (zr 103), some (zi x1), some (zi x2), some (zi r7), none]) rfl ?_
      refine z_iload_n C d9_as_32 rfl ?_
      refine z_if_eq C d9_as_33 (fun c8 => ?_) (fun c8 => ?_)
      · have hf := zit c8 hf
        refine z_drop [true, true, false, false, false] (L' := [some (zr 103), some (zi x1), none, none, none]) rfl ?_
        exact j9_as_61 C  hf
      · have hf := zie c8 hf
        refine z_iload_n C d9_as_36 rfl ?_
        refine z_iload_n C d9_as_37 rfl ?_
        refine z_icmp_eq C d9_as_38 (fun c9 => ?_) (fun c9 => ?_)
        · have hf := zit c9 hf
          refine z_drop [true, true, false, false, false] (L' := [some (zr 103), some (zi x1), none, none, none]) rfl ?_
          exact j9_as_61 C  hf
        · have hf := zie c9 hf
          refine z_iload_n C d9_as_41 rfl ?_
          refine z_iconst C (1 : Int32) d9_as_42 kI_1 ?_
          refine z_icmp_ne C d9_as_43 (fun c10 => ?_) (fun c10 => ?_)
          · have hf := zit c10 hf
            refine z_iload_n C d9_as_46 rfl ?_
            refine z_iconst C (4 : Int32) d9_as_47 kI_4 ?_
            refine z_icmp_eq C d9_as_48 (fun c11 => ?_) (fun c11 => ?_)
            · have hf := zit c11 hf
              refine z_drop [true, true, false, false, false] (L' := [some (zr 103), some (zi x1), none, none, none]) rfl ?_
              exact j9_as_61 C  hf
            · have hf := zie c11 hf
              exact j9_as_51 C  hf
          · have hf := zie c10 hf
            exact j9_as_51 C  hf
theorem d9_isCell_0 : zd b9_isCell 0 (.iload_n 0) 1 1 := ⟨by decide +kernel, rfl⟩
theorem d9_isCell_1 : zd b9_isCell 1 (.iconst 0) 1 2 := ⟨by decide +kernel, rfl⟩
theorem d9_isCell_2 : zd b9_isCell 2 (.bipush 63) 2 4 := ⟨by decide +kernel, rfl⟩
theorem d9_isCell_4 : zd b9_isCell 4 (.invokestatic 56) 3 7 := ⟨by decide +kernel, rfl⟩
theorem d9_isCell_7 : zd b9_isCell 7 .ireturn 1 8 := ⟨by decide +kernel, rfl⟩
def f9_isCell (k : Nat) (x0 : Int32) (σ : ZS) : Option (Int32 × ZS) :=
  zbd (f9_in k x0 (0 : Int32) (63 : Int32) σ) fun r1 s1 =>
  if zbo r1 then (
  some (r1, s1)) else none
theorem c9_isCell (l : Launch) (g : ZG) {k : Nat} {x0 : Int32} {σ : ZS} {r : Int32} {σr : ZS} (hf : f9_isCell k x0 σ = some (r, σr)) : zT l g y9_isCell b9_isCell 1 (some .boolean) 2 82 [zi x0] σ (some (zi r)) σr := by
  unfold f9_isCell at hf
  refine zT_start (own := R9) rfl (by decide +kernel) 0 (L := [some (zi x0)]) rfl rfl (fun x hl C => ?_)
  subst hl
  refine z_iload_n C d9_isCell_0 rfl ?_
  refine z_iconst C (0 : Int32) d9_isCell_1 kI_0 ?_
  refine z_bipush C (63 : Int32) d9_isCell_2 kB_63 ?_
  obtain ⟨r1, s1, h1, hf⟩ := zbx hf
  refine z_callSi C (as := [zi x0, zi (0 : Int32), zi (63 : Int32)]) d9_isCell_4 w_906 yy9_in (c9_in x.2.1 g h1) rfl rfl (Nat.le_of_ble_eq_true rfl) ⟨Nat.le_of_ble_eq_true rfl, Nat.le_of_ble_eq_true rfl⟩ ⟨Nat.zero_le _, Nat.zero_le _⟩ ?_
  obtain ⟨g2, hf⟩ := zgo hf
  exact z_zret C d9_isCell_7 g2 hf
theorem d9_isFour_0 : zd b9_isFour 0 (.iload_n 0) 1 1 := ⟨by decide +kernel, rfl⟩
theorem d9_isFour_1 : zd b9_isFour 1 (.iconst 0) 1 2 := ⟨by decide +kernel, rfl⟩
theorem d9_isFour_2 : zd b9_isFour 2 (.iconst 3) 1 3 := ⟨by decide +kernel, rfl⟩
theorem d9_isFour_3 : zd b9_isFour 3 (.invokestatic 56) 3 6 := ⟨by decide +kernel, rfl⟩
theorem d9_isFour_6 : zd b9_isFour 6 .ireturn 1 7 := ⟨by decide +kernel, rfl⟩
def f9_isFour (k : Nat) (x0 : Int32) (σ : ZS) : Option (Int32 × ZS) :=
  zbd (f9_in k x0 (0 : Int32) (3 : Int32) σ) fun r1 s1 =>
  if zbo r1 then (
  some (r1, s1)) else none
theorem c9_isFour (l : Launch) (g : ZG) {k : Nat} {x0 : Int32} {σ : ZS} {r : Int32} {σr : ZS} (hf : f9_isFour k x0 σ = some (r, σr)) : zT l g y9_isFour b9_isFour 1 (some .boolean) 2 82 [zi x0] σ (some (zi r)) σr := by
  unfold f9_isFour at hf
  refine zT_start (own := R9) rfl (by decide +kernel) 0 (L := [some (zi x0)]) rfl rfl (fun x hl C => ?_)
  subst hl
  refine z_iload_n C d9_isFour_0 rfl ?_
  refine z_iconst C (0 : Int32) d9_isFour_1 kI_0 ?_
  refine z_iconst C (3 : Int32) d9_isFour_2 kI_3 ?_
  obtain ⟨r1, s1, h1, hf⟩ := zbx hf
  refine z_callSi C (as := [zi x0, zi (0 : Int32), zi (3 : Int32)]) d9_isFour_3 w_906 yy9_in (c9_in x.2.1 g h1) rfl rfl (Nat.le_of_ble_eq_true rfl) ⟨Nat.le_of_ble_eq_true rfl, Nat.le_of_ble_eq_true rfl⟩ ⟨Nat.zero_le _, Nat.zero_le _⟩ ?_
  obtain ⟨g2, hf⟩ := zgo hf
  exact z_zret C d9_isFour_6 g2 hf
theorem d9_glassAt_0 : zd b9_glassAt 0 (.iconst 0) 1 1 := ⟨by decide +kernel, rfl⟩
theorem d9_glassAt_1 : zd b9_glassAt 1 (.istore_n 2) 1 2 := ⟨by decide +kernel, rfl⟩
theorem d9_glassAt_2 : zd b9_glassAt 2 (.iload_n 2) 1 3 := ⟨by decide +kernel, rfl⟩
theorem d9_glassAt_3 : zd b9_glassAt 3 (.aload_n 0) 1 4 := ⟨by decide +kernel, rfl⟩
theorem d9_glassAt_4 : zd b9_glassAt 4 (.getfield 9) 3 7 := ⟨by decide +kernel, rfl⟩
theorem d9_glassAt_7 : zd b9_glassAt 7 (.iconst 2) 1 8 := ⟨by decide +kernel, rfl⟩
theorem d9_glassAt_8 : zd b9_glassAt 8 .iaload 1 9 := ⟨by decide +kernel, rfl⟩
theorem d9_glassAt_9 : zdb b9_glassAt 9 (.if_icmp .ge 21) 21 12 30 := ⟨by decide +kernel, rfl, by decide⟩
theorem d9_glassAt_12 : zd b9_glassAt 12 (.aload_n 0) 1 13 := ⟨by decide +kernel, rfl⟩
theorem d9_glassAt_13 : zd b9_glassAt 13 (.iload_n 2) 1 14 := ⟨by decide +kernel, rfl⟩
theorem d9_glassAt_14 : zd b9_glassAt 14 (.iconst 2) 1 15 := ⟨by decide +kernel, rfl⟩
theorem d9_glassAt_15 : zd b9_glassAt 15 (.invokevirtual 60) 3 18 := ⟨by decide +kernel, rfl⟩
theorem d9_glassAt_18 : zd b9_glassAt 18 (.iload_n 1) 1 19 := ⟨by decide +kernel, rfl⟩
theorem d9_glassAt_19 : zdb b9_glassAt 19 (.if_icmp .ne 5) 5 22 24 := ⟨by decide +kernel, rfl, by decide⟩
theorem d9_glassAt_22 : zd b9_glassAt 22 (.iload_n 2) 1 23 := ⟨by decide +kernel, rfl⟩
theorem d9_glassAt_23 : zd b9_glassAt 23 .ireturn 1 24 := ⟨by decide +kernel, rfl⟩
theorem d9_glassAt_24 : zd b9_glassAt 24 (.iinc 2 1) 3 27 := ⟨by decide +kernel, rfl⟩
theorem d9_glassAt_27 : zdb b9_glassAt 27 (.goto (-25)) (-25) 30 2 := ⟨by decide +kernel, rfl, by decide⟩
theorem d9_glassAt_30 : zd b9_glassAt 30 (.iconst (-1)) 1 31 := ⟨by decide +kernel, rfl⟩
theorem d9_glassAt_31 : zd b9_glassAt 31 .ireturn 1 32 := ⟨by decide +kernel, rfl⟩
def b9_glassAt_2 (k : Nat) (q2 : Int32 → Int32 → ZS → Option (Int32 × ZS)) (x1 : Int32) (x2 : Int32) (σ : ZS) : Option (Int32 × ZS) :=
  if (σ 104 2) ≤ x2 then (
  some ((-1 : Int32), σ))
  else (
  zbd (f9_of k x2 (2 : Int32) σ) fun r2 s2 =>
  if r2 = x1 then (
  some (x2, s2))
  else (
  q2 x1 (x2 + (1 : Int32)) s2))
def f9_glassAt_2 (k : Nat) : Nat → Int32 → Int32 → ZS → Option (Int32 × ZS)
  | 0 => fun _ _ _ => none
  | n + 1 => b9_glassAt_2 k  (f9_glassAt_2 k  n)
theorem j9_glassAt_2 {x : ZX} {g : ZG} (C : zC x g b9_glassAt R9 (some .int) 3 2 82) {k : Nat} {r : Int32} {σr : ZS}  {q2 : Int32 → Int32 → ZS → Option (Int32 × ZS)} (hq2 : (∀ (x1 : Int32) (x2 : Int32) (σ : ZS), q2 x1 x2 σ = some (r, σr) → zw x g 3 0 0 (zMQ x g (some (zi r)) σr) σ 2 [some (zr 103), some (zi x1), some (zi x2)] [])) {x1 : Int32} {x2 : Int32} {σ : ZS} (hf : b9_glassAt_2 k q2 x1 x2 σ = some (r, σr)) : zw x g 3 0 0 (zMQ x g (some (zi r)) σr) σ 2 [some (zr 103), some (zi x1), some (zi x2)] [] := by
  unfold b9_glassAt_2 at hf
  refine z_iload_n C d9_glassAt_2 rfl ?_
  refine z_aload_n C d9_glassAt_3 rfl ?_
  refine z_getR C d9_glassAt_4 fl_817 kZ_103 104 rfl (zn0 kZ_104) ?_
  refine z_iconst C (2 : Int32) d9_glassAt_7 kI_2 ?_
  refine z_iald C d9_glassAt_8 kZ_104 kL_104 ⟨by decide, by decide⟩ (2) kN_2 ?_
  refine z_icmp_ge C d9_glassAt_9 (fun c1 => ?_) (fun c1 => ?_)
  · have hf := zit c1 hf
    refine z_iconst C (-1 : Int32) d9_glassAt_30 kI_m1 ?_
    exact z_iret C d9_glassAt_31 hf
  · have hf := zie c1 hf
    refine z_aload_n C d9_glassAt_12 rfl ?_
    refine z_iload_n C d9_glassAt_13 rfl ?_
    refine z_iconst C (2 : Int32) d9_glassAt_14 kI_2 ?_
    obtain ⟨r2, s2, h2, hf⟩ := zbx hf
    refine z_callVi C (as := [zi x2, zi (2 : Int32)]) d9_glassAt_15 w_926 yy9_of (c9_of x.2.1 g h2) yc9_of kZ_103 rfl rfl (Nat.le_of_ble_eq_true rfl) ⟨Nat.le_of_ble_eq_true rfl, Nat.le_of_ble_eq_true rfl⟩ ⟨Nat.zero_le _, Nat.zero_le _⟩ ?_
    refine z_iload_n C d9_glassAt_18 rfl ?_
    refine z_icmp_ne C d9_glassAt_19 (fun c3 => ?_) (fun c3 => ?_)
    · have hf := zit c3 hf
      refine z_iload_n C d9_glassAt_22 rfl ?_
      exact z_iret C d9_glassAt_23 hf
    · have hf := zie c3 hf
      refine z_iinc C d9_glassAt_24 rfl kI_1 (Nat.le_of_ble_eq_true rfl) rfl (L' := [some (zr 103), some (zi x1), some (zi (x2 + (1 : Int32)))]) rfl ?_
      refine z_goto C d9_glassAt_27 ?_
      exact hq2 _ _ _ hf
theorem j9_glassAt_2l {x : ZX} {g : ZG} (C : zC x g b9_glassAt R9 (some .int) 3 2 82) {k : Nat} {r : Int32} {σr : ZS}  : ∀ (n : Nat) (x1 : Int32) (x2 : Int32) (σ : ZS), f9_glassAt_2 k  n x1 x2 σ = some (r, σr) → zw x g 3 0 0 (zMQ x g (some (zi r)) σr) σ 2 [some (zr 103), some (zi x1), some (zi x2)] [] := by
  intro n
  induction n with
  | zero => intro x1 x2 σ hf; exact absurd (show none = some (r, σr) from hf) (fun z => by cases z)
  | succ n ih => intro x1 x2 σ hf; exact j9_glassAt_2 C  ih (show b9_glassAt_2 k  (f9_glassAt_2 k  n) x1 x2 σ = some (r, σr) from hf)
def f9_glassAt (k : Nat) (x1 : Int32) (σ : ZS) : Option (Int32 × ZS) :=
  f9_glassAt_2 k  k x1 (0 : Int32) σ
theorem c9_glassAt (l : Launch) (g : ZG) {k : Nat} {x1 : Int32} {σ : ZS} {r : Int32} {σr : ZS} (hf : f9_glassAt k x1 σ = some (r, σr)) : zT l g y9_glassAt b9_glassAt 3 (some .int) 2 82 [zr 103, zi x1] σ (some (zi r)) σr := by
  unfold f9_glassAt at hf
  refine zT_start (own := R9) rfl (by decide +kernel) 1 (L := [some (zr 103), some (zi x1), none]) rfl rfl (fun x hl C => ?_)
  subst hl
  refine z_iconst C (0 : Int32) d9_glassAt_0 kI_0 ?_
  refine z_istore_n C d9_glassAt_1 (Nat.le_of_ble_eq_true rfl) rfl (L' := [some (zr 103), some (zi x1), some (zi (0 : Int32))]) rfl ?_
  exact j9_glassAt_2l C  _ _ _ _ hf
theorem d9_held_0 : zd b9_held 0 (.iload_n 0) 1 1 := ⟨by decide +kernel, rfl⟩
theorem d9_held_1 : zd b9_held 1 (.iload_n 1) 1 2 := ⟨by decide +kernel, rfl⟩
theorem d9_held_2 : zdb b9_held 2 (.if_icmp .ge 7) 7 5 9 := ⟨by decide +kernel, rfl, by decide⟩
theorem d9_held_5 : zd b9_held 5 (.iload_n 1) 1 6 := ⟨by decide +kernel, rfl⟩
theorem d9_held_6 : zdb b9_held 6 (.goto 13) 13 9 19 := ⟨by decide +kernel, rfl, by decide⟩
theorem d9_held_9 : zd b9_held 9 (.iload_n 0) 1 10 := ⟨by decide +kernel, rfl⟩
theorem d9_held_10 : zd b9_held 10 (.iload_n 2) 1 11 := ⟨by decide +kernel, rfl⟩
theorem d9_held_11 : zdb b9_held 11 (.if_icmp .le 7) 7 14 18 := ⟨by decide +kernel, rfl, by decide⟩
theorem d9_held_14 : zd b9_held 14 (.iload_n 2) 1 15 := ⟨by decide +kernel, rfl⟩
theorem d9_held_15 : zdb b9_held 15 (.goto 4) 4 18 19 := ⟨by decide +kernel, rfl, by decide⟩
theorem d9_held_18 : zd b9_held 18 (.iload_n 0) 1 19 := ⟨by decide +kernel, rfl⟩
theorem d9_held_19 : zd b9_held 19 .ireturn 1 20 := ⟨by decide +kernel, rfl⟩
def f9_held (k : Nat) (x0 : Int32) (x1 : Int32) (x2 : Int32) (σ : ZS) : Option (Int32 × ZS) :=
  if x1 ≤ x0 then (
  if x0 ≤ x2 then (
  some (x0, σ))
  else (
  some (x2, σ)))
  else (
  some (x1, σ))
theorem c9_held (l : Launch) (g : ZG) {k : Nat} {x0 : Int32} {x1 : Int32} {x2 : Int32} {σ : ZS} {r : Int32} {σr : ZS} (hf : f9_held k x0 x1 x2 σ = some (r, σr)) : zT l g y9_held b9_held 3 (some .int) 1 60 [zi x0, zi x1, zi x2] σ (some (zi r)) σr := by
  unfold f9_held at hf
  refine zT_start (own := R9) rfl (by decide +kernel) 0 (L := [some (zi x0), some (zi x1), some (zi x2)]) rfl rfl (fun x hl C => ?_)
  subst hl
  refine z_iload_n C d9_held_0 rfl ?_
  refine z_iload_n C d9_held_1 rfl ?_
  refine z_icmp_ge C d9_held_2 (fun c1 => ?_) (fun c1 => ?_)
  · have hf := zit c1 hf
    refine z_iload_n C d9_held_9 rfl ?_
    refine z_iload_n C d9_held_10 rfl ?_
    refine z_icmp_le C d9_held_11 (fun c2 => ?_) (fun c2 => ?_)
    · have hf := zit c2 hf
      refine z_iload_n C d9_held_18 rfl ?_
      exact z_iret C d9_held_19 hf
    · have hf := zie c2 hf
      refine z_iload_n C d9_held_14 rfl ?_
      refine z_goto C d9_held_15 ?_
      exact z_iret C d9_held_19 hf
  · have hf := zie c1 hf
    refine z_iload_n C d9_held_5 rfl ?_
    refine z_goto C d9_held_6 ?_
    exact z_iret C d9_held_19 hf
theorem d9_twoOf_0 : zd b9_twoOf 0 (.iload_n 0) 1 1 := ⟨by decide +kernel, rfl⟩
theorem d9_twoOf_1 : decode b9_twoOf 1 = .ok ((.tableswitch 202 37 62 #[143, 188, 202, 202, 202, 127, 119, 202, 123, 202, 131, 202, 202, 202, 202, 202, 202, 202, 202, 202, 202, 202, 202, 155, 166, 177]), 119) := by decide +kernel
theorem d9_twoOf_120 : zd b9_twoOf 120 (.iload_n 1) 1 121 := ⟨by decide +kernel, rfl⟩
theorem d9_twoOf_121 : zd b9_twoOf 121 (.iload_n 2) 1 122 := ⟨by decide +kernel, rfl⟩
theorem d9_twoOf_122 : zd b9_twoOf 122 .iadd 1 123 := ⟨by decide +kernel, rfl⟩
theorem d9_twoOf_123 : zd b9_twoOf 123 .ireturn 1 124 := ⟨by decide +kernel, rfl⟩
theorem d9_twoOf_124 : zd b9_twoOf 124 (.iload_n 1) 1 125 := ⟨by decide +kernel, rfl⟩
theorem d9_twoOf_125 : zd b9_twoOf 125 (.iload_n 2) 1 126 := ⟨by decide +kernel, rfl⟩
theorem d9_twoOf_126 : zd b9_twoOf 126 .isub 1 127 := ⟨by decide +kernel, rfl⟩
theorem d9_twoOf_127 : zd b9_twoOf 127 .ireturn 1 128 := ⟨by decide +kernel, rfl⟩
theorem d9_twoOf_128 : zd b9_twoOf 128 (.iload_n 1) 1 129 := ⟨by decide +kernel, rfl⟩
theorem d9_twoOf_129 : zd b9_twoOf 129 (.iload_n 2) 1 130 := ⟨by decide +kernel, rfl⟩
theorem d9_twoOf_130 : zd b9_twoOf 130 .imul 1 131 := ⟨by decide +kernel, rfl⟩
theorem d9_twoOf_131 : zd b9_twoOf 131 .ireturn 1 132 := ⟨by decide +kernel, rfl⟩
theorem d9_twoOf_132 : zd b9_twoOf 132 (.iload_n 2) 1 133 := ⟨by decide +kernel, rfl⟩
theorem d9_twoOf_133 : zdb b9_twoOf 133 (.ifCond .ne 7) 7 136 140 := ⟨by decide +kernel, rfl, by decide⟩
theorem d9_twoOf_136 : zd b9_twoOf 136 (.iconst 0) 1 137 := ⟨by decide +kernel, rfl⟩
theorem d9_twoOf_137 : zdb b9_twoOf 137 (.goto 6) 6 140 143 := ⟨by decide +kernel, rfl, by decide⟩
theorem d9_twoOf_140 : zd b9_twoOf 140 (.iload_n 1) 1 141 := ⟨by decide +kernel, rfl⟩
theorem d9_twoOf_141 : zd b9_twoOf 141 (.iload_n 2) 1 142 := ⟨by decide +kernel, rfl⟩
theorem d9_twoOf_142 : zd b9_twoOf 142 .idiv 1 143 := ⟨by decide +kernel, rfl⟩
theorem d9_twoOf_143 : zd b9_twoOf 143 .ireturn 1 144 := ⟨by decide +kernel, rfl⟩
theorem d9_twoOf_144 : zd b9_twoOf 144 (.iload_n 2) 1 145 := ⟨by decide +kernel, rfl⟩
theorem d9_twoOf_145 : zdb b9_twoOf 145 (.ifCond .ne 7) 7 148 152 := ⟨by decide +kernel, rfl, by decide⟩
theorem d9_twoOf_148 : zd b9_twoOf 148 (.iconst 0) 1 149 := ⟨by decide +kernel, rfl⟩
theorem d9_twoOf_149 : zdb b9_twoOf 149 (.goto 6) 6 152 155 := ⟨by decide +kernel, rfl, by decide⟩
theorem d9_twoOf_152 : zd b9_twoOf 152 (.iload_n 1) 1 153 := ⟨by decide +kernel, rfl⟩
theorem d9_twoOf_153 : zd b9_twoOf 153 (.iload_n 2) 1 154 := ⟨by decide +kernel, rfl⟩
theorem d9_twoOf_154 : zd b9_twoOf 154 .irem 1 155 := ⟨by decide +kernel, rfl⟩
theorem d9_twoOf_155 : zd b9_twoOf 155 .ireturn 1 156 := ⟨by decide +kernel, rfl⟩
theorem d9_twoOf_156 : zd b9_twoOf 156 (.iload_n 1) 1 157 := ⟨by decide +kernel, rfl⟩
theorem d9_twoOf_157 : zd b9_twoOf 157 (.iload_n 2) 1 158 := ⟨by decide +kernel, rfl⟩
theorem d9_twoOf_158 : zdb b9_twoOf 158 (.if_icmp .ge 7) 7 161 165 := ⟨by decide +kernel, rfl, by decide⟩
theorem d9_twoOf_161 : zd b9_twoOf 161 (.iconst 1) 1 162 := ⟨by decide +kernel, rfl⟩
theorem d9_twoOf_162 : zdb b9_twoOf 162 (.goto 4) 4 165 166 := ⟨by decide +kernel, rfl, by decide⟩
theorem d9_twoOf_165 : zd b9_twoOf 165 (.iconst 0) 1 166 := ⟨by decide +kernel, rfl⟩
theorem d9_twoOf_166 : zd b9_twoOf 166 .ireturn 1 167 := ⟨by decide +kernel, rfl⟩
theorem d9_twoOf_167 : zd b9_twoOf 167 (.iload_n 1) 1 168 := ⟨by decide +kernel, rfl⟩
theorem d9_twoOf_168 : zd b9_twoOf 168 (.iload_n 2) 1 169 := ⟨by decide +kernel, rfl⟩
theorem d9_twoOf_169 : zdb b9_twoOf 169 (.if_icmp .ne 7) 7 172 176 := ⟨by decide +kernel, rfl, by decide⟩
theorem d9_twoOf_172 : zd b9_twoOf 172 (.iconst 1) 1 173 := ⟨by decide +kernel, rfl⟩
theorem d9_twoOf_173 : zdb b9_twoOf 173 (.goto 4) 4 176 177 := ⟨by decide +kernel, rfl, by decide⟩
theorem d9_twoOf_176 : zd b9_twoOf 176 (.iconst 0) 1 177 := ⟨by decide +kernel, rfl⟩
theorem d9_twoOf_177 : zd b9_twoOf 177 .ireturn 1 178 := ⟨by decide +kernel, rfl⟩
theorem d9_twoOf_178 : zd b9_twoOf 178 (.iload_n 1) 1 179 := ⟨by decide +kernel, rfl⟩
theorem d9_twoOf_179 : zd b9_twoOf 179 (.iload_n 2) 1 180 := ⟨by decide +kernel, rfl⟩
theorem d9_twoOf_180 : zdb b9_twoOf 180 (.if_icmp .le 7) 7 183 187 := ⟨by decide +kernel, rfl, by decide⟩
theorem d9_twoOf_183 : zd b9_twoOf 183 (.iconst 1) 1 184 := ⟨by decide +kernel, rfl⟩
theorem d9_twoOf_184 : zdb b9_twoOf 184 (.goto 4) 4 187 188 := ⟨by decide +kernel, rfl, by decide⟩
theorem d9_twoOf_187 : zd b9_twoOf 187 (.iconst 0) 1 188 := ⟨by decide +kernel, rfl⟩
theorem d9_twoOf_188 : zd b9_twoOf 188 .ireturn 1 189 := ⟨by decide +kernel, rfl⟩
theorem d9_twoOf_189 : zd b9_twoOf 189 (.iload_n 1) 1 190 := ⟨by decide +kernel, rfl⟩
theorem d9_twoOf_190 : zdb b9_twoOf 190 (.ifCond .eq 11) 11 193 201 := ⟨by decide +kernel, rfl, by decide⟩
theorem d9_twoOf_193 : zd b9_twoOf 193 (.iload_n 2) 1 194 := ⟨by decide +kernel, rfl⟩
theorem d9_twoOf_194 : zdb b9_twoOf 194 (.ifCond .eq 7) 7 197 201 := ⟨by decide +kernel, rfl, by decide⟩
theorem d9_twoOf_197 : zd b9_twoOf 197 (.iconst 1) 1 198 := ⟨by decide +kernel, rfl⟩
theorem d9_twoOf_198 : zdb b9_twoOf 198 (.goto 4) 4 201 202 := ⟨by decide +kernel, rfl, by decide⟩
theorem d9_twoOf_201 : zd b9_twoOf 201 (.iconst 0) 1 202 := ⟨by decide +kernel, rfl⟩
theorem d9_twoOf_202 : zd b9_twoOf 202 .ireturn 1 203 := ⟨by decide +kernel, rfl⟩
theorem d9_twoOf_203 : zd b9_twoOf 203 (.iload_n 1) 1 204 := ⟨by decide +kernel, rfl⟩
theorem d9_twoOf_204 : zdb b9_twoOf 204 (.ifCond .ne 7) 7 207 211 := ⟨by decide +kernel, rfl, by decide⟩
theorem d9_twoOf_207 : zd b9_twoOf 207 (.iload_n 2) 1 208 := ⟨by decide +kernel, rfl⟩
theorem d9_twoOf_208 : zdb b9_twoOf 208 (.ifCond .eq 7) 7 211 215 := ⟨by decide +kernel, rfl, by decide⟩
theorem d9_twoOf_211 : zd b9_twoOf 211 (.iconst 1) 1 212 := ⟨by decide +kernel, rfl⟩
theorem d9_twoOf_212 : zdb b9_twoOf 212 (.goto 4) 4 215 216 := ⟨by decide +kernel, rfl, by decide⟩
theorem d9_twoOf_215 : zd b9_twoOf 215 (.iconst 0) 1 216 := ⟨by decide +kernel, rfl⟩
theorem d9_twoOf_216 : zd b9_twoOf 216 .ireturn 1 217 := ⟨by decide +kernel, rfl⟩
def f9_twoOf (k : Nat) (x0 : Int32) (x1 : Int32) (x2 : Int32) (σ : ZS) : Option (Int32 × ZS) :=
  if x0 = (37 : Int32) then (
  if x2 = 0 then (
  some ((0 : Int32), σ))
  else (
  if ¬ x2 = 0 then (
  some ((x1 % x2), σ)) else none))
  else (
  if x0 = (38 : Int32) then (
  if x1 = 0 then (
  some ((0 : Int32), σ))
  else (
  if x2 = 0 then (
  some ((0 : Int32), σ))
  else (
  some ((1 : Int32), σ))))
  else (
  if x0 = (39 : Int32) then (
  if x1 = 0 then (
  if x2 = 0 then (
  some ((0 : Int32), σ))
  else (
  some ((1 : Int32), σ)))
  else (
  some ((1 : Int32), σ)))
  else (
  if x0 = (40 : Int32) then (
  if x1 = 0 then (
  if x2 = 0 then (
  some ((0 : Int32), σ))
  else (
  some ((1 : Int32), σ)))
  else (
  some ((1 : Int32), σ)))
  else (
  if x0 = (41 : Int32) then (
  if x1 = 0 then (
  if x2 = 0 then (
  some ((0 : Int32), σ))
  else (
  some ((1 : Int32), σ)))
  else (
  some ((1 : Int32), σ)))
  else (
  if x0 = (42 : Int32) then (
  some ((x1 * x2), σ))
  else (
  if x0 = (43 : Int32) then (
  some ((x1 + x2), σ))
  else (
  if x0 = (44 : Int32) then (
  if x1 = 0 then (
  if x2 = 0 then (
  some ((0 : Int32), σ))
  else (
  some ((1 : Int32), σ)))
  else (
  some ((1 : Int32), σ)))
  else (
  if x0 = (45 : Int32) then (
  some ((x1 - x2), σ))
  else (
  if x0 = (46 : Int32) then (
  if x1 = 0 then (
  if x2 = 0 then (
  some ((0 : Int32), σ))
  else (
  some ((1 : Int32), σ)))
  else (
  some ((1 : Int32), σ)))
  else (
  if x0 = (47 : Int32) then (
  if x2 = 0 then (
  some ((0 : Int32), σ))
  else (
  if ¬ x2 = 0 then (
  some ((x1 / x2), σ)) else none))
  else (
  if x0 = (48 : Int32) then (
  if x1 = 0 then (
  if x2 = 0 then (
  some ((0 : Int32), σ))
  else (
  some ((1 : Int32), σ)))
  else (
  some ((1 : Int32), σ)))
  else (
  if x0 = (49 : Int32) then (
  if x1 = 0 then (
  if x2 = 0 then (
  some ((0 : Int32), σ))
  else (
  some ((1 : Int32), σ)))
  else (
  some ((1 : Int32), σ)))
  else (
  if x0 = (50 : Int32) then (
  if x1 = 0 then (
  if x2 = 0 then (
  some ((0 : Int32), σ))
  else (
  some ((1 : Int32), σ)))
  else (
  some ((1 : Int32), σ)))
  else (
  if x0 = (51 : Int32) then (
  if x1 = 0 then (
  if x2 = 0 then (
  some ((0 : Int32), σ))
  else (
  some ((1 : Int32), σ)))
  else (
  some ((1 : Int32), σ)))
  else (
  if x0 = (52 : Int32) then (
  if x1 = 0 then (
  if x2 = 0 then (
  some ((0 : Int32), σ))
  else (
  some ((1 : Int32), σ)))
  else (
  some ((1 : Int32), σ)))
  else (
  if x0 = (53 : Int32) then (
  if x1 = 0 then (
  if x2 = 0 then (
  some ((0 : Int32), σ))
  else (
  some ((1 : Int32), σ)))
  else (
  some ((1 : Int32), σ)))
  else (
  if x0 = (54 : Int32) then (
  if x1 = 0 then (
  if x2 = 0 then (
  some ((0 : Int32), σ))
  else (
  some ((1 : Int32), σ)))
  else (
  some ((1 : Int32), σ)))
  else (
  if x0 = (55 : Int32) then (
  if x1 = 0 then (
  if x2 = 0 then (
  some ((0 : Int32), σ))
  else (
  some ((1 : Int32), σ)))
  else (
  some ((1 : Int32), σ)))
  else (
  if x0 = (56 : Int32) then (
  if x1 = 0 then (
  if x2 = 0 then (
  some ((0 : Int32), σ))
  else (
  some ((1 : Int32), σ)))
  else (
  some ((1 : Int32), σ)))
  else (
  if x0 = (57 : Int32) then (
  if x1 = 0 then (
  if x2 = 0 then (
  some ((0 : Int32), σ))
  else (
  some ((1 : Int32), σ)))
  else (
  some ((1 : Int32), σ)))
  else (
  if x0 = (58 : Int32) then (
  if x1 = 0 then (
  if x2 = 0 then (
  some ((0 : Int32), σ))
  else (
  some ((1 : Int32), σ)))
  else (
  some ((1 : Int32), σ)))
  else (
  if x0 = (59 : Int32) then (
  if x1 = 0 then (
  if x2 = 0 then (
  some ((0 : Int32), σ))
  else (
  some ((1 : Int32), σ)))
  else (
  some ((1 : Int32), σ)))
  else (
  if x0 = (60 : Int32) then (
  if x2 ≤ x1 then (
  some ((0 : Int32), σ))
  else (
  some ((1 : Int32), σ)))
  else (
  if x0 = (61 : Int32) then (
  if x1 = x2 then (
  some ((1 : Int32), σ))
  else (
  some ((0 : Int32), σ)))
  else (
  if x0 = (62 : Int32) then (
  if x1 ≤ x2 then (
  some ((0 : Int32), σ))
  else (
  some ((1 : Int32), σ)))
  else (
  if x1 = 0 then (
  if x2 = 0 then (
  some ((0 : Int32), σ))
  else (
  some ((1 : Int32), σ)))
  else (
  some ((1 : Int32), σ))))))))))))))))))))))))))))
theorem c9_twoOf (l : Launch) (g : ZG) {k : Nat} {x0 : Int32} {x1 : Int32} {x2 : Int32} {σ : ZS} {r : Int32} {σr : ZS} (hf : f9_twoOf k x0 x1 x2 σ = some (r, σr)) : zT l g y9_twoOf b9_twoOf 3 (some .int) 1 60 [zi x0, zi x1, zi x2] σ (some (zi r)) σr := by
  unfold f9_twoOf at hf
  refine zT_start (own := R9) rfl (by decide +kernel) 0 (L := [some (zi x0), some (zi x1), some (zi x2)]) rfl rfl (fun x hl C => ?_)
  subst hl
  refine z_iload_n C d9_twoOf_0 rfl ?_
  refine z_tsw C [((37 : Int32), 144), ((38 : Int32), 189), ((39 : Int32), 203), ((40 : Int32), 203), ((41 : Int32), 203), ((42 : Int32), 128), ((43 : Int32), 120), ((44 : Int32), 203), ((45 : Int32), 124), ((46 : Int32), 203), ((47 : Int32), 132), ((48 : Int32), 203), ((49 : Int32), 203), ((50 : Int32), 203), ((51 : Int32), 203), ((52 : Int32), 203), ((53 : Int32), 203), ((54 : Int32), 203), ((55 : Int32), 203), ((56 : Int32), 203), ((57 : Int32), 203), ((58 : Int32), 203), ((59 : Int32), 203), ((60 : Int32), 156), ((61 : Int32), 167), ((62 : Int32), 178)] (d := 203) d9_twoOf_1 (by decide) (by decide) (by decide +kernel) ?_
  refine z_swc (fun c1 => ?_) (fun c1 => ?_)
  · have hf := zit c1 hf
    refine z_iload_n C d9_twoOf_144 rfl ?_
    refine z_if_ne C d9_twoOf_145 (fun c2 => ?_) (fun c2 => ?_)
    · have hf := zit c2 hf
      refine z_iconst C (0 : Int32) d9_twoOf_148 kI_0 ?_
      refine z_goto C d9_twoOf_149 ?_
      exact z_iret C d9_twoOf_155 hf
    · have hf := zie c2 hf
      refine z_iload_n C d9_twoOf_152 rfl ?_
      refine z_iload_n C d9_twoOf_153 rfl ?_
      obtain ⟨g3, hf⟩ := zgo hf
      refine z_irem C d9_twoOf_154 g3 ?_
      exact z_iret C d9_twoOf_155 hf
  · have hf := zie c1 hf
    refine z_swc (fun c4 => ?_) (fun c4 => ?_)
    · have hf := zit c4 hf
      refine z_iload_n C d9_twoOf_189 rfl ?_
      refine z_if_eq C d9_twoOf_190 (fun c5 => ?_) (fun c5 => ?_)
      · have hf := zit c5 hf
        refine z_iconst C (0 : Int32) d9_twoOf_201 kI_0 ?_
        exact z_iret C d9_twoOf_202 hf
      · have hf := zie c5 hf
        refine z_iload_n C d9_twoOf_193 rfl ?_
        refine z_if_eq C d9_twoOf_194 (fun c6 => ?_) (fun c6 => ?_)
        · have hf := zit c6 hf
          refine z_iconst C (0 : Int32) d9_twoOf_201 kI_0 ?_
          exact z_iret C d9_twoOf_202 hf
        · have hf := zie c6 hf
          refine z_iconst C (1 : Int32) d9_twoOf_197 kI_1 ?_
          refine z_goto C d9_twoOf_198 ?_
          exact z_iret C d9_twoOf_202 hf
    · have hf := zie c4 hf
      refine z_swc (fun c7 => ?_) (fun c7 => ?_)
      · have hf := zit c7 hf
        refine z_iload_n C d9_twoOf_203 rfl ?_
        refine z_if_ne C d9_twoOf_204 (fun c8 => ?_) (fun c8 => ?_)
        · have hf := zit c8 hf
          refine z_iload_n C d9_twoOf_207 rfl ?_
          refine z_if_eq C d9_twoOf_208 (fun c9 => ?_) (fun c9 => ?_)
          · have hf := zit c9 hf
            refine z_iconst C (0 : Int32) d9_twoOf_215 kI_0 ?_
            exact z_iret C d9_twoOf_216 hf
          · have hf := zie c9 hf
            refine z_iconst C (1 : Int32) d9_twoOf_211 kI_1 ?_
            refine z_goto C d9_twoOf_212 ?_
            exact z_iret C d9_twoOf_216 hf
        · have hf := zie c8 hf
          refine z_iconst C (1 : Int32) d9_twoOf_211 kI_1 ?_
          refine z_goto C d9_twoOf_212 ?_
          exact z_iret C d9_twoOf_216 hf
      · have hf := zie c7 hf
        refine z_swc (fun c10 => ?_) (fun c10 => ?_)
        · have hf := zit c10 hf
          refine z_iload_n C d9_twoOf_203 rfl ?_
          refine z_if_ne C d9_twoOf_204 (fun c11 => ?_) (fun c11 => ?_)
          · have hf := zit c11 hf
            refine z_iload_n C d9_twoOf_207 rfl ?_
            refine z_if_eq C d9_twoOf_208 (fun c12 => ?_) (fun c12 => ?_)
            · have hf := zit c12 hf
              refine z_iconst C (0 : Int32) d9_twoOf_215 kI_0 ?_
              exact z_iret C d9_twoOf_216 hf
            · have hf := zie c12 hf
              refine z_iconst C (1 : Int32) d9_twoOf_211 kI_1 ?_
              refine z_goto C d9_twoOf_212 ?_
              exact z_iret C d9_twoOf_216 hf
          · have hf := zie c11 hf
            refine z_iconst C (1 : Int32) d9_twoOf_211 kI_1 ?_
            refine z_goto C d9_twoOf_212 ?_
            exact z_iret C d9_twoOf_216 hf
        · have hf := zie c10 hf
          refine z_swc (fun c13 => ?_) (fun c13 => ?_)
          · have hf := zit c13 hf
            refine z_iload_n C d9_twoOf_203 rfl ?_
            refine z_if_ne C d9_twoOf_204 (fun c14 => ?_) (fun c14 => ?_)
            · have hf := zit c14 hf
              refine z_iload_n C d9_twoOf_207 rfl ?_
              refine z_if_eq C d9_twoOf_208 (fun c15 => ?_) (fun c15 => ?_)
              · have hf := zit c15 hf
                refine z_iconst C (0 : Int32) d9_twoOf_215 kI_0 ?_
                exact z_iret C d9_twoOf_216 hf
              · have hf := zie c15 hf
                refine z_iconst C (1 : Int32) d9_twoOf_211 kI_1 ?_
                refine z_goto C d9_twoOf_212 ?_
                exact z_iret C d9_twoOf_216 hf
            · have hf := zie c14 hf
              refine z_iconst C (1 : Int32) d9_twoOf_211 kI_1 ?_
              refine z_goto C d9_twoOf_212 ?_
              exact z_iret C d9_twoOf_216 hf
          · have hf := zie c13 hf
            refine z_swc (fun c16 => ?_) (fun c16 => ?_)
            · have hf := zit c16 hf
              refine z_iload_n C d9_twoOf_128 rfl ?_
              refine z_iload_n C d9_twoOf_129 rfl ?_
              refine z_imul C d9_twoOf_130 ?_
              exact z_iret C d9_twoOf_131 hf
            · have hf := zie c16 hf
              refine z_swc (fun c17 => ?_) (fun c17 => ?_)
              · have hf := zit c17 hf
                refine z_iload_n C d9_twoOf_120 rfl ?_
                refine z_iload_n C d9_twoOf_121 rfl ?_
                refine z_iadd C d9_twoOf_122 ?_
                exact z_iret C d9_twoOf_123 hf
              · have hf := zie c17 hf
                refine z_swc (fun c18 => ?_) (fun c18 => ?_)
                · have hf := zit c18 hf
                  refine z_iload_n C d9_twoOf_203 rfl ?_
                  refine z_if_ne C d9_twoOf_204 (fun c19 => ?_) (fun c19 => ?_)
                  · have hf := zit c19 hf
                    refine z_iload_n C d9_twoOf_207 rfl ?_
                    refine z_if_eq C d9_twoOf_208 (fun c20 => ?_) (fun c20 => ?_)
                    · have hf := zit c20 hf
                      refine z_iconst C (0 : Int32) d9_twoOf_215 kI_0 ?_
                      exact z_iret C d9_twoOf_216 hf
                    · have hf := zie c20 hf
                      refine z_iconst C (1 : Int32) d9_twoOf_211 kI_1 ?_
                      refine z_goto C d9_twoOf_212 ?_
                      exact z_iret C d9_twoOf_216 hf
                  · have hf := zie c19 hf
                    refine z_iconst C (1 : Int32) d9_twoOf_211 kI_1 ?_
                    refine z_goto C d9_twoOf_212 ?_
                    exact z_iret C d9_twoOf_216 hf
                · have hf := zie c18 hf
                  refine z_swc (fun c21 => ?_) (fun c21 => ?_)
                  · have hf := zit c21 hf
                    refine z_iload_n C d9_twoOf_124 rfl ?_
                    refine z_iload_n C d9_twoOf_125 rfl ?_
                    refine z_isub C d9_twoOf_126 ?_
                    exact z_iret C d9_twoOf_127 hf
                  · have hf := zie c21 hf
                    refine z_swc (fun c22 => ?_) (fun c22 => ?_)
                    · have hf := zit c22 hf
                      refine z_iload_n C d9_twoOf_203 rfl ?_
                      refine z_if_ne C d9_twoOf_204 (fun c23 => ?_) (fun c23 => ?_)
                      · have hf := zit c23 hf
                        refine z_iload_n C d9_twoOf_207 rfl ?_
                        refine z_if_eq C d9_twoOf_208 (fun c24 => ?_) (fun c24 => ?_)
                        · have hf := zit c24 hf
                          refine z_iconst C (0 : Int32) d9_twoOf_215 kI_0 ?_
                          exact z_iret C d9_twoOf_216 hf
                        · have hf := zie c24 hf
                          refine z_iconst C (1 : Int32) d9_twoOf_211 kI_1 ?_
                          refine z_goto C d9_twoOf_212 ?_
                          exact z_iret C d9_twoOf_216 hf
                      · have hf := zie c23 hf
                        refine z_iconst C (1 : Int32) d9_twoOf_211 kI_1 ?_
                        refine z_goto C d9_twoOf_212 ?_
                        exact z_iret C d9_twoOf_216 hf
                    · have hf := zie c22 hf
                      refine z_swc (fun c25 => ?_) (fun c25 => ?_)
                      · have hf := zit c25 hf
                        refine z_iload_n C d9_twoOf_132 rfl ?_
                        refine z_if_ne C d9_twoOf_133 (fun c26 => ?_) (fun c26 => ?_)
                        · have hf := zit c26 hf
                          refine z_iconst C (0 : Int32) d9_twoOf_136 kI_0 ?_
                          refine z_goto C d9_twoOf_137 ?_
                          exact z_iret C d9_twoOf_143 hf
                        · have hf := zie c26 hf
                          refine z_iload_n C d9_twoOf_140 rfl ?_
                          refine z_iload_n C d9_twoOf_141 rfl ?_
                          obtain ⟨g27, hf⟩ := zgo hf
                          refine z_idiv C d9_twoOf_142 g27 ?_
                          exact z_iret C d9_twoOf_143 hf
                      · have hf := zie c25 hf
                        refine z_swc (fun c28 => ?_) (fun c28 => ?_)
                        · have hf := zit c28 hf
                          refine z_iload_n C d9_twoOf_203 rfl ?_
                          refine z_if_ne C d9_twoOf_204 (fun c29 => ?_) (fun c29 => ?_)
                          · have hf := zit c29 hf
                            refine z_iload_n C d9_twoOf_207 rfl ?_
                            refine z_if_eq C d9_twoOf_208 (fun c30 => ?_) (fun c30 => ?_)
                            · have hf := zit c30 hf
                              refine z_iconst C (0 : Int32) d9_twoOf_215 kI_0 ?_
                              exact z_iret C d9_twoOf_216 hf
                            · have hf := zie c30 hf
                              refine z_iconst C (1 : Int32) d9_twoOf_211 kI_1 ?_
                              refine z_goto C d9_twoOf_212 ?_
                              exact z_iret C d9_twoOf_216 hf
                          · have hf := zie c29 hf
                            refine z_iconst C (1 : Int32) d9_twoOf_211 kI_1 ?_
                            refine z_goto C d9_twoOf_212 ?_
                            exact z_iret C d9_twoOf_216 hf
                        · have hf := zie c28 hf
                          refine z_swc (fun c31 => ?_) (fun c31 => ?_)
                          · have hf := zit c31 hf
                            refine z_iload_n C d9_twoOf_203 rfl ?_
                            refine z_if_ne C d9_twoOf_204 (fun c32 => ?_) (fun c32 => ?_)
                            · have hf := zit c32 hf
                              refine z_iload_n C d9_twoOf_207 rfl ?_
                              refine z_if_eq C d9_twoOf_208 (fun c33 => ?_) (fun c33 => ?_)
                              · have hf := zit c33 hf
                                refine z_iconst C (0 : Int32) d9_twoOf_215 kI_0 ?_
                                exact z_iret C d9_twoOf_216 hf
                              · have hf := zie c33 hf
                                refine z_iconst C (1 : Int32) d9_twoOf_211 kI_1 ?_
                                refine z_goto C d9_twoOf_212 ?_
                                exact z_iret C d9_twoOf_216 hf
                            · have hf := zie c32 hf
                              refine z_iconst C (1 : Int32) d9_twoOf_211 kI_1 ?_
                              refine z_goto C d9_twoOf_212 ?_
                              exact z_iret C d9_twoOf_216 hf
                          · have hf := zie c31 hf
                            refine z_swc (fun c34 => ?_) (fun c34 => ?_)
                            · have hf := zit c34 hf
                              refine z_iload_n C d9_twoOf_203 rfl ?_
                              refine z_if_ne C d9_twoOf_204 (fun c35 => ?_) (fun c35 => ?_)
                              · have hf := zit c35 hf
                                refine z_iload_n C d9_twoOf_207 rfl ?_
                                refine z_if_eq C d9_twoOf_208 (fun c36 => ?_) (fun c36 => ?_)
                                · have hf := zit c36 hf
                                  refine z_iconst C (0 : Int32) d9_twoOf_215 kI_0 ?_
                                  exact z_iret C d9_twoOf_216 hf
                                · have hf := zie c36 hf
                                  refine z_iconst C (1 : Int32) d9_twoOf_211 kI_1 ?_
                                  refine z_goto C d9_twoOf_212 ?_
                                  exact z_iret C d9_twoOf_216 hf
                              · have hf := zie c35 hf
                                refine z_iconst C (1 : Int32) d9_twoOf_211 kI_1 ?_
                                refine z_goto C d9_twoOf_212 ?_
                                exact z_iret C d9_twoOf_216 hf
                            · have hf := zie c34 hf
                              refine z_swc (fun c37 => ?_) (fun c37 => ?_)
                              · have hf := zit c37 hf
                                refine z_iload_n C d9_twoOf_203 rfl ?_
                                refine z_if_ne C d9_twoOf_204 (fun c38 => ?_) (fun c38 => ?_)
                                · have hf := zit c38 hf
                                  refine z_iload_n C d9_twoOf_207 rfl ?_
                                  refine z_if_eq C d9_twoOf_208 (fun c39 => ?_) (fun c39 => ?_)
                                  · have hf := zit c39 hf
                                    refine z_iconst C (0 : Int32) d9_twoOf_215 kI_0 ?_
                                    exact z_iret C d9_twoOf_216 hf
                                  · have hf := zie c39 hf
                                    refine z_iconst C (1 : Int32) d9_twoOf_211 kI_1 ?_
                                    refine z_goto C d9_twoOf_212 ?_
                                    exact z_iret C d9_twoOf_216 hf
                                · have hf := zie c38 hf
                                  refine z_iconst C (1 : Int32) d9_twoOf_211 kI_1 ?_
                                  refine z_goto C d9_twoOf_212 ?_
                                  exact z_iret C d9_twoOf_216 hf
                              · have hf := zie c37 hf
                                refine z_swc (fun c40 => ?_) (fun c40 => ?_)
                                · have hf := zit c40 hf
                                  refine z_iload_n C d9_twoOf_203 rfl ?_
                                  refine z_if_ne C d9_twoOf_204 (fun c41 => ?_) (fun c41 => ?_)
                                  · have hf := zit c41 hf
                                    refine z_iload_n C d9_twoOf_207 rfl ?_
                                    refine z_if_eq C d9_twoOf_208 (fun c42 => ?_) (fun c42 => ?_)
                                    · have hf := zit c42 hf
                                      refine z_iconst C (0 : Int32) d9_twoOf_215 kI_0 ?_
                                      exact z_iret C d9_twoOf_216 hf
                                    · have hf := zie c42 hf
                                      refine z_iconst C (1 : Int32) d9_twoOf_211 kI_1 ?_
                                      refine z_goto C d9_twoOf_212 ?_
                                      exact z_iret C d9_twoOf_216 hf
                                  · have hf := zie c41 hf
                                    refine z_iconst C (1 : Int32) d9_twoOf_211 kI_1 ?_
                                    refine z_goto C d9_twoOf_212 ?_
                                    exact z_iret C d9_twoOf_216 hf
                                · have hf := zie c40 hf
                                  refine z_swc (fun c43 => ?_) (fun c43 => ?_)
                                  · have hf := zit c43 hf
                                    refine z_iload_n C d9_twoOf_203 rfl ?_
                                    refine z_if_ne C d9_twoOf_204 (fun c44 => ?_) (fun c44 => ?_)
                                    · have hf := zit c44 hf
                                      refine z_iload_n C d9_twoOf_207 rfl ?_
                                      refine z_if_eq C d9_twoOf_208 (fun c45 => ?_) (fun c45 => ?_)
                                      · have hf := zit c45 hf
                                        refine z_iconst C (0 : Int32) d9_twoOf_215 kI_0 ?_
                                        exact z_iret C d9_twoOf_216 hf
                                      · have hf := zie c45 hf
                                        refine z_iconst C (1 : Int32) d9_twoOf_211 kI_1 ?_
                                        refine z_goto C d9_twoOf_212 ?_
                                        exact z_iret C d9_twoOf_216 hf
                                    · have hf := zie c44 hf
                                      refine z_iconst C (1 : Int32) d9_twoOf_211 kI_1 ?_
                                      refine z_goto C d9_twoOf_212 ?_
                                      exact z_iret C d9_twoOf_216 hf
                                  · have hf := zie c43 hf
                                    refine z_swc (fun c46 => ?_) (fun c46 => ?_)
                                    · have hf := zit c46 hf
                                      refine z_iload_n C d9_twoOf_203 rfl ?_
                                      refine z_if_ne C d9_twoOf_204 (fun c47 => ?_) (fun c47 => ?_)
                                      · have hf := zit c47 hf
                                        refine z_iload_n C d9_twoOf_207 rfl ?_
                                        refine z_if_eq C d9_twoOf_208 (fun c48 => ?_) (fun c48 => ?_)
                                        · have hf := zit c48 hf
                                          refine z_iconst C (0 : Int32) d9_twoOf_215 kI_0 ?_
                                          exact z_iret C d9_twoOf_216 hf
                                        · have hf := zie c48 hf
                                          refine z_iconst C (1 : Int32) d9_twoOf_211 kI_1 ?_
                                          refine z_goto C d9_twoOf_212 ?_
                                          exact z_iret C d9_twoOf_216 hf
                                      · have hf := zie c47 hf
                                        refine z_iconst C (1 : Int32) d9_twoOf_211 kI_1 ?_
                                        refine z_goto C d9_twoOf_212 ?_
                                        exact z_iret C d9_twoOf_216 hf
                                    · have hf := zie c46 hf
                                      refine z_swc (fun c49 => ?_) (fun c49 => ?_)
                                      · have hf := zit c49 hf
                                        refine z_iload_n C d9_twoOf_203 rfl ?_
                                        refine z_if_ne C d9_twoOf_204 (fun c50 => ?_) (fun c50 => ?_)
                                        · have hf := zit c50 hf
                                          refine z_iload_n C d9_twoOf_207 rfl ?_
                                          refine z_if_eq C d9_twoOf_208 (fun c51 => ?_) (fun c51 => ?_)
                                          · have hf := zit c51 hf
                                            refine z_iconst C (0 : Int32) d9_twoOf_215 kI_0 ?_
                                            exact z_iret C d9_twoOf_216 hf
                                          · have hf := zie c51 hf
                                            refine z_iconst C (1 : Int32) d9_twoOf_211 kI_1 ?_
                                            refine z_goto C d9_twoOf_212 ?_
                                            exact z_iret C d9_twoOf_216 hf
                                        · have hf := zie c50 hf
                                          refine z_iconst C (1 : Int32) d9_twoOf_211 kI_1 ?_
                                          refine z_goto C d9_twoOf_212 ?_
                                          exact z_iret C d9_twoOf_216 hf
                                      · have hf := zie c49 hf
                                        refine z_swc (fun c52 => ?_) (fun c52 => ?_)
                                        · have hf := zit c52 hf
                                          refine z_iload_n C d9_twoOf_203 rfl ?_
                                          refine z_if_ne C d9_twoOf_204 (fun c53 => ?_) (fun c53 => ?_)
                                          · have hf := zit c53 hf
                                            refine z_iload_n C d9_twoOf_207 rfl ?_
                                            refine z_if_eq C d9_twoOf_208 (fun c54 => ?_) (fun c54 => ?_)
                                            · have hf := zit c54 hf
                                              refine z_iconst C (0 : Int32) d9_twoOf_215 kI_0 ?_
                                              exact z_iret C d9_twoOf_216 hf
                                            · have hf := zie c54 hf
                                              refine z_iconst C (1 : Int32) d9_twoOf_211 kI_1 ?_
                                              refine z_goto C d9_twoOf_212 ?_
                                              exact z_iret C d9_twoOf_216 hf
                                          · have hf := zie c53 hf
                                            refine z_iconst C (1 : Int32) d9_twoOf_211 kI_1 ?_
                                            refine z_goto C d9_twoOf_212 ?_
                                            exact z_iret C d9_twoOf_216 hf
                                        · have hf := zie c52 hf
                                          refine z_swc (fun c55 => ?_) (fun c55 => ?_)
                                          · have hf := zit c55 hf
                                            refine z_iload_n C d9_twoOf_203 rfl ?_
                                            refine z_if_ne C d9_twoOf_204 (fun c56 => ?_) (fun c56 => ?_)
                                            · have hf := zit c56 hf
                                              refine z_iload_n C d9_twoOf_207 rfl ?_
                                              refine z_if_eq C d9_twoOf_208 (fun c57 => ?_) (fun c57 => ?_)
                                              · have hf := zit c57 hf
                                                refine z_iconst C (0 : Int32) d9_twoOf_215 kI_0 ?_
                                                exact z_iret C d9_twoOf_216 hf
                                              · have hf := zie c57 hf
                                                refine z_iconst C (1 : Int32) d9_twoOf_211 kI_1 ?_
                                                refine z_goto C d9_twoOf_212 ?_
                                                exact z_iret C d9_twoOf_216 hf
                                            · have hf := zie c56 hf
                                              refine z_iconst C (1 : Int32) d9_twoOf_211 kI_1 ?_
                                              refine z_goto C d9_twoOf_212 ?_
                                              exact z_iret C d9_twoOf_216 hf
                                          · have hf := zie c55 hf
                                            refine z_swc (fun c58 => ?_) (fun c58 => ?_)
                                            · have hf := zit c58 hf
                                              refine z_iload_n C d9_twoOf_203 rfl ?_
                                              refine z_if_ne C d9_twoOf_204 (fun c59 => ?_) (fun c59 => ?_)
                                              · have hf := zit c59 hf
                                                refine z_iload_n C d9_twoOf_207 rfl ?_
                                                refine z_if_eq C d9_twoOf_208 (fun c60 => ?_) (fun c60 => ?_)
                                                · have hf := zit c60 hf
                                                  refine z_iconst C (0 : Int32) d9_twoOf_215 kI_0 ?_
                                                  exact z_iret C d9_twoOf_216 hf
                                                · have hf := zie c60 hf
                                                  refine z_iconst C (1 : Int32) d9_twoOf_211 kI_1 ?_
                                                  refine z_goto C d9_twoOf_212 ?_
                                                  exact z_iret C d9_twoOf_216 hf
                                              · have hf := zie c59 hf
                                                refine z_iconst C (1 : Int32) d9_twoOf_211 kI_1 ?_
                                                refine z_goto C d9_twoOf_212 ?_
                                                exact z_iret C d9_twoOf_216 hf
                                            · have hf := zie c58 hf
                                              refine z_swc (fun c61 => ?_) (fun c61 => ?_)
                                              · have hf := zit c61 hf
                                                refine z_iload_n C d9_twoOf_203 rfl ?_
                                                refine z_if_ne C d9_twoOf_204 (fun c62 => ?_) (fun c62 => ?_)
                                                · have hf := zit c62 hf
                                                  refine z_iload_n C d9_twoOf_207 rfl ?_
                                                  refine z_if_eq C d9_twoOf_208 (fun c63 => ?_) (fun c63 => ?_)
                                                  · have hf := zit c63 hf
                                                    refine z_iconst C (0 : Int32) d9_twoOf_215 kI_0 ?_
                                                    exact z_iret C d9_twoOf_216 hf
                                                  · have hf := zie c63 hf
                                                    refine z_iconst C (1 : Int32) d9_twoOf_211 kI_1 ?_
                                                    refine z_goto C d9_twoOf_212 ?_
                                                    exact z_iret C d9_twoOf_216 hf
                                                · have hf := zie c62 hf
                                                  refine z_iconst C (1 : Int32) d9_twoOf_211 kI_1 ?_
                                                  refine z_goto C d9_twoOf_212 ?_
                                                  exact z_iret C d9_twoOf_216 hf
                                              · have hf := zie c61 hf
                                                refine z_swc (fun c64 => ?_) (fun c64 => ?_)
                                                · have hf := zit c64 hf
                                                  refine z_iload_n C d9_twoOf_156 rfl ?_
                                                  refine z_iload_n C d9_twoOf_157 rfl ?_
                                                  refine z_icmp_ge C d9_twoOf_158 (fun c65 => ?_) (fun c65 => ?_)
                                                  · have hf := zit c65 hf
                                                    refine z_iconst C (0 : Int32) d9_twoOf_165 kI_0 ?_
                                                    exact z_iret C d9_twoOf_166 hf
                                                  · have hf := zie c65 hf
                                                    refine z_iconst C (1 : Int32) d9_twoOf_161 kI_1 ?_
                                                    refine z_goto C d9_twoOf_162 ?_
                                                    exact z_iret C d9_twoOf_166 hf
                                                · have hf := zie c64 hf
                                                  refine z_swc (fun c66 => ?_) (fun c66 => ?_)
                                                  · have hf := zit c66 hf
                                                    refine z_iload_n C d9_twoOf_167 rfl ?_
                                                    refine z_iload_n C d9_twoOf_168 rfl ?_
                                                    refine z_icmp_ne C d9_twoOf_169 (fun c67 => ?_) (fun c67 => ?_)
                                                    · have hf := zit c67 hf
                                                      refine z_iconst C (1 : Int32) d9_twoOf_172 kI_1 ?_
                                                      refine z_goto C d9_twoOf_173 ?_
                                                      exact z_iret C d9_twoOf_177 hf
                                                    · have hf := zie c67 hf
                                                      refine z_iconst C (0 : Int32) d9_twoOf_176 kI_0 ?_
                                                      exact z_iret C d9_twoOf_177 hf
                                                  · have hf := zie c66 hf
                                                    refine z_swc (fun c68 => ?_) (fun c68 => ?_)
                                                    · have hf := zit c68 hf
                                                      refine z_iload_n C d9_twoOf_178 rfl ?_
                                                      refine z_iload_n C d9_twoOf_179 rfl ?_
                                                      refine z_icmp_le C d9_twoOf_180 (fun c69 => ?_) (fun c69 => ?_)
                                                      · have hf := zit c69 hf
                                                        refine z_iconst C (0 : Int32) d9_twoOf_187 kI_0 ?_
                                                        exact z_iret C d9_twoOf_188 hf
                                                      · have hf := zie c69 hf
                                                        refine z_iconst C (1 : Int32) d9_twoOf_183 kI_1 ?_
                                                        refine z_goto C d9_twoOf_184 ?_
                                                        exact z_iret C d9_twoOf_188 hf
                                                    · have hf := zie c68 hf
                                                      refine z_sw0 ?_
                                                      refine z_iload_n C d9_twoOf_203 rfl ?_
                                                      refine z_if_ne C d9_twoOf_204 (fun c70 => ?_) (fun c70 => ?_)
                                                      · have hf := zit c70 hf
                                                        refine z_iload_n C d9_twoOf_207 rfl ?_
                                                        refine z_if_eq C d9_twoOf_208 (fun c71 => ?_) (fun c71 => ?_)
                                                        · have hf := zit c71 hf
                                                          refine z_iconst C (0 : Int32) d9_twoOf_215 kI_0 ?_
                                                          exact z_iret C d9_twoOf_216 hf
                                                        · have hf := zie c71 hf
                                                          refine z_iconst C (1 : Int32) d9_twoOf_211 kI_1 ?_
                                                          refine z_goto C d9_twoOf_212 ?_
                                                          exact z_iret C d9_twoOf_216 hf
                                                      · have hf := zie c70 hf
                                                        refine z_iconst C (1 : Int32) d9_twoOf_211 kI_1 ?_
                                                        refine z_goto C d9_twoOf_212 ?_
                                                        exact z_iret C d9_twoOf_216 hf
theorem d9_works_0 : zd b9_works 0 (.iconst 0) 1 1 := ⟨by decide +kernel, rfl⟩
theorem d9_works_1 : zd b9_works 1 (.istore_n 2) 1 2 := ⟨by decide +kernel, rfl⟩
theorem d9_works_2 : zd b9_works 2 (.iconst 0) 1 3 := ⟨by decide +kernel, rfl⟩
theorem d9_works_3 : zd b9_works 3 (.istore_n 3) 1 4 := ⟨by decide +kernel, rfl⟩
theorem d9_works_4 : zd b9_works 4 (.iload_n 3) 1 5 := ⟨by decide +kernel, rfl⟩
theorem d9_works_5 : zd b9_works 5 (.aload_n 0) 1 6 := ⟨by decide +kernel, rfl⟩
theorem d9_works_6 : zd b9_works 6 (.getfield 9) 3 9 := ⟨by decide +kernel, rfl⟩
theorem d9_works_9 : zd b9_works 9 (.iload_n 1) 1 10 := ⟨by decide +kernel, rfl⟩
theorem d9_works_10 : zd b9_works 10 .iaload 1 11 := ⟨by decide +kernel, rfl⟩
theorem d9_works_11 : zdb b9_works 11 (.if_icmp .ge 144) 144 14 155 := ⟨by decide +kernel, rfl, by decide⟩
theorem d9_works_14 : zd b9_works 14 (.aload_n 0) 1 15 := ⟨by decide +kernel, rfl⟩
theorem d9_works_15 : zd b9_works 15 (.getfield 9) 3 18 := ⟨by decide +kernel, rfl⟩
theorem d9_works_18 : zd b9_works 18 (.iload_n 1) 1 19 := ⟨by decide +kernel, rfl⟩
theorem d9_works_19 : zd b9_works 19 (.iconst 1) 1 20 := ⟨by decide +kernel, rfl⟩
theorem d9_works_20 : zd b9_works 20 .iadd 1 21 := ⟨by decide +kernel, rfl⟩
theorem d9_works_21 : zd b9_works 21 (.iload_n 3) 1 22 := ⟨by decide +kernel, rfl⟩
theorem d9_works_22 : zd b9_works 22 .iadd 1 23 := ⟨by decide +kernel, rfl⟩
theorem d9_works_23 : zd b9_works 23 .iaload 1 24 := ⟨by decide +kernel, rfl⟩
theorem d9_works_24 : zd b9_works 24 (.istore 4) 2 26 := ⟨by decide +kernel, rfl⟩
theorem d9_works_26 : zd b9_works 26 (.iload 4) 2 28 := ⟨by decide +kernel, rfl⟩
theorem d9_works_28 : zd b9_works 28 (.iconst 1) 1 29 := ⟨by decide +kernel, rfl⟩
theorem d9_works_29 : zdb b9_works 29 (.if_icmp .eq 9) 9 32 38 := ⟨by decide +kernel, rfl, by decide⟩
theorem d9_works_32 : zd b9_works 32 (.iload 4) 2 34 := ⟨by decide +kernel, rfl⟩
theorem d9_works_34 : zd b9_works 34 (.iconst 2) 1 35 := ⟨by decide +kernel, rfl⟩
theorem d9_works_35 : zdb b9_works 35 (.if_icmp .ne 51) 51 38 86 := ⟨by decide +kernel, rfl, by decide⟩
theorem d9_works_38 : zd b9_works 38 (.aload_n 0) 1 39 := ⟨by decide +kernel, rfl⟩
theorem d9_works_39 : zd b9_works 39 (.getfield 46) 3 42 := ⟨by decide +kernel, rfl⟩
theorem d9_works_42 : zd b9_works 42 (.iload_n 2) 1 43 := ⟨by decide +kernel, rfl⟩
theorem d9_works_43 : zd b9_works 43 (.iload 4) 2 45 := ⟨by decide +kernel, rfl⟩
theorem d9_works_45 : zd b9_works 45 (.iconst 1) 1 46 := ⟨by decide +kernel, rfl⟩
theorem d9_works_46 : zdb b9_works 46 (.if_icmp .ne 17) 17 49 63 := ⟨by decide +kernel, rfl, by decide⟩
theorem d9_works_49 : zd b9_works 49 (.aload_n 0) 1 50 := ⟨by decide +kernel, rfl⟩
theorem d9_works_50 : zd b9_works 50 (.getfield 9) 3 53 := ⟨by decide +kernel, rfl⟩
theorem d9_works_53 : zd b9_works 53 (.iload_n 1) 1 54 := ⟨by decide +kernel, rfl⟩
theorem d9_works_54 : zd b9_works 54 (.bipush 61) 2 56 := ⟨by decide +kernel, rfl⟩
theorem d9_works_56 : zd b9_works 56 .iadd 1 57 := ⟨by decide +kernel, rfl⟩
theorem d9_works_57 : zd b9_works 57 (.iload_n 3) 1 58 := ⟨by decide +kernel, rfl⟩
theorem d9_works_58 : zd b9_works 58 .iadd 1 59 := ⟨by decide +kernel, rfl⟩
theorem d9_works_59 : zd b9_works 59 .iaload 1 60 := ⟨by decide +kernel, rfl⟩
theorem d9_works_60 : zdb b9_works 60 (.goto 19) 19 63 79 := ⟨by decide +kernel, rfl, by decide⟩
theorem d9_works_63 : zd b9_works 63 (.aload_n 0) 1 64 := ⟨by decide +kernel, rfl⟩
theorem d9_works_64 : zd b9_works 64 (.getfield 43) 3 67 := ⟨by decide +kernel, rfl⟩
theorem d9_works_67 : zd b9_works 67 (.aload_n 0) 1 68 := ⟨by decide +kernel, rfl⟩
theorem d9_works_68 : zd b9_works 68 (.getfield 9) 3 71 := ⟨by decide +kernel, rfl⟩
theorem d9_works_71 : zd b9_works 71 (.iload_n 1) 1 72 := ⟨by decide +kernel, rfl⟩
theorem d9_works_72 : zd b9_works 72 (.bipush 61) 2 74 := ⟨by decide +kernel, rfl⟩
theorem d9_works_74 : zd b9_works 74 .iadd 1 75 := ⟨by decide +kernel, rfl⟩
theorem d9_works_75 : zd b9_works 75 (.iload_n 3) 1 76 := ⟨by decide +kernel, rfl⟩
theorem d9_works_76 : zd b9_works 76 .iadd 1 77 := ⟨by decide +kernel, rfl⟩
theorem d9_works_77 : zd b9_works 77 .iaload 1 78 := ⟨by decide +kernel, rfl⟩
theorem d9_works_78 : zd b9_works 78 .iaload 1 79 := ⟨by decide +kernel, rfl⟩
theorem d9_works_79 : zd b9_works 79 .iastore 1 80 := ⟨by decide +kernel, rfl⟩
theorem d9_works_80 : zd b9_works 80 (.iinc 2 1) 3 83 := ⟨by decide +kernel, rfl⟩
theorem d9_works_83 : zdb b9_works 83 (.goto 66) 66 86 149 := ⟨by decide +kernel, rfl, by decide⟩
theorem d9_works_86 : zd b9_works 86 (.iload 4) 2 88 := ⟨by decide +kernel, rfl⟩
theorem d9_works_88 : zd b9_works 88 (.iconst 3) 1 89 := ⟨by decide +kernel, rfl⟩
theorem d9_works_89 : zdb b9_works 89 (.if_icmp .ne 30) 30 92 119 := ⟨by decide +kernel, rfl, by decide⟩
theorem d9_works_92 : zd b9_works 92 (.aload_n 0) 1 93 := ⟨by decide +kernel, rfl⟩
theorem d9_works_93 : zd b9_works 93 (.getfield 46) 3 96 := ⟨by decide +kernel, rfl⟩
theorem d9_works_96 : zd b9_works 96 (.iload_n 2) 1 97 := ⟨by decide +kernel, rfl⟩
theorem d9_works_97 : zd b9_works 97 (.iconst 1) 1 98 := ⟨by decide +kernel, rfl⟩
theorem d9_works_98 : zd b9_works 98 .isub 1 99 := ⟨by decide +kernel, rfl⟩
theorem d9_works_99 : zd b9_works 99 (.aload_n 0) 1 100 := ⟨by decide +kernel, rfl⟩
theorem d9_works_100 : zd b9_works 100 (.getfield 46) 3 103 := ⟨by decide +kernel, rfl⟩
theorem d9_works_103 : zd b9_works 103 (.iload_n 2) 1 104 := ⟨by decide +kernel, rfl⟩
theorem d9_works_104 : zd b9_works 104 (.iconst 1) 1 105 := ⟨by decide +kernel, rfl⟩
theorem d9_works_105 : zd b9_works 105 .isub 1 106 := ⟨by decide +kernel, rfl⟩
theorem d9_works_106 : zd b9_works 106 .iaload 1 107 := ⟨by decide +kernel, rfl⟩
theorem d9_works_107 : zdb b9_works 107 (.ifCond .ne 7) 7 110 114 := ⟨by decide +kernel, rfl, by decide⟩
theorem d9_works_110 : zd b9_works 110 (.iconst 1) 1 111 := ⟨by decide +kernel, rfl⟩
theorem d9_works_111 : zdb b9_works 111 (.goto 4) 4 114 115 := ⟨by decide +kernel, rfl, by decide⟩
theorem d9_works_114 : zd b9_works 114 (.iconst 0) 1 115 := ⟨by decide +kernel, rfl⟩
theorem d9_works_115 : zd b9_works 115 .iastore 1 116 := ⟨by decide +kernel, rfl⟩
theorem d9_works_116 : zdb b9_works 116 (.goto 33) 33 119 149 := ⟨by decide +kernel, rfl, by decide⟩
theorem d9_works_119 : zd b9_works 119 (.iinc 2 (-1)) 3 122 := ⟨by decide +kernel, rfl⟩
theorem d9_works_122 : zd b9_works 122 (.aload_n 0) 1 123 := ⟨by decide +kernel, rfl⟩
theorem d9_works_123 : zd b9_works 123 (.getfield 46) 3 126 := ⟨by decide +kernel, rfl⟩
theorem d9_works_126 : zd b9_works 126 (.iload_n 2) 1 127 := ⟨by decide +kernel, rfl⟩
theorem d9_works_127 : zd b9_works 127 (.iconst 1) 1 128 := ⟨by decide +kernel, rfl⟩
theorem d9_works_128 : zd b9_works 128 .isub 1 129 := ⟨by decide +kernel, rfl⟩
theorem d9_works_129 : zd b9_works 129 (.iload 4) 2 131 := ⟨by decide +kernel, rfl⟩
theorem d9_works_131 : zd b9_works 131 (.aload_n 0) 1 132 := ⟨by decide +kernel, rfl⟩
theorem d9_works_132 : zd b9_works 132 (.getfield 46) 3 135 := ⟨by decide +kernel, rfl⟩
theorem d9_works_135 : zd b9_works 135 (.iload_n 2) 1 136 := ⟨by decide +kernel, rfl⟩
theorem d9_works_136 : zd b9_works 136 (.iconst 1) 1 137 := ⟨by decide +kernel, rfl⟩
theorem d9_works_137 : zd b9_works 137 .isub 1 138 := ⟨by decide +kernel, rfl⟩
theorem d9_works_138 : zd b9_works 138 .iaload 1 139 := ⟨by decide +kernel, rfl⟩
theorem d9_works_139 : zd b9_works 139 (.aload_n 0) 1 140 := ⟨by decide +kernel, rfl⟩
theorem d9_works_140 : zd b9_works 140 (.getfield 46) 3 143 := ⟨by decide +kernel, rfl⟩
theorem d9_works_143 : zd b9_works 143 (.iload_n 2) 1 144 := ⟨by decide +kernel, rfl⟩
theorem d9_works_144 : zd b9_works 144 .iaload 1 145 := ⟨by decide +kernel, rfl⟩
theorem d9_works_145 : zd b9_works 145 (.invokestatic 204) 3 148 := ⟨by decide +kernel, rfl⟩
theorem d9_works_148 : zd b9_works 148 .iastore 1 149 := ⟨by decide +kernel, rfl⟩
theorem d9_works_149 : zd b9_works 149 (.iinc 3 1) 3 152 := ⟨by decide +kernel, rfl⟩
theorem d9_works_152 : zdb b9_works 152 (.goto (-148)) (-148) 155 4 := ⟨by decide +kernel, rfl, by decide⟩
theorem d9_works_155 : zd b9_works 155 (.aload_n 0) 1 156 := ⟨by decide +kernel, rfl⟩
theorem d9_works_156 : zd b9_works 156 (.getfield 46) 3 159 := ⟨by decide +kernel, rfl⟩
theorem d9_works_159 : zd b9_works 159 (.iconst 0) 1 160 := ⟨by decide +kernel, rfl⟩
theorem d9_works_160 : zd b9_works 160 .iaload 1 161 := ⟨by decide +kernel, rfl⟩
theorem d9_works_161 : zd b9_works 161 .ireturn 1 162 := ⟨by decide +kernel, rfl⟩
def b9_works_38 (k : Nat) (q4 : Int32 → Int32 → Int32 → ZS → Option (Int32 × ZS)) (x1 : Int32) (x2 : Int32) (x3 : Int32) (x4 : Int32) (σ : ZS) : Option (Int32 × ZS) :=
  if x4 = (1 : Int32) then (
  if zin ((x1 + (61 : Int32)) + x3) 390 then (
  if zin x2 60 then (
  zput (zu σ 116 (x2.toNatClampNeg) (σ 104 ((x1 + (61 : Int32)) + x3).toNatClampNeg)) fun s4 =>
  q4 x1 (x2 + (1 : Int32)) (x3 + (1 : Int32)) s4) else none) else none)
  else (
  if zin ((x1 + (61 : Int32)) + x3) 390 then (
  if zin (σ 104 ((x1 + (61 : Int32)) + x3).toNatClampNeg) 3 then (
  if zin x2 60 then (
  zput (zu σ 116 (x2.toNatClampNeg) (σ 115 (σ 104 ((x1 + (61 : Int32)) + x3).toNatClampNeg).toNatClampNeg)) fun s8 =>
  q4 x1 (x2 + (1 : Int32)) (x3 + (1 : Int32)) s8) else none) else none) else none)
theorem j9_works_38 {x : ZX} {g : ZG} (C : zC x g b9_works R9 (some .int) 5 2 82) {k : Nat} {r : Int32} {σr : ZS}  {q4 : Int32 → Int32 → Int32 → ZS → Option (Int32 × ZS)} (hq4 : (∀ (x1 : Int32) (x2 : Int32) (x3 : Int32) (σ : ZS), q4 x1 x2 x3 σ = some (r, σr) → zw x g 5 0 0 (zMQ x g (some (zi r)) σr) σ 4 [some (zr 103), some (zi x1), some (zi x2), some (zi x3), none] [])) {x1 : Int32} {x2 : Int32} {x3 : Int32} {x4 : Int32} {σ : ZS} (hf : b9_works_38 k q4 x1 x2 x3 x4 σ = some (r, σr)) : zw x g 5 0 0 (zMQ x g (some (zi r)) σr) σ 38 [some (zr 103), some (zi x1), some (zi x2), some (zi x3), some (zi x4)] [] := by
  unfold b9_works_38 at hf
  refine z_aload_n C d9_works_38 rfl ?_
  refine z_getR C d9_works_39 fl_834 kZ_103 116 rfl (zn0 kZ_116) ?_
  refine z_iload_n C d9_works_42 rfl ?_
  refine z_iload C d9_works_43 rfl ?_
  refine z_iconst C (1 : Int32) d9_works_45 kI_1 ?_
  refine z_icmp_ne C d9_works_46 (fun c1 => ?_) (fun c1 => ?_)
  · have hf := zit c1 hf
    refine z_aload_n C d9_works_49 rfl ?_
    refine z_getR C d9_works_50 fl_817 kZ_103 104 rfl (zn0 kZ_104) ?_
    refine z_iload_n C d9_works_53 rfl ?_
    refine z_bipush C (61 : Int32) d9_works_54 kB_61 ?_
    refine z_iadd C d9_works_56 ?_
    refine z_iload_n C d9_works_57 rfl ?_
    refine z_iadd C d9_works_58 ?_
    obtain ⟨g2, hf⟩ := zgo hf
    refine z_iald C d9_works_59 kZ_104 kL_104 g2 (((x1 + (61 : Int32)) + x3).toNatClampNeg) rfl ?_
    refine z_goto C d9_works_60 ?_
    obtain ⟨g3, hf⟩ := zgo hf
    obtain ⟨s4, e4, hf⟩ := zpx hf
    refine z_iast C d9_works_79 kZ_116 kL_116 g3 rfl e4 ?_
    refine z_iinc C d9_works_80 rfl kI_1 (Nat.le_of_ble_eq_true rfl) rfl (L' := [some (zr 103), some (zi x1), some (zi (x2 + (1 : Int32))), some (zi x3), some (zi x4)]) rfl ?_
    refine z_goto C d9_works_83 ?_
    refine z_iinc C d9_works_149 rfl kI_1 (Nat.le_of_ble_eq_true rfl) rfl (L' := [some (zr 103), some (zi x1), some (zi (x2 + (1 : Int32))), some (zi (x3 + (1 : Int32))), some (zi x4)]) rfl ?_
    refine z_goto C d9_works_152 ?_
    refine z_drop [true, true, true, true, false] (L' := [some (zr 103), some (zi x1), some (zi (x2 + (1 : Int32))), some (zi (x3 + (1 : Int32))), none]) rfl ?_
    exact hq4 _ _ _ _ hf
  · have hf := zie c1 hf
    refine z_aload_n C d9_works_63 rfl ?_
    refine z_getR C d9_works_64 fl_833 kZ_103 115 rfl (zn0 kZ_115) ?_
    refine z_aload_n C d9_works_67 rfl ?_
    refine z_getR C d9_works_68 fl_817 kZ_103 104 rfl (zn0 kZ_104) ?_
    refine z_iload_n C d9_works_71 rfl ?_
    refine z_bipush C (61 : Int32) d9_works_72 kB_61 ?_
    refine z_iadd C d9_works_74 ?_
    refine z_iload_n C d9_works_75 rfl ?_
    refine z_iadd C d9_works_76 ?_
    obtain ⟨g5, hf⟩ := zgo hf
    refine z_iald C d9_works_77 kZ_104 kL_104 g5 (((x1 + (61 : Int32)) + x3).toNatClampNeg) rfl ?_
    obtain ⟨g6, hf⟩ := zgo hf
    refine z_iald C d9_works_78 kZ_115 kL_115 g6 ((σ 104 ((x1 + (61 : Int32)) + x3).toNatClampNeg).toNatClampNeg) rfl ?_
    obtain ⟨g7, hf⟩ := zgo hf
    obtain ⟨s8, e8, hf⟩ := zpx hf
    refine z_iast C d9_works_79 kZ_116 kL_116 g7 rfl e8 ?_
    refine z_iinc C d9_works_80 rfl kI_1 (Nat.le_of_ble_eq_true rfl) rfl (L' := [some (zr 103), some (zi x1), some (zi (x2 + (1 : Int32))), some (zi x3), some (zi x4)]) rfl ?_
    refine z_goto C d9_works_83 ?_
    refine z_iinc C d9_works_149 rfl kI_1 (Nat.le_of_ble_eq_true rfl) rfl (L' := [some (zr 103), some (zi x1), some (zi (x2 + (1 : Int32))), some (zi (x3 + (1 : Int32))), some (zi x4)]) rfl ?_
    refine z_goto C d9_works_152 ?_
    refine z_drop [true, true, true, true, false] (L' := [some (zr 103), some (zi x1), some (zi (x2 + (1 : Int32))), some (zi (x3 + (1 : Int32))), none]) rfl ?_
    exact hq4 _ _ _ _ hf
def b9_works_4 (k : Nat) (q4 : Int32 → Int32 → Int32 → ZS → Option (Int32 × ZS)) (x1 : Int32) (x2 : Int32) (x3 : Int32) (σ : ZS) : Option (Int32 × ZS) :=
  if zin x1 390 then (
  if (σ 104 x1.toNatClampNeg) ≤ x3 then (
  some ((σ 116 0), σ))
  else (
  if zin ((x1 + (1 : Int32)) + x3) 390 then (
  if (σ 104 ((x1 + (1 : Int32)) + x3).toNatClampNeg) = (1 : Int32) then (
  b9_works_38 k q4 x1 x2 x3 (σ 104 ((x1 + (1 : Int32)) + x3).toNatClampNeg) σ)
  else (
  if (σ 104 ((x1 + (1 : Int32)) + x3).toNatClampNeg) = (2 : Int32) then (
  b9_works_38 k q4 x1 x2 x3 (σ 104 ((x1 + (1 : Int32)) + x3).toNatClampNeg) σ)
  else (
  if (σ 104 ((x1 + (1 : Int32)) + x3).toNatClampNeg) = (3 : Int32) then (
  if zin (x2 - (1 : Int32)) 60 then (
  if (σ 116 (x2 - (1 : Int32)).toNatClampNeg) = 0 then (
  if zin (x2 - (1 : Int32)) 60 then (
  zput (zu σ 116 ((x2 - (1 : Int32)).toNatClampNeg) (1 : Int32)) fun s10 =>
  q4 x1 x2 (x3 + (1 : Int32)) s10) else none)
  else (
  if zin (x2 - (1 : Int32)) 60 then (
  zput (zu σ 116 ((x2 - (1 : Int32)).toNatClampNeg) (0 : Int32)) fun s12 =>
  q4 x1 x2 (x3 + (1 : Int32)) s12) else none)) else none)
  else (
  if zin ((x2 + (-1 : Int32)) - (1 : Int32)) 60 then (
  if zin (x2 + (-1 : Int32)) 60 then (
  zbd (f9_twoOf k (σ 104 ((x1 + (1 : Int32)) + x3).toNatClampNeg) (σ 116 ((x2 + (-1 : Int32)) - (1 : Int32)).toNatClampNeg) (σ 116 (x2 + (-1 : Int32)).toNatClampNeg) σ) fun r15 s15 =>
  if zin ((x2 + (-1 : Int32)) - (1 : Int32)) 60 then (
  zput (zu s15 116 (((x2 + (-1 : Int32)) - (1 : Int32)).toNatClampNeg) r15) fun s17 =>
  q4 x1 (x2 + (-1 : Int32)) (x3 + (1 : Int32)) s17) else none) else none) else none)))) else none)) else none
def f9_works_4 (k : Nat) : Nat → Int32 → Int32 → Int32 → ZS → Option (Int32 × ZS)
  | 0 => fun _ _ _ _ => none
  | n + 1 => b9_works_4 k  (f9_works_4 k  n)
theorem j9_works_4 {x : ZX} {g : ZG} (C : zC x g b9_works R9 (some .int) 5 2 82) {k : Nat} {r : Int32} {σr : ZS}  {q4 : Int32 → Int32 → Int32 → ZS → Option (Int32 × ZS)} (hq4 : (∀ (x1 : Int32) (x2 : Int32) (x3 : Int32) (σ : ZS), q4 x1 x2 x3 σ = some (r, σr) → zw x g 5 0 0 (zMQ x g (some (zi r)) σr) σ 4 [some (zr 103), some (zi x1), some (zi x2), some (zi x3), none] [])) {x1 : Int32} {x2 : Int32} {x3 : Int32} {σ : ZS} (hf : b9_works_4 k q4 x1 x2 x3 σ = some (r, σr)) : zw x g 5 0 0 (zMQ x g (some (zi r)) σr) σ 4 [some (zr 103), some (zi x1), some (zi x2), some (zi x3), none] [] := by
  unfold b9_works_4 at hf
  refine z_iload_n C d9_works_4 rfl ?_
  refine z_aload_n C d9_works_5 rfl ?_
  refine z_getR C d9_works_6 fl_817 kZ_103 104 rfl (zn0 kZ_104) ?_
  refine z_iload_n C d9_works_9 rfl ?_
  obtain ⟨g1, hf⟩ := zgo hf
  refine z_iald C d9_works_10 kZ_104 kL_104 g1 (x1.toNatClampNeg) rfl ?_
  refine z_icmp_ge C d9_works_11 (fun c2 => ?_) (fun c2 => ?_)
  · have hf := zit c2 hf
    refine z_aload_n C d9_works_155 rfl ?_
    refine z_getR C d9_works_156 fl_834 kZ_103 116 rfl (zn0 kZ_116) ?_
    refine z_iconst C (0 : Int32) d9_works_159 kI_0 ?_
    refine z_iald C d9_works_160 kZ_116 kL_116 ⟨by decide, by decide⟩ (0) kN_0 ?_
    exact z_iret C d9_works_161 hf
  · have hf := zie c2 hf
    refine z_aload_n C d9_works_14 rfl ?_
    refine z_getR C d9_works_15 fl_817 kZ_103 104 rfl (zn0 kZ_104) ?_
    refine z_iload_n C d9_works_18 rfl ?_
    refine z_iconst C (1 : Int32) d9_works_19 kI_1 ?_
    refine z_iadd C d9_works_20 ?_
    refine z_iload_n C d9_works_21 rfl ?_
    refine z_iadd C d9_works_22 ?_
    obtain ⟨g3, hf⟩ := zgo hf
    refine z_iald C d9_works_23 kZ_104 kL_104 g3 (((x1 + (1 : Int32)) + x3).toNatClampNeg) rfl ?_
    refine z_istore C d9_works_24 (Nat.le_of_ble_eq_true rfl) rfl (L' := [some (zr 103), some (zi x1), some (zi x2), some (zi x3), some (zi (σ 104 ((x1 + (1 : Int32)) + x3).toNatClampNeg))]) rfl ?_
    refine z_iload C d9_works_26 rfl ?_
    refine z_iconst C (1 : Int32) d9_works_28 kI_1 ?_
    refine z_icmp_eq C d9_works_29 (fun c4 => ?_) (fun c4 => ?_)
    · have hf := zit c4 hf
      exact j9_works_38 C hq4 hf
    · have hf := zie c4 hf
      refine z_iload C d9_works_32 rfl ?_
      refine z_iconst C (2 : Int32) d9_works_34 kI_2 ?_
      refine z_icmp_ne C d9_works_35 (fun c5 => ?_) (fun c5 => ?_)
      · have hf := zit c5 hf
        exact j9_works_38 C hq4 hf
      · have hf := zie c5 hf
        refine z_iload C d9_works_86 rfl ?_
        refine z_iconst C (3 : Int32) d9_works_88 kI_3 ?_
        refine z_icmp_ne C d9_works_89 (fun c6 => ?_) (fun c6 => ?_)
        · have hf := zit c6 hf
          refine z_aload_n C d9_works_92 rfl ?_
          refine z_getR C d9_works_93 fl_834 kZ_103 116 rfl (zn0 kZ_116) ?_
          refine z_iload_n C d9_works_96 rfl ?_
          refine z_iconst C (1 : Int32) d9_works_97 kI_1 ?_
          refine z_isub C d9_works_98 ?_
          refine z_aload_n C d9_works_99 rfl ?_
          refine z_getR C d9_works_100 fl_834 kZ_103 116 rfl (zn0 kZ_116) ?_
          refine z_iload_n C d9_works_103 rfl ?_
          refine z_iconst C (1 : Int32) d9_works_104 kI_1 ?_
          refine z_isub C d9_works_105 ?_
          obtain ⟨g7, hf⟩ := zgo hf
          refine z_iald C d9_works_106 kZ_116 kL_116 g7 ((x2 - (1 : Int32)).toNatClampNeg) rfl ?_
          refine z_if_ne C d9_works_107 (fun c8 => ?_) (fun c8 => ?_)
          · have hf := zit c8 hf
            refine z_iconst C (1 : Int32) d9_works_110 kI_1 ?_
            refine z_goto C d9_works_111 ?_
            obtain ⟨g9, hf⟩ := zgo hf
            obtain ⟨s10, e10, hf⟩ := zpx hf
            refine z_iast C d9_works_115 kZ_116 kL_116 g9 rfl e10 ?_
            refine z_goto C d9_works_116 ?_
            refine z_iinc C d9_works_149 rfl kI_1 (Nat.le_of_ble_eq_true rfl) rfl (L' := [some (zr 103), some (zi x1), some (zi x2), some (zi (x3 + (1 : Int32))), some (zi (σ 104 ((x1 + (1 : Int32)) + x3).toNatClampNeg))]) rfl ?_
            refine z_goto C d9_works_152 ?_
            refine z_drop [true, true, true, true, false] (L' := [some (zr 103), some (zi x1), some (zi x2), some (zi (x3 + (1 : Int32))), none]) rfl ?_
            exact hq4 _ _ _ _ hf
          · have hf := zie c8 hf
            refine z_iconst C (0 : Int32) d9_works_114 kI_0 ?_
            obtain ⟨g11, hf⟩ := zgo hf
            obtain ⟨s12, e12, hf⟩ := zpx hf
            refine z_iast C d9_works_115 kZ_116 kL_116 g11 rfl e12 ?_
            refine z_goto C d9_works_116 ?_
            refine z_iinc C d9_works_149 rfl kI_1 (Nat.le_of_ble_eq_true rfl) rfl (L' := [some (zr 103), some (zi x1), some (zi x2), some (zi (x3 + (1 : Int32))), some (zi (σ 104 ((x1 + (1 : Int32)) + x3).toNatClampNeg))]) rfl ?_
            refine z_goto C d9_works_152 ?_
            refine z_drop [true, true, true, true, false] (L' := [some (zr 103), some (zi x1), some (zi x2), some (zi (x3 + (1 : Int32))), none]) rfl ?_
            exact hq4 _ _ _ _ hf
        · have hf := zie c6 hf
          refine z_iinc C d9_works_119 rfl kI_m1 (Nat.le_of_ble_eq_true rfl) rfl (L' := [some (zr 103), some (zi x1), some (zi (x2 + (-1 : Int32))), some (zi x3), some (zi (σ 104 ((x1 + (1 : Int32)) + x3).toNatClampNeg))]) rfl ?_
          refine z_aload_n C d9_works_122 rfl ?_
          refine z_getR C d9_works_123 fl_834 kZ_103 116 rfl (zn0 kZ_116) ?_
          refine z_iload_n C d9_works_126 rfl ?_
          refine z_iconst C (1 : Int32) d9_works_127 kI_1 ?_
          refine z_isub C d9_works_128 ?_
          refine z_iload C d9_works_129 rfl ?_
          refine z_aload_n C d9_works_131 rfl ?_
          refine z_getR C d9_works_132 fl_834 kZ_103 116 rfl (zn0 kZ_116) ?_
          refine z_iload_n C d9_works_135 rfl ?_
          refine z_iconst C (1 : Int32) d9_works_136 kI_1 ?_
          refine z_isub C d9_works_137 ?_
          obtain ⟨g13, hf⟩ := zgo hf
          refine z_iald C d9_works_138 kZ_116 kL_116 g13 (((x2 + (-1 : Int32)) - (1 : Int32)).toNatClampNeg) rfl ?_
          refine z_aload_n C d9_works_139 rfl ?_
          refine z_getR C d9_works_140 fl_834 kZ_103 116 rfl (zn0 kZ_116) ?_
          refine z_iload_n C d9_works_143 rfl ?_
          obtain ⟨g14, hf⟩ := zgo hf
          refine z_iald C d9_works_144 kZ_116 kL_116 g14 ((x2 + (-1 : Int32)).toNatClampNeg) rfl ?_
          obtain ⟨r15, s15, h15, hf⟩ := zbx hf
          refine z_callSi C (as := [zi (σ 104 ((x1 + (1 : Int32)) + x3).toNatClampNeg), zi (σ 116 ((x2 + (-1 : Int32)) - (1 : Int32)).toNatClampNeg), zi (σ 116 (x2 + (-1 : Int32)).toNatClampNeg)]) d9_works_145 w_1021 yy9_twoOf (c9_twoOf x.2.1 g h15) rfl rfl (Nat.le_of_ble_eq_true rfl) ⟨Nat.le_of_ble_eq_true rfl, Nat.le_of_ble_eq_true rfl⟩ ⟨Nat.zero_le _, Nat.zero_le _⟩ ?_
          obtain ⟨g16, hf⟩ := zgo hf
          obtain ⟨s17, e17, hf⟩ := zpx hf
          refine z_iast C d9_works_148 kZ_116 kL_116 g16 rfl e17 ?_
          refine z_iinc C d9_works_149 rfl kI_1 (Nat.le_of_ble_eq_true rfl) rfl (L' := [some (zr 103), some (zi x1), some (zi (x2 + (-1 : Int32))), some (zi (x3 + (1 : Int32))), some (zi (σ 104 ((x1 + (1 : Int32)) + x3).toNatClampNeg))]) rfl ?_
          refine z_goto C d9_works_152 ?_
          refine z_drop [true, true, true, true, false] (L' := [some (zr 103), some (zi x1), some (zi (x2 + (-1 : Int32))), some (zi (x3 + (1 : Int32))), none]) rfl ?_
          exact hq4 _ _ _ _ hf
theorem j9_works_4l {x : ZX} {g : ZG} (C : zC x g b9_works R9 (some .int) 5 2 82) {k : Nat} {r : Int32} {σr : ZS}  : ∀ (n : Nat) (x1 : Int32) (x2 : Int32) (x3 : Int32) (σ : ZS), f9_works_4 k  n x1 x2 x3 σ = some (r, σr) → zw x g 5 0 0 (zMQ x g (some (zi r)) σr) σ 4 [some (zr 103), some (zi x1), some (zi x2), some (zi x3), none] [] := by
  intro n
  induction n with
  | zero => intro x1 x2 x3 σ hf; exact absurd (show none = some (r, σr) from hf) (fun z => by cases z)
  | succ n ih => intro x1 x2 x3 σ hf; exact j9_works_4 C  ih (show b9_works_4 k  (f9_works_4 k  n) x1 x2 x3 σ = some (r, σr) from hf)
def f9_works (k : Nat) (x1 : Int32) (σ : ZS) : Option (Int32 × ZS) :=
  f9_works_4 k  k x1 (0 : Int32) (0 : Int32) σ
theorem c9_works (l : Launch) (g : ZG) {k : Nat} {x1 : Int32} {σ : ZS} {r : Int32} {σr : ZS} (hf : f9_works k x1 σ = some (r, σr)) : zT l g y9_works b9_works 5 (some .int) 2 82 [zr 103, zi x1] σ (some (zi r)) σr := by
  unfold f9_works at hf
  refine zT_start (own := R9) rfl (by decide +kernel) 3 (L := [some (zr 103), some (zi x1), none, none, none]) rfl rfl (fun x hl C => ?_)
  subst hl
  refine z_iconst C (0 : Int32) d9_works_0 kI_0 ?_
  refine z_istore_n C d9_works_1 (Nat.le_of_ble_eq_true rfl) rfl (L' := [some (zr 103), some (zi x1), some (zi (0 : Int32)), none, none]) rfl ?_
  refine z_iconst C (0 : Int32) d9_works_2 kI_0 ?_
  refine z_istore_n C d9_works_3 (Nat.le_of_ble_eq_true rfl) rfl (L' := [some (zr 103), some (zi x1), some (zi (0 : Int32)), some (zi (0 : Int32)), none]) rfl ?_
  exact j9_works_4l C  _ _ _ _ _ hf
