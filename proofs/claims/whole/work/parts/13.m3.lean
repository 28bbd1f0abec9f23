/-! methods, printed by wip/whole/gen: GlassTax.move, GlassTax.odds, GlassTax.pay, GlassTax$Street.addPerson, GlassTax.person, GlassTax.personIs, GlassTax$Sheet.write, GlassTax.put, GlassTax.restore, GlassTax.seed, GlassTax.sees, java/util/Arrays.fill, GlassTax$Sheet.begin, GlassTax.sheet, GlassTax.spin, GlassTax.spins, GlassTax.stand, GlassTax.starts, GlassTax$Street.addWaiting, GlassTax.tell, GlassTax$Reader.levelOf, GlassTax$Reader.signHere -/
theorem d8_move_0 : zd b8_move 0 (.aload_n 0) 1 1 := ⟨by decide +kernel, rfl⟩
theorem d8_move_1 : zd b8_move 1 (.iload_n 1) 1 2 := ⟨by decide +kernel, rfl⟩
theorem d8_move_2 : zd b8_move 2 (.invokevirtual 233) 3 5 := ⟨by decide +kernel, rfl⟩
theorem d8_move_5 : zd b8_move 5 (.astore 6) 2 7 := ⟨by decide +kernel, rfl⟩
theorem d8_move_7 : zd b8_move 7 (.aload_n 0) 1 8 := ⟨by decide +kernel, rfl⟩
theorem d8_move_8 : zd b8_move 8 (.iload_n 3) 1 9 := ⟨by decide +kernel, rfl⟩
theorem d8_move_9 : zd b8_move 9 (.invokevirtual 233) 3 12 := ⟨by decide +kernel, rfl⟩
theorem d8_move_12 : zd b8_move 12 (.astore 7) 2 14 := ⟨by decide +kernel, rfl⟩
theorem d8_move_14 : zd b8_move 14 (.aload 6) 2 16 := ⟨by decide +kernel, rfl⟩
theorem d8_move_16 : zdb b8_move 16 (.ifnull 8) 8 19 24 := ⟨by decide +kernel, rfl, by decide⟩
theorem d8_move_19 : zd b8_move 19 (.aload 7) 2 21 := ⟨by decide +kernel, rfl⟩
theorem d8_move_21 : zdb b8_move 21 (.ifnonnull 9) 9 24 30 := ⟨by decide +kernel, rfl, by decide⟩
theorem d8_move_24 : zd b8_move 24 (.aload_n 0) 1 25 := ⟨by decide +kernel, rfl⟩
theorem d8_move_25 : zd b8_move 25 (.iconst 1) 1 26 := ⟨by decide +kernel, rfl⟩
theorem d8_move_26 : zd b8_move 26 (.invokevirtual 67) 3 29 := ⟨by decide +kernel, rfl⟩
theorem d8_move_29 : zd b8_move 29 .ireturn 1 30 := ⟨by decide +kernel, rfl⟩
theorem d8_move_30 : zd b8_move 30 (.aload 6) 2 32 := ⟨by decide +kernel, rfl⟩
theorem d8_move_32 : zd b8_move 32 (.getfield 237) 3 35 := ⟨by decide +kernel, rfl⟩
theorem d8_move_35 : zdb b8_move 35 (.ifCond .eq 11) 11 38 46 := ⟨by decide +kernel, rfl, by decide⟩
theorem d8_move_38 : zd b8_move 38 (.aload 7) 2 40 := ⟨by decide +kernel, rfl⟩
theorem d8_move_40 : zd b8_move 40 (.getfield 237) 3 43 := ⟨by decide +kernel, rfl⟩
theorem d8_move_43 : zdb b8_move 43 (.ifCond .ne 9) 9 46 52 := ⟨by decide +kernel, rfl, by decide⟩
theorem d8_move_46 : zd b8_move 46 (.aload_n 0) 1 47 := ⟨by decide +kernel, rfl⟩
theorem d8_move_47 : zd b8_move 47 (.iconst 2) 1 48 := ⟨by decide +kernel, rfl⟩
theorem d8_move_48 : zd b8_move 48 (.invokevirtual 67) 3 51 := ⟨by decide +kernel, rfl⟩
theorem d8_move_51 : zd b8_move 51 .ireturn 1 52 := ⟨by decide +kernel, rfl⟩
theorem d8_move_52 : zd b8_move 52 (.aload 6) 2 54 := ⟨by decide +kernel, rfl⟩
theorem d8_move_54 : zd b8_move 54 (.getfield 237) 3 57 := ⟨by decide +kernel, rfl⟩
theorem d8_move_57 : zd b8_move 57 (.aload 7) 2 59 := ⟨by decide +kernel, rfl⟩
theorem d8_move_59 : zd b8_move 59 (.getfield 237) 3 62 := ⟨by decide +kernel, rfl⟩
theorem d8_move_62 : zdb b8_move 62 (.if_icmp .eq 9) 9 65 71 := ⟨by decide +kernel, rfl, by decide⟩
theorem d8_move_65 : zd b8_move 65 (.aload_n 0) 1 66 := ⟨by decide +kernel, rfl⟩
theorem d8_move_66 : zd b8_move 66 (.iconst 5) 1 67 := ⟨by decide +kernel, rfl⟩
theorem d8_move_67 : zd b8_move 67 (.invokevirtual 67) 3 70 := ⟨by decide +kernel, rfl⟩
theorem d8_move_70 : zd b8_move 70 .ireturn 1 71 := ⟨by decide +kernel, rfl⟩
theorem d8_move_71 : zd b8_move 71 (.aload 6) 2 73 := ⟨by decide +kernel, rfl⟩
theorem d8_move_73 : zd b8_move 73 (.iload_n 2) 1 74 := ⟨by decide +kernel, rfl⟩
theorem d8_move_74 : zd b8_move 74 (.iload 5) 2 76 := ⟨by decide +kernel, rfl⟩
theorem d8_move_76 : zd b8_move 76 (.invokevirtual 264) 3 79 := ⟨by decide +kernel, rfl⟩
theorem d8_move_79 : zdb b8_move 79 (.ifCond .eq 15) 15 82 94 := ⟨by decide +kernel, rfl, by decide⟩
theorem d8_move_82 : zd b8_move 82 (.aload 7) 2 84 := ⟨by decide +kernel, rfl⟩
theorem d8_move_84 : zd b8_move 84 (.iload 4) 2 86 := ⟨by decide +kernel, rfl⟩
theorem d8_move_86 : zd b8_move 86 (.iload 5) 2 88 := ⟨by decide +kernel, rfl⟩
theorem d8_move_88 : zd b8_move 88 (.invokevirtual 264) 3 91 := ⟨by decide +kernel, rfl⟩
theorem d8_move_91 : zdb b8_move 91 (.ifCond .ne 9) 9 94 100 := ⟨by decide +kernel, rfl, by decide⟩
theorem d8_move_94 : zd b8_move 94 (.aload_n 0) 1 95 := ⟨by decide +kernel, rfl⟩
theorem d8_move_95 : zd b8_move 95 (.iconst 1) 1 96 := ⟨by decide +kernel, rfl⟩
theorem d8_move_96 : zd b8_move 96 (.invokevirtual 67) 3 99 := ⟨by decide +kernel, rfl⟩
theorem d8_move_99 : zd b8_move 99 .ireturn 1 100 := ⟨by decide +kernel, rfl⟩
theorem d8_move_100 : zd b8_move 100 (.aload 6) 2 102 := ⟨by decide +kernel, rfl⟩
theorem d8_move_102 : zd b8_move 102 (.getfield 268) 3 105 := ⟨by decide +kernel, rfl⟩
theorem d8_move_105 : zd b8_move 105 (.iload_n 2) 1 106 := ⟨by decide +kernel, rfl⟩
theorem d8_move_106 : zd b8_move 106 (.aload 7) 2 108 := ⟨by decide +kernel, rfl⟩
theorem d8_move_108 : zd b8_move 108 (.getfield 268) 3 111 := ⟨by decide +kernel, rfl⟩
theorem d8_move_111 : zd b8_move 111 (.iload 4) 2 113 := ⟨by decide +kernel, rfl⟩
theorem d8_move_113 : zd b8_move 113 (.iload 5) 2 115 := ⟨by decide +kernel, rfl⟩
theorem d8_move_115 : zd b8_move 115 (.invokestatic 271) 3 118 := ⟨by decide +kernel, rfl⟩
theorem d8_move_118 : zd b8_move 118 (.iload 5) 2 120 := ⟨by decide +kernel, rfl⟩
theorem d8_move_120 : zd b8_move 120 .ireturn 1 121 := ⟨by decide +kernel, rfl⟩
def f8_move (k : Nat) (x1 : Int32) (x2 : Int32) (x3 : Int32) (x4 : Int32) (x5 : Int32) (σ : ZS) : Option (Int32 × ZS) :=
  zbd (f8_sheetOf k x1 σ) fun r1 s1 =>
  zbd (f8_sheetOf k x3 s1) fun r2 s2 =>
  if r1 = 0 then (
  zbd (f8_error k (1 : Int32) s2) fun r4 s4 =>
  some (r4, s4))
  else (
  if r2 = 0 then (
  zbd (f8_error k (1 : Int32) s2) fun r6 s6 =>
  some (r6, s6))
  else (
  if zsh r1 = 5 then (
  if (s2 r1 1) = 0 then (
  zbd (f8_error k (2 : Int32) s2) fun r9 s9 =>
  some (r9, s9))
  else (
  if zsh r2 = 5 then (
  if (s2 r2 1) = 0 then (
  zbd (f8_error k (2 : Int32) s2) fun r12 s12 =>
  some (r12, s12))
  else (
  if (s2 r1 1) = (s2 r2 1) then (
  zbd (f4_holds k r1 x2 x5 s2) fun r14 s14 =>
  if r14 = 0 then (
  zbd (f8_error k (1 : Int32) s14) fun r16 s16 =>
  some (r16, s16))
  else (
  zbd (f4_holds k r2 x4 x5 s14) fun r17 s17 =>
  if r17 = 0 then (
  zbd (f8_error k (1 : Int32) s17) fun r19 s19 =>
  some (r19, s19))
  else (
  if (0 ≤ x2.toInt ∧ 0 ≤ x4.toInt ∧ 0 ≤ x5.toInt ∧ x2.toInt + x5.toInt ≤ 24 ∧ x4.toInt + x5.toInt ≤ 24) then (
  zput (zurow s17 (r2 + 1) (va_cpy (s17 (r1 + 1)) (s17 (r2 + 1)) x2.toNatClampNeg x4.toNatClampNeg x5.toNatClampNeg)) fun s21 =>
  some (x5, s21)) else none)))
  else (
  zbd (f8_error k (5 : Int32) s2) fun r22 s22 =>
  some (r22, s22)))) else none)) else none))
theorem c8_move (l : Launch) (g : ZG) {k : Nat} {x1 : Int32} {x2 : Int32} {x3 : Int32} {x4 : Int32} {x5 : Int32} {σ : ZS} {r : Int32} {σr : ZS} (hf : f8_move k x1 x2 x3 x4 x5 σ = some (r, σr)) : zT l g y8_move b8_move 8 (some .int) 2 82 [zr 1, zi x1, zi x2, zi x3, zi x4, zi x5] σ (some (zi r)) σr := by
  unfold f8_move at hf
  refine zT_start (own := R8) rfl (by decide +kernel) 2 (L := [some (zr 1), some (zi x1), some (zi x2), some (zi x3), some (zi x4), some (zi x5), none, none]) rfl rfl (fun x hl C => ?_)
  subst hl
  refine z_aload_n C d8_move_0 rfl ?_
  refine z_iload_n C d8_move_1 rfl ?_
  obtain ⟨r1, s1, h1, hf⟩ := zbx hf
  refine z_callVr C (as := [zi x1]) d8_move_2 w_687 yy8_sheetOf (c8_sheetOf x.2.1 g h1) yc8_sheetOf kZ_1 rfl rfl (Nat.le_of_ble_eq_true rfl) ⟨Nat.le_of_ble_eq_true rfl, Nat.le_of_ble_eq_true rfl⟩ ⟨Nat.zero_le _, Nat.zero_le _⟩ ?_
  refine z_astore C d8_move_5 (Nat.le_of_ble_eq_true rfl) rfl (L' := [some (zr 1), some (zi x1), some (zi x2), some (zi x3), some (zi x4), some (zi x5), some (zr r1), none]) rfl ?_
  refine z_aload_n C d8_move_7 rfl ?_
  refine z_iload_n C d8_move_8 rfl ?_
  obtain ⟨r2, s2, h2, hf⟩ := zbx hf
  refine z_callVr C (as := [zi x3]) d8_move_9 w_687 yy8_sheetOf (c8_sheetOf x.2.1 g h2) yc8_sheetOf kZ_1 rfl rfl (Nat.le_of_ble_eq_true rfl) ⟨Nat.le_of_ble_eq_true rfl, Nat.le_of_ble_eq_true rfl⟩ ⟨Nat.zero_le _, Nat.zero_le _⟩ ?_
  refine z_astore C d8_move_12 (Nat.le_of_ble_eq_true rfl) rfl (L' := [some (zr 1), some (zi x1), some (zi x2), some (zi x3), some (zi x4), some (zi x5), some (zr r1), some (zr r2)]) rfl ?_
  refine z_aload C d8_move_14 rfl ?_
  refine z_ifnull C d8_move_16 (fun c3 => ?_) (fun c3 => ?_)
  · have hf := zit c3 hf
    refine z_aload_n C d8_move_24 rfl ?_
    refine z_iconst C (1 : Int32) d8_move_25 kI_1 ?_
    obtain ⟨r4, s4, h4, hf⟩ := zbx hf
    refine z_callVi C (as := [zi (1 : Int32)]) d8_move_26 w_308 yy8_error (c8_error x.2.1 g h4) yc8_error kZ_1 rfl rfl (Nat.le_of_ble_eq_true rfl) ⟨Nat.le_of_ble_eq_true rfl, Nat.le_of_ble_eq_true rfl⟩ ⟨Nat.zero_le _, Nat.zero_le _⟩ ?_
    exact z_iret C d8_move_29 hf
  · have hf := zie c3 hf
    refine z_aload C d8_move_19 rfl ?_
    refine z_ifnonnull C d8_move_21 (fun c5 => ?_) (fun c5 => ?_)
    · have hf := zit c5 hf
      refine z_aload_n C d8_move_24 rfl ?_
      refine z_iconst C (1 : Int32) d8_move_25 kI_1 ?_
      obtain ⟨r6, s6, h6, hf⟩ := zbx hf
      refine z_callVi C (as := [zi (1 : Int32)]) d8_move_26 w_308 yy8_error (c8_error x.2.1 g h6) yc8_error kZ_1 rfl rfl (Nat.le_of_ble_eq_true rfl) ⟨Nat.le_of_ble_eq_true rfl, Nat.le_of_ble_eq_true rfl⟩ ⟨Nat.zero_le _, Nat.zero_le _⟩ ?_
      exact z_iret C d8_move_29 hf
    · have hf := zie c5 hf
      refine z_aload C d8_move_30 rfl ?_
      obtain ⟨g7, hf⟩ := zgo hf
      refine z_getI C d8_move_32 fl_251 g7 ?_
      refine z_if_eq C d8_move_35 (fun c8 => ?_) (fun c8 => ?_)
      · have hf := zit c8 hf
        refine z_aload_n C d8_move_46 rfl ?_
        refine z_iconst C (2 : Int32) d8_move_47 kI_2 ?_
        obtain ⟨r9, s9, h9, hf⟩ := zbx hf
        refine z_callVi C (as := [zi (2 : Int32)]) d8_move_48 w_308 yy8_error (c8_error x.2.1 g h9) yc8_error kZ_1 rfl rfl (Nat.le_of_ble_eq_true rfl) ⟨Nat.le_of_ble_eq_true rfl, Nat.le_of_ble_eq_true rfl⟩ ⟨Nat.zero_le _, Nat.zero_le _⟩ ?_
        exact z_iret C d8_move_51 hf
      · have hf := zie c8 hf
        refine z_aload C d8_move_38 rfl ?_
        obtain ⟨g10, hf⟩ := zgo hf
        refine z_getI C d8_move_40 fl_251 g10 ?_
        refine z_if_ne C d8_move_43 (fun c11 => ?_) (fun c11 => ?_)
        · have hf := zit c11 hf
          refine z_aload_n C d8_move_46 rfl ?_
          refine z_iconst C (2 : Int32) d8_move_47 kI_2 ?_
          obtain ⟨r12, s12, h12, hf⟩ := zbx hf
          refine z_callVi C (as := [zi (2 : Int32)]) d8_move_48 w_308 yy8_error (c8_error x.2.1 g h12) yc8_error kZ_1 rfl rfl (Nat.le_of_ble_eq_true rfl) ⟨Nat.le_of_ble_eq_true rfl, Nat.le_of_ble_eq_true rfl⟩ ⟨Nat.zero_le _, Nat.zero_le _⟩ ?_
          exact z_iret C d8_move_51 hf
        · have hf := zie c11 hf
          refine z_aload C d8_move_52 rfl ?_
          refine z_getI C d8_move_54 fl_251 g7 ?_
          refine z_aload C d8_move_57 rfl ?_
          refine z_getI C d8_move_59 fl_251 g10 ?_
          refine z_icmp_eq C d8_move_62 (fun c13 => ?_) (fun c13 => ?_)
          · have hf := zit c13 hf
            refine z_aload C d8_move_71 rfl ?_
            refine z_iload_n C d8_move_73 rfl ?_
            refine z_iload C d8_move_74 rfl ?_
            obtain ⟨r14, s14, h14, hf⟩ := zbx hf
            refine z_callVi C (as := [zi x2, zi x5]) d8_move_76 w_766 yy4_holds (c4_holds x.2.1 g h14) yc4_holds g7 rfl rfl (Nat.le_of_ble_eq_true rfl) ⟨Nat.le_of_ble_eq_true rfl, Nat.le_of_ble_eq_true rfl⟩ ⟨Nat.zero_le _, Nat.zero_le _⟩ ?_
            refine z_if_eq C d8_move_79 (fun c15 => ?_) (fun c15 => ?_)
            · have hf := zit c15 hf
              refine z_aload_n C d8_move_94 rfl ?_
              refine z_iconst C (1 : Int32) d8_move_95 kI_1 ?_
              obtain ⟨r16, s16, h16, hf⟩ := zbx hf
              refine z_callVi C (as := [zi (1 : Int32)]) d8_move_96 w_308 yy8_error (c8_error x.2.1 g h16) yc8_error kZ_1 rfl rfl (Nat.le_of_ble_eq_true rfl) ⟨Nat.le_of_ble_eq_true rfl, Nat.le_of_ble_eq_true rfl⟩ ⟨Nat.zero_le _, Nat.zero_le _⟩ ?_
              exact z_iret C d8_move_99 hf
            · have hf := zie c15 hf
              refine z_aload C d8_move_82 rfl ?_
              refine z_iload C d8_move_84 rfl ?_
              refine z_iload C d8_move_86 rfl ?_
              obtain ⟨r17, s17, h17, hf⟩ := zbx hf
              refine z_callVi C (as := [zi x4, zi x5]) d8_move_88 w_766 yy4_holds (c4_holds x.2.1 g h17) yc4_holds g10 rfl rfl (Nat.le_of_ble_eq_true rfl) ⟨Nat.le_of_ble_eq_true rfl, Nat.le_of_ble_eq_true rfl⟩ ⟨Nat.zero_le _, Nat.zero_le _⟩ ?_
              refine z_if_ne C d8_move_91 (fun c18 => ?_) (fun c18 => ?_)
              · have hf := zit c18 hf
                refine z_aload_n C d8_move_94 rfl ?_
                refine z_iconst C (1 : Int32) d8_move_95 kI_1 ?_
                obtain ⟨r19, s19, h19, hf⟩ := zbx hf
                refine z_callVi C (as := [zi (1 : Int32)]) d8_move_96 w_308 yy8_error (c8_error x.2.1 g h19) yc8_error kZ_1 rfl rfl (Nat.le_of_ble_eq_true rfl) ⟨Nat.le_of_ble_eq_true rfl, Nat.le_of_ble_eq_true rfl⟩ ⟨Nat.zero_le _, Nat.zero_le _⟩ ?_
                exact z_iret C d8_move_99 hf
              · have hf := zie c18 hf
                refine z_aload C d8_move_100 rfl ?_
                refine z_getR C d8_move_102 fl_249 g7 (r1 + 1) rfl (zn0 (zD5_1 g7)) ?_
                refine z_iload_n C d8_move_105 rfl ?_
                refine z_aload C d8_move_106 rfl ?_
                refine z_getR C d8_move_108 fl_249 g10 (r2 + 1) rfl (zn0 (zD5_1 g10)) ?_
                refine z_iload C d8_move_111 rfl ?_
                refine z_iload C d8_move_113 rfl ?_
                obtain ⟨g20, hf⟩ := zgo hf
                obtain ⟨s21, e21, hf⟩ := zpx hf
                refine z_copy C d8_move_115 w_770 zcopyw (zD5_1 g7) (zN5_1 g7) (zD5_1 g10) (zN5_1 g10) g20 ⟨Nat.le_of_ble_eq_true rfl, Nat.le_of_ble_eq_true rfl⟩ (Nat.le_of_ble_eq_true rfl) e21 ?_
                refine z_iload C d8_move_118 rfl ?_
                exact z_iret C d8_move_120 hf
          · have hf := zie c13 hf
            refine z_aload_n C d8_move_65 rfl ?_
            refine z_iconst C (5 : Int32) d8_move_66 kI_5 ?_
            obtain ⟨r22, s22, h22, hf⟩ := zbx hf
            refine z_callVi C (as := [zi (5 : Int32)]) d8_move_67 w_308 yy8_error (c8_error x.2.1 g h22) yc8_error kZ_1 rfl rfl (Nat.le_of_ble_eq_true rfl) ⟨Nat.le_of_ble_eq_true rfl, Nat.le_of_ble_eq_true rfl⟩ ⟨Nat.zero_le _, Nat.zero_le _⟩ ?_
            exact z_iret C d8_move_70 hf
theorem d8_odds_0 : zd b8_odds 0 (.iload_n 1) 1 1 := ⟨by decide +kernel, rfl⟩
theorem d8_odds_1 : zdb b8_odds 1 (.ifCond .lt 8) 8 4 9 := ⟨by decide +kernel, rfl, by decide⟩
theorem d8_odds_4 : zd b8_odds 4 (.iload_n 1) 1 5 := ⟨by decide +kernel, rfl⟩
theorem d8_odds_5 : zd b8_odds 5 (.iconst 1) 1 6 := ⟨by decide +kernel, rfl⟩
theorem d8_odds_6 : zdb b8_odds 6 (.if_icmp .le 9) 9 9 15 := ⟨by decide +kernel, rfl, by decide⟩
theorem d8_odds_9 : zd b8_odds 9 (.aload_n 0) 1 10 := ⟨by decide +kernel, rfl⟩
theorem d8_odds_10 : zd b8_odds 10 (.iconst 1) 1 11 := ⟨by decide +kernel, rfl⟩
theorem d8_odds_11 : zd b8_odds 11 (.invokevirtual 67) 3 14 := ⟨by decide +kernel, rfl⟩
theorem d8_odds_14 : zd b8_odds 14 .ireturn 1 15 := ⟨by decide +kernel, rfl⟩
theorem d8_odds_15 : zd b8_odds 15 (.iconst 0) 1 16 := ⟨by decide +kernel, rfl⟩
theorem d8_odds_16 : zd b8_odds 16 (.istore_n 2) 1 17 := ⟨by decide +kernel, rfl⟩
theorem d8_odds_17 : zd b8_odds 17 (.iconst 0) 1 18 := ⟨by decide +kernel, rfl⟩
theorem d8_odds_18 : zd b8_odds 18 (.istore_n 3) 1 19 := ⟨by decide +kernel, rfl⟩
theorem d8_odds_19 : zd b8_odds 19 (.iload_n 3) 1 20 := ⟨by decide +kernel, rfl⟩
theorem d8_odds_20 : zd b8_odds 20 (.sipush 256) 3 23 := ⟨by decide +kernel, rfl⟩
theorem d8_odds_23 : zdb b8_odds 23 (.if_icmp .ge 44) 44 26 67 := ⟨by decide +kernel, rfl, by decide⟩
theorem d8_odds_26 : zd b8_odds 26 (.aload_n 0) 1 27 := ⟨by decide +kernel, rfl⟩
theorem d8_odds_27 : zd b8_odds 27 (.getfield 25) 3 30 := ⟨by decide +kernel, rfl⟩
theorem d8_odds_30 : zd b8_odds 30 (.aload_n 0) 1 31 := ⟨by decide +kernel, rfl⟩
theorem d8_odds_31 : zd b8_odds 31 (.getfield 10) 3 34 := ⟨by decide +kernel, rfl⟩
theorem d8_odds_34 : zd b8_odds 34 (.iload_n 3) 1 35 := ⟨by decide +kernel, rfl⟩
theorem d8_odds_35 : zd b8_odds 35 (.iconst 4) 1 36 := ⟨by decide +kernel, rfl⟩
theorem d8_odds_36 : zd b8_odds 36 .idiv 1 37 := ⟨by decide +kernel, rfl⟩
theorem d8_odds_37 : zd b8_odds 37 (.iload_n 3) 1 38 := ⟨by decide +kernel, rfl⟩
theorem d8_odds_38 : zd b8_odds 38 (.iconst 4) 1 39 := ⟨by decide +kernel, rfl⟩
theorem d8_odds_39 : zd b8_odds 39 .irem 1 40 := ⟨by decide +kernel, rfl⟩
theorem d8_odds_40 : zd b8_odds 40 (.invokevirtual 200) 3 43 := ⟨by decide +kernel, rfl⟩
theorem d8_odds_43 : zd b8_odds 43 (.iload_n 2) 1 44 := ⟨by decide +kernel, rfl⟩
theorem d8_odds_44 : zd b8_odds 44 (.aload_n 0) 1 45 := ⟨by decide +kernel, rfl⟩
theorem d8_odds_45 : zd b8_odds 45 (.getfield 25) 3 48 := ⟨by decide +kernel, rfl⟩
theorem d8_odds_48 : zd b8_odds 48 (.getfield 208) 3 51 := ⟨by decide +kernel, rfl⟩
theorem d8_odds_51 : zdb b8_odds 51 (.ifCond .eq 7) 7 54 58 := ⟨by decide +kernel, rfl, by decide⟩
theorem d8_odds_54 : zd b8_odds 54 (.iconst 1) 1 55 := ⟨by decide +kernel, rfl⟩
theorem d8_odds_55 : zdb b8_odds 55 (.goto 4) 4 58 59 := ⟨by decide +kernel, rfl, by decide⟩
theorem d8_odds_58 : zd b8_odds 58 (.iconst 0) 1 59 := ⟨by decide +kernel, rfl⟩
theorem d8_odds_59 : zd b8_odds 59 .iadd 1 60 := ⟨by decide +kernel, rfl⟩
theorem d8_odds_60 : zd b8_odds 60 (.istore_n 2) 1 61 := ⟨by decide +kernel, rfl⟩
theorem d8_odds_61 : zd b8_odds 61 (.iinc 3 1) 3 64 := ⟨by decide +kernel, rfl⟩
theorem d8_odds_64 : zdb b8_odds 64 (.goto (-45)) (-45) 67 19 := ⟨by decide +kernel, rfl, by decide⟩
theorem d8_odds_67 : zd b8_odds 67 (.sipush 256) 3 70 := ⟨by decide +kernel, rfl⟩
theorem d8_odds_70 : zd b8_odds 70 (.istore_n 3) 1 71 := ⟨by decide +kernel, rfl⟩
theorem d8_odds_71 : zd b8_odds 71 (.iconst 0) 1 72 := ⟨by decide +kernel, rfl⟩
theorem d8_odds_72 : zd b8_odds 72 (.istore 4) 2 74 := ⟨by decide +kernel, rfl⟩
theorem d8_odds_74 : zd b8_odds 74 (.iload 4) 2 76 := ⟨by decide +kernel, rfl⟩
theorem d8_odds_76 : zd b8_odds 76 (.bipush 8) 2 78 := ⟨by decide +kernel, rfl⟩
theorem d8_odds_78 : zdb b8_odds 78 (.if_icmp .ge 23) 23 81 101 := ⟨by decide +kernel, rfl, by decide⟩
theorem d8_odds_81 : zd b8_odds 81 (.iload_n 2) 1 82 := ⟨by decide +kernel, rfl⟩
theorem d8_odds_82 : zd b8_odds 82 (.iconst 2) 1 83 := ⟨by decide +kernel, rfl⟩
theorem d8_odds_83 : zd b8_odds 83 .irem 1 84 := ⟨by decide +kernel, rfl⟩
theorem d8_odds_84 : zdb b8_odds 84 (.ifCond .ne 17) 17 87 101 := ⟨by decide +kernel, rfl, by decide⟩
theorem d8_odds_87 : zd b8_odds 87 (.iload_n 2) 1 88 := ⟨by decide +kernel, rfl⟩
theorem d8_odds_88 : zd b8_odds 88 (.iconst 2) 1 89 := ⟨by decide +kernel, rfl⟩
theorem d8_odds_89 : zd b8_odds 89 .idiv 1 90 := ⟨by decide +kernel, rfl⟩
theorem d8_odds_90 : zd b8_odds 90 (.istore_n 2) 1 91 := ⟨by decide +kernel, rfl⟩
theorem d8_odds_91 : zd b8_odds 91 (.iload_n 3) 1 92 := ⟨by decide +kernel, rfl⟩
theorem d8_odds_92 : zd b8_odds 92 (.iconst 2) 1 93 := ⟨by decide +kernel, rfl⟩
theorem d8_odds_93 : zd b8_odds 93 .idiv 1 94 := ⟨by decide +kernel, rfl⟩
theorem d8_odds_94 : zd b8_odds 94 (.istore_n 3) 1 95 := ⟨by decide +kernel, rfl⟩
theorem d8_odds_95 : zd b8_odds 95 (.iinc 4 1) 3 98 := ⟨by decide +kernel, rfl⟩
theorem d8_odds_98 : zdb b8_odds 98 (.goto (-24)) (-24) 101 74 := ⟨by decide +kernel, rfl, by decide⟩
theorem d8_odds_101 : zd b8_odds 101 (.iload_n 1) 1 102 := ⟨by decide +kernel, rfl⟩
theorem d8_odds_102 : zdb b8_odds 102 (.ifCond .ne 7) 7 105 109 := ⟨by decide +kernel, rfl, by decide⟩
theorem d8_odds_105 : zd b8_odds 105 (.iload_n 2) 1 106 := ⟨by decide +kernel, rfl⟩
theorem d8_odds_106 : zdb b8_odds 106 (.goto 4) 4 109 110 := ⟨by decide +kernel, rfl, by decide⟩
theorem d8_odds_109 : zd b8_odds 109 (.iload_n 3) 1 110 := ⟨by decide +kernel, rfl⟩
theorem d8_odds_110 : zd b8_odds 110 .ireturn 1 111 := ⟨by decide +kernel, rfl⟩
def b8_odds_74 (k : Nat) (q74 : Int32 → Int32 → Int32 → Int32 → ZS → Option (Int32 × ZS)) (x1 : Int32) (x2 : Int32) (x3 : Int32) (x4 : Int32) (σ : ZS) : Option (Int32 × ZS) :=
  if (8 : Int32) ≤ x4 then (
  if x1 = 0 then (
  some (x2, σ))
  else (
  some (x3, σ)))
  else (
  if (x2 % (2 : Int32)) = 0 then (
  q74 x1 (x2 / (2 : Int32)) (x3 / (2 : Int32)) (x4 + (1 : Int32)) σ)
  else (
  if x1 = 0 then (
  some (x2, σ))
  else (
  some (x3, σ))))
def f8_odds_74 (k : Nat) : Nat → Int32 → Int32 → Int32 → Int32 → ZS → Option (Int32 × ZS)
  | 0 => fun _ _ _ _ _ => none
  | n + 1 => b8_odds_74 k  (f8_odds_74 k  n)
theorem j8_odds_74 {x : ZX} {g : ZG} (C : zC x g b8_odds R8 (some .int) 5 5 153) {k : Nat} {r : Int32} {σr : ZS}  {q74 : Int32 → Int32 → Int32 → Int32 → ZS → Option (Int32 × ZS)} (hq74 : (∀ (x1 : Int32) (x2 : Int32) (x3 : Int32) (x4 : Int32) (σ : ZS), q74 x1 x2 x3 x4 σ = some (r, σr) → zw x g 5 0 0 (zMQ x g (some (zi r)) σr) σ 74 [none, some (zi x1), some (zi x2), some (zi x3), some (zi x4)] [])) {x1 : Int32} {x2 : Int32} {x3 : Int32} {x4 : Int32} {σ : ZS} (hf : b8_odds_74 k q74 x1 x2 x3 x4 σ = some (r, σr)) : zw x g 5 0 0 (zMQ x g (some (zi r)) σr) σ 74 [none, some (zi x1), some (zi x2), some (zi x3), some (zi x4)] [] := by
  unfold b8_odds_74 at hf
  refine z_iload C d8_odds_74 rfl ?_
  refine z_bipush C (8 : Int32) d8_odds_76 kB_8 ?_
  refine z_icmp_ge C d8_odds_78 (fun c1 => ?_) (fun c1 => ?_)
  · have hf := zit c1 hf
    refine z_iload_n C d8_odds_101 rfl ?_
    refine z_if_ne C d8_odds_102 (fun c2 => ?_) (fun c2 => ?_)
    · have hf := zit c2 hf
      refine z_iload_n C d8_odds_105 rfl ?_
      refine z_goto C d8_odds_106 ?_
      exact z_iret C d8_odds_110 hf
    · have hf := zie c2 hf
      refine z_iload_n C d8_odds_109 rfl ?_
      exact z_iret C d8_odds_110 hf
  · have hf := zie c1 hf
    refine z_iload_n C d8_odds_81 rfl ?_
    refine z_iconst C (2 : Int32) d8_odds_82 kI_2 ?_
    refine z_irem C d8_odds_83 (by decide) ?_
    refine z_if_ne C d8_odds_84 (fun c3 => ?_) (fun c3 => ?_)
    · have hf := zit c3 hf
      refine z_iload_n C d8_odds_87 rfl ?_
      refine z_iconst C (2 : Int32) d8_odds_88 kI_2 ?_
      refine z_idiv C d8_odds_89 (by decide) ?_
      refine z_istore_n C d8_odds_90 (Nat.le_of_ble_eq_true rfl) rfl (L' := [none, some (zi x1), some (zi (x2 / (2 : Int32))), some (zi x3), some (zi x4)]) rfl ?_
      refine z_iload_n C d8_odds_91 rfl ?_
      refine z_iconst C (2 : Int32) d8_odds_92 kI_2 ?_
      refine z_idiv C d8_odds_93 (by decide) ?_
      refine z_istore_n C d8_odds_94 (Nat.le_of_ble_eq_true rfl) rfl (L' := [none, some (zi x1), some (zi (x2 / (2 : Int32))), some (zi (x3 / (2 : Int32))), some (zi x4)]) rfl ?_
      refine z_iinc C d8_odds_95 rfl kI_1 (Nat.le_of_ble_eq_true rfl) rfl (L' := [none, some (zi x1), some (zi (x2 / (2 : Int32))), some (zi (x3 / (2 : Int32))), some (zi (x4 + (1 : Int32)))]) rfl ?_
      refine z_goto C d8_odds_98 ?_
      exact hq74 _ _ _ _ _ hf
    · have hf := zie c3 hf
      refine z_iload_n C d8_odds_101 rfl ?_
      refine z_if_ne C d8_odds_102 (fun c4 => ?_) (fun c4 => ?_)
      · have hf := zit c4 hf
        refine z_iload_n C d8_odds_105 rfl ?_
        refine z_goto C d8_odds_106 ?_
        exact z_iret C d8_odds_110 hf
      · have hf := zie c4 hf
        refine z_iload_n C d8_odds_109 rfl ?_
        exact z_iret C d8_odds_110 hf
theorem j8_odds_74l {x : ZX} {g : ZG} (C : zC x g b8_odds R8 (some .int) 5 5 153) {k : Nat} {r : Int32} {σr : ZS}  : ∀ (n : Nat) (x1 : Int32) (x2 : Int32) (x3 : Int32) (x4 : Int32) (σ : ZS), f8_odds_74 k  n x1 x2 x3 x4 σ = some (r, σr) → zw x g 5 0 0 (zMQ x g (some (zi r)) σr) σ 74 [none, some (zi x1), some (zi x2), some (zi x3), some (zi x4)] [] := by
  intro n
  induction n with
  | zero => intro x1 x2 x3 x4 σ hf; exact absurd (show none = some (r, σr) from hf) (fun z => by cases z)
  | succ n ih => intro x1 x2 x3 x4 σ hf; exact j8_odds_74 C  ih (show b8_odds_74 k  (f8_odds_74 k  n) x1 x2 x3 x4 σ = some (r, σr) from hf)
def b8_odds_19 (k : Nat) (q19 : Int32 → Int32 → Int32 → ZS → Option (Int32 × ZS)) (x1 : Int32) (x2 : Int32) (x3 : Int32) (σ : ZS) : Option (Int32 × ZS) :=
  if (256 : Int32) ≤ x3 then (
  f8_odds_74 k  k x1 x2 (256 : Int32) (0 : Int32) σ)
  else (
  zbd (f1_follow k 2 (x3 / (4 : Int32)) (x3 % (4 : Int32)) σ) fun _ s2 =>
  if (s2 83 4) = 0 then (
  q19 x1 (x2 + (0 : Int32)) (x3 + (1 : Int32)) s2)
  else (
  q19 x1 (x2 + (1 : Int32)) (x3 + (1 : Int32)) s2))
def f8_odds_19 (k : Nat) : Nat → Int32 → Int32 → Int32 → ZS → Option (Int32 × ZS)
  | 0 => fun _ _ _ _ => none
  | n + 1 => b8_odds_19 k  (f8_odds_19 k  n)
theorem j8_odds_19 {x : ZX} {g : ZG} (C : zC x g b8_odds R8 (some .int) 5 5 153) {k : Nat} {r : Int32} {σr : ZS}  {q19 : Int32 → Int32 → Int32 → ZS → Option (Int32 × ZS)} (hq19 : (∀ (x1 : Int32) (x2 : Int32) (x3 : Int32) (σ : ZS), q19 x1 x2 x3 σ = some (r, σr) → zw x g 5 0 0 (zMQ x g (some (zi r)) σr) σ 19 [some (zr 1), some (zi x1), some (zi x2), some (zi x3), none] [])) {x1 : Int32} {x2 : Int32} {x3 : Int32} {σ : ZS} (hf : b8_odds_19 k q19 x1 x2 x3 σ = some (r, σr)) : zw x g 5 0 0 (zMQ x g (some (zi r)) σr) σ 19 [some (zr 1), some (zi x1), some (zi x2), some (zi x3), none] [] := by
  unfold b8_odds_19 at hf
  refine z_iload_n C d8_odds_19 rfl ?_
  refine z_sipush C (256 : Int32) d8_odds_20 kS_256 ?_
  refine z_icmp_ge C d8_odds_23 (fun c1 => ?_) (fun c1 => ?_)
  · have hf := zit c1 hf
    refine z_sipush C (256 : Int32) d8_odds_67 kS_256 ?_
    refine z_istore_n C d8_odds_70 (Nat.le_of_ble_eq_true rfl) rfl (L' := [some (zr 1), some (zi x1), some (zi x2), some (zi (256 : Int32)), none]) rfl ?_
    refine z_iconst C (0 : Int32) d8_odds_71 kI_0 ?_
    refine z_istore C d8_odds_72 (Nat.le_of_ble_eq_true rfl) rfl (L' := [some (zr 1), some (zi x1), some (zi x2), some (zi (256 : Int32)), some (zi (0 : Int32))]) rfl ?_
    refine z_drop [false, true, true, true, true] (L' := [none, some (zi x1), some (zi x2), some (zi (256 : Int32)), some (zi (0 : Int32))]) rfl ?_
    exact j8_odds_74l C  _ _ _ _ _ _ hf
  · have hf := zie c1 hf
    refine z_aload_n C d8_odds_26 rfl ?_
    refine z_getR C d8_odds_27 fl_264 kZ_1 83 rfl (zn0 kZ_83) ?_
    refine z_aload_n C d8_odds_30 rfl ?_
    refine z_getR C d8_odds_31 fl_261 kZ_1 2 rfl (zn0 kZ_2) ?_
    refine z_iload_n C d8_odds_34 rfl ?_
    refine z_iconst C (4 : Int32) d8_odds_35 kI_4 ?_
    refine z_idiv C d8_odds_36 (by decide) ?_
    refine z_iload_n C d8_odds_37 rfl ?_
    refine z_iconst C (4 : Int32) d8_odds_38 kI_4 ?_
    refine z_irem C d8_odds_39 (by decide) ?_
    obtain ⟨r2, s2, h2, hf⟩ := zbx hf
    refine z_callVv C (as := [zr 2, zi (x3 / (4 : Int32)), zi (x3 % (4 : Int32))]) d8_odds_40 w_615 yy1_follow (c1_follow x.2.1 g h2) yc1_follow kZ_83 rfl rfl (Nat.le_of_ble_eq_true rfl) ⟨Nat.le_of_ble_eq_true rfl, Nat.le_of_ble_eq_true rfl⟩ ⟨Nat.zero_le _, Nat.zero_le _⟩ ?_
    refine z_iload_n C d8_odds_43 rfl ?_
    refine z_aload_n C d8_odds_44 rfl ?_
    refine z_getR C d8_odds_45 fl_264 kZ_1 83 rfl (zn0 kZ_83) ?_
    refine z_getI C d8_odds_48 fl_177 kZ_83 ?_
    refine z_if_eq C d8_odds_51 (fun c3 => ?_) (fun c3 => ?_)
    · have hf := zit c3 hf
      refine z_iconst C (0 : Int32) d8_odds_58 kI_0 ?_
      refine z_iadd C d8_odds_59 ?_
      refine z_istore_n C d8_odds_60 (Nat.le_of_ble_eq_true rfl) rfl (L' := [some (zr 1), some (zi x1), some (zi (x2 + (0 : Int32))), some (zi x3), none]) rfl ?_
      refine z_iinc C d8_odds_61 rfl kI_1 (Nat.le_of_ble_eq_true rfl) rfl (L' := [some (zr 1), some (zi x1), some (zi (x2 + (0 : Int32))), some (zi (x3 + (1 : Int32))), none]) rfl ?_
      refine z_goto C d8_odds_64 ?_
      exact hq19 _ _ _ _ hf
    · have hf := zie c3 hf
      refine z_iconst C (1 : Int32) d8_odds_54 kI_1 ?_
      refine z_goto C d8_odds_55 ?_
      refine z_iadd C d8_odds_59 ?_
      refine z_istore_n C d8_odds_60 (Nat.le_of_ble_eq_true rfl) rfl (L' := [some (zr 1), some (zi x1), some (zi (x2 + (1 : Int32))), some (zi x3), none]) rfl ?_
      refine z_iinc C d8_odds_61 rfl kI_1 (Nat.le_of_ble_eq_true rfl) rfl (L' := [some (zr 1), some (zi x1), some (zi (x2 + (1 : Int32))), some (zi (x3 + (1 : Int32))), none]) rfl ?_
      refine z_goto C d8_odds_64 ?_
      exact hq19 _ _ _ _ hf
theorem j8_odds_19l {x : ZX} {g : ZG} (C : zC x g b8_odds R8 (some .int) 5 5 153) {k : Nat} {r : Int32} {σr : ZS}  : ∀ (n : Nat) (x1 : Int32) (x2 : Int32) (x3 : Int32) (σ : ZS), f8_odds_19 k  n x1 x2 x3 σ = some (r, σr) → zw x g 5 0 0 (zMQ x g (some (zi r)) σr) σ 19 [some (zr 1), some (zi x1), some (zi x2), some (zi x3), none] [] := by
  intro n
  induction n with
  | zero => intro x1 x2 x3 σ hf; exact absurd (show none = some (r, σr) from hf) (fun z => by cases z)
  | succ n ih => intro x1 x2 x3 σ hf; exact j8_odds_19 C  ih (show b8_odds_19 k  (f8_odds_19 k  n) x1 x2 x3 σ = some (r, σr) from hf)
def f8_odds (k : Nat) (x1 : Int32) (σ : ZS) : Option (Int32 × ZS) :=
  if x1 < 0 then (
  zbd (f8_error k (1 : Int32) σ) fun r2 s2 =>
  some (r2, s2))
  else (
  if x1 ≤ (1 : Int32) then (
  f8_odds_19 k  k x1 (0 : Int32) (0 : Int32) σ)
  else (
  zbd (f8_error k (1 : Int32) σ) fun r4 s4 =>
  some (r4, s4)))
theorem c8_odds (l : Launch) (g : ZG) {k : Nat} {x1 : Int32} {σ : ZS} {r : Int32} {σr : ZS} (hf : f8_odds k x1 σ = some (r, σr)) : zT l g y8_odds b8_odds 5 (some .int) 5 153 [zr 1, zi x1] σ (some (zi r)) σr := by
  unfold f8_odds at hf
  refine zT_start (own := R8) rfl (by decide +kernel) 3 (L := [some (zr 1), some (zi x1), none, none, none]) rfl rfl (fun x hl C => ?_)
  subst hl
  refine z_iload_n C d8_odds_0 rfl ?_
  refine z_if_lt C d8_odds_1 (fun c1 => ?_) (fun c1 => ?_)
  · have hf := zit c1 hf
    refine z_aload_n C d8_odds_9 rfl ?_
    refine z_iconst C (1 : Int32) d8_odds_10 kI_1 ?_
    obtain ⟨r2, s2, h2, hf⟩ := zbx hf
    refine z_callVi C (as := [zi (1 : Int32)]) d8_odds_11 w_308 yy8_error (c8_error x.2.1 g h2) yc8_error kZ_1 rfl rfl (Nat.le_of_ble_eq_true rfl) ⟨Nat.le_of_ble_eq_true rfl, Nat.le_of_ble_eq_true rfl⟩ ⟨Nat.zero_le _, Nat.zero_le _⟩ ?_
    exact z_iret C d8_odds_14 hf
  · have hf := zie c1 hf
    refine z_iload_n C d8_odds_4 rfl ?_
    refine z_iconst C (1 : Int32) d8_odds_5 kI_1 ?_
    refine z_icmp_le C d8_odds_6 (fun c3 => ?_) (fun c3 => ?_)
    · have hf := zit c3 hf
      refine z_iconst C (0 : Int32) d8_odds_15 kI_0 ?_
      refine z_istore_n C d8_odds_16 (Nat.le_of_ble_eq_true rfl) rfl (L' := [some (zr 1), some (zi x1), some (zi (0 : Int32)), none, none]) rfl ?_
      refine z_iconst C (0 : Int32) d8_odds_17 kI_0 ?_
      refine z_istore_n C d8_odds_18 (Nat.le_of_ble_eq_true rfl) rfl (L' := [some (zr 1), some (zi x1), some (zi (0 : Int32)), some (zi (0 : Int32)), none]) rfl ?_
      exact j8_odds_19l C  _ _ _ _ _ hf
    · have hf := zie c3 hf
      refine z_aload_n C d8_odds_9 rfl ?_
      refine z_iconst C (1 : Int32) d8_odds_10 kI_1 ?_
      obtain ⟨r4, s4, h4, hf⟩ := zbx hf
      refine z_callVi C (as := [zi (1 : Int32)]) d8_odds_11 w_308 yy8_error (c8_error x.2.1 g h4) yc8_error kZ_1 rfl rfl (Nat.le_of_ble_eq_true rfl) ⟨Nat.le_of_ble_eq_true rfl, Nat.le_of_ble_eq_true rfl⟩ ⟨Nat.zero_le _, Nat.zero_le _⟩ ?_
      exact z_iret C d8_odds_14 hf
theorem d8_pay_0 : zd b8_pay 0 (.aload_n 0) 1 1 := ⟨by decide +kernel, rfl⟩
theorem d8_pay_1 : zd b8_pay 1 (.getfield 10) 3 4 := ⟨by decide +kernel, rfl⟩
theorem d8_pay_4 : zd b8_pay 4 (.iload_n 1) 1 5 := ⟨by decide +kernel, rfl⟩
theorem d8_pay_5 : zd b8_pay 5 (.invokevirtual 128) 3 8 := ⟨by decide +kernel, rfl⟩
theorem d8_pay_8 : zd b8_pay 8 (.astore_n 3) 1 9 := ⟨by decide +kernel, rfl⟩
theorem d8_pay_9 : zd b8_pay 9 (.aload_n 3) 1 10 := ⟨by decide +kernel, rfl⟩
theorem d8_pay_10 : zdb b8_pay 10 (.ifnull 13) 13 13 23 := ⟨by decide +kernel, rfl, by decide⟩
theorem d8_pay_13 : zd b8_pay 13 (.iload_n 2) 1 14 := ⟨by decide +kernel, rfl⟩
theorem d8_pay_14 : zdb b8_pay 14 (.ifCond .lt 9) 9 17 23 := ⟨by decide +kernel, rfl, by decide⟩
theorem d8_pay_17 : zd b8_pay 17 (.iload_n 2) 1 18 := ⟨by decide +kernel, rfl⟩
theorem d8_pay_18 : zd b8_pay 18 (.ldc 145) 2 20 := ⟨by decide +kernel, rfl⟩
theorem d8_pay_20 : zdb b8_pay 20 (.if_icmp .le 9) 9 23 29 := ⟨by decide +kernel, rfl, by decide⟩
theorem d8_pay_23 : zd b8_pay 23 (.aload_n 0) 1 24 := ⟨by decide +kernel, rfl⟩
theorem d8_pay_24 : zd b8_pay 24 (.iconst 1) 1 25 := ⟨by decide +kernel, rfl⟩
theorem d8_pay_25 : zd b8_pay 25 (.invokevirtual 67) 3 28 := ⟨by decide +kernel, rfl⟩
theorem d8_pay_28 : zd b8_pay 28 .ireturn 1 29 := ⟨by decide +kernel, rfl⟩
theorem d8_pay_29 : zd b8_pay 29 (.iload_n 2) 1 30 := ⟨by decide +kernel, rfl⟩
theorem d8_pay_30 : zd b8_pay 30 (.aload_n 3) 1 31 := ⟨by decide +kernel, rfl⟩
theorem d8_pay_31 : zd b8_pay 31 (.getfield 138) 3 34 := ⟨by decide +kernel, rfl⟩
theorem d8_pay_34 : zd b8_pay 34 (.invokestatic 146) 3 37 := ⟨by decide +kernel, rfl⟩
theorem d8_pay_37 : zd b8_pay 37 (.istore 4) 2 39 := ⟨by decide +kernel, rfl⟩
theorem d8_pay_39 : zd b8_pay 39 (.aload_n 3) 1 40 := ⟨by decide +kernel, rfl⟩
theorem d8_pay_40 : zd b8_pay 40 .dup 1 41 := ⟨by decide +kernel, rfl⟩
theorem d8_pay_41 : zd b8_pay 41 (.getfield 138) 3 44 := ⟨by decide +kernel, rfl⟩
theorem d8_pay_44 : zd b8_pay 44 (.iload 4) 2 46 := ⟨by decide +kernel, rfl⟩
theorem d8_pay_46 : zd b8_pay 46 .isub 1 47 := ⟨by decide +kernel, rfl⟩
theorem d8_pay_47 : zd b8_pay 47 (.putfield 138) 3 50 := ⟨by decide +kernel, rfl⟩
theorem d8_pay_50 : zd b8_pay 50 (.iload 4) 2 52 := ⟨by decide +kernel, rfl⟩
theorem d8_pay_52 : zd b8_pay 52 .ireturn 1 53 := ⟨by decide +kernel, rfl⟩
def f8_pay (k : Nat) (x1 : Int32) (x2 : Int32) (σ : ZS) : Option (Int32 × ZS) :=
  zbd (f5_personOf k 2 x1 σ) fun r1 s1 =>
  if r1 = 0 then (
  zbd (f8_error k (1 : Int32) s1) fun r3 s3 =>
  some (r3, s3))
  else (
  if x2 < 0 then (
  zbd (f8_error k (1 : Int32) s1) fun r5 s5 =>
  some (r5, s5))
  else (
  if x2 ≤ (99999 : Int32) then (
  if zsh r1 = 3 then (
  zput (zu s1 r1 2 ((s1 r1 2) - (if (s1 r1 2) < x2 then (s1 r1 2) else x2))) fun s8 =>
  some ((if (s1 r1 2) < x2 then (s1 r1 2) else x2), s8)) else none)
  else (
  zbd (f8_error k (1 : Int32) s1) fun r9 s9 =>
  some (r9, s9))))
theorem c8_pay (l : Launch) (g : ZG) {k : Nat} {x1 : Int32} {x2 : Int32} {σ : ZS} {r : Int32} {σr : ZS} (hf : f8_pay k x1 x2 σ = some (r, σr)) : zT l g y8_pay b8_pay 5 (some .int) 2 81 [zr 1, zi x1, zi x2] σ (some (zi r)) σr := by
  unfold f8_pay at hf
  refine zT_start (own := R8) rfl (by decide +kernel) 2 (L := [some (zr 1), some (zi x1), some (zi x2), none, none]) rfl rfl (fun x hl C => ?_)
  subst hl
  refine z_aload_n C d8_pay_0 rfl ?_
  refine z_getR C d8_pay_1 fl_261 kZ_1 2 rfl (zn0 kZ_2) ?_
  refine z_iload_n C d8_pay_4 rfl ?_
  obtain ⟨r1, s1, h1, hf⟩ := zbx hf
  refine z_callVr C (as := [zi x1]) d8_pay_5 w_396 yy5_personOf (c5_personOf x.2.1 g h1) yc5_personOf kZ_2 rfl rfl (Nat.le_of_ble_eq_true rfl) ⟨Nat.le_of_ble_eq_true rfl, Nat.le_of_ble_eq_true rfl⟩ ⟨Nat.zero_le _, Nat.zero_le _⟩ ?_
  refine z_astore_n C d8_pay_8 (Nat.le_of_ble_eq_true rfl) rfl (L' := [some (zr 1), some (zi x1), some (zi x2), some (zr r1), none]) rfl ?_
  refine z_aload_n C d8_pay_9 rfl ?_
  refine z_ifnull C d8_pay_10 (fun c2 => ?_) (fun c2 => ?_)
  · have hf := zit c2 hf
    refine z_aload_n C d8_pay_23 rfl ?_
    refine z_iconst C (1 : Int32) d8_pay_24 kI_1 ?_
    obtain ⟨r3, s3, h3, hf⟩ := zbx hf
    refine z_callVi C (as := [zi (1 : Int32)]) d8_pay_25 w_308 yy8_error (c8_error x.2.1 g h3) yc8_error kZ_1 rfl rfl (Nat.le_of_ble_eq_true rfl) ⟨Nat.le_of_ble_eq_true rfl, Nat.le_of_ble_eq_true rfl⟩ ⟨Nat.zero_le _, Nat.zero_le _⟩ ?_
    exact z_iret C d8_pay_28 hf
  · have hf := zie c2 hf
    refine z_iload_n C d8_pay_13 rfl ?_
    refine z_if_lt C d8_pay_14 (fun c4 => ?_) (fun c4 => ?_)
    · have hf := zit c4 hf
      refine z_aload_n C d8_pay_23 rfl ?_
      refine z_iconst C (1 : Int32) d8_pay_24 kI_1 ?_
      obtain ⟨r5, s5, h5, hf⟩ := zbx hf
      refine z_callVi C (as := [zi (1 : Int32)]) d8_pay_25 w_308 yy8_error (c8_error x.2.1 g h5) yc8_error kZ_1 rfl rfl (Nat.le_of_ble_eq_true rfl) ⟨Nat.le_of_ble_eq_true rfl, Nat.le_of_ble_eq_true rfl⟩ ⟨Nat.zero_le _, Nat.zero_le _⟩ ?_
      exact z_iret C d8_pay_28 hf
    · have hf := zie c4 hf
      refine z_iload_n C d8_pay_17 rfl ?_
      refine z_ldc C (99999 : Int32) d8_pay_18 w_457 ?_
      refine z_icmp_le C d8_pay_20 (fun c6 => ?_) (fun c6 => ?_)
      · have hf := zit c6 hf
        refine z_iload_n C d8_pay_29 rfl ?_
        refine z_aload_n C d8_pay_30 rfl ?_
        obtain ⟨g7, hf⟩ := zgo hf
        refine z_getI C d8_pay_31 fl_88 g7 ?_
        refine z_min C d8_pay_34 w_458 (Nat.le_of_ble_eq_true rfl) ⟨Nat.le_of_ble_eq_true rfl, Nat.le_of_ble_eq_true rfl⟩ ⟨Nat.zero_le _, Nat.zero_le _⟩ zminw ?_
        refine z_istore C d8_pay_37 (Nat.le_of_ble_eq_true rfl) rfl (L' := [some (zr 1), some (zi x1), some (zi x2), some (zr r1), some (zi (if (s1 r1 2) < x2 then (s1 r1 2) else x2))]) rfl ?_
        refine z_aload_n C d8_pay_39 rfl ?_
        refine z_dup C d8_pay_40 rfl ?_
        refine z_getI C d8_pay_41 fl_88 g7 ?_
        refine z_iload C d8_pay_44 rfl ?_
        refine z_isub C d8_pay_46 ?_
        obtain ⟨s8, e8, hf⟩ := zpx hf
        refine z_putI C d8_pay_47 fl_88 ft_2_2 g7 e8 ?_
        refine z_iload C d8_pay_50 rfl ?_
        exact z_iret C d8_pay_52 hf
      · have hf := zie c6 hf
        refine z_aload_n C d8_pay_23 rfl ?_
        refine z_iconst C (1 : Int32) d8_pay_24 kI_1 ?_
        obtain ⟨r9, s9, h9, hf⟩ := zbx hf
        refine z_callVi C (as := [zi (1 : Int32)]) d8_pay_25 w_308 yy8_error (c8_error x.2.1 g h9) yc8_error kZ_1 rfl rfl (Nat.le_of_ble_eq_true rfl) ⟨Nat.le_of_ble_eq_true rfl, Nat.le_of_ble_eq_true rfl⟩ ⟨Nat.zero_le _, Nat.zero_le _⟩ ?_
        exact z_iret C d8_pay_28 hf
theorem d5_addPerson_0 : zd b5_addPerson 0 (.aload_n 0) 1 1 := ⟨by decide +kernel, rfl⟩
theorem d5_addPerson_1 : zd b5_addPerson 1 (.getfield 71) 3 4 := ⟨by decide +kernel, rfl⟩
theorem d5_addPerson_4 : zd b5_addPerson 4 (.istore_n 3) 1 5 := ⟨by decide +kernel, rfl⟩
theorem d5_addPerson_5 : zd b5_addPerson 5 (.aload_n 0) 1 6 := ⟨by decide +kernel, rfl⟩
theorem d5_addPerson_6 : zd b5_addPerson 6 .dup 1 7 := ⟨by decide +kernel, rfl⟩
theorem d5_addPerson_7 : zd b5_addPerson 7 (.getfield 71) 3 10 := ⟨by decide +kernel, rfl⟩
theorem d5_addPerson_10 : zd b5_addPerson 10 (.iconst 1) 1 11 := ⟨by decide +kernel, rfl⟩
theorem d5_addPerson_11 : zd b5_addPerson 11 .iadd 1 12 := ⟨by decide +kernel, rfl⟩
theorem d5_addPerson_12 : zd b5_addPerson 12 (.putfield 71) 3 15 := ⟨by decide +kernel, rfl⟩
theorem d5_addPerson_15 : zd b5_addPerson 15 (.aload_n 0) 1 16 := ⟨by decide +kernel, rfl⟩
theorem d5_addPerson_16 : zd b5_addPerson 16 (.iload_n 3) 1 17 := ⟨by decide +kernel, rfl⟩
theorem d5_addPerson_17 : zd b5_addPerson 17 (.invokevirtual 110) 3 20 := ⟨by decide +kernel, rfl⟩
theorem d5_addPerson_20 : zd b5_addPerson 20 (.astore 4) 2 22 := ⟨by decide +kernel, rfl⟩
theorem d5_addPerson_22 : zd b5_addPerson 22 (.aload 4) 2 24 := ⟨by decide +kernel, rfl⟩
theorem d5_addPerson_24 : zdb b5_addPerson 24 (.ifnonnull 5) 5 27 29 := ⟨by decide +kernel, rfl, by decide⟩
theorem d5_addPerson_27 : zd b5_addPerson 27 (.iconst (-1)) 1 28 := ⟨by decide +kernel, rfl⟩
theorem d5_addPerson_28 : zd b5_addPerson 28 .ireturn 1 29 := ⟨by decide +kernel, rfl⟩
theorem d5_addPerson_29 : zd b5_addPerson 29 (.aload 4) 2 31 := ⟨by decide +kernel, rfl⟩
theorem d5_addPerson_31 : zd b5_addPerson 31 (.iload_n 1) 1 32 := ⟨by decide +kernel, rfl⟩
theorem d5_addPerson_32 : zd b5_addPerson 32 (.putfield 114) 3 35 := ⟨by decide +kernel, rfl⟩
theorem d5_addPerson_35 : zd b5_addPerson 35 (.aload 4) 2 37 := ⟨by decide +kernel, rfl⟩
theorem d5_addPerson_37 : zd b5_addPerson 37 (.iload_n 2) 1 38 := ⟨by decide +kernel, rfl⟩
theorem d5_addPerson_38 : zd b5_addPerson 38 (.putfield 115) 3 41 := ⟨by decide +kernel, rfl⟩
theorem d5_addPerson_41 : zd b5_addPerson 41 (.aload 4) 2 43 := ⟨by decide +kernel, rfl⟩
theorem d5_addPerson_43 : zd b5_addPerson 43 (.iconst 0) 1 44 := ⟨by decide +kernel, rfl⟩
theorem d5_addPerson_44 : zd b5_addPerson 44 (.putfield 118) 3 47 := ⟨by decide +kernel, rfl⟩
theorem d5_addPerson_47 : zd b5_addPerson 47 (.iload_n 3) 1 48 := ⟨by decide +kernel, rfl⟩
theorem d5_addPerson_48 : zd b5_addPerson 48 .ireturn 1 49 := ⟨by decide +kernel, rfl⟩
def f5_addPerson (k : Nat) (t : Nat) (x1 : Int32) (x2 : Int32) (σ : ZS) : Option (Int32 × ZS) :=
  if zsh t = 6 then (
  zput (zu σ t 7 ((σ t 7) + (1 : Int32))) fun s1 =>
  zbd (f5_personOf k t (σ t 7) s1) fun r2 s2 =>
  if r2 = 0 then (
  some ((-1 : Int32), s2))
  else (
  if zsh r2 = 3 then (
  zput (zu s2 r2 0 x1) fun s5 =>
  zput (zu s5 r2 1 x2) fun s6 =>
  zput (zu s6 r2 2 (0 : Int32)) fun s7 =>
  some ((σ t 7), s7)) else none)) else none
theorem c5_addPerson (l : Launch) (g : ZG) {k : Nat} {t : Nat} {x1 : Int32} {x2 : Int32} {σ : ZS} {r : Int32} {σr : ZS} (hf : f5_addPerson k t x1 x2 σ = some (r, σr)) : zT l g y5_addPerson b5_addPerson 5 (some .int) 2 81 [zr t, zi x1, zi x2] σ (some (zi r)) σr := by
  unfold f5_addPerson at hf
  obtain ⟨ht, hf⟩ := zgo hf
  refine zT_start (own := R5) rfl (by decide +kernel) 2 (L := [some (zr t), some (zi x1), some (zi x2), none, none]) rfl rfl (fun x hl C => ?_)
  subst hl
  refine z_aload_n C d5_addPerson_0 rfl ?_
  refine z_getI C d5_addPerson_1 fl_127 ht ?_
  refine z_istore_n C d5_addPerson_4 (Nat.le_of_ble_eq_true rfl) rfl (L' := [some (zr t), some (zi x1), some (zi x2), some (zi (σ t 7)), none]) rfl ?_
  refine z_aload_n C d5_addPerson_5 rfl ?_
  refine z_dup C d5_addPerson_6 rfl ?_
  refine z_getI C d5_addPerson_7 fl_127 ht ?_
  refine z_iconst C (1 : Int32) d5_addPerson_10 kI_1 ?_
  refine z_iadd C d5_addPerson_11 ?_
  obtain ⟨s1, e1, hf⟩ := zpx hf
  refine z_putI C d5_addPerson_12 fl_127 ft_5_7 ht e1 ?_
  refine z_aload_n C d5_addPerson_15 rfl ?_
  refine z_iload_n C d5_addPerson_16 rfl ?_
  obtain ⟨r2, s2, h2, hf⟩ := zbx hf
  refine z_callVr C (as := [zi (σ t 7)]) d5_addPerson_17 w_388 yy5_personOf (c5_personOf x.2.1 g h2) yc5_personOf ht rfl rfl (Nat.le_of_ble_eq_true rfl) ⟨Nat.le_of_ble_eq_true rfl, Nat.le_of_ble_eq_true rfl⟩ ⟨Nat.zero_le _, Nat.zero_le _⟩ ?_
  refine z_astore C d5_addPerson_20 (Nat.le_of_ble_eq_true rfl) rfl (L' := [some (zr t), some (zi x1), some (zi x2), some (zi (σ t 7)), some (zr r2)]) rfl ?_
  refine z_aload C d5_addPerson_22 rfl ?_
  refine z_ifnonnull C d5_addPerson_24 (fun c3 => ?_) (fun c3 => ?_)
  · have hf := zit c3 hf
    refine z_iconst C (-1 : Int32) d5_addPerson_27 kI_m1 ?_
    exact z_iret C d5_addPerson_28 hf
  · have hf := zie c3 hf
    refine z_aload C d5_addPerson_29 rfl ?_
    refine z_iload_n C d5_addPerson_31 rfl ?_
    obtain ⟨g4, hf⟩ := zgo hf
    obtain ⟨s5, e5, hf⟩ := zpx hf
    refine z_putI C d5_addPerson_32 fl_81 ft_2_0 g4 e5 ?_
    refine z_aload C d5_addPerson_35 rfl ?_
    refine z_iload_n C d5_addPerson_37 rfl ?_
    obtain ⟨s6, e6, hf⟩ := zpx hf
    refine z_putI C d5_addPerson_38 fl_84 ft_2_1 g4 e6 ?_
    refine z_aload C d5_addPerson_41 rfl ?_
    refine z_iconst C (0 : Int32) d5_addPerson_43 kI_0 ?_
    obtain ⟨s7, e7, hf⟩ := zpx hf
    refine z_putI C d5_addPerson_44 fl_87 ft_2_2 g4 e7 ?_
    refine z_iload_n C d5_addPerson_47 rfl ?_
    exact z_iret C d5_addPerson_48 hf
theorem d8_person_0 : zd b8_person 0 (.iload_n 1) 1 1 := ⟨by decide +kernel, rfl⟩
theorem d8_person_1 : zd b8_person 1 (.invokestatic 61) 3 4 := ⟨by decide +kernel, rfl⟩
theorem d8_person_4 : zdb b8_person 4 (.ifCond .ne 10) 10 7 14 := ⟨by decide +kernel, rfl, by decide⟩
theorem d8_person_7 : zd b8_person 7 (.iload_n 2) 1 8 := ⟨by decide +kernel, rfl⟩
theorem d8_person_8 : zd b8_person 8 (.invokestatic 103) 3 11 := ⟨by decide +kernel, rfl⟩
theorem d8_person_11 : zdb b8_person 11 (.ifCond .eq 9) 9 14 20 := ⟨by decide +kernel, rfl, by decide⟩
theorem d8_person_14 : zd b8_person 14 (.aload_n 0) 1 15 := ⟨by decide +kernel, rfl⟩
theorem d8_person_15 : zd b8_person 15 (.iconst 1) 1 16 := ⟨by decide +kernel, rfl⟩
theorem d8_person_16 : zd b8_person 16 (.invokevirtual 67) 3 19 := ⟨by decide +kernel, rfl⟩
theorem d8_person_19 : zd b8_person 19 .ireturn 1 20 := ⟨by decide +kernel, rfl⟩
theorem d8_person_20 : zd b8_person 20 (.aload_n 0) 1 21 := ⟨by decide +kernel, rfl⟩
theorem d8_person_21 : zd b8_person 21 (.getfield 10) 3 24 := ⟨by decide +kernel, rfl⟩
theorem d8_person_24 : zd b8_person 24 (.getfield 121) 3 27 := ⟨by decide +kernel, rfl⟩
theorem d8_person_27 : zd b8_person 27 (.bipush 6) 2 29 := ⟨by decide +kernel, rfl⟩
theorem d8_person_29 : zdb b8_person 29 (.if_icmp .lt 9) 9 32 38 := ⟨by decide +kernel, rfl, by decide⟩
theorem d8_person_32 : zd b8_person 32 (.aload_n 0) 1 33 := ⟨by decide +kernel, rfl⟩
theorem d8_person_33 : zd b8_person 33 (.iconst 4) 1 34 := ⟨by decide +kernel, rfl⟩
theorem d8_person_34 : zd b8_person 34 (.invokevirtual 67) 3 37 := ⟨by decide +kernel, rfl⟩
theorem d8_person_37 : zd b8_person 37 .ireturn 1 38 := ⟨by decide +kernel, rfl⟩
theorem d8_person_38 : zd b8_person 38 (.aload_n 0) 1 39 := ⟨by decide +kernel, rfl⟩
theorem d8_person_39 : zd b8_person 39 (.getfield 10) 3 42 := ⟨by decide +kernel, rfl⟩
theorem d8_person_42 : zd b8_person 42 (.iload_n 1) 1 43 := ⟨by decide +kernel, rfl⟩
theorem d8_person_43 : zd b8_person 43 (.iload_n 2) 1 44 := ⟨by decide +kernel, rfl⟩
theorem d8_person_44 : zd b8_person 44 (.invokevirtual 124) 3 47 := ⟨by decide +kernel, rfl⟩
theorem d8_person_47 : zd b8_person 47 .ireturn 1 48 := ⟨by decide +kernel, rfl⟩
def f8_person (k : Nat) (x1 : Int32) (x2 : Int32) (σ : ZS) : Option (Int32 × ZS) :=
  zbd (f8_isNoCell k x1 σ) fun r1 s1 =>
  if r1 = 0 then (
  zbd (f8_isNoWay k x2 s1) fun r3 s3 =>
  if r3 = 0 then (
  if (s3 2 7) < (6 : Int32) then (
  zbd (f5_addPerson k 2 x1 x2 s3) fun r6 s6 =>
  some (r6, s6))
  else (
  zbd (f8_error k (4 : Int32) s3) fun r7 s7 =>
  some (r7, s7)))
  else (
  zbd (f8_error k (1 : Int32) s3) fun r8 s8 =>
  some (r8, s8)))
  else (
  zbd (f8_error k (1 : Int32) s1) fun r9 s9 =>
  some (r9, s9))
theorem c8_person (l : Launch) (g : ZG) {k : Nat} {x1 : Int32} {x2 : Int32} {σ : ZS} {r : Int32} {σr : ZS} (hf : f8_person k x1 x2 σ = some (r, σr)) : zT l g y8_person b8_person 3 (some .int) 3 105 [zr 1, zi x1, zi x2] σ (some (zi r)) σr := by
  unfold f8_person at hf
  refine zT_start (own := R8) rfl (by decide +kernel) 0 (L := [some (zr 1), some (zi x1), some (zi x2)]) rfl rfl (fun x hl C => ?_)
  subst hl
  refine z_iload_n C d8_person_0 rfl ?_
  obtain ⟨r1, s1, h1, hf⟩ := zbx hf
  refine z_callSi C (as := [zi x1]) d8_person_1 w_302 yy8_isNoCell (c8_isNoCell x.2.1 g h1) rfl rfl (Nat.le_of_ble_eq_true rfl) ⟨Nat.le_of_ble_eq_true rfl, Nat.le_of_ble_eq_true rfl⟩ ⟨Nat.zero_le _, Nat.zero_le _⟩ ?_
  refine z_if_ne C d8_person_4 (fun c2 => ?_) (fun c2 => ?_)
  · have hf := zit c2 hf
    refine z_iload_n C d8_person_7 rfl ?_
    obtain ⟨r3, s3, h3, hf⟩ := zbx hf
    refine z_callSi C (as := [zi x2]) d8_person_8 w_339 yy8_isNoWay (c8_isNoWay x.2.1 g h3) rfl rfl (Nat.le_of_ble_eq_true rfl) ⟨Nat.le_of_ble_eq_true rfl, Nat.le_of_ble_eq_true rfl⟩ ⟨Nat.zero_le _, Nat.zero_le _⟩ ?_
    refine z_if_eq C d8_person_11 (fun c4 => ?_) (fun c4 => ?_)
    · have hf := zit c4 hf
      refine z_aload_n C d8_person_20 rfl ?_
      refine z_getR C d8_person_21 fl_261 kZ_1 2 rfl (zn0 kZ_2) ?_
      refine z_getI C d8_person_24 fl_128 kZ_2 ?_
      refine z_bipush C (6 : Int32) d8_person_27 kB_6 ?_
      refine z_icmp_lt C d8_person_29 (fun c5 => ?_) (fun c5 => ?_)
      · have hf := zit c5 hf
        refine z_aload_n C d8_person_38 rfl ?_
        refine z_getR C d8_person_39 fl_261 kZ_1 2 rfl (zn0 kZ_2) ?_
        refine z_iload_n C d8_person_42 rfl ?_
        refine z_iload_n C d8_person_43 rfl ?_
        obtain ⟨r6, s6, h6, hf⟩ := zbx hf
        refine z_callVi C (as := [zi x1, zi x2]) d8_person_44 w_384 yy5_addPerson (c5_addPerson x.2.1 g h6) yc5_addPerson kZ_2 rfl rfl (Nat.le_of_ble_eq_true rfl) ⟨Nat.le_of_ble_eq_true rfl, Nat.le_of_ble_eq_true rfl⟩ ⟨Nat.zero_le _, Nat.zero_le _⟩ ?_
        exact z_iret C d8_person_47 hf
      · have hf := zie c5 hf
        refine z_aload_n C d8_person_32 rfl ?_
        refine z_iconst C (4 : Int32) d8_person_33 kI_4 ?_
        obtain ⟨r7, s7, h7, hf⟩ := zbx hf
        refine z_callVi C (as := [zi (4 : Int32)]) d8_person_34 w_308 yy8_error (c8_error x.2.1 g h7) yc8_error kZ_1 rfl rfl (Nat.le_of_ble_eq_true rfl) ⟨Nat.le_of_ble_eq_true rfl, Nat.le_of_ble_eq_true rfl⟩ ⟨Nat.zero_le _, Nat.zero_le _⟩ ?_
        exact z_iret C d8_person_37 hf
    · have hf := zie c4 hf
      refine z_aload_n C d8_person_14 rfl ?_
      refine z_iconst C (1 : Int32) d8_person_15 kI_1 ?_
      obtain ⟨r8, s8, h8, hf⟩ := zbx hf
      refine z_callVi C (as := [zi (1 : Int32)]) d8_person_16 w_308 yy8_error (c8_error x.2.1 g h8) yc8_error kZ_1 rfl rfl (Nat.le_of_ble_eq_true rfl) ⟨Nat.le_of_ble_eq_true rfl, Nat.le_of_ble_eq_true rfl⟩ ⟨Nat.zero_le _, Nat.zero_le _⟩ ?_
      exact z_iret C d8_person_19 hf
  · have hf := zie c2 hf
    refine z_aload_n C d8_person_14 rfl ?_
    refine z_iconst C (1 : Int32) d8_person_15 kI_1 ?_
    obtain ⟨r9, s9, h9, hf⟩ := zbx hf
    refine z_callVi C (as := [zi (1 : Int32)]) d8_person_16 w_308 yy8_error (c8_error x.2.1 g h9) yc8_error kZ_1 rfl rfl (Nat.le_of_ble_eq_true rfl) ⟨Nat.le_of_ble_eq_true rfl, Nat.le_of_ble_eq_true rfl⟩ ⟨Nat.zero_le _, Nat.zero_le _⟩ ?_
    exact z_iret C d8_person_19 hf
theorem d8_personIs_0 : zd b8_personIs 0 (.aload_n 0) 1 1 := ⟨by decide +kernel, rfl⟩
theorem d8_personIs_1 : zd b8_personIs 1 (.getfield 10) 3 4 := ⟨by decide +kernel, rfl⟩
theorem d8_personIs_4 : zd b8_personIs 4 (.iload_n 1) 1 5 := ⟨by decide +kernel, rfl⟩
theorem d8_personIs_5 : zd b8_personIs 5 (.invokevirtual 128) 3 8 := ⟨by decide +kernel, rfl⟩
theorem d8_personIs_8 : zd b8_personIs 8 (.astore_n 3) 1 9 := ⟨by decide +kernel, rfl⟩
theorem d8_personIs_9 : zd b8_personIs 9 (.aload_n 3) 1 10 := ⟨by decide +kernel, rfl⟩
theorem d8_personIs_10 : zdb b8_personIs 10 (.ifnonnull 9) 9 13 19 := ⟨by decide +kernel, rfl, by decide⟩
theorem d8_personIs_13 : zd b8_personIs 13 (.aload_n 0) 1 14 := ⟨by decide +kernel, rfl⟩
theorem d8_personIs_14 : zd b8_personIs 14 (.iconst 1) 1 15 := ⟨by decide +kernel, rfl⟩
theorem d8_personIs_15 : zd b8_personIs 15 (.invokevirtual 67) 3 18 := ⟨by decide +kernel, rfl⟩
theorem d8_personIs_18 : zd b8_personIs 18 .ireturn 1 19 := ⟨by decide +kernel, rfl⟩
theorem d8_personIs_19 : zd b8_personIs 19 (.iload_n 2) 1 20 := ⟨by decide +kernel, rfl⟩
theorem d8_personIs_20 : decode b8_personIs 20 = .ok ((.tableswitch 60 0 3 #[32, 37, 42, 47]), 32) := by decide +kernel
theorem d8_personIs_52 : zd b8_personIs 52 (.aload_n 3) 1 53 := ⟨by decide +kernel, rfl⟩
theorem d8_personIs_53 : zd b8_personIs 53 (.getfield 132) 3 56 := ⟨by decide +kernel, rfl⟩
theorem d8_personIs_56 : zd b8_personIs 56 .ireturn 1 57 := ⟨by decide +kernel, rfl⟩
theorem d8_personIs_57 : zd b8_personIs 57 (.aload_n 3) 1 58 := ⟨by decide +kernel, rfl⟩
theorem d8_personIs_58 : zd b8_personIs 58 (.getfield 135) 3 61 := ⟨by decide +kernel, rfl⟩
theorem d8_personIs_61 : zd b8_personIs 61 .ireturn 1 62 := ⟨by decide +kernel, rfl⟩
theorem d8_personIs_62 : zd b8_personIs 62 (.aload_n 3) 1 63 := ⟨by decide +kernel, rfl⟩
theorem d8_personIs_63 : zd b8_personIs 63 (.getfield 138) 3 66 := ⟨by decide +kernel, rfl⟩
theorem d8_personIs_66 : zd b8_personIs 66 .ireturn 1 67 := ⟨by decide +kernel, rfl⟩
theorem d8_personIs_67 : zd b8_personIs 67 (.aload_n 0) 1 68 := ⟨by decide +kernel, rfl⟩
theorem d8_personIs_68 : zd b8_personIs 68 (.getfield 10) 3 71 := ⟨by decide +kernel, rfl⟩
theorem d8_personIs_71 : zd b8_personIs 71 (.iload_n 1) 1 72 := ⟨by decide +kernel, rfl⟩
theorem d8_personIs_72 : zd b8_personIs 72 (.aload_n 0) 1 73 := ⟨by decide +kernel, rfl⟩
theorem d8_personIs_73 : zd b8_personIs 73 (.getfield 25) 3 76 := ⟨by decide +kernel, rfl⟩
theorem d8_personIs_76 : zd b8_personIs 76 (.invokevirtual 141) 3 79 := ⟨by decide +kernel, rfl⟩
theorem d8_personIs_79 : zd b8_personIs 79 .ireturn 1 80 := ⟨by decide +kernel, rfl⟩
theorem d8_personIs_80 : zd b8_personIs 80 (.aload_n 0) 1 81 := ⟨by decide +kernel, rfl⟩
theorem d8_personIs_81 : zd b8_personIs 81 (.iconst 1) 1 82 := ⟨by decide +kernel, rfl⟩
theorem d8_personIs_82 : zd b8_personIs 82 (.invokevirtual 67) 3 85 := ⟨by decide +kernel, rfl⟩
theorem d8_personIs_85 : zd b8_personIs 85 .ireturn 1 86 := ⟨by decide +kernel, rfl⟩
def f8_personIs (k : Nat) (x1 : Int32) (x2 : Int32) (σ : ZS) : Option (Int32 × ZS) :=
  zbd (f5_personOf k 2 x1 σ) fun r1 s1 =>
  if r1 = 0 then (
  zbd (f8_error k (1 : Int32) s1) fun r3 s3 =>
  some (r3, s3))
  else (
  if x2 = (0 : Int32) then (
  if zsh r1 = 3 then (
  some ((s1 r1 0), s1)) else none)
  else (
  if x2 = (1 : Int32) then (
  if zsh r1 = 3 then (
  some ((s1 r1 1), s1)) else none)
  else (
  if x2 = (2 : Int32) then (
  if zsh r1 = 3 then (
  some ((s1 r1 2), s1)) else none)
  else (
  if x2 = (3 : Int32) then (
  zbd (f5_dueOf k 2 x1 s1) fun r11 s11 =>
  some (r11, s11))
  else (
  zbd (f8_error k (1 : Int32) s1) fun r12 s12 =>
  some (r12, s12))))))
theorem c8_personIs (l : Launch) (g : ZG) {k : Nat} {x1 : Int32} {x2 : Int32} {σ : ZS} {r : Int32} {σr : ZS} (hf : f8_personIs k x1 x2 σ = some (r, σr)) : zT l g y8_personIs b8_personIs 4 (some .int) 6 181 [zr 1, zi x1, zi x2] σ (some (zi r)) σr := by
  unfold f8_personIs at hf
  refine zT_start (own := R8) rfl (by decide +kernel) 1 (L := [some (zr 1), some (zi x1), some (zi x2), none]) rfl rfl (fun x hl C => ?_)
  subst hl
  refine z_aload_n C d8_personIs_0 rfl ?_
  refine z_getR C d8_personIs_1 fl_261 kZ_1 2 rfl (zn0 kZ_2) ?_
  refine z_iload_n C d8_personIs_4 rfl ?_
  obtain ⟨r1, s1, h1, hf⟩ := zbx hf
  refine z_callVr C (as := [zi x1]) d8_personIs_5 w_396 yy5_personOf (c5_personOf x.2.1 g h1) yc5_personOf kZ_2 rfl rfl (Nat.le_of_ble_eq_true rfl) ⟨Nat.le_of_ble_eq_true rfl, Nat.le_of_ble_eq_true rfl⟩ ⟨Nat.zero_le _, Nat.zero_le _⟩ ?_
  refine z_astore_n C d8_personIs_8 (Nat.le_of_ble_eq_true rfl) rfl (L' := [some (zr 1), some (zi x1), some (zi x2), some (zr r1)]) rfl ?_
  refine z_aload_n C d8_personIs_9 rfl ?_
  refine z_ifnonnull C d8_personIs_10 (fun c2 => ?_) (fun c2 => ?_)
  · have hf := zit c2 hf
    refine z_aload_n C d8_personIs_13 rfl ?_
    refine z_iconst C (1 : Int32) d8_personIs_14 kI_1 ?_
    obtain ⟨r3, s3, h3, hf⟩ := zbx hf
    refine z_callVi C (as := [zi (1 : Int32)]) d8_personIs_15 w_308 yy8_error (c8_error x.2.1 g h3) yc8_error kZ_1 rfl rfl (Nat.le_of_ble_eq_true rfl) ⟨Nat.le_of_ble_eq_true rfl, Nat.le_of_ble_eq_true rfl⟩ ⟨Nat.zero_le _, Nat.zero_le _⟩ ?_
    exact z_iret C d8_personIs_18 hf
  · have hf := zie c2 hf
    refine z_iload_n C d8_personIs_19 rfl ?_
    refine z_tsw C [((0 : Int32), 52), ((1 : Int32), 57), ((2 : Int32), 62), ((3 : Int32), 67)] (d := 80) d8_personIs_20 (by decide) (by decide) (by decide +kernel) ?_
    refine z_swc (fun c4 => ?_) (fun c4 => ?_)
    · have hf := zit c4 hf
      refine z_aload_n C d8_personIs_52 rfl ?_
      obtain ⟨g5, hf⟩ := zgo hf
      refine z_getI C d8_personIs_53 fl_82 g5 ?_
      exact z_iret C d8_personIs_56 hf
    · have hf := zie c4 hf
      refine z_swc (fun c6 => ?_) (fun c6 => ?_)
      · have hf := zit c6 hf
        refine z_aload_n C d8_personIs_57 rfl ?_
        obtain ⟨g7, hf⟩ := zgo hf
        refine z_getI C d8_personIs_58 fl_85 g7 ?_
        exact z_iret C d8_personIs_61 hf
      · have hf := zie c6 hf
        refine z_swc (fun c8 => ?_) (fun c8 => ?_)
        · have hf := zit c8 hf
          refine z_aload_n C d8_personIs_62 rfl ?_
          obtain ⟨g9, hf⟩ := zgo hf
          refine z_getI C d8_personIs_63 fl_88 g9 ?_
          exact z_iret C d8_personIs_66 hf
        · have hf := zie c8 hf
          refine z_swc (fun c10 => ?_) (fun c10 => ?_)
          · have hf := zit c10 hf
            refine z_aload_n C d8_personIs_67 rfl ?_
            refine z_getR C d8_personIs_68 fl_261 kZ_1 2 rfl (zn0 kZ_2) ?_
            refine z_iload_n C d8_personIs_71 rfl ?_
            refine z_aload_n C d8_personIs_72 rfl ?_
            refine z_getR C d8_personIs_73 fl_264 kZ_1 83 rfl (zn0 kZ_83) ?_
            obtain ⟨r11, s11, h11, hf⟩ := zbx hf
            refine z_callVi C (as := [zi x1, zr 83]) d8_personIs_76 w_397 yy5_dueOf (c5_dueOf x.2.1 g h11) yc5_dueOf kZ_2 rfl rfl (Nat.le_of_ble_eq_true rfl) ⟨Nat.le_of_ble_eq_true rfl, Nat.le_of_ble_eq_true rfl⟩ ⟨Nat.zero_le _, Nat.zero_le _⟩ ?_
            exact z_iret C d8_personIs_79 hf
          · have hf := zie c10 hf
            refine z_sw0 ?_
            refine z_aload_n C d8_personIs_80 rfl ?_
            refine z_iconst C (1 : Int32) d8_personIs_81 kI_1 ?_
            obtain ⟨r12, s12, h12, hf⟩ := zbx hf
            refine z_callVi C (as := [zi (1 : Int32)]) d8_personIs_82 w_308 yy8_error (c8_error x.2.1 g h12) yc8_error kZ_1 rfl rfl (Nat.le_of_ble_eq_true rfl) ⟨Nat.le_of_ble_eq_true rfl, Nat.le_of_ble_eq_true rfl⟩ ⟨Nat.zero_le _, Nat.zero_le _⟩ ?_
            exact z_iret C d8_personIs_85 hf
theorem d4_write_0 : zd b4_write 0 (.iload_n 1) 1 1 := ⟨by decide +kernel, rfl⟩
theorem d4_write_1 : zdb b4_write 1 (.ifCond .lt 47) 47 4 48 := ⟨by decide +kernel, rfl, by decide⟩
theorem d4_write_4 : zd b4_write 4 (.iload_n 1) 1 5 := ⟨by decide +kernel, rfl⟩
theorem d4_write_5 : zd b4_write 5 (.aload_n 0) 1 6 := ⟨by decide +kernel, rfl⟩
theorem d4_write_6 : zd b4_write 6 (.getfield 9) 3 9 := ⟨by decide +kernel, rfl⟩
theorem d4_write_9 : zd b4_write 9 .arraylength 1 10 := ⟨by decide +kernel, rfl⟩
theorem d4_write_10 : zdb b4_write 10 (.if_icmp .ge 38) 38 13 48 := ⟨by decide +kernel, rfl, by decide⟩
theorem d4_write_13 : zd b4_write 13 (.aload_n 0) 1 14 := ⟨by decide +kernel, rfl⟩
theorem d4_write_14 : zd b4_write 14 (.getfield 9) 3 17 := ⟨by decide +kernel, rfl⟩
theorem d4_write_17 : zd b4_write 17 (.iload_n 1) 1 18 := ⟨by decide +kernel, rfl⟩
theorem d4_write_18 : zd b4_write 18 (.aload_n 0) 1 19 := ⟨by decide +kernel, rfl⟩
theorem d4_write_19 : zd b4_write 19 (.getfield 21) 3 22 := ⟨by decide +kernel, rfl⟩
theorem d4_write_22 : zd b4_write 22 (.bipush 8) 2 24 := ⟨by decide +kernel, rfl⟩
theorem d4_write_24 : zdb b4_write 24 (.if_icmp .ne 8) 8 27 32 := ⟨by decide +kernel, rfl, by decide⟩
theorem d4_write_27 : zd b4_write 27 (.iload_n 2) 1 28 := ⟨by decide +kernel, rfl⟩
theorem d4_write_28 : zd b4_write 28 .i2b 1 29 := ⟨by decide +kernel, rfl⟩
theorem d4_write_29 : zdb b4_write 29 (.goto 18) 18 32 47 := ⟨by decide +kernel, rfl, by decide⟩
theorem d4_write_32 : zd b4_write 32 (.aload_n 0) 1 33 := ⟨by decide +kernel, rfl⟩
theorem d4_write_33 : zd b4_write 33 (.getfield 21) 3 36 := ⟨by decide +kernel, rfl⟩
theorem d4_write_36 : zd b4_write 36 (.bipush 16) 2 38 := ⟨by decide +kernel, rfl⟩
theorem d4_write_38 : zdb b4_write 38 (.if_icmp .ne 8) 8 41 46 := ⟨by decide +kernel, rfl, by decide⟩
theorem d4_write_41 : zd b4_write 41 (.iload_n 2) 1 42 := ⟨by decide +kernel, rfl⟩
theorem d4_write_42 : zd b4_write 42 .i2s 1 43 := ⟨by decide +kernel, rfl⟩
theorem d4_write_43 : zdb b4_write 43 (.goto 4) 4 46 47 := ⟨by decide +kernel, rfl, by decide⟩
theorem d4_write_46 : zd b4_write 46 (.iload_n 2) 1 47 := ⟨by decide +kernel, rfl⟩
theorem d4_write_47 : zd b4_write 47 .iastore 1 48 := ⟨by decide +kernel, rfl⟩
theorem d4_write_48 : zd b4_write 48 .return_ 1 49 := ⟨by decide +kernel, rfl⟩
def f4_write (k : Nat) (t : Nat) (x1 : Int32) (x2 : Int32) (σ : ZS) : Option (Unit × ZS) :=
  if zsh t = 5 then (
  if x1 < 0 then (
  some ((), σ))
  else (
  if (24 : Int32) ≤ x1 then (
  some ((), σ))
  else (
  if (σ t 1) = (8 : Int32) then (
  if zin x1 24 then (
  zput (zu σ (t + 1) (x1.toNatClampNeg) x2.toInt8.toInt32) fun s5 =>
  some ((), s5)) else none)
  else (
  if (σ t 1) = (16 : Int32) then (
  if zin x1 24 then (
  zput (zu σ (t + 1) (x1.toNatClampNeg) x2.toInt16.toInt32) fun s8 =>
  some ((), s8)) else none)
  else (
  if zin x1 24 then (
  zput (zu σ (t + 1) (x1.toNatClampNeg) x2) fun s10 =>
  some ((), s10)) else none))))) else none
theorem c4_write (l : Launch) (g : ZG) {k : Nat} {t : Nat} {x1 : Int32} {x2 : Int32} {σ : ZS} {r : Unit} {σr : ZS} (hf : f4_write k t x1 x2 σ = some (r, σr)) : zT l g y4_write b4_write 3 none 1 60 [zr t, zi x1, zi x2] σ none σr := by
  unfold f4_write at hf
  obtain ⟨ht, hf⟩ := zgo hf
  refine zT_start (own := R4) rfl (by decide +kernel) 0 (L := [some (zr t), some (zi x1), some (zi x2)]) rfl rfl (fun x hl C => ?_)
  subst hl
  refine z_iload_n C d4_write_0 rfl ?_
  refine z_if_lt C d4_write_1 (fun c1 => ?_) (fun c1 => ?_)
  · have hf := zit c1 hf
    exact z_vret C d4_write_48 hf
  · have hf := zie c1 hf
    refine z_iload_n C d4_write_4 rfl ?_
    refine z_aload_n C d4_write_5 rfl ?_
    refine z_getR C d4_write_6 fl_248 ht (t + 1) rfl (zn0 (zD5_1 ht)) ?_
    refine z_alen C (24 : Int32) d4_write_9 (zD5_1 ht) (zN5_1 ht) kO_24 ?_
    refine z_icmp_ge C d4_write_10 (fun c2 => ?_) (fun c2 => ?_)
    · have hf := zit c2 hf
      exact z_vret C d4_write_48 hf
    · have hf := zie c2 hf
      refine z_aload_n C d4_write_13 rfl ?_
      refine z_getR C d4_write_14 fl_248 ht (t + 1) rfl (zn0 (zD5_1 ht)) ?_
      refine z_iload_n C d4_write_17 rfl ?_
      refine z_aload_n C d4_write_18 rfl ?_
      refine z_getI C d4_write_19 fl_250 ht ?_
      refine z_bipush C (8 : Int32) d4_write_22 kB_8 ?_
      refine z_icmp_ne C d4_write_24 (fun c3 => ?_) (fun c3 => ?_)
      · have hf := zit c3 hf
        refine z_iload_n C d4_write_27 rfl ?_
        refine z_i2b C d4_write_28 ?_
        refine z_goto C d4_write_29 ?_
        obtain ⟨g4, hf⟩ := zgo hf
        obtain ⟨s5, e5, hf⟩ := zpx hf
        refine z_iast C d4_write_47 (zD5_1 ht) (zN5_1 ht) g4 rfl e5 ?_
        exact z_vret C d4_write_48 hf
      · have hf := zie c3 hf
        refine z_aload_n C d4_write_32 rfl ?_
        refine z_getI C d4_write_33 fl_250 ht ?_
        refine z_bipush C (16 : Int32) d4_write_36 kB_16 ?_
        refine z_icmp_ne C d4_write_38 (fun c6 => ?_) (fun c6 => ?_)
        · have hf := zit c6 hf
          refine z_iload_n C d4_write_41 rfl ?_
          refine z_i2s C d4_write_42 ?_
          refine z_goto C d4_write_43 ?_
          obtain ⟨g7, hf⟩ := zgo hf
          obtain ⟨s8, e8, hf⟩ := zpx hf
          refine z_iast C d4_write_47 (zD5_1 ht) (zN5_1 ht) g7 rfl e8 ?_
          exact z_vret C d4_write_48 hf
        · have hf := zie c6 hf
          refine z_iload_n C d4_write_46 rfl ?_
          obtain ⟨g9, hf⟩ := zgo hf
          obtain ⟨s10, e10, hf⟩ := zpx hf
          refine z_iast C d4_write_47 (zD5_1 ht) (zN5_1 ht) g9 rfl e10 ?_
          exact z_vret C d4_write_48 hf
theorem d8_put_0 : zd b8_put 0 (.aload_n 0) 1 1 := ⟨by decide +kernel, rfl⟩
theorem d8_put_1 : zd b8_put 1 (.iload_n 1) 1 2 := ⟨by decide +kernel, rfl⟩
theorem d8_put_2 : zd b8_put 2 (.invokevirtual 233) 3 5 := ⟨by decide +kernel, rfl⟩
theorem d8_put_5 : zd b8_put 5 (.astore 4) 2 7 := ⟨by decide +kernel, rfl⟩
theorem d8_put_7 : zd b8_put 7 (.aload 4) 2 9 := ⟨by decide +kernel, rfl⟩
theorem d8_put_9 : zdb b8_put 9 (.ifnonnull 9) 9 12 18 := ⟨by decide +kernel, rfl, by decide⟩
theorem d8_put_12 : zd b8_put 12 (.aload_n 0) 1 13 := ⟨by decide +kernel, rfl⟩
theorem d8_put_13 : zd b8_put 13 (.iconst 1) 1 14 := ⟨by decide +kernel, rfl⟩
theorem d8_put_14 : zd b8_put 14 (.invokevirtual 67) 3 17 := ⟨by decide +kernel, rfl⟩
theorem d8_put_17 : zd b8_put 17 .ireturn 1 18 := ⟨by decide +kernel, rfl⟩
theorem d8_put_18 : zd b8_put 18 (.aload 4) 2 20 := ⟨by decide +kernel, rfl⟩
theorem d8_put_20 : zd b8_put 20 (.getfield 237) 3 23 := ⟨by decide +kernel, rfl⟩
theorem d8_put_23 : zdb b8_put 23 (.ifCond .ne 9) 9 26 32 := ⟨by decide +kernel, rfl, by decide⟩
theorem d8_put_26 : zd b8_put 26 (.aload_n 0) 1 27 := ⟨by decide +kernel, rfl⟩
theorem d8_put_27 : zd b8_put 27 (.iconst 2) 1 28 := ⟨by decide +kernel, rfl⟩
theorem d8_put_28 : zd b8_put 28 (.invokevirtual 67) 3 31 := ⟨by decide +kernel, rfl⟩
theorem d8_put_31 : zd b8_put 31 .ireturn 1 32 := ⟨by decide +kernel, rfl⟩
theorem d8_put_32 : zd b8_put 32 (.iload_n 2) 1 33 := ⟨by decide +kernel, rfl⟩
theorem d8_put_33 : zdb b8_put 33 (.ifCond .lt 12) 12 36 45 := ⟨by decide +kernel, rfl, by decide⟩
theorem d8_put_36 : zd b8_put 36 (.iload_n 2) 1 37 := ⟨by decide +kernel, rfl⟩
theorem d8_put_37 : zd b8_put 37 (.aload 4) 2 39 := ⟨by decide +kernel, rfl⟩
theorem d8_put_39 : zd b8_put 39 (.getfield 260) 3 42 := ⟨by decide +kernel, rfl⟩
theorem d8_put_42 : zdb b8_put 42 (.if_icmp .lt 9) 9 45 51 := ⟨by decide +kernel, rfl, by decide⟩
theorem d8_put_45 : zd b8_put 45 (.aload_n 0) 1 46 := ⟨by decide +kernel, rfl⟩
theorem d8_put_46 : zd b8_put 46 (.iconst 1) 1 47 := ⟨by decide +kernel, rfl⟩
theorem d8_put_47 : zd b8_put 47 (.invokevirtual 67) 3 50 := ⟨by decide +kernel, rfl⟩
theorem d8_put_50 : zd b8_put 50 .ireturn 1 51 := ⟨by decide +kernel, rfl⟩
theorem d8_put_51 : zd b8_put 51 (.aload 4) 2 53 := ⟨by decide +kernel, rfl⟩
theorem d8_put_53 : zd b8_put 53 (.iload_n 2) 1 54 := ⟨by decide +kernel, rfl⟩
theorem d8_put_54 : zd b8_put 54 (.iload_n 3) 1 55 := ⟨by decide +kernel, rfl⟩
theorem d8_put_55 : zd b8_put 55 (.invokevirtual 261) 3 58 := ⟨by decide +kernel, rfl⟩
theorem d8_put_58 : zd b8_put 58 (.iconst 1) 1 59 := ⟨by decide +kernel, rfl⟩
theorem d8_put_59 : zd b8_put 59 .ireturn 1 60 := ⟨by decide +kernel, rfl⟩
def f8_put (k : Nat) (x1 : Int32) (x2 : Int32) (x3 : Int32) (σ : ZS) : Option (Int32 × ZS) :=
  zbd (f8_sheetOf k x1 σ) fun r1 s1 =>
  if r1 = 0 then (
  zbd (f8_error k (1 : Int32) s1) fun r3 s3 =>
  some (r3, s3))
  else (
  if zsh r1 = 5 then (
  if (s1 r1 1) = 0 then (
  zbd (f8_error k (2 : Int32) s1) fun r6 s6 =>
  some (r6, s6))
  else (
  if x2 < 0 then (
  zbd (f8_error k (1 : Int32) s1) fun r8 s8 =>
  some (r8, s8))
  else (
  if x2 < (s1 r1 2) then (
  zbd (f4_write k r1 x2 x3 s1) fun _ s10 =>
  some ((1 : Int32), s10))
  else (
  zbd (f8_error k (1 : Int32) s1) fun r11 s11 =>
  some (r11, s11))))) else none)
theorem c8_put (l : Launch) (g : ZG) {k : Nat} {x1 : Int32} {x2 : Int32} {x3 : Int32} {σ : ZS} {r : Int32} {σr : ZS} (hf : f8_put k x1 x2 x3 σ = some (r, σr)) : zT l g y8_put b8_put 5 (some .int) 2 82 [zr 1, zi x1, zi x2, zi x3] σ (some (zi r)) σr := by
  unfold f8_put at hf
  refine zT_start (own := R8) rfl (by decide +kernel) 1 (L := [some (zr 1), some (zi x1), some (zi x2), some (zi x3), none]) rfl rfl (fun x hl C => ?_)
  subst hl
  refine z_aload_n C d8_put_0 rfl ?_
  refine z_iload_n C d8_put_1 rfl ?_
  obtain ⟨r1, s1, h1, hf⟩ := zbx hf
  refine z_callVr C (as := [zi x1]) d8_put_2 w_687 yy8_sheetOf (c8_sheetOf x.2.1 g h1) yc8_sheetOf kZ_1 rfl rfl (Nat.le_of_ble_eq_true rfl) ⟨Nat.le_of_ble_eq_true rfl, Nat.le_of_ble_eq_true rfl⟩ ⟨Nat.zero_le _, Nat.zero_le _⟩ ?_
  refine z_astore C d8_put_5 (Nat.le_of_ble_eq_true rfl) rfl (L' := [some (zr 1), some (zi x1), some (zi x2), some (zi x3), some (zr r1)]) rfl ?_
  refine z_aload C d8_put_7 rfl ?_
  refine z_ifnonnull C d8_put_9 (fun c2 => ?_) (fun c2 => ?_)
  · have hf := zit c2 hf
    refine z_aload_n C d8_put_12 rfl ?_
    refine z_iconst C (1 : Int32) d8_put_13 kI_1 ?_
    obtain ⟨r3, s3, h3, hf⟩ := zbx hf
    refine z_callVi C (as := [zi (1 : Int32)]) d8_put_14 w_308 yy8_error (c8_error x.2.1 g h3) yc8_error kZ_1 rfl rfl (Nat.le_of_ble_eq_true rfl) ⟨Nat.le_of_ble_eq_true rfl, Nat.le_of_ble_eq_true rfl⟩ ⟨Nat.zero_le _, Nat.zero_le _⟩ ?_
    exact z_iret C d8_put_17 hf
  · have hf := zie c2 hf
    refine z_aload C d8_put_18 rfl ?_
    obtain ⟨g4, hf⟩ := zgo hf
    refine z_getI C d8_put_20 fl_251 g4 ?_
    refine z_if_ne C d8_put_23 (fun c5 => ?_) (fun c5 => ?_)
    · have hf := zit c5 hf
      refine z_aload_n C d8_put_26 rfl ?_
      refine z_iconst C (2 : Int32) d8_put_27 kI_2 ?_
      obtain ⟨r6, s6, h6, hf⟩ := zbx hf
      refine z_callVi C (as := [zi (2 : Int32)]) d8_put_28 w_308 yy8_error (c8_error x.2.1 g h6) yc8_error kZ_1 rfl rfl (Nat.le_of_ble_eq_true rfl) ⟨Nat.le_of_ble_eq_true rfl, Nat.le_of_ble_eq_true rfl⟩ ⟨Nat.zero_le _, Nat.zero_le _⟩ ?_
      exact z_iret C d8_put_31 hf
    · have hf := zie c5 hf
      refine z_iload_n C d8_put_32 rfl ?_
      refine z_if_lt C d8_put_33 (fun c7 => ?_) (fun c7 => ?_)
      · have hf := zit c7 hf
        refine z_aload_n C d8_put_45 rfl ?_
        refine z_iconst C (1 : Int32) d8_put_46 kI_1 ?_
        obtain ⟨r8, s8, h8, hf⟩ := zbx hf
        refine z_callVi C (as := [zi (1 : Int32)]) d8_put_47 w_308 yy8_error (c8_error x.2.1 g h8) yc8_error kZ_1 rfl rfl (Nat.le_of_ble_eq_true rfl) ⟨Nat.le_of_ble_eq_true rfl, Nat.le_of_ble_eq_true rfl⟩ ⟨Nat.zero_le _, Nat.zero_le _⟩ ?_
        exact z_iret C d8_put_50 hf
      · have hf := zie c7 hf
        refine z_iload_n C d8_put_36 rfl ?_
        refine z_aload C d8_put_37 rfl ?_
        refine z_getI C d8_put_39 fl_253 g4 ?_
        refine z_icmp_lt C d8_put_42 (fun c9 => ?_) (fun c9 => ?_)
        · have hf := zit c9 hf
          refine z_aload C d8_put_51 rfl ?_
          refine z_iload_n C d8_put_53 rfl ?_
          refine z_iload_n C d8_put_54 rfl ?_
          obtain ⟨r10, s10, h10, hf⟩ := zbx hf
          refine z_callVv C (as := [zi x2, zi x3]) d8_put_55 w_758 yy4_write (c4_write x.2.1 g h10) yc4_write g4 rfl rfl (Nat.le_of_ble_eq_true rfl) ⟨Nat.le_of_ble_eq_true rfl, Nat.le_of_ble_eq_true rfl⟩ ⟨Nat.zero_le _, Nat.zero_le _⟩ ?_
          refine z_iconst C (1 : Int32) d8_put_58 kI_1 ?_
          exact z_iret C d8_put_59 hf
        · have hf := zie c9 hf
          refine z_aload_n C d8_put_45 rfl ?_
          refine z_iconst C (1 : Int32) d8_put_46 kI_1 ?_
          obtain ⟨r11, s11, h11, hf⟩ := zbx hf
          refine z_callVi C (as := [zi (1 : Int32)]) d8_put_47 w_308 yy8_error (c8_error x.2.1 g h11) yc8_error kZ_1 rfl rfl (Nat.le_of_ble_eq_true rfl) ⟨Nat.le_of_ble_eq_true rfl, Nat.le_of_ble_eq_true rfl⟩ ⟨Nat.zero_le _, Nat.zero_le _⟩ ?_
          exact z_iret C d8_put_50 hf
theorem d8_restore_0 : zd b8_restore 0 (.aload_n 0) 1 1 := ⟨by decide +kernel, rfl⟩
theorem d8_restore_1 : zd b8_restore 1 (.getfield 280) 3 4 := ⟨by decide +kernel, rfl⟩
theorem d8_restore_4 : zdb b8_restore 4 (.ifCond .ne 9) 9 7 13 := ⟨by decide +kernel, rfl, by decide⟩
theorem d8_restore_7 : zd b8_restore 7 (.aload_n 0) 1 8 := ⟨by decide +kernel, rfl⟩
theorem d8_restore_8 : zd b8_restore 8 (.iconst 2) 1 9 := ⟨by decide +kernel, rfl⟩
theorem d8_restore_9 : zd b8_restore 9 (.invokevirtual 67) 3 12 := ⟨by decide +kernel, rfl⟩
theorem d8_restore_12 : zd b8_restore 12 .ireturn 1 13 := ⟨by decide +kernel, rfl⟩
theorem d8_restore_13 : zd b8_restore 13 (.aload_n 0) 1 14 := ⟨by decide +kernel, rfl⟩
theorem d8_restore_14 : zd b8_restore 14 (.getfield 10) 3 17 := ⟨by decide +kernel, rfl⟩
theorem d8_restore_17 : zd b8_restore 17 (.aload_n 0) 1 18 := ⟨by decide +kernel, rfl⟩
theorem d8_restore_18 : zd b8_restore 18 (.getfield 16) 3 21 := ⟨by decide +kernel, rfl⟩
theorem d8_restore_21 : zd b8_restore 21 (.invokevirtual 223) 3 24 := ⟨by decide +kernel, rfl⟩
theorem d8_restore_24 : zd b8_restore 24 (.aload_n 0) 1 25 := ⟨by decide +kernel, rfl⟩
theorem d8_restore_25 : zd b8_restore 25 (.getfield 10) 3 28 := ⟨by decide +kernel, rfl⟩
theorem d8_restore_28 : zd b8_restore 28 (.getfield 151) 3 31 := ⟨by decide +kernel, rfl⟩
theorem d8_restore_31 : zd b8_restore 31 .ireturn 1 32 := ⟨by decide +kernel, rfl⟩
def f8_restore (k : Nat)  (σ : ZS) : Option (Int32 × ZS) :=
  if (σ 1 9) = 0 then (
  zbd (f8_error k (2 : Int32) σ) fun r2 s2 =>
  some (r2, s2))
  else (
  zbd (f5_copyFrom k 2 29 σ) fun _ s3 =>
  some ((s3 2 10), s3))
theorem c8_restore (l : Launch) (g : ZG) {k : Nat}  {σ : ZS} {r : Int32} {σr : ZS} (hf : f8_restore k  σ = some (r, σr)) : zT l g y8_restore b8_restore 1 (some .int) 3 103 [zr 1] σ (some (zi r)) σr := by
  unfold f8_restore at hf
  refine zT_start (own := R8) rfl (by decide +kernel) 0 (L := [some (zr 1)]) rfl rfl (fun x hl C => ?_)
  subst hl
  refine z_aload_n C d8_restore_0 rfl ?_
  refine z_getI C d8_restore_1 fl_270 kZ_1 ?_
  refine z_if_ne C d8_restore_4 (fun c1 => ?_) (fun c1 => ?_)
  · have hf := zit c1 hf
    refine z_aload_n C d8_restore_7 rfl ?_
    refine z_iconst C (2 : Int32) d8_restore_8 kI_2 ?_
    obtain ⟨r2, s2, h2, hf⟩ := zbx hf
    refine z_callVi C (as := [zi (2 : Int32)]) d8_restore_9 w_308 yy8_error (c8_error x.2.1 g h2) yc8_error kZ_1 rfl rfl (Nat.le_of_ble_eq_true rfl) ⟨Nat.le_of_ble_eq_true rfl, Nat.le_of_ble_eq_true rfl⟩ ⟨Nat.zero_le _, Nat.zero_le _⟩ ?_
    exact z_iret C d8_restore_12 hf
  · have hf := zie c1 hf
    refine z_aload_n C d8_restore_13 rfl ?_
    refine z_getR C d8_restore_14 fl_261 kZ_1 2 rfl (zn0 kZ_2) ?_
    refine z_aload_n C d8_restore_17 rfl ?_
    refine z_getR C d8_restore_18 fl_262 kZ_1 29 rfl (zn0 kZ_29) ?_
    obtain ⟨r3, s3, h3, hf⟩ := zbx hf
    refine z_callVv C (as := [zr 29]) d8_restore_21 w_637 yy5_copyFrom (c5_copyFrom x.2.1 g h3) yc5_copyFrom kZ_2 rfl rfl (Nat.le_of_ble_eq_true rfl) ⟨Nat.le_of_ble_eq_true rfl, Nat.le_of_ble_eq_true rfl⟩ ⟨Nat.zero_le _, Nat.zero_le _⟩ ?_
    refine z_aload_n C d8_restore_24 rfl ?_
    refine z_getR C d8_restore_25 fl_261 kZ_1 2 rfl (zn0 kZ_2) ?_
    refine z_getI C d8_restore_28 fl_134 kZ_2 ?_
    exact z_iret C d8_restore_31 hf
theorem d8_seed_0 : zd b8_seed 0 (.aload_n 0) 1 1 := ⟨by decide +kernel, rfl⟩
theorem d8_seed_1 : zd b8_seed 1 (.getfield 10) 3 4 := ⟨by decide +kernel, rfl⟩
theorem d8_seed_4 : zd b8_seed 4 (.getfield 197) 3 7 := ⟨by decide +kernel, rfl⟩
theorem d8_seed_7 : zd b8_seed 7 (.istore_n 2) 1 8 := ⟨by decide +kernel, rfl⟩
theorem d8_seed_8 : zd b8_seed 8 (.aload_n 0) 1 9 := ⟨by decide +kernel, rfl⟩
theorem d8_seed_9 : zd b8_seed 9 (.getfield 10) 3 12 := ⟨by decide +kernel, rfl⟩
theorem d8_seed_12 : zd b8_seed 12 (.iload_n 1) 1 13 := ⟨by decide +kernel, rfl⟩
theorem d8_seed_13 : zd b8_seed 13 (.putfield 197) 3 16 := ⟨by decide +kernel, rfl⟩
theorem d8_seed_16 : zd b8_seed 16 (.iload_n 2) 1 17 := ⟨by decide +kernel, rfl⟩
theorem d8_seed_17 : zd b8_seed 17 .ireturn 1 18 := ⟨by decide +kernel, rfl⟩
def f8_seed (k : Nat) (x1 : Int32) (σ : ZS) : Option (Int32 × ZS) :=
  zput (zu σ 2 11 x1) fun s1 =>
  some ((σ 2 11), s1)
theorem c8_seed (l : Launch) (g : ZG) {k : Nat} {x1 : Int32} {σ : ZS} {r : Int32} {σr : ZS} (hf : f8_seed k x1 σ = some (r, σr)) : zT l g y8_seed b8_seed 3 (some .int) 1 60 [zr 1, zi x1] σ (some (zi r)) σr := by
  unfold f8_seed at hf
  refine zT_start (own := R8) rfl (by decide +kernel) 1 (L := [some (zr 1), some (zi x1), none]) rfl rfl (fun x hl C => ?_)
  subst hl
  refine z_aload_n C d8_seed_0 rfl ?_
  refine z_getR C d8_seed_1 fl_261 kZ_1 2 rfl (zn0 kZ_2) ?_
  refine z_getI C d8_seed_4 fl_136 kZ_2 ?_
  refine z_istore_n C d8_seed_7 (Nat.le_of_ble_eq_true rfl) rfl (L' := [some (zr 1), some (zi x1), some (zi (σ 2 11))]) rfl ?_
  refine z_aload_n C d8_seed_8 rfl ?_
  refine z_getR C d8_seed_9 fl_261 kZ_1 2 rfl (zn0 kZ_2) ?_
  refine z_iload_n C d8_seed_12 rfl ?_
  obtain ⟨s1, e1, hf⟩ := zpx hf
  refine z_putI C d8_seed_13 fl_136 ft_5_11 kZ_2 e1 ?_
  refine z_iload_n C d8_seed_16 rfl ?_
  exact z_iret C d8_seed_17 hf
theorem d8_sees_0 : zd b8_sees 0 (.aload_n 0) 1 1 := ⟨by decide +kernel, rfl⟩
theorem d8_sees_1 : zd b8_sees 1 (.getfield 10) 3 4 := ⟨by decide +kernel, rfl⟩
theorem d8_sees_4 : zd b8_sees 4 (.iload_n 1) 1 5 := ⟨by decide +kernel, rfl⟩
theorem d8_sees_5 : zd b8_sees 5 (.invokevirtual 128) 3 8 := ⟨by decide +kernel, rfl⟩
theorem d8_sees_8 : zd b8_sees 8 (.astore_n 2) 1 9 := ⟨by decide +kernel, rfl⟩
theorem d8_sees_9 : zd b8_sees 9 (.aload_n 2) 1 10 := ⟨by decide +kernel, rfl⟩
theorem d8_sees_10 : zdb b8_sees 10 (.ifnonnull 9) 9 13 19 := ⟨by decide +kernel, rfl, by decide⟩
theorem d8_sees_13 : zd b8_sees 13 (.aload_n 0) 1 14 := ⟨by decide +kernel, rfl⟩
theorem d8_sees_14 : zd b8_sees 14 (.iconst 1) 1 15 := ⟨by decide +kernel, rfl⟩
theorem d8_sees_15 : zd b8_sees 15 (.invokevirtual 67) 3 18 := ⟨by decide +kernel, rfl⟩
theorem d8_sees_18 : zd b8_sees 18 .ireturn 1 19 := ⟨by decide +kernel, rfl⟩
theorem d8_sees_19 : zd b8_sees 19 (.aload_n 0) 1 20 := ⟨by decide +kernel, rfl⟩
theorem d8_sees_20 : zd b8_sees 20 (.getfield 25) 3 23 := ⟨by decide +kernel, rfl⟩
theorem d8_sees_23 : zd b8_sees 23 (.aload_n 0) 1 24 := ⟨by decide +kernel, rfl⟩
theorem d8_sees_24 : zd b8_sees 24 (.getfield 10) 3 27 := ⟨by decide +kernel, rfl⟩
theorem d8_sees_27 : zd b8_sees 27 (.aload_n 2) 1 28 := ⟨by decide +kernel, rfl⟩
theorem d8_sees_28 : zd b8_sees 28 (.getfield 132) 3 31 := ⟨by decide +kernel, rfl⟩
theorem d8_sees_31 : zd b8_sees 31 (.aload_n 2) 1 32 := ⟨by decide +kernel, rfl⟩
theorem d8_sees_32 : zd b8_sees 32 (.getfield 135) 3 35 := ⟨by decide +kernel, rfl⟩
theorem d8_sees_35 : zd b8_sees 35 (.invokevirtual 200) 3 38 := ⟨by decide +kernel, rfl⟩
theorem d8_sees_38 : zd b8_sees 38 (.iconst 0) 1 39 := ⟨by decide +kernel, rfl⟩
theorem d8_sees_39 : zd b8_sees 39 (.istore_n 3) 1 40 := ⟨by decide +kernel, rfl⟩
theorem d8_sees_40 : zd b8_sees 40 (.iconst 0) 1 41 := ⟨by decide +kernel, rfl⟩
theorem d8_sees_41 : zd b8_sees 41 (.istore 4) 2 43 := ⟨by decide +kernel, rfl⟩
theorem d8_sees_43 : zd b8_sees 43 (.iload 4) 2 45 := ⟨by decide +kernel, rfl⟩
theorem d8_sees_45 : zd b8_sees 45 (.aload_n 0) 1 46 := ⟨by decide +kernel, rfl⟩
theorem d8_sees_46 : zd b8_sees 46 (.getfield 10) 3 49 := ⟨by decide +kernel, rfl⟩
theorem d8_sees_49 : zd b8_sees 49 (.getfield 121) 3 52 := ⟨by decide +kernel, rfl⟩
theorem d8_sees_52 : zdb b8_sees 52 (.if_icmp .ge 47) 47 55 99 := ⟨by decide +kernel, rfl, by decide⟩
theorem d8_sees_55 : zd b8_sees 55 (.aload_n 0) 1 56 := ⟨by decide +kernel, rfl⟩
theorem d8_sees_56 : zd b8_sees 56 (.getfield 10) 3 59 := ⟨by decide +kernel, rfl⟩
theorem d8_sees_59 : zd b8_sees 59 (.iload 4) 2 61 := ⟨by decide +kernel, rfl⟩
theorem d8_sees_61 : zd b8_sees 61 (.invokevirtual 128) 3 64 := ⟨by decide +kernel, rfl⟩
theorem d8_sees_64 : zd b8_sees 64 (.astore 5) 2 66 := ⟨by decide +kernel, rfl⟩
theorem d8_sees_66 : zd b8_sees 66 (.aload 5) 2 68 := ⟨by decide +kernel, rfl⟩
theorem d8_sees_68 : zdb b8_sees 68 (.ifnull 25) 25 71 93 := ⟨by decide +kernel, rfl, by decide⟩
theorem d8_sees_71 : zd b8_sees 71 (.aload_n 0) 1 72 := ⟨by decide +kernel, rfl⟩
theorem d8_sees_72 : zd b8_sees 72 (.getfield 25) 3 75 := ⟨by decide +kernel, rfl⟩
theorem d8_sees_75 : zd b8_sees 75 (.aload 5) 2 77 := ⟨by decide +kernel, rfl⟩
theorem d8_sees_77 : zd b8_sees 77 (.getfield 132) 3 80 := ⟨by decide +kernel, rfl⟩
theorem d8_sees_80 : zd b8_sees 80 (.invokevirtual 220) 3 83 := ⟨by decide +kernel, rfl⟩
theorem d8_sees_83 : zdb b8_sees 83 (.ifCond .eq 10) 10 86 93 := ⟨by decide +kernel, rfl, by decide⟩
theorem d8_sees_86 : zd b8_sees 86 (.iload_n 3) 1 87 := ⟨by decide +kernel, rfl⟩
theorem d8_sees_87 : zd b8_sees 87 (.iconst 1) 1 88 := ⟨by decide +kernel, rfl⟩
theorem d8_sees_88 : zd b8_sees 88 (.iload 4) 2 90 := ⟨by decide +kernel, rfl⟩
theorem d8_sees_90 : zd b8_sees 90 .ishl 1 91 := ⟨by decide +kernel, rfl⟩
theorem d8_sees_91 : zd b8_sees 91 .ior 1 92 := ⟨by decide +kernel, rfl⟩
theorem d8_sees_92 : zd b8_sees 92 (.istore_n 3) 1 93 := ⟨by decide +kernel, rfl⟩
theorem d8_sees_93 : zd b8_sees 93 (.iinc 4 1) 3 96 := ⟨by decide +kernel, rfl⟩
theorem d8_sees_96 : zdb b8_sees 96 (.goto (-53)) (-53) 99 43 := ⟨by decide +kernel, rfl, by decide⟩
theorem d8_sees_99 : zd b8_sees 99 (.iload_n 3) 1 100 := ⟨by decide +kernel, rfl⟩
theorem d8_sees_100 : zd b8_sees 100 .ireturn 1 101 := ⟨by decide +kernel, rfl⟩
def b8_sees_43 (k : Nat) (q43 : Int32 → Int32 → ZS → Option (Int32 × ZS)) (x3 : Int32) (x4 : Int32) (σ : ZS) : Option (Int32 × ZS) :=
  if (σ 2 7) ≤ x4 then (
  some (x3, σ))
  else (
  zbd (f5_personOf k 2 x4 σ) fun r2 s2 =>
  if r2 = 0 then (
  q43 x3 (x4 + (1 : Int32)) s2)
  else (
  if zsh r2 = 3 then (
  zbd (f1_seesCell k (s2 r2 0) s2) fun r5 s5 =>
  if r5 = 0 then (
  q43 x3 (x4 + (1 : Int32)) s5)
  else (
  q43 (x3 ||| ((1 : Int32) <<< (x4 &&& 31))) (x4 + (1 : Int32)) s5)) else none))
def f8_sees_43 (k : Nat) : Nat → Int32 → Int32 → ZS → Option (Int32 × ZS)
  | 0 => fun _ _ _ => none
  | n + 1 => b8_sees_43 k  (f8_sees_43 k  n)
theorem j8_sees_43 {x : ZX} {g : ZG} (C : zC x g b8_sees R8 (some .int) 6 5 153) {k : Nat} {r : Int32} {σr : ZS}  {q43 : Int32 → Int32 → ZS → Option (Int32 × ZS)} (hq43 : (∀ (x3 : Int32) (x4 : Int32) (σ : ZS), q43 x3 x4 σ = some (r, σr) → zw x g 6 0 0 (zMQ x g (some (zi r)) σr) σ 43 [some (zr 1), none, none, some (zi x3), some (zi x4), none] [])) {x3 : Int32} {x4 : Int32} {σ : ZS} (hf : b8_sees_43 k q43 x3 x4 σ = some (r, σr)) : zw x g 6 0 0 (zMQ x g (some (zi r)) σr) σ 43 [some (zr 1), none, none, some (zi x3), some (zi x4), none] [] := by
  unfold b8_sees_43 at hf
  refine z_iload C d8_sees_43 rfl ?_
  refine z_aload_n C d8_sees_45 rfl ?_
  refine z_getR C d8_sees_46 fl_261 kZ_1 2 rfl (zn0 kZ_2) ?_
  refine z_getI C d8_sees_49 fl_128 kZ_2 ?_
  refine z_icmp_ge C d8_sees_52 (fun c1 => ?_) (fun c1 => ?_)
  · have hf := zit c1 hf
    refine z_iload_n C d8_sees_99 rfl ?_
    exact z_iret C d8_sees_100 hf
  · have hf := zie c1 hf
    refine z_aload_n C d8_sees_55 rfl ?_
    refine z_getR C d8_sees_56 fl_261 kZ_1 2 rfl (zn0 kZ_2) ?_
    refine z_iload C d8_sees_59 rfl ?_
    obtain ⟨r2, s2, h2, hf⟩ := zbx hf
    refine z_callVr C (as := [zi x4]) d8_sees_61 w_396 yy5_personOf (c5_personOf x.2.1 g h2) yc5_personOf kZ_2 rfl rfl (Nat.le_of_ble_eq_true rfl) ⟨Nat.le_of_ble_eq_true rfl, Nat.le_of_ble_eq_true rfl⟩ ⟨Nat.zero_le _, Nat.zero_le _⟩ ?_
    refine z_astore C d8_sees_64 (Nat.le_of_ble_eq_true rfl) rfl (L' := [some (zr 1), none, none, some (zi x3), some (zi x4), some (zr r2)]) rfl ?_
    refine z_aload C d8_sees_66 rfl ?_
    refine z_ifnull C d8_sees_68 (fun c3 => ?_) (fun c3 => ?_)
    · have hf := zit c3 hf
      refine z_iinc C d8_sees_93 rfl kI_1 (Nat.le_of_ble_eq_true rfl) rfl (L' := [some (zr 1), none, none, some (zi x3), some (zi (x4 + (1 : Int32))), some (zr r2)]) rfl ?_
      refine z_goto C d8_sees_96 ?_
      refine z_drop [true, false, false, true, true, false] (L' := [some (zr 1), none, none, some (zi x3), some (zi (x4 + (1 : Int32))), none]) rfl ?_
      exact hq43 _ _ _ hf
    · have hf := zie c3 hf
      refine z_aload_n C d8_sees_71 rfl ?_
      refine z_getR C d8_sees_72 fl_264 kZ_1 83 rfl (zn0 kZ_83) ?_
      refine z_aload C d8_sees_75 rfl ?_
      obtain ⟨g4, hf⟩ := zgo hf
      refine z_getI C d8_sees_77 fl_82 g4 ?_
      obtain ⟨r5, s5, h5, hf⟩ := zbx hf
      refine z_callVi C (as := [zi (s2 r2 0)]) d8_sees_80 w_629 yy1_seesCell (c1_seesCell x.2.1 g h5) yc1_seesCell kZ_83 rfl rfl (Nat.le_of_ble_eq_true rfl) ⟨Nat.le_of_ble_eq_true rfl, Nat.le_of_ble_eq_true rfl⟩ ⟨Nat.zero_le _, Nat.zero_le _⟩ ?_
      refine z_if_eq C d8_sees_83 (fun c6 => ?_) (fun c6 => ?_)
      · have hf := zit c6 hf
        refine z_iinc C d8_sees_93 rfl kI_1 (Nat.le_of_ble_eq_true rfl) rfl (L' := [some (zr 1), none, none, some (zi x3), some (zi (x4 + (1 : Int32))), some (zr r2)]) rfl ?_
        refine z_goto C d8_sees_96 ?_
        refine z_drop [true, false, false, true, true, false] (L' := [some (zr 1), none, none, some (zi x3), some (zi (x4 + (1 : Int32))), none]) rfl ?_
        exact hq43 _ _ _ hf
      · have hf := zie c6 hf
        refine z_iload_n C d8_sees_86 rfl ?_
        refine z_iconst C (1 : Int32) d8_sees_87 kI_1 ?_
        refine z_iload C d8_sees_88 rfl ?_
        refine z_ishl C d8_sees_90 ?_
        refine z_ior C d8_sees_91 ?_
        refine z_istore_n C d8_sees_92 (Nat.le_of_ble_eq_true rfl) rfl (L' := [some (zr 1), none, none, some (zi (x3 ||| ((1 : Int32) <<< (x4 &&& 31)))), some (zi x4), some (zr r2)]) rfl ?_
        refine z_iinc C d8_sees_93 rfl kI_1 (Nat.le_of_ble_eq_true rfl) rfl (L' := [some (zr 1), none, none, some (zi (x3 ||| ((1 : Int32) <<< (x4 &&& 31)))), some (zi (x4 + (1 : Int32))), some (zr r2)]) rfl ?_
        refine z_goto C d8_sees_96 ?_
        refine z_drop [true, false, false, true, true, false] (L' := [some (zr 1), none, none, some (zi (x3 ||| ((1 : Int32) <<< (x4 &&& 31)))), some (zi (x4 + (1 : Int32))), none]) rfl ?_
        exact hq43 _ _ _ hf
theorem j8_sees_43l {x : ZX} {g : ZG} (C : zC x g b8_sees R8 (some .int) 6 5 153) {k : Nat} {r : Int32} {σr : ZS}  : ∀ (n : Nat) (x3 : Int32) (x4 : Int32) (σ : ZS), f8_sees_43 k  n x3 x4 σ = some (r, σr) → zw x g 6 0 0 (zMQ x g (some (zi r)) σr) σ 43 [some (zr 1), none, none, some (zi x3), some (zi x4), none] [] := by
  intro n
  induction n with
  | zero => intro x3 x4 σ hf; exact absurd (show none = some (r, σr) from hf) (fun z => by cases z)
  | succ n ih => intro x3 x4 σ hf; exact j8_sees_43 C  ih (show b8_sees_43 k  (f8_sees_43 k  n) x3 x4 σ = some (r, σr) from hf)
def f8_sees (k : Nat) (x1 : Int32) (σ : ZS) : Option (Int32 × ZS) :=
  zbd (f5_personOf k 2 x1 σ) fun r1 s1 =>
  if r1 = 0 then (
  zbd (f8_error k (1 : Int32) s1) fun r3 s3 =>
  some (r3, s3))
  else (
  if zsh r1 = 3 then (
  zbd (f1_follow k 2 (s1 r1 0) (s1 r1 1) s1) fun _ s5 =>
  f8_sees_43 k  k (0 : Int32) (0 : Int32) s5) else none)
theorem c8_sees (l : Launch) (g : ZG) {k : Nat} {x1 : Int32} {σ : ZS} {r : Int32} {σr : ZS} (hf : f8_sees k x1 σ = some (r, σr)) : zT l g y8_sees b8_sees 6 (some .int) 5 153 [zr 1, zi x1] σ (some (zi r)) σr := by
  unfold f8_sees at hf
  refine zT_start (own := R8) rfl (by decide +kernel) 4 (L := [some (zr 1), some (zi x1), none, none, none, none]) rfl rfl (fun x hl C => ?_)
  subst hl
  refine z_aload_n C d8_sees_0 rfl ?_
  refine z_getR C d8_sees_1 fl_261 kZ_1 2 rfl (zn0 kZ_2) ?_
  refine z_iload_n C d8_sees_4 rfl ?_
  obtain ⟨r1, s1, h1, hf⟩ := zbx hf
  refine z_callVr C (as := [zi x1]) d8_sees_5 w_396 yy5_personOf (c5_personOf x.2.1 g h1) yc5_personOf kZ_2 rfl rfl (Nat.le_of_ble_eq_true rfl) ⟨Nat.le_of_ble_eq_true rfl, Nat.le_of_ble_eq_true rfl⟩ ⟨Nat.zero_le _, Nat.zero_le _⟩ ?_
  refine z_astore_n C d8_sees_8 (Nat.le_of_ble_eq_true rfl) rfl (L' := [some (zr 1), some (zi x1), some (zr r1), none, none, none]) rfl ?_
  refine z_aload_n C d8_sees_9 rfl ?_
  refine z_ifnonnull C d8_sees_10 (fun c2 => ?_) (fun c2 => ?_)
  · have hf := zit c2 hf
    refine z_aload_n C d8_sees_13 rfl ?_
    refine z_iconst C (1 : Int32) d8_sees_14 kI_1 ?_
    obtain ⟨r3, s3, h3, hf⟩ := zbx hf
    refine z_callVi C (as := [zi (1 : Int32)]) d8_sees_15 w_308 yy8_error (c8_error x.2.1 g h3) yc8_error kZ_1 rfl rfl (Nat.le_of_ble_eq_true rfl) ⟨Nat.le_of_ble_eq_true rfl, Nat.le_of_ble_eq_true rfl⟩ ⟨Nat.zero_le _, Nat.zero_le _⟩ ?_
    exact z_iret C d8_sees_18 hf
  · have hf := zie c2 hf
    refine z_aload_n C d8_sees_19 rfl ?_
    refine z_getR C d8_sees_20 fl_264 kZ_1 83 rfl (zn0 kZ_83) ?_
    refine z_aload_n C d8_sees_23 rfl ?_
    refine z_getR C d8_sees_24 fl_261 kZ_1 2 rfl (zn0 kZ_2) ?_
    refine z_aload_n C d8_sees_27 rfl ?_
    obtain ⟨g4, hf⟩ := zgo hf
    refine z_getI C d8_sees_28 fl_82 g4 ?_
    refine z_aload_n C d8_sees_31 rfl ?_
    refine z_getI C d8_sees_32 fl_85 g4 ?_
    obtain ⟨r5, s5, h5, hf⟩ := zbx hf
    refine z_callVv C (as := [zr 2, zi (s1 r1 0), zi (s1 r1 1)]) d8_sees_35 w_615 yy1_follow (c1_follow x.2.1 g h5) yc1_follow kZ_83 rfl rfl (Nat.le_of_ble_eq_true rfl) ⟨Nat.le_of_ble_eq_true rfl, Nat.le_of_ble_eq_true rfl⟩ ⟨Nat.zero_le _, Nat.zero_le _⟩ ?_
    refine z_iconst C (0 : Int32) d8_sees_38 kI_0 ?_
    refine z_istore_n C d8_sees_39 (Nat.le_of_ble_eq_true rfl) rfl (L' := [some (zr 1), some (zi x1), some (zr r1), some (zi (0 : Int32)), none, none]) rfl ?_
    refine z_iconst C (0 : Int32) d8_sees_40 kI_0 ?_
    refine z_istore C d8_sees_41 (Nat.le_of_ble_eq_true rfl) rfl (L' := [some (zr 1), some (zi x1), some (zr r1), some (zi (0 : Int32)), some (zi (0 : Int32)), none]) rfl ?_
    refine z_drop [true, false, false, true, true, false] (L' := [some (zr 1), none, none, some (zi (0 : Int32)), some (zi (0 : Int32)), none]) rfl ?_
    exact j8_sees_43l C  _ _ _ _ hf
theorem dA_fill_0 : zd bA_fill 0 (.iconst 0) 1 1 := ⟨by decide +kernel, rfl⟩
theorem dA_fill_1 : zd bA_fill 1 (.istore_n 2) 1 2 := ⟨by decide +kernel, rfl⟩
theorem dA_fill_2 : zd bA_fill 2 (.aload_n 0) 1 3 := ⟨by decide +kernel, rfl⟩
theorem dA_fill_3 : zd bA_fill 3 .arraylength 1 4 := ⟨by decide +kernel, rfl⟩
theorem dA_fill_4 : zd bA_fill 4 (.istore_n 3) 1 5 := ⟨by decide +kernel, rfl⟩
theorem dA_fill_5 : zd bA_fill 5 (.iload_n 2) 1 6 := ⟨by decide +kernel, rfl⟩
theorem dA_fill_6 : zd bA_fill 6 (.iload_n 3) 1 7 := ⟨by decide +kernel, rfl⟩
theorem dA_fill_7 : zdb bA_fill 7 (.if_icmp .ge 13) 13 10 20 := ⟨by decide +kernel, rfl, by decide⟩
theorem dA_fill_10 : zd bA_fill 10 (.aload_n 0) 1 11 := ⟨by decide +kernel, rfl⟩
theorem dA_fill_11 : zd bA_fill 11 (.iload_n 2) 1 12 := ⟨by decide +kernel, rfl⟩
theorem dA_fill_12 : zd bA_fill 12 (.iload_n 1) 1 13 := ⟨by decide +kernel, rfl⟩
theorem dA_fill_13 : zd bA_fill 13 .iastore 1 14 := ⟨by decide +kernel, rfl⟩
theorem dA_fill_14 : zd bA_fill 14 (.iinc 2 1) 3 17 := ⟨by decide +kernel, rfl⟩
theorem dA_fill_17 : zdb bA_fill 17 (.goto (-12)) (-12) 20 5 := ⟨by decide +kernel, rfl, by decide⟩
theorem dA_fill_20 : zd bA_fill 20 .return_ 1 21 := ⟨by decide +kernel, rfl⟩
def bA_fill_5 (k : Nat) (q5 : Nat → Int32 → Int32 → Int32 → ZS → Option (Unit × ZS)) (x0 : Nat) (x1 : Int32) (x2 : Int32) (x3 : Int32) (σ : ZS) : Option (Unit × ZS) :=
  if x3 ≤ x2 then (
  some ((), σ))
  else (
  if zsh x0 = 15 then (
  if zin x2 (zln x0) then (
  zput (zu σ x0 (x2.toNatClampNeg) x1) fun s4 =>
  q5 x0 x1 (x2 + (1 : Int32)) x3 s4) else none) else none)
def fA_fill_5 (k : Nat) : Nat → Nat → Int32 → Int32 → Int32 → ZS → Option (Unit × ZS)
  | 0 => fun _ _ _ _ _ => none
  | n + 1 => bA_fill_5 k  (fA_fill_5 k  n)
theorem jA_fill_5 {x : ZX} {g : ZG} (C : zC x g bA_fill RJA none 4 1 60) {k : Nat} {r : Unit} {σr : ZS}  {q5 : Nat → Int32 → Int32 → Int32 → ZS → Option (Unit × ZS)} (hq5 : (∀ (x0 : Nat) (x1 : Int32) (x2 : Int32) (x3 : Int32) (σ : ZS), q5 x0 x1 x2 x3 σ = some (r, σr) → zw x g 4 0 0 (zMQ x g none σr) σ 5 [some (zr x0), some (zi x1), some (zi x2), some (zi x3)] [])) {x0 : Nat} {x1 : Int32} {x2 : Int32} {x3 : Int32} {σ : ZS} (hf : bA_fill_5 k q5 x0 x1 x2 x3 σ = some (r, σr)) : zw x g 4 0 0 (zMQ x g none σr) σ 5 [some (zr x0), some (zi x1), some (zi x2), some (zi x3)] [] := by
  unfold bA_fill_5 at hf
  refine z_iload_n C dA_fill_5 rfl ?_
  refine z_iload_n C dA_fill_6 rfl ?_
  refine z_icmp_ge C dA_fill_7 (fun c1 => ?_) (fun c1 => ?_)
  · have hf := zit c1 hf
    exact z_vret C dA_fill_20 hf
  · have hf := zie c1 hf
    refine z_aload_n C dA_fill_10 rfl ?_
    refine z_iload_n C dA_fill_11 rfl ?_
    refine z_iload_n C dA_fill_12 rfl ?_
    obtain ⟨g2, hf⟩ := zgo hf
    obtain ⟨g3, hf⟩ := zgo hf
    obtain ⟨s4, e4, hf⟩ := zpx hf
    refine z_iast C dA_fill_13 g2 rfl g3 rfl e4 ?_
    refine z_iinc C dA_fill_14 rfl kI_1 (Nat.le_of_ble_eq_true rfl) rfl (L' := [some (zr x0), some (zi x1), some (zi (x2 + (1 : Int32))), some (zi x3)]) rfl ?_
    refine z_goto C dA_fill_17 ?_
    exact hq5 _ _ _ _ _ hf
theorem jA_fill_5l {x : ZX} {g : ZG} (C : zC x g bA_fill RJA none 4 1 60) {k : Nat} {r : Unit} {σr : ZS}  : ∀ (n : Nat) (x0 : Nat) (x1 : Int32) (x2 : Int32) (x3 : Int32) (σ : ZS), fA_fill_5 k  n x0 x1 x2 x3 σ = some (r, σr) → zw x g 4 0 0 (zMQ x g none σr) σ 5 [some (zr x0), some (zi x1), some (zi x2), some (zi x3)] [] := by
  intro n
  induction n with
  | zero => intro x0 x1 x2 x3 σ hf; exact absurd (show none = some (r, σr) from hf) (fun z => by cases z)
  | succ n ih => intro x0 x1 x2 x3 σ hf; exact jA_fill_5 C  ih (show bA_fill_5 k  (fA_fill_5 k  n) x0 x1 x2 x3 σ = some (r, σr) from hf)
def fA_fill (k : Nat) (x0 : Nat) (x1 : Int32) (σ : ZS) : Option (Unit × ZS) :=
  if zsh x0 = 15 then (
  fA_fill_5 k  k x0 x1 (0 : Int32) (nI (zln x0)) σ) else none
theorem cA_fill (l : Launch) (g : ZG) {k : Nat} {x0 : Nat} {x1 : Int32} {σ : ZS} {r : Unit} {σr : ZS} (hf : fA_fill k x0 x1 σ = some (r, σr)) : zT l g yA_fill bA_fill 4 none 1 60 [zr x0, zi x1] σ none σr := by
  unfold fA_fill at hf
  refine zT_start (own := RJA) rfl (by decide +kernel) 2 (L := [some (zr x0), some (zi x1), none, none]) rfl rfl (fun x hl C => ?_)
  subst hl
  refine z_iconst C (0 : Int32) dA_fill_0 kI_0 ?_
  refine z_istore_n C dA_fill_1 (Nat.le_of_ble_eq_true rfl) rfl (L' := [some (zr x0), some (zi x1), some (zi (0 : Int32)), none]) rfl ?_
  refine z_aload_n C dA_fill_2 rfl ?_
  obtain ⟨g1, hf⟩ := zgo hf
  refine z_alen C (nI (zln x0)) dA_fill_3 g1 rfl rfl ?_
  refine z_istore_n C dA_fill_4 (Nat.le_of_ble_eq_true rfl) rfl (L' := [some (zr x0), some (zi x1), some (zi (0 : Int32)), some (zi (nI (zln x0)))]) rfl ?_
  exact jA_fill_5l C  _ _ _ _ _ _ hf
theorem d4_begin_0 : zd b4_begin 0 (.aload_n 0) 1 1 := ⟨by decide +kernel, rfl⟩
theorem d4_begin_1 : zd b4_begin 1 (.getfield 9) 3 4 := ⟨by decide +kernel, rfl⟩
theorem d4_begin_4 : zd b4_begin 4 (.iconst 0) 1 5 := ⟨by decide +kernel, rfl⟩
theorem d4_begin_5 : zd b4_begin 5 (.invokestatic 15) 3 8 := ⟨by decide +kernel, rfl⟩
theorem d4_begin_8 : zd b4_begin 8 (.aload_n 0) 1 9 := ⟨by decide +kernel, rfl⟩
theorem d4_begin_9 : zd b4_begin 9 (.iload_n 1) 1 10 := ⟨by decide +kernel, rfl⟩
theorem d4_begin_10 : zd b4_begin 10 (.putfield 21) 3 13 := ⟨by decide +kernel, rfl⟩
theorem d4_begin_13 : zd b4_begin 13 (.aload_n 0) 1 14 := ⟨by decide +kernel, rfl⟩
theorem d4_begin_14 : zd b4_begin 14 (.iload_n 2) 1 15 := ⟨by decide +kernel, rfl⟩
theorem d4_begin_15 : zd b4_begin 15 (.putfield 25) 3 18 := ⟨by decide +kernel, rfl⟩
theorem d4_begin_18 : zd b4_begin 18 .return_ 1 19 := ⟨by decide +kernel, rfl⟩
def f4_begin (k : Nat) (t : Nat) (x1 : Int32) (x2 : Int32) (σ : ZS) : Option (Unit × ZS) :=
  if zsh t = 5 then (
  zbd (fA_fill k (t + 1) (0 : Int32) σ) fun _ s1 =>
  zput (zu s1 t 1 x1) fun s2 =>
  zput (zu s2 t 2 x2) fun s3 =>
  some ((), s3)) else none
theorem c4_begin (l : Launch) (g : ZG) {k : Nat} {t : Nat} {x1 : Int32} {x2 : Int32} {σ : ZS} {r : Unit} {σr : ZS} (hf : f4_begin k t x1 x2 σ = some (r, σr)) : zT l g y4_begin b4_begin 3 none 2 83 [zr t, zi x1, zi x2] σ none σr := by
  unfold f4_begin at hf
  obtain ⟨ht, hf⟩ := zgo hf
  refine zT_start (own := R4) rfl (by decide +kernel) 0 (L := [some (zr t), some (zi x1), some (zi x2)]) rfl rfl (fun x hl C => ?_)
  subst hl
  refine z_aload_n C d4_begin_0 rfl ?_
  refine z_getR C d4_begin_1 fl_248 ht (t + 1) rfl (zn0 (zD5_1 ht)) ?_
  refine z_iconst C (0 : Int32) d4_begin_4 kI_0 ?_
  obtain ⟨r1, s1, h1, hf⟩ := zbx hf
  refine z_callSv C (as := [zr (t + 1), zi (0 : Int32)]) d4_begin_5 w_753 yyA_fill (cA_fill x.2.1 g h1) rfl rfl (Nat.le_of_ble_eq_true rfl) ⟨Nat.le_of_ble_eq_true rfl, Nat.le_of_ble_eq_true rfl⟩ ⟨Nat.zero_le _, Nat.zero_le _⟩ ?_
  refine z_aload_n C d4_begin_8 rfl ?_
  refine z_iload_n C d4_begin_9 rfl ?_
  obtain ⟨s2, e2, hf⟩ := zpx hf
  refine z_putI C d4_begin_10 fl_250 ft_4_1 ht e2 ?_
  refine z_aload_n C d4_begin_13 rfl ?_
  refine z_iload_n C d4_begin_14 rfl ?_
  obtain ⟨s3, e3, hf⟩ := zpx hf
  refine z_putI C d4_begin_15 fl_252 ft_4_2 ht e3 ?_
  exact z_vret C d4_begin_18 hf
theorem d8_sheet_0 : zd b8_sheet 0 (.aload_n 0) 1 1 := ⟨by decide +kernel, rfl⟩
theorem d8_sheet_1 : zd b8_sheet 1 (.iload_n 1) 1 2 := ⟨by decide +kernel, rfl⟩
theorem d8_sheet_2 : zd b8_sheet 2 (.invokevirtual 233) 3 5 := ⟨by decide +kernel, rfl⟩
theorem d8_sheet_5 : zd b8_sheet 5 (.astore 4) 2 7 := ⟨by decide +kernel, rfl⟩
theorem d8_sheet_7 : zd b8_sheet 7 (.aload 4) 2 9 := ⟨by decide +kernel, rfl⟩
theorem d8_sheet_9 : zdb b8_sheet 9 (.ifnull 25) 25 12 34 := ⟨by decide +kernel, rfl, by decide⟩
theorem d8_sheet_12 : zd b8_sheet 12 (.iload_n 2) 1 13 := ⟨by decide +kernel, rfl⟩
theorem d8_sheet_13 : zdb b8_sheet 13 (.ifCond .eq 27) 27 16 40 := ⟨by decide +kernel, rfl, by decide⟩
theorem d8_sheet_16 : zd b8_sheet 16 (.iload_n 2) 1 17 := ⟨by decide +kernel, rfl⟩
theorem d8_sheet_17 : zd b8_sheet 17 (.bipush 8) 2 19 := ⟨by decide +kernel, rfl⟩
theorem d8_sheet_19 : zdb b8_sheet 19 (.if_icmp .eq 21) 21 22 40 := ⟨by decide +kernel, rfl, by decide⟩
theorem d8_sheet_22 : zd b8_sheet 22 (.iload_n 2) 1 23 := ⟨by decide +kernel, rfl⟩
theorem d8_sheet_23 : zd b8_sheet 23 (.bipush 16) 2 25 := ⟨by decide +kernel, rfl⟩
theorem d8_sheet_25 : zdb b8_sheet 25 (.if_icmp .eq 15) 15 28 40 := ⟨by decide +kernel, rfl, by decide⟩
theorem d8_sheet_28 : zd b8_sheet 28 (.iload_n 2) 1 29 := ⟨by decide +kernel, rfl⟩
theorem d8_sheet_29 : zd b8_sheet 29 (.bipush 32) 2 31 := ⟨by decide +kernel, rfl⟩
theorem d8_sheet_31 : zdb b8_sheet 31 (.if_icmp .eq 9) 9 34 40 := ⟨by decide +kernel, rfl, by decide⟩
theorem d8_sheet_34 : zd b8_sheet 34 (.aload_n 0) 1 35 := ⟨by decide +kernel, rfl⟩
theorem d8_sheet_35 : zd b8_sheet 35 (.iconst 1) 1 36 := ⟨by decide +kernel, rfl⟩
theorem d8_sheet_36 : zd b8_sheet 36 (.invokevirtual 67) 3 39 := ⟨by decide +kernel, rfl⟩
theorem d8_sheet_39 : zd b8_sheet 39 .ireturn 1 40 := ⟨by decide +kernel, rfl⟩
theorem d8_sheet_40 : zd b8_sheet 40 (.iload_n 2) 1 41 := ⟨by decide +kernel, rfl⟩
theorem d8_sheet_41 : zdb b8_sheet 41 (.ifCond .eq 13) 13 44 54 := ⟨by decide +kernel, rfl, by decide⟩
theorem d8_sheet_44 : zd b8_sheet 44 (.iload_n 3) 1 45 := ⟨by decide +kernel, rfl⟩
theorem d8_sheet_45 : zdb b8_sheet 45 (.ifCond .ge 9) 9 48 54 := ⟨by decide +kernel, rfl, by decide⟩
theorem d8_sheet_48 : zd b8_sheet 48 (.aload_n 0) 1 49 := ⟨by decide +kernel, rfl⟩
theorem d8_sheet_49 : zd b8_sheet 49 (.iconst 3) 1 50 := ⟨by decide +kernel, rfl⟩
theorem d8_sheet_50 : zd b8_sheet 50 (.invokevirtual 67) 3 53 := ⟨by decide +kernel, rfl⟩
theorem d8_sheet_53 : zd b8_sheet 53 .ireturn 1 54 := ⟨by decide +kernel, rfl⟩
theorem d8_sheet_54 : zd b8_sheet 54 (.iload_n 2) 1 55 := ⟨by decide +kernel, rfl⟩
theorem d8_sheet_55 : zdb b8_sheet 55 (.ifCond .eq 15) 15 58 70 := ⟨by decide +kernel, rfl, by decide⟩
theorem d8_sheet_58 : zd b8_sheet 58 (.iload_n 3) 1 59 := ⟨by decide +kernel, rfl⟩
theorem d8_sheet_59 : zd b8_sheet 59 (.bipush 24) 2 61 := ⟨by decide +kernel, rfl⟩
theorem d8_sheet_61 : zdb b8_sheet 61 (.if_icmp .le 9) 9 64 70 := ⟨by decide +kernel, rfl, by decide⟩
theorem d8_sheet_64 : zd b8_sheet 64 (.aload_n 0) 1 65 := ⟨by decide +kernel, rfl⟩
theorem d8_sheet_65 : zd b8_sheet 65 (.iconst 1) 1 66 := ⟨by decide +kernel, rfl⟩
theorem d8_sheet_66 : zd b8_sheet 66 (.invokevirtual 67) 3 69 := ⟨by decide +kernel, rfl⟩
theorem d8_sheet_69 : zd b8_sheet 69 .ireturn 1 70 := ⟨by decide +kernel, rfl⟩
theorem d8_sheet_70 : zd b8_sheet 70 (.aload 4) 2 72 := ⟨by decide +kernel, rfl⟩
theorem d8_sheet_72 : zd b8_sheet 72 (.iload_n 2) 1 73 := ⟨by decide +kernel, rfl⟩
theorem d8_sheet_73 : zd b8_sheet 73 (.iload_n 2) 1 74 := ⟨by decide +kernel, rfl⟩
theorem d8_sheet_74 : zdb b8_sheet 74 (.ifCond .ne 7) 7 77 81 := ⟨by decide +kernel, rfl, by decide⟩
theorem d8_sheet_77 : zd b8_sheet 77 (.iconst 0) 1 78 := ⟨by decide +kernel, rfl⟩
theorem d8_sheet_78 : zdb b8_sheet 78 (.goto 4) 4 81 82 := ⟨by decide +kernel, rfl, by decide⟩
theorem d8_sheet_81 : zd b8_sheet 81 (.iload_n 3) 1 82 := ⟨by decide +kernel, rfl⟩
theorem d8_sheet_82 : zd b8_sheet 82 (.invokevirtual 257) 3 85 := ⟨by decide +kernel, rfl⟩
theorem d8_sheet_85 : zd b8_sheet 85 (.iconst 1) 1 86 := ⟨by decide +kernel, rfl⟩
theorem d8_sheet_86 : zd b8_sheet 86 .ireturn 1 87 := ⟨by decide +kernel, rfl⟩
def b8_sheet_54 (k : Nat) (x2 : Int32) (x3 : Int32) (x4 : Nat) (σ : ZS) : Option (Int32 × ZS) :=
  if x2 = 0 then (
  if x2 = 0 then (
  if zsh x4 = 5 then (
  zbd (f4_begin k x4 x2 (0 : Int32) σ) fun _ s3 =>
  some ((1 : Int32), s3)) else none)
  else (
  if zsh x4 = 5 then (
  zbd (f4_begin k x4 x2 x3 σ) fun _ s5 =>
  some ((1 : Int32), s5)) else none))
  else (
  if x3 ≤ (24 : Int32) then (
  if x2 = 0 then (
  if zsh x4 = 5 then (
  zbd (f4_begin k x4 x2 (0 : Int32) σ) fun _ s9 =>
  some ((1 : Int32), s9)) else none)
  else (
  if zsh x4 = 5 then (
  zbd (f4_begin k x4 x2 x3 σ) fun _ s11 =>
  some ((1 : Int32), s11)) else none))
  else (
  zbd (f8_error k (1 : Int32) σ) fun r13 s13 =>
  some (r13, s13)))
theorem j8_sheet_54 {x : ZX} {g : ZG} (C : zC x g b8_sheet R8 (some .int) 5 3 105) {k : Nat} {r : Int32} {σr : ZS}  {x2 : Int32} {x3 : Int32} {x4 : Nat} {σ : ZS} (hf : b8_sheet_54 k  x2 x3 x4 σ = some (r, σr)) : zw x g 5 0 0 (zMQ x g (some (zi r)) σr) σ 54 [some (zr 1), none, some (zi x2), some (zi x3), some (zr x4)] [] := by
  unfold b8_sheet_54 at hf
  refine z_iload_n C d8_sheet_54 rfl ?_
  refine z_if_eq C d8_sheet_55 (fun c1 => ?_) (fun c1 => ?_)
  · have hf := zit c1 hf
    refine z_aload C d8_sheet_70 rfl ?_
    refine z_iload_n C d8_sheet_72 rfl ?_
    refine z_iload_n C d8_sheet_73 rfl ?_
    refine z_if_ne C d8_sheet_74 (fun c2 => ?_) (fun c2 => ?_)
    · have hf := zit c2 hf
      refine z_iconst C (0 : Int32) d8_sheet_77 kI_0 ?_
      refine z_goto C d8_sheet_78 ?_
      obtain ⟨g4, hf⟩ := zgo hf
      obtain ⟨r3, s3, h3, hf⟩ := zbx hf
      refine z_callVv C (as := [zi x2, zi (0 : Int32)]) d8_sheet_82 w_749 yy4_begin (c4_begin x.2.1 g h3) yc4_begin g4 rfl rfl (Nat.le_of_ble_eq_true rfl) ⟨Nat.le_of_ble_eq_true rfl, Nat.le_of_ble_eq_true rfl⟩ ⟨Nat.zero_le _, Nat.zero_le _⟩ ?_
      refine z_iconst C (1 : Int32) d8_sheet_85 kI_1 ?_
      exact z_iret C d8_sheet_86 hf
    · have hf := zie c2 hf
      refine z_iload_n C d8_sheet_81 rfl ?_
      obtain ⟨g6, hf⟩ := zgo hf
      obtain ⟨r5, s5, h5, hf⟩ := zbx hf
      refine z_callVv C (as := [zi x2, zi x3]) d8_sheet_82 w_749 yy4_begin (c4_begin x.2.1 g h5) yc4_begin g6 rfl rfl (Nat.le_of_ble_eq_true rfl) ⟨Nat.le_of_ble_eq_true rfl, Nat.le_of_ble_eq_true rfl⟩ ⟨Nat.zero_le _, Nat.zero_le _⟩ ?_
      refine z_iconst C (1 : Int32) d8_sheet_85 kI_1 ?_
      exact z_iret C d8_sheet_86 hf
  · have hf := zie c1 hf
    refine z_iload_n C d8_sheet_58 rfl ?_
    refine z_bipush C (24 : Int32) d8_sheet_59 kB_24 ?_
    refine z_icmp_le C d8_sheet_61 (fun c7 => ?_) (fun c7 => ?_)
    · have hf := zit c7 hf
      refine z_aload C d8_sheet_70 rfl ?_
      refine z_iload_n C d8_sheet_72 rfl ?_
      refine z_iload_n C d8_sheet_73 rfl ?_
      refine z_if_ne C d8_sheet_74 (fun c8 => ?_) (fun c8 => ?_)
      · have hf := zit c8 hf
        refine z_iconst C (0 : Int32) d8_sheet_77 kI_0 ?_
        refine z_goto C d8_sheet_78 ?_
        obtain ⟨g10, hf⟩ := zgo hf
        obtain ⟨r9, s9, h9, hf⟩ := zbx hf
        refine z_callVv C (as := [zi x2, zi (0 : Int32)]) d8_sheet_82 w_749 yy4_begin (c4_begin x.2.1 g h9) yc4_begin g10 rfl rfl (Nat.le_of_ble_eq_true rfl) ⟨Nat.le_of_ble_eq_true rfl, Nat.le_of_ble_eq_true rfl⟩ ⟨Nat.zero_le _, Nat.zero_le _⟩ ?_
        refine z_iconst C (1 : Int32) d8_sheet_85 kI_1 ?_
        exact z_iret C d8_sheet_86 hf
      · have hf := zie c8 hf
        refine z_iload_n C d8_sheet_81 rfl ?_
        obtain ⟨g12, hf⟩ := zgo hf
        obtain ⟨r11, s11, h11, hf⟩ := zbx hf
        refine z_callVv C (as := [zi x2, zi x3]) d8_sheet_82 w_749 yy4_begin (c4_begin x.2.1 g h11) yc4_begin g12 rfl rfl (Nat.le_of_ble_eq_true rfl) ⟨Nat.le_of_ble_eq_true rfl, Nat.le_of_ble_eq_true rfl⟩ ⟨Nat.zero_le _, Nat.zero_le _⟩ ?_
        refine z_iconst C (1 : Int32) d8_sheet_85 kI_1 ?_
        exact z_iret C d8_sheet_86 hf
    · have hf := zie c7 hf
      refine z_aload_n C d8_sheet_64 rfl ?_
      refine z_iconst C (1 : Int32) d8_sheet_65 kI_1 ?_
      obtain ⟨r13, s13, h13, hf⟩ := zbx hf
      refine z_callVi C (as := [zi (1 : Int32)]) d8_sheet_66 w_308 yy8_error (c8_error x.2.1 g h13) yc8_error kZ_1 rfl rfl (Nat.le_of_ble_eq_true rfl) ⟨Nat.le_of_ble_eq_true rfl, Nat.le_of_ble_eq_true rfl⟩ ⟨Nat.zero_le _, Nat.zero_le _⟩ ?_
      exact z_iret C d8_sheet_69 hf
def f8_sheet (k : Nat) (x1 : Int32) (x2 : Int32) (x3 : Int32) (σ : ZS) : Option (Int32 × ZS) :=
  zbd (f8_sheetOf k x1 σ) fun r1 s1 =>
  if r1 = 0 then (
  zbd (f8_error k (1 : Int32) s1) fun r3 s3 =>
  some (r3, s3))
  else (
  if x2 = 0 then (
  if x2 = 0 then (
  b8_sheet_54 k  x2 x3 r1 s1)
  else (
  if 0 ≤ x3 then (
  b8_sheet_54 k  x2 x3 r1 s1)
  else (
  zbd (f8_error k (3 : Int32) s1) fun r7 s7 =>
  some (r7, s7))))
  else (
  if x2 = (8 : Int32) then (
  if x2 = 0 then (
  b8_sheet_54 k  x2 x3 r1 s1)
  else (
  if 0 ≤ x3 then (
  b8_sheet_54 k  x2 x3 r1 s1)
  else (
  zbd (f8_error k (3 : Int32) s1) fun r11 s11 =>
  some (r11, s11))))
  else (
  if x2 = (16 : Int32) then (
  if x2 = 0 then (
  b8_sheet_54 k  x2 x3 r1 s1)
  else (
  if 0 ≤ x3 then (
  b8_sheet_54 k  x2 x3 r1 s1)
  else (
  zbd (f8_error k (3 : Int32) s1) fun r15 s15 =>
  some (r15, s15))))
  else (
  if x2 = (32 : Int32) then (
  if x2 = 0 then (
  b8_sheet_54 k  x2 x3 r1 s1)
  else (
  if 0 ≤ x3 then (
  b8_sheet_54 k  x2 x3 r1 s1)
  else (
  zbd (f8_error k (3 : Int32) s1) fun r19 s19 =>
  some (r19, s19))))
  else (
  zbd (f8_error k (1 : Int32) s1) fun r20 s20 =>
  some (r20, s20))))))
theorem c8_sheet (l : Launch) (g : ZG) {k : Nat} {x1 : Int32} {x2 : Int32} {x3 : Int32} {σ : ZS} {r : Int32} {σr : ZS} (hf : f8_sheet k x1 x2 x3 σ = some (r, σr)) : zT l g y8_sheet b8_sheet 5 (some .int) 3 105 [zr 1, zi x1, zi x2, zi x3] σ (some (zi r)) σr := by
  unfold f8_sheet at hf
  refine zT_start (own := R8) rfl (by decide +kernel) 1 (L := [some (zr 1), some (zi x1), some (zi x2), some (zi x3), none]) rfl rfl (fun x hl C => ?_)
  subst hl
  refine z_aload_n C d8_sheet_0 rfl ?_
  refine z_iload_n C d8_sheet_1 rfl ?_
  obtain ⟨r1, s1, h1, hf⟩ := zbx hf
  refine z_callVr C (as := [zi x1]) d8_sheet_2 w_687 yy8_sheetOf (c8_sheetOf x.2.1 g h1) yc8_sheetOf kZ_1 rfl rfl (Nat.le_of_ble_eq_true rfl) ⟨Nat.le_of_ble_eq_true rfl, Nat.le_of_ble_eq_true rfl⟩ ⟨Nat.zero_le _, Nat.zero_le _⟩ ?_
  refine z_astore C d8_sheet_5 (Nat.le_of_ble_eq_true rfl) rfl (L' := [some (zr 1), some (zi x1), some (zi x2), some (zi x3), some (zr r1)]) rfl ?_
  refine z_aload C d8_sheet_7 rfl ?_
  refine z_ifnull C d8_sheet_9 (fun c2 => ?_) (fun c2 => ?_)
  · have hf := zit c2 hf
    refine z_aload_n C d8_sheet_34 rfl ?_
    refine z_iconst C (1 : Int32) d8_sheet_35 kI_1 ?_
    obtain ⟨r3, s3, h3, hf⟩ := zbx hf
    refine z_callVi C (as := [zi (1 : Int32)]) d8_sheet_36 w_308 yy8_error (c8_error x.2.1 g h3) yc8_error kZ_1 rfl rfl (Nat.le_of_ble_eq_true rfl) ⟨Nat.le_of_ble_eq_true rfl, Nat.le_of_ble_eq_true rfl⟩ ⟨Nat.zero_le _, Nat.zero_le _⟩ ?_
    exact z_iret C d8_sheet_39 hf
  · have hf := zie c2 hf
    refine z_iload_n C d8_sheet_12 rfl ?_
    refine z_if_eq C d8_sheet_13 (fun c4 => ?_) (fun c4 => ?_)
    · have hf := zit c4 hf
      refine z_iload_n C d8_sheet_40 rfl ?_
      refine z_if_eq C d8_sheet_41 (fun c5 => ?_) (fun c5 => ?_)
      · have hf := zit c5 hf
        refine z_drop [true, false, true, true, true] (L' := [some (zr 1), none, some (zi x2), some (zi x3), some (zr r1)]) rfl ?_
        exact j8_sheet_54 C  hf
      · have hf := zie c5 hf
        refine z_iload_n C d8_sheet_44 rfl ?_
        refine z_if_ge C d8_sheet_45 (fun c6 => ?_) (fun c6 => ?_)
        · have hf := zit c6 hf
          refine z_drop [true, false, true, true, true] (L' := [some (zr 1), none, some (zi x2), some (zi x3), some (zr r1)]) rfl ?_
          exact j8_sheet_54 C  hf
        · have hf := zie c6 hf
          refine z_aload_n C d8_sheet_48 rfl ?_
          refine z_iconst C (3 : Int32) d8_sheet_49 kI_3 ?_
          obtain ⟨r7, s7, h7, hf⟩ := zbx hf
          refine z_callVi C (as := [zi (3 : Int32)]) d8_sheet_50 w_308 yy8_error (c8_error x.2.1 g h7) yc8_error kZ_1 rfl rfl (Nat.le_of_ble_eq_true rfl) ⟨Nat.le_of_ble_eq_true rfl, Nat.le_of_ble_eq_true rfl⟩ ⟨Nat.zero_le _, Nat.zero_le _⟩ ?_
          exact z_iret C d8_sheet_53 hf
    · have hf := zie c4 hf
      refine z_iload_n C d8_sheet_16 rfl ?_
      refine z_bipush C (8 : Int32) d8_sheet_17 kB_8 ?_
      refine z_icmp_eq C d8_sheet_19 (fun c8 => ?_) (fun c8 => ?_)
      · have hf := zit c8 hf
        refine z_iload_n C d8_sheet_40 rfl ?_
        refine z_if_eq C d8_sheet_41 (fun c9 => ?_) (fun c9 => ?_)
        · have hf := zit c9 hf
          refine z_drop [true, false, true, true, true] (L' := [some (zr 1), none, some (zi x2), some (zi x3), some (zr r1)]) rfl ?_
          exact j8_sheet_54 C  hf
        · have hf := zie c9 hf
          refine z_iload_n C d8_sheet_44 rfl ?_
          refine z_if_ge C d8_sheet_45 (fun c10 => ?_) (fun c10 => ?_)
          · have hf := zit c10 hf
            refine z_drop [true, false, true, true, true] (L' := [some (zr 1), none, some (zi x2), some (zi x3), some (zr r1)]) rfl ?_
            exact j8_sheet_54 C  hf
          · have hf := zie c10 hf
            refine z_aload_n C d8_sheet_48 rfl ?_
            refine z_iconst C (3 : Int32) d8_sheet_49 kI_3 ?_
            obtain ⟨r11, s11, h11, hf⟩ := zbx hf
            refine z_callVi C (as := [zi (3 : Int32)]) d8_sheet_50 w_308 yy8_error (c8_error x.2.1 g h11) yc8_error kZ_1 rfl rfl (Nat.le_of_ble_eq_true rfl) ⟨Nat.le_of_ble_eq_true rfl, Nat.le_of_ble_eq_true rfl⟩ ⟨Nat.zero_le _, Nat.zero_le _⟩ ?_
            exact z_iret C d8_sheet_53 hf
      · have hf := zie c8 hf
        refine z_iload_n C d8_sheet_22 rfl ?_
        refine z_bipush C (16 : Int32) d8_sheet_23 kB_16 ?_
        refine z_icmp_eq C d8_sheet_25 (fun c12 => ?_) (fun c12 => ?_)
        · have hf := zit c12 hf
          refine z_iload_n C d8_sheet_40 rfl ?_
          refine z_if_eq C d8_sheet_41 (fun c13 => ?_) (fun c13 => ?_)
          · have hf := zit c13 hf
            refine z_drop [true, false, true, true, true] (L' := [some (zr 1), none, some (zi x2), some (zi x3), some (zr r1)]) rfl ?_
            exact j8_sheet_54 C  hf
          · have hf := zie c13 hf
            refine z_iload_n C d8_sheet_44 rfl ?_
            refine z_if_ge C d8_sheet_45 (fun c14 => ?_) (fun c14 => ?_)
            · have hf := zit c14 hf
              refine z_drop [true, false, true, true, true] (L' := [some (zr 1), none, some (zi x2), some (zi x3), some (zr r1)]) rfl ?_
              exact j8_sheet_54 C  hf
            · have hf := zie c14 hf
              refine z_aload_n C d8_sheet_48 rfl ?_
              refine z_iconst C (3 : Int32) d8_sheet_49 kI_3 ?_
              obtain ⟨r15, s15, h15, hf⟩ := zbx hf
              refine z_callVi C (as := [zi (3 : Int32)]) d8_sheet_50 w_308 yy8_error (c8_error x.2.1 g h15) yc8_error kZ_1 rfl rfl (Nat.le_of_ble_eq_true rfl) ⟨Nat.le_of_ble_eq_true rfl, Nat.le_of_ble_eq_true rfl⟩ ⟨Nat.zero_le _, Nat.zero_le _⟩ ?_
              exact z_iret C d8_sheet_53 hf
        · have hf := zie c12 hf
          refine z_iload_n C d8_sheet_28 rfl ?_
          refine z_bipush C (32 : Int32) d8_sheet_29 kB_32 ?_
          refine z_icmp_eq C d8_sheet_31 (fun c16 => ?_) (fun c16 => ?_)
          · have hf := zit c16 hf
            refine z_iload_n C d8_sheet_40 rfl ?_
            refine z_if_eq C d8_sheet_41 (fun c17 => ?_) (fun c17 => ?_)
            · have hf := zit c17 hf
              refine z_drop [true, false, true, true, true] (L' := [some (zr 1), none, some (zi x2), some (zi x3), some (zr r1)]) rfl ?_
              exact j8_sheet_54 C  hf
            · have hf := zie c17 hf
              refine z_iload_n C d8_sheet_44 rfl ?_
              refine z_if_ge C d8_sheet_45 (fun c18 => ?_) (fun c18 => ?_)
              · have hf := zit c18 hf
                refine z_drop [true, false, true, true, true] (L' := [some (zr 1), none, some (zi x2), some (zi x3), some (zr r1)]) rfl ?_
                exact j8_sheet_54 C  hf
              · have hf := zie c18 hf
                refine z_aload_n C d8_sheet_48 rfl ?_
                refine z_iconst C (3 : Int32) d8_sheet_49 kI_3 ?_
                obtain ⟨r19, s19, h19, hf⟩ := zbx hf
                refine z_callVi C (as := [zi (3 : Int32)]) d8_sheet_50 w_308 yy8_error (c8_error x.2.1 g h19) yc8_error kZ_1 rfl rfl (Nat.le_of_ble_eq_true rfl) ⟨Nat.le_of_ble_eq_true rfl, Nat.le_of_ble_eq_true rfl⟩ ⟨Nat.zero_le _, Nat.zero_le _⟩ ?_
                exact z_iret C d8_sheet_53 hf
          · have hf := zie c16 hf
            refine z_aload_n C d8_sheet_34 rfl ?_
            refine z_iconst C (1 : Int32) d8_sheet_35 kI_1 ?_
            obtain ⟨r20, s20, h20, hf⟩ := zbx hf
            refine z_callVi C (as := [zi (1 : Int32)]) d8_sheet_36 w_308 yy8_error (c8_error x.2.1 g h20) yc8_error kZ_1 rfl rfl (Nat.le_of_ble_eq_true rfl) ⟨Nat.le_of_ble_eq_true rfl, Nat.le_of_ble_eq_true rfl⟩ ⟨Nat.zero_le _, Nat.zero_le _⟩ ?_
            exact z_iret C d8_sheet_39 hf
theorem d8_spin_0 : zd b8_spin 0 (.aload_n 0) 1 1 := ⟨by decide +kernel, rfl⟩
theorem d8_spin_1 : zd b8_spin 1 (.getfield 10) 3 4 := ⟨by decide +kernel, rfl⟩
theorem d8_spin_4 : zd b8_spin 4 (.iload_n 1) 1 5 := ⟨by decide +kernel, rfl⟩
theorem d8_spin_5 : zd b8_spin 5 (.invokevirtual 82) 3 8 := ⟨by decide +kernel, rfl⟩
theorem d8_spin_8 : zd b8_spin 8 (.astore_n 3) 1 9 := ⟨by decide +kernel, rfl⟩
theorem d8_spin_9 : zd b8_spin 9 (.aload_n 3) 1 10 := ⟨by decide +kernel, rfl⟩
theorem d8_spin_10 : zdb b8_spin 10 (.ifnull 10) 10 13 20 := ⟨by decide +kernel, rfl, by decide⟩
theorem d8_spin_13 : zd b8_spin 13 (.iload_n 2) 1 14 := ⟨by decide +kernel, rfl⟩
theorem d8_spin_14 : zd b8_spin 14 (.invokestatic 64) 3 17 := ⟨by decide +kernel, rfl⟩
theorem d8_spin_17 : zdb b8_spin 17 (.ifCond .eq 9) 9 20 26 := ⟨by decide +kernel, rfl, by decide⟩
theorem d8_spin_20 : zd b8_spin 20 (.aload_n 0) 1 21 := ⟨by decide +kernel, rfl⟩
theorem d8_spin_21 : zd b8_spin 21 (.iconst 1) 1 22 := ⟨by decide +kernel, rfl⟩
theorem d8_spin_22 : zd b8_spin 22 (.invokevirtual 67) 3 25 := ⟨by decide +kernel, rfl⟩
theorem d8_spin_25 : zd b8_spin 25 .ireturn 1 26 := ⟨by decide +kernel, rfl⟩
theorem d8_spin_26 : zd b8_spin 26 (.aload_n 3) 1 27 := ⟨by decide +kernel, rfl⟩
theorem d8_spin_27 : zd b8_spin 27 (.getfield 97) 3 30 := ⟨by decide +kernel, rfl⟩
theorem d8_spin_30 : zd b8_spin 30 (.istore 4) 2 32 := ⟨by decide +kernel, rfl⟩
theorem d8_spin_32 : zd b8_spin 32 (.aload_n 3) 1 33 := ⟨by decide +kernel, rfl⟩
theorem d8_spin_33 : zd b8_spin 33 (.iload_n 2) 1 34 := ⟨by decide +kernel, rfl⟩
theorem d8_spin_34 : zd b8_spin 34 (.putfield 97) 3 37 := ⟨by decide +kernel, rfl⟩
theorem d8_spin_37 : zd b8_spin 37 (.iload 4) 2 39 := ⟨by decide +kernel, rfl⟩
theorem d8_spin_39 : zd b8_spin 39 .ireturn 1 40 := ⟨by decide +kernel, rfl⟩
def f8_spin (k : Nat) (x1 : Int32) (x2 : Int32) (σ : ZS) : Option (Int32 × ZS) :=
  zbd (f5_glassOf k 2 x1 σ) fun r1 s1 =>
  if r1 = 0 then (
  zbd (f8_error k (1 : Int32) s1) fun r3 s3 =>
  some (r3, s3))
  else (
  zbd (f8_isNoTurn k x2 s1) fun r4 s4 =>
  if r4 = 0 then (
  if zsh r1 = 1 then (
  zput (zu s4 r1 3 x2) fun s7 =>
  some ((s4 r1 3), s7)) else none)
  else (
  zbd (f8_error k (1 : Int32) s4) fun r8 s8 =>
  some (r8, s8)))
theorem c8_spin (l : Launch) (g : ZG) {k : Nat} {x1 : Int32} {x2 : Int32} {σ : ZS} {r : Int32} {σr : ZS} (hf : f8_spin k x1 x2 σ = some (r, σr)) : zT l g y8_spin b8_spin 5 (some .int) 2 81 [zr 1, zi x1, zi x2] σ (some (zi r)) σr := by
  unfold f8_spin at hf
  refine zT_start (own := R8) rfl (by decide +kernel) 2 (L := [some (zr 1), some (zi x1), some (zi x2), none, none]) rfl rfl (fun x hl C => ?_)
  subst hl
  refine z_aload_n C d8_spin_0 rfl ?_
  refine z_getR C d8_spin_1 fl_261 kZ_1 2 rfl (zn0 kZ_2) ?_
  refine z_iload_n C d8_spin_4 rfl ?_
  obtain ⟨r1, s1, h1, hf⟩ := zbx hf
  refine z_callVr C (as := [zi x1]) d8_spin_5 w_334 yy5_glassOf (c5_glassOf x.2.1 g h1) yc5_glassOf kZ_2 rfl rfl (Nat.le_of_ble_eq_true rfl) ⟨Nat.le_of_ble_eq_true rfl, Nat.le_of_ble_eq_true rfl⟩ ⟨Nat.zero_le _, Nat.zero_le _⟩ ?_
  refine z_astore_n C d8_spin_8 (Nat.le_of_ble_eq_true rfl) rfl (L' := [some (zr 1), some (zi x1), some (zi x2), some (zr r1), none]) rfl ?_
  refine z_aload_n C d8_spin_9 rfl ?_
  refine z_ifnull C d8_spin_10 (fun c2 => ?_) (fun c2 => ?_)
  · have hf := zit c2 hf
    refine z_aload_n C d8_spin_20 rfl ?_
    refine z_iconst C (1 : Int32) d8_spin_21 kI_1 ?_
    obtain ⟨r3, s3, h3, hf⟩ := zbx hf
    refine z_callVi C (as := [zi (1 : Int32)]) d8_spin_22 w_308 yy8_error (c8_error x.2.1 g h3) yc8_error kZ_1 rfl rfl (Nat.le_of_ble_eq_true rfl) ⟨Nat.le_of_ble_eq_true rfl, Nat.le_of_ble_eq_true rfl⟩ ⟨Nat.zero_le _, Nat.zero_le _⟩ ?_
    exact z_iret C d8_spin_25 hf
  · have hf := zie c2 hf
    refine z_iload_n C d8_spin_13 rfl ?_
    obtain ⟨r4, s4, h4, hf⟩ := zbx hf
    refine z_callSi C (as := [zi x2]) d8_spin_14 w_305 yy8_isNoTurn (c8_isNoTurn x.2.1 g h4) rfl rfl (Nat.le_of_ble_eq_true rfl) ⟨Nat.le_of_ble_eq_true rfl, Nat.le_of_ble_eq_true rfl⟩ ⟨Nat.zero_le _, Nat.zero_le _⟩ ?_
    refine z_if_eq C d8_spin_17 (fun c5 => ?_) (fun c5 => ?_)
    · have hf := zit c5 hf
      refine z_aload_n C d8_spin_26 rfl ?_
      obtain ⟨g6, hf⟩ := zgo hf
      refine z_getI C d8_spin_27 fl_58 g6 ?_
      refine z_istore C d8_spin_30 (Nat.le_of_ble_eq_true rfl) rfl (L' := [some (zr 1), some (zi x1), some (zi x2), some (zr r1), some (zi (s4 r1 3))]) rfl ?_
      refine z_aload_n C d8_spin_32 rfl ?_
      refine z_iload_n C d8_spin_33 rfl ?_
      obtain ⟨s7, e7, hf⟩ := zpx hf
      refine z_putI C d8_spin_34 fl_58 ft_0_3 g6 e7 ?_
      refine z_iload C d8_spin_37 rfl ?_
      exact z_iret C d8_spin_39 hf
    · have hf := zie c5 hf
      refine z_aload_n C d8_spin_20 rfl ?_
      refine z_iconst C (1 : Int32) d8_spin_21 kI_1 ?_
      obtain ⟨r8, s8, h8, hf⟩ := zbx hf
      refine z_callVi C (as := [zi (1 : Int32)]) d8_spin_22 w_308 yy8_error (c8_error x.2.1 g h8) yc8_error kZ_1 rfl rfl (Nat.le_of_ble_eq_true rfl) ⟨Nat.le_of_ble_eq_true rfl, Nat.le_of_ble_eq_true rfl⟩ ⟨Nat.zero_le _, Nat.zero_le _⟩ ?_
      exact z_iret C d8_spin_25 hf
theorem d8_spins_0 : zd b8_spins 0 (.aload_n 0) 1 1 := ⟨by decide +kernel, rfl⟩
theorem d8_spins_1 : zd b8_spins 1 (.getfield 10) 3 4 := ⟨by decide +kernel, rfl⟩
theorem d8_spins_4 : zd b8_spins 4 (.iload_n 1) 1 5 := ⟨by decide +kernel, rfl⟩
theorem d8_spins_5 : zd b8_spins 5 (.invokevirtual 128) 3 8 := ⟨by decide +kernel, rfl⟩
theorem d8_spins_8 : zd b8_spins 8 (.astore 4) 2 10 := ⟨by decide +kernel, rfl⟩
theorem d8_spins_10 : zd b8_spins 10 (.aload 4) 2 12 := ⟨by decide +kernel, rfl⟩
theorem d8_spins_12 : zdb b8_spins 12 (.ifnull 20) 20 15 32 := ⟨by decide +kernel, rfl, by decide⟩
theorem d8_spins_15 : zd b8_spins 15 (.iload_n 2) 1 16 := ⟨by decide +kernel, rfl⟩
theorem d8_spins_16 : zd b8_spins 16 (.invokestatic 61) 3 19 := ⟨by decide +kernel, rfl⟩
theorem d8_spins_19 : zdb b8_spins 19 (.ifCond .ne 13) 13 22 32 := ⟨by decide +kernel, rfl, by decide⟩
theorem d8_spins_22 : zd b8_spins 22 (.iload_n 3) 1 23 := ⟨by decide +kernel, rfl⟩
theorem d8_spins_23 : zd b8_spins 23 (.iconst (-1)) 1 24 := ⟨by decide +kernel, rfl⟩
theorem d8_spins_24 : zdb b8_spins 24 (.if_icmp .lt 8) 8 27 32 := ⟨by decide +kernel, rfl, by decide⟩
theorem d8_spins_27 : zd b8_spins 27 (.iload_n 3) 1 28 := ⟨by decide +kernel, rfl⟩
theorem d8_spins_28 : zd b8_spins 28 (.iconst 3) 1 29 := ⟨by decide +kernel, rfl⟩
theorem d8_spins_29 : zdb b8_spins 29 (.if_icmp .le 9) 9 32 38 := ⟨by decide +kernel, rfl, by decide⟩
theorem d8_spins_32 : zd b8_spins 32 (.aload_n 0) 1 33 := ⟨by decide +kernel, rfl⟩
theorem d8_spins_33 : zd b8_spins 33 (.iconst 1) 1 34 := ⟨by decide +kernel, rfl⟩
theorem d8_spins_34 : zd b8_spins 34 (.invokevirtual 67) 3 37 := ⟨by decide +kernel, rfl⟩
theorem d8_spins_37 : zd b8_spins 37 .ireturn 1 38 := ⟨by decide +kernel, rfl⟩
theorem d8_spins_38 : zd b8_spins 38 (.aload_n 0) 1 39 := ⟨by decide +kernel, rfl⟩
theorem d8_spins_39 : zd b8_spins 39 (.getfield 19) 3 42 := ⟨by decide +kernel, rfl⟩
theorem d8_spins_42 : zd b8_spins 42 (.aload_n 0) 1 43 := ⟨by decide +kernel, rfl⟩
theorem d8_spins_43 : zd b8_spins 43 (.getfield 10) 3 46 := ⟨by decide +kernel, rfl⟩
theorem d8_spins_46 : zd b8_spins 46 (.invokevirtual 223) 3 49 := ⟨by decide +kernel, rfl⟩
theorem d8_spins_49 : zd b8_spins 49 (.aload_n 0) 1 50 := ⟨by decide +kernel, rfl⟩
theorem d8_spins_50 : zd b8_spins 50 (.aload 4) 2 52 := ⟨by decide +kernel, rfl⟩
theorem d8_spins_52 : zd b8_spins 52 (.iload_n 2) 1 53 := ⟨by decide +kernel, rfl⟩
theorem d8_spins_53 : zd b8_spins 53 (.invokevirtual 229) 3 56 := ⟨by decide +kernel, rfl⟩
theorem d8_spins_56 : zd b8_spins 56 (.istore 5) 2 58 := ⟨by decide +kernel, rfl⟩
theorem d8_spins_58 : zd b8_spins 58 (.iload 5) 2 60 := ⟨by decide +kernel, rfl⟩
theorem d8_spins_60 : zdb b8_spins 60 (.ifCond .ge 9) 9 63 69 := ⟨by decide +kernel, rfl, by decide⟩
theorem d8_spins_63 : zd b8_spins 63 (.aload_n 0) 1 64 := ⟨by decide +kernel, rfl⟩
theorem d8_spins_64 : zd b8_spins 64 (.iconst 2) 1 65 := ⟨by decide +kernel, rfl⟩
theorem d8_spins_65 : zd b8_spins 65 (.invokevirtual 67) 3 68 := ⟨by decide +kernel, rfl⟩
theorem d8_spins_68 : zd b8_spins 68 .ireturn 1 69 := ⟨by decide +kernel, rfl⟩
theorem d8_spins_69 : zd b8_spins 69 (.iload_n 3) 1 70 := ⟨by decide +kernel, rfl⟩
theorem d8_spins_70 : zdb b8_spins 70 (.ifCond .ge 6) 6 73 76 := ⟨by decide +kernel, rfl, by decide⟩
theorem d8_spins_73 : zd b8_spins 73 (.iload 5) 2 75 := ⟨by decide +kernel, rfl⟩
theorem d8_spins_75 : zd b8_spins 75 .ireturn 1 76 := ⟨by decide +kernel, rfl⟩
theorem d8_spins_76 : zd b8_spins 76 (.iload_n 3) 1 77 := ⟨by decide +kernel, rfl⟩
theorem d8_spins_77 : zd b8_spins 77 (.iconst 2) 1 78 := ⟨by decide +kernel, rfl⟩
theorem d8_spins_78 : zd b8_spins 78 (.iload 5) 2 80 := ⟨by decide +kernel, rfl⟩
theorem d8_spins_80 : zd b8_spins 80 .imul 1 81 := ⟨by decide +kernel, rfl⟩
theorem d8_spins_81 : zdb b8_spins 81 (.if_icmp .ge 12) 12 84 93 := ⟨by decide +kernel, rfl, by decide⟩
theorem d8_spins_84 : zd b8_spins 84 (.aload_n 0) 1 85 := ⟨by decide +kernel, rfl⟩
theorem d8_spins_85 : zd b8_spins 85 (.getfield 49) 3 88 := ⟨by decide +kernel, rfl⟩
theorem d8_spins_88 : zd b8_spins 88 (.iload_n 3) 1 89 := ⟨by decide +kernel, rfl⟩
theorem d8_spins_89 : zd b8_spins 89 .iaload 1 90 := ⟨by decide +kernel, rfl⟩
theorem d8_spins_90 : zdb b8_spins 90 (.goto 4) 4 93 94 := ⟨by decide +kernel, rfl, by decide⟩
theorem d8_spins_93 : zd b8_spins 93 (.iconst (-1)) 1 94 := ⟨by decide +kernel, rfl⟩
theorem d8_spins_94 : zd b8_spins 94 .ireturn 1 95 := ⟨by decide +kernel, rfl⟩
def f8_spins (k : Nat) (x1 : Int32) (x2 : Int32) (x3 : Int32) (σ : ZS) : Option (Int32 × ZS) :=
  zbd (f5_personOf k 2 x1 σ) fun r1 s1 =>
  if r1 = 0 then (
  zbd (f8_error k (1 : Int32) s1) fun r3 s3 =>
  some (r3, s3))
  else (
  zbd (f8_isNoCell k x2 s1) fun r4 s4 =>
  if r4 = 0 then (
  if x3 < (-1 : Int32) then (
  zbd (f8_error k (1 : Int32) s4) fun r7 s7 =>
  some (r7, s7))
  else (
  if x3 ≤ (3 : Int32) then (
  zbd (f5_copyFrom k 56 2 s4) fun _ s9 =>
  zbd (f8_fewestSpins k r1 x2 s9) fun r10 s10 =>
  if 0 ≤ r10 then (
  if 0 ≤ x3 then (
  if ((2 : Int32) * r10) ≤ x3 then (
  some ((-1 : Int32), s10))
  else (
  if zin x3 4 then (
  some ((s10 93 x3.toNatClampNeg), s10)) else none))
  else (
  some (r10, s10)))
  else (
  zbd (f8_error k (2 : Int32) s10) fun r15 s15 =>
  some (r15, s15)))
  else (
  zbd (f8_error k (1 : Int32) s4) fun r16 s16 =>
  some (r16, s16))))
  else (
  zbd (f8_error k (1 : Int32) s4) fun r17 s17 =>
  some (r17, s17)))
theorem c8_spins (l : Launch) (g : ZG) {k : Nat} {x1 : Int32} {x2 : Int32} {x3 : Int32} {σ : ZS} {r : Int32} {σr : ZS} (hf : f8_spins k x1 x2 x3 σ = some (r, σr)) : zT l g y8_spins b8_spins 6 (some .int) 8 229 [zr 1, zi x1, zi x2, zi x3] σ (some (zi r)) σr := by
  unfold f8_spins at hf
  refine zT_start (own := R8) rfl (by decide +kernel) 2 (L := [some (zr 1), some (zi x1), some (zi x2), some (zi x3), none, none]) rfl rfl (fun x hl C => ?_)
  subst hl
  refine z_aload_n C d8_spins_0 rfl ?_
  refine z_getR C d8_spins_1 fl_261 kZ_1 2 rfl (zn0 kZ_2) ?_
  refine z_iload_n C d8_spins_4 rfl ?_
  obtain ⟨r1, s1, h1, hf⟩ := zbx hf
  refine z_callVr C (as := [zi x1]) d8_spins_5 w_396 yy5_personOf (c5_personOf x.2.1 g h1) yc5_personOf kZ_2 rfl rfl (Nat.le_of_ble_eq_true rfl) ⟨Nat.le_of_ble_eq_true rfl, Nat.le_of_ble_eq_true rfl⟩ ⟨Nat.zero_le _, Nat.zero_le _⟩ ?_
  refine z_astore C d8_spins_8 (Nat.le_of_ble_eq_true rfl) rfl (L' := [some (zr 1), some (zi x1), some (zi x2), some (zi x3), some (zr r1), none]) rfl ?_
  refine z_aload C d8_spins_10 rfl ?_
  refine z_ifnull C d8_spins_12 (fun c2 => ?_) (fun c2 => ?_)
  · have hf := zit c2 hf
    refine z_aload_n C d8_spins_32 rfl ?_
    refine z_iconst C (1 : Int32) d8_spins_33 kI_1 ?_
    obtain ⟨r3, s3, h3, hf⟩ := zbx hf
    refine z_callVi C (as := [zi (1 : Int32)]) d8_spins_34 w_308 yy8_error (c8_error x.2.1 g h3) yc8_error kZ_1 rfl rfl (Nat.le_of_ble_eq_true rfl) ⟨Nat.le_of_ble_eq_true rfl, Nat.le_of_ble_eq_true rfl⟩ ⟨Nat.zero_le _, Nat.zero_le _⟩ ?_
    exact z_iret C d8_spins_37 hf
  · have hf := zie c2 hf
    refine z_iload_n C d8_spins_15 rfl ?_
    obtain ⟨r4, s4, h4, hf⟩ := zbx hf
    refine z_callSi C (as := [zi x2]) d8_spins_16 w_302 yy8_isNoCell (c8_isNoCell x.2.1 g h4) rfl rfl (Nat.le_of_ble_eq_true rfl) ⟨Nat.le_of_ble_eq_true rfl, Nat.le_of_ble_eq_true rfl⟩ ⟨Nat.zero_le _, Nat.zero_le _⟩ ?_
    refine z_if_ne C d8_spins_19 (fun c5 => ?_) (fun c5 => ?_)
    · have hf := zit c5 hf
      refine z_iload_n C d8_spins_22 rfl ?_
      refine z_iconst C (-1 : Int32) d8_spins_23 kI_m1 ?_
      refine z_icmp_lt C d8_spins_24 (fun c6 => ?_) (fun c6 => ?_)
      · have hf := zit c6 hf
        refine z_aload_n C d8_spins_32 rfl ?_
        refine z_iconst C (1 : Int32) d8_spins_33 kI_1 ?_
        obtain ⟨r7, s7, h7, hf⟩ := zbx hf
        refine z_callVi C (as := [zi (1 : Int32)]) d8_spins_34 w_308 yy8_error (c8_error x.2.1 g h7) yc8_error kZ_1 rfl rfl (Nat.le_of_ble_eq_true rfl) ⟨Nat.le_of_ble_eq_true rfl, Nat.le_of_ble_eq_true rfl⟩ ⟨Nat.zero_le _, Nat.zero_le _⟩ ?_
        exact z_iret C d8_spins_37 hf
      · have hf := zie c6 hf
        refine z_iload_n C d8_spins_27 rfl ?_
        refine z_iconst C (3 : Int32) d8_spins_28 kI_3 ?_
        refine z_icmp_le C d8_spins_29 (fun c8 => ?_) (fun c8 => ?_)
        · have hf := zit c8 hf
          refine z_aload_n C d8_spins_38 rfl ?_
          refine z_getR C d8_spins_39 fl_263 kZ_1 56 rfl (zn0 kZ_56) ?_
          refine z_aload_n C d8_spins_42 rfl ?_
          refine z_getR C d8_spins_43 fl_261 kZ_1 2 rfl (zn0 kZ_2) ?_
          obtain ⟨r9, s9, h9, hf⟩ := zbx hf
          refine z_callVv C (as := [zr 2]) d8_spins_46 w_637 yy5_copyFrom (c5_copyFrom x.2.1 g h9) yc5_copyFrom kZ_56 rfl rfl (Nat.le_of_ble_eq_true rfl) ⟨Nat.le_of_ble_eq_true rfl, Nat.le_of_ble_eq_true rfl⟩ ⟨Nat.zero_le _, Nat.zero_le _⟩ ?_
          refine z_aload_n C d8_spins_49 rfl ?_
          refine z_aload C d8_spins_50 rfl ?_
          refine z_iload_n C d8_spins_52 rfl ?_
          obtain ⟨r10, s10, h10, hf⟩ := zbx hf
          refine z_callVi C (as := [zr r1, zi x2]) d8_spins_53 w_663 yy8_fewestSpins (c8_fewestSpins x.2.1 g h10) yc8_fewestSpins kZ_1 rfl rfl (Nat.le_of_ble_eq_true rfl) ⟨Nat.le_of_ble_eq_true rfl, Nat.le_of_ble_eq_true rfl⟩ ⟨Nat.zero_le _, Nat.zero_le _⟩ ?_
          refine z_istore C d8_spins_56 (Nat.le_of_ble_eq_true rfl) rfl (L' := [some (zr 1), some (zi x1), some (zi x2), some (zi x3), some (zr r1), some (zi r10)]) rfl ?_
          refine z_iload C d8_spins_58 rfl ?_
          refine z_if_ge C d8_spins_60 (fun c11 => ?_) (fun c11 => ?_)
          · have hf := zit c11 hf
            refine z_iload_n C d8_spins_69 rfl ?_
            refine z_if_ge C d8_spins_70 (fun c12 => ?_) (fun c12 => ?_)
            · have hf := zit c12 hf
              refine z_iload_n C d8_spins_76 rfl ?_
              refine z_iconst C (2 : Int32) d8_spins_77 kI_2 ?_
              refine z_iload C d8_spins_78 rfl ?_
              refine z_imul C d8_spins_80 ?_
              refine z_icmp_ge C d8_spins_81 (fun c13 => ?_) (fun c13 => ?_)
              · have hf := zit c13 hf
                refine z_iconst C (-1 : Int32) d8_spins_93 kI_m1 ?_
                exact z_iret C d8_spins_94 hf
              · have hf := zie c13 hf
                refine z_aload_n C d8_spins_84 rfl ?_
                refine z_getR C d8_spins_85 fl_268 kZ_1 93 rfl (zn0 kZ_93) ?_
                refine z_iload_n C d8_spins_88 rfl ?_
                obtain ⟨g14, hf⟩ := zgo hf
                refine z_iald C d8_spins_89 kZ_93 kL_93 g14 (x3.toNatClampNeg) rfl ?_
                refine z_goto C d8_spins_90 ?_
                exact z_iret C d8_spins_94 hf
            · have hf := zie c12 hf
              refine z_iload C d8_spins_73 rfl ?_
              exact z_iret C d8_spins_75 hf
          · have hf := zie c11 hf
            refine z_aload_n C d8_spins_63 rfl ?_
            refine z_iconst C (2 : Int32) d8_spins_64 kI_2 ?_
            obtain ⟨r15, s15, h15, hf⟩ := zbx hf
            refine z_callVi C (as := [zi (2 : Int32)]) d8_spins_65 w_308 yy8_error (c8_error x.2.1 g h15) yc8_error kZ_1 rfl rfl (Nat.le_of_ble_eq_true rfl) ⟨Nat.le_of_ble_eq_true rfl, Nat.le_of_ble_eq_true rfl⟩ ⟨Nat.zero_le _, Nat.zero_le _⟩ ?_
            exact z_iret C d8_spins_68 hf
        · have hf := zie c8 hf
          refine z_aload_n C d8_spins_32 rfl ?_
          refine z_iconst C (1 : Int32) d8_spins_33 kI_1 ?_
          obtain ⟨r16, s16, h16, hf⟩ := zbx hf
          refine z_callVi C (as := [zi (1 : Int32)]) d8_spins_34 w_308 yy8_error (c8_error x.2.1 g h16) yc8_error kZ_1 rfl rfl (Nat.le_of_ble_eq_true rfl) ⟨Nat.le_of_ble_eq_true rfl, Nat.le_of_ble_eq_true rfl⟩ ⟨Nat.zero_le _, Nat.zero_le _⟩ ?_
          exact z_iret C d8_spins_37 hf
    · have hf := zie c5 hf
      refine z_aload_n C d8_spins_32 rfl ?_
      refine z_iconst C (1 : Int32) d8_spins_33 kI_1 ?_
      obtain ⟨r17, s17, h17, hf⟩ := zbx hf
      refine z_callVi C (as := [zi (1 : Int32)]) d8_spins_34 w_308 yy8_error (c8_error x.2.1 g h17) yc8_error kZ_1 rfl rfl (Nat.le_of_ble_eq_true rfl) ⟨Nat.le_of_ble_eq_true rfl, Nat.le_of_ble_eq_true rfl⟩ ⟨Nat.zero_le _, Nat.zero_le _⟩ ?_
      exact z_iret C d8_spins_37 hf
theorem d8_stand_0 : zd b8_stand 0 (.aload_n 0) 1 1 := ⟨by decide +kernel, rfl⟩
theorem d8_stand_1 : zd b8_stand 1 (.getfield 10) 3 4 := ⟨by decide +kernel, rfl⟩
theorem d8_stand_4 : zd b8_stand 4 (.iload_n 1) 1 5 := ⟨by decide +kernel, rfl⟩
theorem d8_stand_5 : zd b8_stand 5 (.invokevirtual 128) 3 8 := ⟨by decide +kernel, rfl⟩
theorem d8_stand_8 : zd b8_stand 8 (.astore 4) 2 10 := ⟨by decide +kernel, rfl⟩
theorem d8_stand_10 : zd b8_stand 10 (.aload 4) 2 12 := ⟨by decide +kernel, rfl⟩
theorem d8_stand_12 : zdb b8_stand 12 (.ifnull 17) 17 15 29 := ⟨by decide +kernel, rfl, by decide⟩
theorem d8_stand_15 : zd b8_stand 15 (.iload_n 2) 1 16 := ⟨by decide +kernel, rfl⟩
theorem d8_stand_16 : zd b8_stand 16 (.invokestatic 61) 3 19 := ⟨by decide +kernel, rfl⟩
theorem d8_stand_19 : zdb b8_stand 19 (.ifCond .ne 10) 10 22 29 := ⟨by decide +kernel, rfl, by decide⟩
theorem d8_stand_22 : zd b8_stand 22 (.iload_n 3) 1 23 := ⟨by decide +kernel, rfl⟩
theorem d8_stand_23 : zd b8_stand 23 (.invokestatic 103) 3 26 := ⟨by decide +kernel, rfl⟩
theorem d8_stand_26 : zdb b8_stand 26 (.ifCond .eq 9) 9 29 35 := ⟨by decide +kernel, rfl, by decide⟩
theorem d8_stand_29 : zd b8_stand 29 (.aload_n 0) 1 30 := ⟨by decide +kernel, rfl⟩
theorem d8_stand_30 : zd b8_stand 30 (.iconst 1) 1 31 := ⟨by decide +kernel, rfl⟩
theorem d8_stand_31 : zd b8_stand 31 (.invokevirtual 67) 3 34 := ⟨by decide +kernel, rfl⟩
theorem d8_stand_34 : zd b8_stand 34 .ireturn 1 35 := ⟨by decide +kernel, rfl⟩
theorem d8_stand_35 : zd b8_stand 35 (.iconst 4) 1 36 := ⟨by decide +kernel, rfl⟩
theorem d8_stand_36 : zd b8_stand 36 (.aload 4) 2 38 := ⟨by decide +kernel, rfl⟩
theorem d8_stand_38 : zd b8_stand 38 (.getfield 132) 3 41 := ⟨by decide +kernel, rfl⟩
theorem d8_stand_41 : zd b8_stand 41 .imul 1 42 := ⟨by decide +kernel, rfl⟩
theorem d8_stand_42 : zd b8_stand 42 (.aload 4) 2 44 := ⟨by decide +kernel, rfl⟩
theorem d8_stand_44 : zd b8_stand 44 (.getfield 135) 3 47 := ⟨by decide +kernel, rfl⟩
theorem d8_stand_47 : zd b8_stand 47 .iadd 1 48 := ⟨by decide +kernel, rfl⟩
theorem d8_stand_48 : zd b8_stand 48 (.istore 5) 2 50 := ⟨by decide +kernel, rfl⟩
theorem d8_stand_50 : zd b8_stand 50 (.aload 4) 2 52 := ⟨by decide +kernel, rfl⟩
theorem d8_stand_52 : zd b8_stand 52 (.iload_n 2) 1 53 := ⟨by decide +kernel, rfl⟩
theorem d8_stand_53 : zd b8_stand 53 (.putfield 132) 3 56 := ⟨by decide +kernel, rfl⟩
theorem d8_stand_56 : zd b8_stand 56 (.aload 4) 2 58 := ⟨by decide +kernel, rfl⟩
theorem d8_stand_58 : zd b8_stand 58 (.iload_n 3) 1 59 := ⟨by decide +kernel, rfl⟩
theorem d8_stand_59 : zd b8_stand 59 (.putfield 135) 3 62 := ⟨by decide +kernel, rfl⟩
theorem d8_stand_62 : zd b8_stand 62 (.iload 5) 2 64 := ⟨by decide +kernel, rfl⟩
theorem d8_stand_64 : zd b8_stand 64 .ireturn 1 65 := ⟨by decide +kernel, rfl⟩
def f8_stand (k : Nat) (x1 : Int32) (x2 : Int32) (x3 : Int32) (σ : ZS) : Option (Int32 × ZS) :=
  zbd (f5_personOf k 2 x1 σ) fun r1 s1 =>
  if r1 = 0 then (
  zbd (f8_error k (1 : Int32) s1) fun r3 s3 =>
  some (r3, s3))
  else (
  zbd (f8_isNoCell k x2 s1) fun r4 s4 =>
  if r4 = 0 then (
  zbd (f8_isNoWay k x3 s4) fun r6 s6 =>
  if r6 = 0 then (
  if zsh r1 = 3 then (
  zput (zu s6 r1 0 x2) fun s9 =>
  zput (zu s9 r1 1 x3) fun s10 =>
  some ((((4 : Int32) * (s6 r1 0)) + (s6 r1 1)), s10)) else none)
  else (
  zbd (f8_error k (1 : Int32) s6) fun r11 s11 =>
  some (r11, s11)))
  else (
  zbd (f8_error k (1 : Int32) s4) fun r12 s12 =>
  some (r12, s12)))
theorem c8_stand (l : Launch) (g : ZG) {k : Nat} {x1 : Int32} {x2 : Int32} {x3 : Int32} {σ : ZS} {r : Int32} {σr : ZS} (hf : f8_stand k x1 x2 x3 σ = some (r, σr)) : zT l g y8_stand b8_stand 6 (some .int) 2 81 [zr 1, zi x1, zi x2, zi x3] σ (some (zi r)) σr := by
  unfold f8_stand at hf
  refine zT_start (own := R8) rfl (by decide +kernel) 2 (L := [some (zr 1), some (zi x1), some (zi x2), some (zi x3), none, none]) rfl rfl (fun x hl C => ?_)
  subst hl
  refine z_aload_n C d8_stand_0 rfl ?_
  refine z_getR C d8_stand_1 fl_261 kZ_1 2 rfl (zn0 kZ_2) ?_
  refine z_iload_n C d8_stand_4 rfl ?_
  obtain ⟨r1, s1, h1, hf⟩ := zbx hf
  refine z_callVr C (as := [zi x1]) d8_stand_5 w_396 yy5_personOf (c5_personOf x.2.1 g h1) yc5_personOf kZ_2 rfl rfl (Nat.le_of_ble_eq_true rfl) ⟨Nat.le_of_ble_eq_true rfl, Nat.le_of_ble_eq_true rfl⟩ ⟨Nat.zero_le _, Nat.zero_le _⟩ ?_
  refine z_astore C d8_stand_8 (Nat.le_of_ble_eq_true rfl) rfl (L' := [some (zr 1), some (zi x1), some (zi x2), some (zi x3), some (zr r1), none]) rfl ?_
  refine z_aload C d8_stand_10 rfl ?_
  refine z_ifnull C d8_stand_12 (fun c2 => ?_) (fun c2 => ?_)
  · have hf := zit c2 hf
    refine z_aload_n C d8_stand_29 rfl ?_
    refine z_iconst C (1 : Int32) d8_stand_30 kI_1 ?_
    obtain ⟨r3, s3, h3, hf⟩ := zbx hf
    refine z_callVi C (as := [zi (1 : Int32)]) d8_stand_31 w_308 yy8_error (c8_error x.2.1 g h3) yc8_error kZ_1 rfl rfl (Nat.le_of_ble_eq_true rfl) ⟨Nat.le_of_ble_eq_true rfl, Nat.le_of_ble_eq_true rfl⟩ ⟨Nat.zero_le _, Nat.zero_le _⟩ ?_
    exact z_iret C d8_stand_34 hf
  · have hf := zie c2 hf
    refine z_iload_n C d8_stand_15 rfl ?_
    obtain ⟨r4, s4, h4, hf⟩ := zbx hf
    refine z_callSi C (as := [zi x2]) d8_stand_16 w_302 yy8_isNoCell (c8_isNoCell x.2.1 g h4) rfl rfl (Nat.le_of_ble_eq_true rfl) ⟨Nat.le_of_ble_eq_true rfl, Nat.le_of_ble_eq_true rfl⟩ ⟨Nat.zero_le _, Nat.zero_le _⟩ ?_
    refine z_if_ne C d8_stand_19 (fun c5 => ?_) (fun c5 => ?_)
    · have hf := zit c5 hf
      refine z_iload_n C d8_stand_22 rfl ?_
      obtain ⟨r6, s6, h6, hf⟩ := zbx hf
      refine z_callSi C (as := [zi x3]) d8_stand_23 w_339 yy8_isNoWay (c8_isNoWay x.2.1 g h6) rfl rfl (Nat.le_of_ble_eq_true rfl) ⟨Nat.le_of_ble_eq_true rfl, Nat.le_of_ble_eq_true rfl⟩ ⟨Nat.zero_le _, Nat.zero_le _⟩ ?_
      refine z_if_eq C d8_stand_26 (fun c7 => ?_) (fun c7 => ?_)
      · have hf := zit c7 hf
        refine z_iconst C (4 : Int32) d8_stand_35 kI_4 ?_
        refine z_aload C d8_stand_36 rfl ?_
        obtain ⟨g8, hf⟩ := zgo hf
        refine z_getI C d8_stand_38 fl_82 g8 ?_
        refine z_imul C d8_stand_41 ?_
        refine z_aload C d8_stand_42 rfl ?_
        refine z_getI C d8_stand_44 fl_85 g8 ?_
        refine z_iadd C d8_stand_47 ?_
        refine z_istore C d8_stand_48 (Nat.le_of_ble_eq_true rfl) rfl (L' := [some (zr 1), some (zi x1), some (zi x2), some (zi x3), some (zr r1), some (zi (((4 : Int32) * (s6 r1 0)) + (s6 r1 1)))]) rfl ?_
        refine z_aload C d8_stand_50 rfl ?_
        refine z_iload_n C d8_stand_52 rfl ?_
        obtain ⟨s9, e9, hf⟩ := zpx hf
        refine z_putI C d8_stand_53 fl_82 ft_2_0 g8 e9 ?_
        refine z_aload C d8_stand_56 rfl ?_
        refine z_iload_n C d8_stand_58 rfl ?_
        obtain ⟨s10, e10, hf⟩ := zpx hf
        refine z_putI C d8_stand_59 fl_85 ft_2_1 g8 e10 ?_
        refine z_iload C d8_stand_62 rfl ?_
        exact z_iret C d8_stand_64 hf
      · have hf := zie c7 hf
        refine z_aload_n C d8_stand_29 rfl ?_
        refine z_iconst C (1 : Int32) d8_stand_30 kI_1 ?_
        obtain ⟨r11, s11, h11, hf⟩ := zbx hf
        refine z_callVi C (as := [zi (1 : Int32)]) d8_stand_31 w_308 yy8_error (c8_error x.2.1 g h11) yc8_error kZ_1 rfl rfl (Nat.le_of_ble_eq_true rfl) ⟨Nat.le_of_ble_eq_true rfl, Nat.le_of_ble_eq_true rfl⟩ ⟨Nat.zero_le _, Nat.zero_le _⟩ ?_
        exact z_iret C d8_stand_34 hf
    · have hf := zie c5 hf
      refine z_aload_n C d8_stand_29 rfl ?_
      refine z_iconst C (1 : Int32) d8_stand_30 kI_1 ?_
      obtain ⟨r12, s12, h12, hf⟩ := zbx hf
      refine z_callVi C (as := [zi (1 : Int32)]) d8_stand_31 w_308 yy8_error (c8_error x.2.1 g h12) yc8_error kZ_1 rfl rfl (Nat.le_of_ble_eq_true rfl) ⟨Nat.le_of_ble_eq_true rfl, Nat.le_of_ble_eq_true rfl⟩ ⟨Nat.zero_le _, Nat.zero_le _⟩ ?_
      exact z_iret C d8_stand_34 hf
theorem d8_starts_0 : zd b8_starts 0 (.iload_n 1) 1 1 := ⟨by decide +kernel, rfl⟩
theorem d8_starts_1 : zd b8_starts 1 (.invokestatic 61) 3 4 := ⟨by decide +kernel, rfl⟩
theorem d8_starts_4 : zdb b8_starts 4 (.ifCond .ne 12) 12 7 16 := ⟨by decide +kernel, rfl, by decide⟩
theorem d8_starts_7 : zd b8_starts 7 (.iload_n 2) 1 8 := ⟨by decide +kernel, rfl⟩
theorem d8_starts_8 : zdb b8_starts 8 (.ifCond .lt 8) 8 11 16 := ⟨by decide +kernel, rfl, by decide⟩
theorem d8_starts_11 : zd b8_starts 11 (.iload_n 2) 1 12 := ⟨by decide +kernel, rfl⟩
theorem d8_starts_12 : zd b8_starts 12 (.iconst 1) 1 13 := ⟨by decide +kernel, rfl⟩
theorem d8_starts_13 : zdb b8_starts 13 (.if_icmp .le 9) 9 16 22 := ⟨by decide +kernel, rfl, by decide⟩
theorem d8_starts_16 : zd b8_starts 16 (.aload_n 0) 1 17 := ⟨by decide +kernel, rfl⟩
theorem d8_starts_17 : zd b8_starts 17 (.iconst 1) 1 18 := ⟨by decide +kernel, rfl⟩
theorem d8_starts_18 : zd b8_starts 18 (.invokevirtual 67) 3 21 := ⟨by decide +kernel, rfl⟩
theorem d8_starts_21 : zd b8_starts 21 .ireturn 1 22 := ⟨by decide +kernel, rfl⟩
theorem d8_starts_22 : zd b8_starts 22 (.iconst 0) 1 23 := ⟨by decide +kernel, rfl⟩
theorem d8_starts_23 : zd b8_starts 23 (.istore_n 3) 1 24 := ⟨by decide +kernel, rfl⟩
theorem d8_starts_24 : zd b8_starts 24 (.iconst (-1)) 1 25 := ⟨by decide +kernel, rfl⟩
theorem d8_starts_25 : zd b8_starts 25 (.istore 4) 2 27 := ⟨by decide +kernel, rfl⟩
theorem d8_starts_27 : zd b8_starts 27 (.iconst 0) 1 28 := ⟨by decide +kernel, rfl⟩
theorem d8_starts_28 : zd b8_starts 28 (.istore 5) 2 30 := ⟨by decide +kernel, rfl⟩
theorem d8_starts_30 : zd b8_starts 30 (.iload 5) 2 32 := ⟨by decide +kernel, rfl⟩
theorem d8_starts_32 : zd b8_starts 32 (.sipush 256) 3 35 := ⟨by decide +kernel, rfl⟩
theorem d8_starts_35 : zdb b8_starts 35 (.if_icmp .ge 64) 64 38 99 := ⟨by decide +kernel, rfl, by decide⟩
theorem d8_starts_38 : zd b8_starts 38 (.aload_n 0) 1 39 := ⟨by decide +kernel, rfl⟩
theorem d8_starts_39 : zd b8_starts 39 (.getfield 25) 3 42 := ⟨by decide +kernel, rfl⟩
theorem d8_starts_42 : zd b8_starts 42 (.aload_n 0) 1 43 := ⟨by decide +kernel, rfl⟩
theorem d8_starts_43 : zd b8_starts 43 (.getfield 10) 3 46 := ⟨by decide +kernel, rfl⟩
theorem d8_starts_46 : zd b8_starts 46 (.iload 5) 2 48 := ⟨by decide +kernel, rfl⟩
theorem d8_starts_48 : zd b8_starts 48 (.iconst 4) 1 49 := ⟨by decide +kernel, rfl⟩
theorem d8_starts_49 : zd b8_starts 49 .idiv 1 50 := ⟨by decide +kernel, rfl⟩
theorem d8_starts_50 : zd b8_starts 50 (.iload 5) 2 52 := ⟨by decide +kernel, rfl⟩
theorem d8_starts_52 : zd b8_starts 52 (.iconst 4) 1 53 := ⟨by decide +kernel, rfl⟩
theorem d8_starts_53 : zd b8_starts 53 .irem 1 54 := ⟨by decide +kernel, rfl⟩
theorem d8_starts_54 : zd b8_starts 54 (.invokevirtual 200) 3 57 := ⟨by decide +kernel, rfl⟩
theorem d8_starts_57 : zd b8_starts 57 (.iload 5) 2 59 := ⟨by decide +kernel, rfl⟩
theorem d8_starts_59 : zd b8_starts 59 (.iconst 4) 1 60 := ⟨by decide +kernel, rfl⟩
theorem d8_starts_60 : zd b8_starts 60 .idiv 1 61 := ⟨by decide +kernel, rfl⟩
theorem d8_starts_61 : zd b8_starts 61 (.iload_n 1) 1 62 := ⟨by decide +kernel, rfl⟩
theorem d8_starts_62 : zdb b8_starts 62 (.if_icmp .eq 31) 31 65 93 := ⟨by decide +kernel, rfl, by decide⟩
theorem d8_starts_65 : zd b8_starts 65 (.aload_n 0) 1 66 := ⟨by decide +kernel, rfl⟩
theorem d8_starts_66 : zd b8_starts 66 (.getfield 25) 3 69 := ⟨by decide +kernel, rfl⟩
theorem d8_starts_69 : zd b8_starts 69 (.iload_n 1) 1 70 := ⟨by decide +kernel, rfl⟩
theorem d8_starts_70 : zd b8_starts 70 (.invokevirtual 220) 3 73 := ⟨by decide +kernel, rfl⟩
theorem d8_starts_73 : zdb b8_starts 73 (.ifCond .eq 20) 20 76 93 := ⟨by decide +kernel, rfl, by decide⟩
theorem d8_starts_76 : zd b8_starts 76 (.iinc 3 1) 3 79 := ⟨by decide +kernel, rfl⟩
theorem d8_starts_79 : zd b8_starts 79 (.iload 4) 2 81 := ⟨by decide +kernel, rfl⟩
theorem d8_starts_81 : zdb b8_starts 81 (.ifCond .ge 8) 8 84 89 := ⟨by decide +kernel, rfl, by decide⟩
theorem d8_starts_84 : zd b8_starts 84 (.iload 5) 2 86 := ⟨by decide +kernel, rfl⟩
theorem d8_starts_86 : zdb b8_starts 86 (.goto 5) 5 89 91 := ⟨by decide +kernel, rfl, by decide⟩
theorem d8_starts_89 : zd b8_starts 89 (.iload 4) 2 91 := ⟨by decide +kernel, rfl⟩
theorem d8_starts_91 : zd b8_starts 91 (.istore 4) 2 93 := ⟨by decide +kernel, rfl⟩
theorem d8_starts_93 : zd b8_starts 93 (.iinc 5 1) 3 96 := ⟨by decide +kernel, rfl⟩
theorem d8_starts_96 : zdb b8_starts 96 (.goto (-66)) (-66) 99 30 := ⟨by decide +kernel, rfl, by decide⟩
theorem d8_starts_99 : zd b8_starts 99 (.aload_n 0) 1 100 := ⟨by decide +kernel, rfl⟩
theorem d8_starts_100 : zd b8_starts 100 (.iload_n 2) 1 101 := ⟨by decide +kernel, rfl⟩
theorem d8_starts_101 : zd b8_starts 101 (.iload_n 3) 1 102 := ⟨by decide +kernel, rfl⟩
theorem d8_starts_102 : zd b8_starts 102 (.iload 4) 2 104 := ⟨by decide +kernel, rfl⟩
theorem d8_starts_104 : zd b8_starts 104 (.invokevirtual 226) 3 107 := ⟨by decide +kernel, rfl⟩
theorem d8_starts_107 : zd b8_starts 107 .ireturn 1 108 := ⟨by decide +kernel, rfl⟩
def b8_starts_30 (k : Nat) (q30 : Int32 → Int32 → Int32 → Int32 → Int32 → ZS → Option (Int32 × ZS)) (x1 : Int32) (x2 : Int32) (x3 : Int32) (x4 : Int32) (x5 : Int32) (σ : ZS) : Option (Int32 × ZS) :=
  if (256 : Int32) ≤ x5 then (
  zbd (f8_manyOrLeast k x2 x3 x4 σ) fun r2 s2 =>
  some (r2, s2))
  else (
  zbd (f1_follow k 2 (x5 / (4 : Int32)) (x5 % (4 : Int32)) σ) fun _ s3 =>
  if (x5 / (4 : Int32)) = x1 then (
  q30 x1 x2 x3 x4 (x5 + (1 : Int32)) s3)
  else (
  zbd (f1_seesCell k x1 s3) fun r5 s5 =>
  if r5 = 0 then (
  q30 x1 x2 x3 x4 (x5 + (1 : Int32)) s5)
  else (
  if 0 ≤ x4 then (
  q30 x1 x2 (x3 + (1 : Int32)) x4 (x5 + (1 : Int32)) s5)
  else (
  q30 x1 x2 (x3 + (1 : Int32)) x5 (x5 + (1 : Int32)) s5))))
def f8_starts_30 (k : Nat) : Nat → Int32 → Int32 → Int32 → Int32 → Int32 → ZS → Option (Int32 × ZS)
  | 0 => fun _ _ _ _ _ _ => none
  | n + 1 => b8_starts_30 k  (f8_starts_30 k  n)
theorem j8_starts_30 {x : ZX} {g : ZG} (C : zC x g b8_starts R8 (some .int) 6 5 153) {k : Nat} {r : Int32} {σr : ZS}  {q30 : Int32 → Int32 → Int32 → Int32 → Int32 → ZS → Option (Int32 × ZS)} (hq30 : (∀ (x1 : Int32) (x2 : Int32) (x3 : Int32) (x4 : Int32) (x5 : Int32) (σ : ZS), q30 x1 x2 x3 x4 x5 σ = some (r, σr) → zw x g 6 0 0 (zMQ x g (some (zi r)) σr) σ 30 [some (zr 1), some (zi x1), some (zi x2), some (zi x3), some (zi x4), some (zi x5)] [])) {x1 : Int32} {x2 : Int32} {x3 : Int32} {x4 : Int32} {x5 : Int32} {σ : ZS} (hf : b8_starts_30 k q30 x1 x2 x3 x4 x5 σ = some (r, σr)) : zw x g 6 0 0 (zMQ x g (some (zi r)) σr) σ 30 [some (zr 1), some (zi x1), some (zi x2), some (zi x3), some (zi x4), some (zi x5)] [] := by
  unfold b8_starts_30 at hf
  refine z_iload C d8_starts_30 rfl ?_
  refine z_sipush C (256 : Int32) d8_starts_32 kS_256 ?_
  refine z_icmp_ge C d8_starts_35 (fun c1 => ?_) (fun c1 => ?_)
  · have hf := zit c1 hf
    refine z_aload_n C d8_starts_99 rfl ?_
    refine z_iload_n C d8_starts_100 rfl ?_
    refine z_iload_n C d8_starts_101 rfl ?_
    refine z_iload C d8_starts_102 rfl ?_
    obtain ⟨r2, s2, h2, hf⟩ := zbx hf
    refine z_callVi C (as := [zi x2, zi x3, zi x4]) d8_starts_104 w_655 yy8_manyOrLeast (c8_manyOrLeast x.2.1 g h2) yc8_manyOrLeast kZ_1 rfl rfl (Nat.le_of_ble_eq_true rfl) ⟨Nat.le_of_ble_eq_true rfl, Nat.le_of_ble_eq_true rfl⟩ ⟨Nat.zero_le _, Nat.zero_le _⟩ ?_
    exact z_iret C d8_starts_107 hf
  · have hf := zie c1 hf
    refine z_aload_n C d8_starts_38 rfl ?_
    refine z_getR C d8_starts_39 fl_264 kZ_1 83 rfl (zn0 kZ_83) ?_
    refine z_aload_n C d8_starts_42 rfl ?_
    refine z_getR C d8_starts_43 fl_261 kZ_1 2 rfl (zn0 kZ_2) ?_
    refine z_iload C d8_starts_46 rfl ?_
    refine z_iconst C (4 : Int32) d8_starts_48 kI_4 ?_
    refine z_idiv C d8_starts_49 (by decide) ?_
    refine z_iload C d8_starts_50 rfl ?_
    refine z_iconst C (4 : Int32) d8_starts_52 kI_4 ?_
    refine z_irem C d8_starts_53 (by decide) ?_
    obtain ⟨r3, s3, h3, hf⟩ := zbx hf
    refine z_callVv C (as := [zr 2, zi (x5 / (4 : Int32)), zi (x5 % (4 : Int32))]) d8_starts_54 w_615 yy1_follow (c1_follow x.2.1 g h3) yc1_follow kZ_83 rfl rfl (Nat.le_of_ble_eq_true rfl) ⟨Nat.le_of_ble_eq_true rfl, Nat.le_of_ble_eq_true rfl⟩ ⟨Nat.zero_le _, Nat.zero_le _⟩ ?_
    refine z_iload C d8_starts_57 rfl ?_
    refine z_iconst C (4 : Int32) d8_starts_59 kI_4 ?_
    refine z_idiv C d8_starts_60 (by decide) ?_
    refine z_iload_n C d8_starts_61 rfl ?_
    refine z_icmp_eq C d8_starts_62 (fun c4 => ?_) (fun c4 => ?_)
    · have hf := zit c4 hf
      refine z_iinc C d8_starts_93 rfl kI_1 (Nat.le_of_ble_eq_true rfl) rfl (L' := [some (zr 1), some (zi x1), some (zi x2), some (zi x3), some (zi x4), some (zi (x5 + (1 : Int32)))]) rfl ?_
      refine z_goto C d8_starts_96 ?_
      exact hq30 _ _ _ _ _ _ hf
    · have hf := zie c4 hf
      refine z_aload_n C d8_starts_65 rfl ?_
      refine z_getR C d8_starts_66 fl_264 kZ_1 83 rfl (zn0 kZ_83) ?_
      refine z_iload_n C d8_starts_69 rfl ?_
      obtain ⟨r5, s5, h5, hf⟩ := zbx hf
      refine z_callVi C (as := [zi x1]) d8_starts_70 w_629 yy1_seesCell (c1_seesCell x.2.1 g h5) yc1_seesCell kZ_83 rfl rfl (Nat.le_of_ble_eq_true rfl) ⟨Nat.le_of_ble_eq_true rfl, Nat.le_of_ble_eq_true rfl⟩ ⟨Nat.zero_le _, Nat.zero_le _⟩ ?_
      refine z_if_eq C d8_starts_73 (fun c6 => ?_) (fun c6 => ?_)
      · have hf := zit c6 hf
        refine z_iinc C d8_starts_93 rfl kI_1 (Nat.le_of_ble_eq_true rfl) rfl (L' := [some (zr 1), some (zi x1), some (zi x2), some (zi x3), some (zi x4), some (zi (x5 + (1 : Int32)))]) rfl ?_
        refine z_goto C d8_starts_96 ?_
        exact hq30 _ _ _ _ _ _ hf
      · have hf := zie c6 hf
        refine z_iinc C d8_starts_76 rfl kI_1 (Nat.le_of_ble_eq_true rfl) rfl (L' := [some (zr 1), some (zi x1), some (zi x2), some (zi (x3 + (1 : Int32))), some (zi x4), some (zi x5)]) rfl ?_
        refine z_iload C d8_starts_79 rfl ?_
        refine z_if_ge C d8_starts_81 (fun c7 => ?_) (fun c7 => ?_)
        · have hf := zit c7 hf
          refine z_iload C d8_starts_89 rfl ?_
          refine z_istore C d8_starts_91 (Nat.le_of_ble_eq_true rfl) rfl (L' := [some (zr 1), some (zi x1), some (zi x2), some (zi (x3 + (1 : Int32))), some (zi x4), some (zi x5)]) rfl ?_
          refine z_iinc C d8_starts_93 rfl kI_1 (Nat.le_of_ble_eq_true rfl) rfl (L' := [some (zr 1), some (zi x1), some (zi x2), some (zi (x3 + (1 : Int32))), some (zi x4), some (zi (x5 + (1 : Int32)))]) rfl ?_
          refine z_goto C d8_starts_96 ?_
          exact hq30 _ _ _ _ _ _ hf
        · have hf := zie c7 hf
          refine z_iload C d8_starts_84 rfl ?_
          refine z_goto C d8_starts_86 ?_
          refine z_istore C d8_starts_91 (Nat.le_of_ble_eq_true rfl) rfl (L' := [some (zr 1), some (zi x1), some (zi x2), some (zi (x3 + (1 : Int32))), some (zi x5), some (zi x5)]) rfl ?_
          refine z_iinc C d8_starts_93 rfl kI_1 (Nat.le_of_ble_eq_true rfl) rfl (L' := [some (zr 1), some (zi x1), some (zi x2), some (zi (x3 + (1 : Int32))), some (zi x5), some (zi (x5 + (1 : Int32)))]) rfl ?_
          refine z_goto C d8_starts_96 ?_
          exact hq30 _ _ _ _ _ _ hf
theorem j8_starts_30l {x : ZX} {g : ZG} (C : zC x g b8_starts R8 (some .int) 6 5 153) {k : Nat} {r : Int32} {σr : ZS}  : ∀ (n : Nat) (x1 : Int32) (x2 : Int32) (x3 : Int32) (x4 : Int32) (x5 : Int32) (σ : ZS), f8_starts_30 k  n x1 x2 x3 x4 x5 σ = some (r, σr) → zw x g 6 0 0 (zMQ x g (some (zi r)) σr) σ 30 [some (zr 1), some (zi x1), some (zi x2), some (zi x3), some (zi x4), some (zi x5)] [] := by
  intro n
  induction n with
  | zero => intro x1 x2 x3 x4 x5 σ hf; exact absurd (show none = some (r, σr) from hf) (fun z => by cases z)
  | succ n ih => intro x1 x2 x3 x4 x5 σ hf; exact j8_starts_30 C  ih (show b8_starts_30 k  (f8_starts_30 k  n) x1 x2 x3 x4 x5 σ = some (r, σr) from hf)
def f8_starts (k : Nat) (x1 : Int32) (x2 : Int32) (σ : ZS) : Option (Int32 × ZS) :=
  zbd (f8_isNoCell k x1 σ) fun r1 s1 =>
  if r1 = 0 then (
  if x2 < 0 then (
  zbd (f8_error k (1 : Int32) s1) fun r4 s4 =>
  some (r4, s4))
  else (
  if x2 ≤ (1 : Int32) then (
  f8_starts_30 k  k x1 x2 (0 : Int32) (-1 : Int32) (0 : Int32) s1)
  else (
  zbd (f8_error k (1 : Int32) s1) fun r6 s6 =>
  some (r6, s6))))
  else (
  zbd (f8_error k (1 : Int32) s1) fun r7 s7 =>
  some (r7, s7))
theorem c8_starts (l : Launch) (g : ZG) {k : Nat} {x1 : Int32} {x2 : Int32} {σ : ZS} {r : Int32} {σr : ZS} (hf : f8_starts k x1 x2 σ = some (r, σr)) : zT l g y8_starts b8_starts 6 (some .int) 5 153 [zr 1, zi x1, zi x2] σ (some (zi r)) σr := by
  unfold f8_starts at hf
  refine zT_start (own := R8) rfl (by decide +kernel) 3 (L := [some (zr 1), some (zi x1), some (zi x2), none, none, none]) rfl rfl (fun x hl C => ?_)
  subst hl
  refine z_iload_n C d8_starts_0 rfl ?_
  obtain ⟨r1, s1, h1, hf⟩ := zbx hf
  refine z_callSi C (as := [zi x1]) d8_starts_1 w_302 yy8_isNoCell (c8_isNoCell x.2.1 g h1) rfl rfl (Nat.le_of_ble_eq_true rfl) ⟨Nat.le_of_ble_eq_true rfl, Nat.le_of_ble_eq_true rfl⟩ ⟨Nat.zero_le _, Nat.zero_le _⟩ ?_
  refine z_if_ne C d8_starts_4 (fun c2 => ?_) (fun c2 => ?_)
  · have hf := zit c2 hf
    refine z_iload_n C d8_starts_7 rfl ?_
    refine z_if_lt C d8_starts_8 (fun c3 => ?_) (fun c3 => ?_)
    · have hf := zit c3 hf
      refine z_aload_n C d8_starts_16 rfl ?_
      refine z_iconst C (1 : Int32) d8_starts_17 kI_1 ?_
      obtain ⟨r4, s4, h4, hf⟩ := zbx hf
      refine z_callVi C (as := [zi (1 : Int32)]) d8_starts_18 w_308 yy8_error (c8_error x.2.1 g h4) yc8_error kZ_1 rfl rfl (Nat.le_of_ble_eq_true rfl) ⟨Nat.le_of_ble_eq_true rfl, Nat.le_of_ble_eq_true rfl⟩ ⟨Nat.zero_le _, Nat.zero_le _⟩ ?_
      exact z_iret C d8_starts_21 hf
    · have hf := zie c3 hf
      refine z_iload_n C d8_starts_11 rfl ?_
      refine z_iconst C (1 : Int32) d8_starts_12 kI_1 ?_
      refine z_icmp_le C d8_starts_13 (fun c5 => ?_) (fun c5 => ?_)
      · have hf := zit c5 hf
        refine z_iconst C (0 : Int32) d8_starts_22 kI_0 ?_
        refine z_istore_n C d8_starts_23 (Nat.le_of_ble_eq_true rfl) rfl (L' := [some (zr 1), some (zi x1), some (zi x2), some (zi (0 : Int32)), none, none]) rfl ?_
        refine z_iconst C (-1 : Int32) d8_starts_24 kI_m1 ?_
        refine z_istore C d8_starts_25 (Nat.le_of_ble_eq_true rfl) rfl (L' := [some (zr 1), some (zi x1), some (zi x2), some (zi (0 : Int32)), some (zi (-1 : Int32)), none]) rfl ?_
        refine z_iconst C (0 : Int32) d8_starts_27 kI_0 ?_
        refine z_istore C d8_starts_28 (Nat.le_of_ble_eq_true rfl) rfl (L' := [some (zr 1), some (zi x1), some (zi x2), some (zi (0 : Int32)), some (zi (-1 : Int32)), some (zi (0 : Int32))]) rfl ?_
        exact j8_starts_30l C  _ _ _ _ _ _ _ hf
      · have hf := zie c5 hf
        refine z_aload_n C d8_starts_16 rfl ?_
        refine z_iconst C (1 : Int32) d8_starts_17 kI_1 ?_
        obtain ⟨r6, s6, h6, hf⟩ := zbx hf
        refine z_callVi C (as := [zi (1 : Int32)]) d8_starts_18 w_308 yy8_error (c8_error x.2.1 g h6) yc8_error kZ_1 rfl rfl (Nat.le_of_ble_eq_true rfl) ⟨Nat.le_of_ble_eq_true rfl, Nat.le_of_ble_eq_true rfl⟩ ⟨Nat.zero_le _, Nat.zero_le _⟩ ?_
        exact z_iret C d8_starts_21 hf
  · have hf := zie c2 hf
    refine z_aload_n C d8_starts_16 rfl ?_
    refine z_iconst C (1 : Int32) d8_starts_17 kI_1 ?_
    obtain ⟨r7, s7, h7, hf⟩ := zbx hf
    refine z_callVi C (as := [zi (1 : Int32)]) d8_starts_18 w_308 yy8_error (c8_error x.2.1 g h7) yc8_error kZ_1 rfl rfl (Nat.le_of_ble_eq_true rfl) ⟨Nat.le_of_ble_eq_true rfl, Nat.le_of_ble_eq_true rfl⟩ ⟨Nat.zero_le _, Nat.zero_le _⟩ ?_
    exact z_iret C d8_starts_21 hf
theorem d5_addWaiting_0 : zd b5_addWaiting 0 (.aload_n 0) 1 1 := ⟨by decide +kernel, rfl⟩
theorem d5_addWaiting_1 : zd b5_addWaiting 1 (.getfield 77) 3 4 := ⟨by decide +kernel, rfl⟩
theorem d5_addWaiting_4 : zdb b5_addWaiting 4 (.ifCond .lt 35) 35 7 39 := ⟨by decide +kernel, rfl, by decide⟩
theorem d5_addWaiting_7 : zd b5_addWaiting 7 (.aload_n 0) 1 8 := ⟨by decide +kernel, rfl⟩
theorem d5_addWaiting_8 : zd b5_addWaiting 8 (.getfield 77) 3 11 := ⟨by decide +kernel, rfl⟩
theorem d5_addWaiting_11 : zd b5_addWaiting 11 (.aload_n 0) 1 12 := ⟨by decide +kernel, rfl⟩
theorem d5_addWaiting_12 : zd b5_addWaiting 12 (.getfield 36) 3 15 := ⟨by decide +kernel, rfl⟩
theorem d5_addWaiting_15 : zd b5_addWaiting 15 .arraylength 1 16 := ⟨by decide +kernel, rfl⟩
theorem d5_addWaiting_16 : zdb b5_addWaiting 16 (.if_icmp .ge 23) 23 19 39 := ⟨by decide +kernel, rfl, by decide⟩
theorem d5_addWaiting_19 : zd b5_addWaiting 19 (.aload_n 0) 1 20 := ⟨by decide +kernel, rfl⟩
theorem d5_addWaiting_20 : zd b5_addWaiting 20 (.getfield 36) 3 23 := ⟨by decide +kernel, rfl⟩
theorem d5_addWaiting_23 : zd b5_addWaiting 23 (.aload_n 0) 1 24 := ⟨by decide +kernel, rfl⟩
theorem d5_addWaiting_24 : zd b5_addWaiting 24 (.getfield 77) 3 27 := ⟨by decide +kernel, rfl⟩
theorem d5_addWaiting_27 : zd b5_addWaiting 27 (.iload_n 1) 1 28 := ⟨by decide +kernel, rfl⟩
theorem d5_addWaiting_28 : zd b5_addWaiting 28 .iastore 1 29 := ⟨by decide +kernel, rfl⟩
theorem d5_addWaiting_29 : zd b5_addWaiting 29 (.aload_n 0) 1 30 := ⟨by decide +kernel, rfl⟩
theorem d5_addWaiting_30 : zd b5_addWaiting 30 .dup 1 31 := ⟨by decide +kernel, rfl⟩
theorem d5_addWaiting_31 : zd b5_addWaiting 31 (.getfield 77) 3 34 := ⟨by decide +kernel, rfl⟩
theorem d5_addWaiting_34 : zd b5_addWaiting 34 (.iconst 1) 1 35 := ⟨by decide +kernel, rfl⟩
theorem d5_addWaiting_35 : zd b5_addWaiting 35 .iadd 1 36 := ⟨by decide +kernel, rfl⟩
theorem d5_addWaiting_36 : zd b5_addWaiting 36 (.putfield 77) 3 39 := ⟨by decide +kernel, rfl⟩
theorem d5_addWaiting_39 : zd b5_addWaiting 39 .return_ 1 40 := ⟨by decide +kernel, rfl⟩
def f5_addWaiting (k : Nat) (t : Nat) (x1 : Int32) (σ : ZS) : Option (Unit × ZS) :=
  if zsh t = 6 then (
  if (σ t 9) < 0 then (
  some ((), σ))
  else (
  if (24 : Int32) ≤ (σ t 9) then (
  some ((), σ))
  else (
  if zin (σ t 9) 24 then (
  zput (zu σ (t + 6) ((σ t 9).toNatClampNeg) x1) fun s4 =>
  zput (zu s4 t 9 ((s4 t 9) + (1 : Int32))) fun s5 =>
  some ((), s5)) else none))) else none
theorem c5_addWaiting (l : Launch) (g : ZG) {k : Nat} {t : Nat} {x1 : Int32} {σ : ZS} {r : Unit} {σr : ZS} (hf : f5_addWaiting k t x1 σ = some (r, σr)) : zT l g y5_addWaiting b5_addWaiting 2 none 1 60 [zr t, zi x1] σ none σr := by
  unfold f5_addWaiting at hf
  obtain ⟨ht, hf⟩ := zgo hf
  refine zT_start (own := R5) rfl (by decide +kernel) 0 (L := [some (zr t), some (zi x1)]) rfl rfl (fun x hl C => ?_)
  subst hl
  refine z_aload_n C d5_addWaiting_0 rfl ?_
  refine z_getI C d5_addWaiting_1 fl_131 ht ?_
  refine z_if_lt C d5_addWaiting_4 (fun c1 => ?_) (fun c1 => ?_)
  · have hf := zit c1 hf
    exact z_vret C d5_addWaiting_39 hf
  · have hf := zie c1 hf
    refine z_aload_n C d5_addWaiting_7 rfl ?_
    refine z_getI C d5_addWaiting_8 fl_131 ht ?_
    refine z_aload_n C d5_addWaiting_11 rfl ?_
    refine z_getR C d5_addWaiting_12 fl_124 ht (t + 6) rfl (zn0 (zD6_6 ht)) ?_
    refine z_alen C (24 : Int32) d5_addWaiting_15 (zD6_6 ht) (zN6_6 ht) kO_24 ?_
    refine z_icmp_ge C d5_addWaiting_16 (fun c2 => ?_) (fun c2 => ?_)
    · have hf := zit c2 hf
      exact z_vret C d5_addWaiting_39 hf
    · have hf := zie c2 hf
      refine z_aload_n C d5_addWaiting_19 rfl ?_
      refine z_getR C d5_addWaiting_20 fl_124 ht (t + 6) rfl (zn0 (zD6_6 ht)) ?_
      refine z_aload_n C d5_addWaiting_23 rfl ?_
      refine z_getI C d5_addWaiting_24 fl_131 ht ?_
      refine z_iload_n C d5_addWaiting_27 rfl ?_
      obtain ⟨g3, hf⟩ := zgo hf
      obtain ⟨s4, e4, hf⟩ := zpx hf
      refine z_iast C d5_addWaiting_28 (zD6_6 ht) (zN6_6 ht) g3 rfl e4 ?_
      refine z_aload_n C d5_addWaiting_29 rfl ?_
      refine z_dup C d5_addWaiting_30 rfl ?_
      refine z_getI C d5_addWaiting_31 fl_131 ht ?_
      refine z_iconst C (1 : Int32) d5_addWaiting_34 kI_1 ?_
      refine z_iadd C d5_addWaiting_35 ?_
      obtain ⟨s5, e5, hf⟩ := zpx hf
      refine z_putI C d5_addWaiting_36 fl_131 ft_5_9 ht e5 ?_
      exact z_vret C d5_addWaiting_39 hf
theorem d8_tell_0 : zd b8_tell 0 (.aload_n 0) 1 1 := ⟨by decide +kernel, rfl⟩
theorem d8_tell_1 : zd b8_tell 1 (.getfield 10) 3 4 := ⟨by decide +kernel, rfl⟩
theorem d8_tell_4 : zd b8_tell 4 (.getfield 286) 3 7 := ⟨by decide +kernel, rfl⟩
theorem d8_tell_7 : zd b8_tell 7 (.bipush 24) 2 9 := ⟨by decide +kernel, rfl⟩
theorem d8_tell_9 : zdb b8_tell 9 (.if_icmp .lt 9) 9 12 18 := ⟨by decide +kernel, rfl, by decide⟩
theorem d8_tell_12 : zd b8_tell 12 (.aload_n 0) 1 13 := ⟨by decide +kernel, rfl⟩
theorem d8_tell_13 : zd b8_tell 13 (.iconst 4) 1 14 := ⟨by decide +kernel, rfl⟩
theorem d8_tell_14 : zd b8_tell 14 (.invokevirtual 67) 3 17 := ⟨by decide +kernel, rfl⟩
theorem d8_tell_17 : zd b8_tell 17 .ireturn 1 18 := ⟨by decide +kernel, rfl⟩
theorem d8_tell_18 : zd b8_tell 18 (.aload_n 0) 1 19 := ⟨by decide +kernel, rfl⟩
theorem d8_tell_19 : zd b8_tell 19 (.getfield 10) 3 22 := ⟨by decide +kernel, rfl⟩
theorem d8_tell_22 : zd b8_tell 22 (.iload_n 1) 1 23 := ⟨by decide +kernel, rfl⟩
theorem d8_tell_23 : zd b8_tell 23 (.invokevirtual 289) 3 26 := ⟨by decide +kernel, rfl⟩
theorem d8_tell_26 : zd b8_tell 26 (.aload_n 0) 1 27 := ⟨by decide +kernel, rfl⟩
theorem d8_tell_27 : zd b8_tell 27 (.getfield 10) 3 30 := ⟨by decide +kernel, rfl⟩
theorem d8_tell_30 : zd b8_tell 30 (.getfield 286) 3 33 := ⟨by decide +kernel, rfl⟩
theorem d8_tell_33 : zd b8_tell 33 .ireturn 1 34 := ⟨by decide +kernel, rfl⟩
def f8_tell (k : Nat) (x1 : Int32) (σ : ZS) : Option (Int32 × ZS) :=
  if (σ 2 9) < (24 : Int32) then (
  zbd (f5_addWaiting k 2 x1 σ) fun _ s2 =>
  some ((s2 2 9), s2))
  else (
  zbd (f8_error k (4 : Int32) σ) fun r3 s3 =>
  some (r3, s3))
theorem c8_tell (l : Launch) (g : ZG) {k : Nat} {x1 : Int32} {σ : ZS} {r : Int32} {σr : ZS} (hf : f8_tell k x1 σ = some (r, σr)) : zT l g y8_tell b8_tell 2 (some .int) 2 81 [zr 1, zi x1] σ (some (zi r)) σr := by
  unfold f8_tell at hf
  refine zT_start (own := R8) rfl (by decide +kernel) 0 (L := [some (zr 1), some (zi x1)]) rfl rfl (fun x hl C => ?_)
  subst hl
  refine z_aload_n C d8_tell_0 rfl ?_
  refine z_getR C d8_tell_1 fl_261 kZ_1 2 rfl (zn0 kZ_2) ?_
  refine z_getI C d8_tell_4 fl_132 kZ_2 ?_
  refine z_bipush C (24 : Int32) d8_tell_7 kB_24 ?_
  refine z_icmp_lt C d8_tell_9 (fun c1 => ?_) (fun c1 => ?_)
  · have hf := zit c1 hf
    refine z_aload_n C d8_tell_18 rfl ?_
    refine z_getR C d8_tell_19 fl_261 kZ_1 2 rfl (zn0 kZ_2) ?_
    refine z_iload_n C d8_tell_22 rfl ?_
    obtain ⟨r2, s2, h2, hf⟩ := zbx hf
    refine z_callVv C (as := [zi x1]) d8_tell_23 w_791 yy5_addWaiting (c5_addWaiting x.2.1 g h2) yc5_addWaiting kZ_2 rfl rfl (Nat.le_of_ble_eq_true rfl) ⟨Nat.le_of_ble_eq_true rfl, Nat.le_of_ble_eq_true rfl⟩ ⟨Nat.zero_le _, Nat.zero_le _⟩ ?_
    refine z_aload_n C d8_tell_26 rfl ?_
    refine z_getR C d8_tell_27 fl_261 kZ_1 2 rfl (zn0 kZ_2) ?_
    refine z_getI C d8_tell_30 fl_132 kZ_2 ?_
    exact z_iret C d8_tell_33 hf
  · have hf := zie c1 hf
    refine z_aload_n C d8_tell_12 rfl ?_
    refine z_iconst C (4 : Int32) d8_tell_13 kI_4 ?_
    obtain ⟨r3, s3, h3, hf⟩ := zbx hf
    refine z_callVi C (as := [zi (4 : Int32)]) d8_tell_14 w_308 yy8_error (c8_error x.2.1 g h3) yc8_error kZ_1 rfl rfl (Nat.le_of_ble_eq_true rfl) ⟨Nat.le_of_ble_eq_true rfl, Nat.le_of_ble_eq_true rfl⟩ ⟨Nat.zero_le _, Nat.zero_le _⟩ ?_
    exact z_iret C d8_tell_17 hf
theorem d3_levelOf_0 : zd b3_levelOf 0 (.iload_n 0) 1 1 := ⟨by decide +kernel, rfl⟩
theorem d3_levelOf_1 : decode b3_levelOf 1 = .ok ((.lookupswitch 101 #[(37, 99), (38, 93), (42, 99), (43, 97), (45, 97), (47, 99), (60, 95), (61, 95), (62, 95), (124, 91)]), 91) := by decide +kernel
theorem d3_levelOf_92 : zd b3_levelOf 92 (.iconst 0) 1 93 := ⟨by decide +kernel, rfl⟩
theorem d3_levelOf_93 : zd b3_levelOf 93 .ireturn 1 94 := ⟨by decide +kernel, rfl⟩
theorem d3_levelOf_94 : zd b3_levelOf 94 (.iconst 1) 1 95 := ⟨by decide +kernel, rfl⟩
theorem d3_levelOf_95 : zd b3_levelOf 95 .ireturn 1 96 := ⟨by decide +kernel, rfl⟩
theorem d3_levelOf_96 : zd b3_levelOf 96 (.iconst 2) 1 97 := ⟨by decide +kernel, rfl⟩
theorem d3_levelOf_97 : zd b3_levelOf 97 .ireturn 1 98 := ⟨by decide +kernel, rfl⟩
theorem d3_levelOf_98 : zd b3_levelOf 98 (.iconst 3) 1 99 := ⟨by decide +kernel, rfl⟩
theorem d3_levelOf_99 : zd b3_levelOf 99 .ireturn 1 100 := ⟨by decide +kernel, rfl⟩
theorem d3_levelOf_100 : zd b3_levelOf 100 (.iconst 4) 1 101 := ⟨by decide +kernel, rfl⟩
theorem d3_levelOf_101 : zd b3_levelOf 101 .ireturn 1 102 := ⟨by decide +kernel, rfl⟩
theorem d3_levelOf_102 : zd b3_levelOf 102 (.iconst (-1)) 1 103 := ⟨by decide +kernel, rfl⟩
theorem d3_levelOf_103 : zd b3_levelOf 103 .ireturn 1 104 := ⟨by decide +kernel, rfl⟩
def f3_levelOf (k : Nat) (x0 : Int32) (σ : ZS) : Option (Int32 × ZS) :=
  if x0 = (37 : Int32) then (
  some ((4 : Int32), σ))
  else (
  if x0 = (38 : Int32) then (
  some ((1 : Int32), σ))
  else (
  if x0 = (42 : Int32) then (
  some ((4 : Int32), σ))
  else (
  if x0 = (43 : Int32) then (
  some ((3 : Int32), σ))
  else (
  if x0 = (45 : Int32) then (
  some ((3 : Int32), σ))
  else (
  if x0 = (47 : Int32) then (
  some ((4 : Int32), σ))
  else (
  if x0 = (60 : Int32) then (
  some ((2 : Int32), σ))
  else (
  if x0 = (61 : Int32) then (
  some ((2 : Int32), σ))
  else (
  if x0 = (62 : Int32) then (
  some ((2 : Int32), σ))
  else (
  if x0 = (124 : Int32) then (
  some ((0 : Int32), σ))
  else (
  some ((-1 : Int32), σ)))))))))))
theorem c3_levelOf (l : Launch) (g : ZG) {k : Nat} {x0 : Int32} {σ : ZS} {r : Int32} {σr : ZS} (hf : f3_levelOf k x0 σ = some (r, σr)) : zT l g y3_levelOf b3_levelOf 1 (some .int) 1 60 [zi x0] σ (some (zi r)) σr := by
  unfold f3_levelOf at hf
  refine zT_start (own := R3) rfl (by decide +kernel) 0 (L := [some (zi x0)]) rfl rfl (fun x hl C => ?_)
  subst hl
  refine z_iload_n C d3_levelOf_0 rfl ?_
  refine z_lsw C [((37 : Int32), 100), ((38 : Int32), 94), ((42 : Int32), 100), ((43 : Int32), 98), ((45 : Int32), 98), ((47 : Int32), 100), ((60 : Int32), 96), ((61 : Int32), 96), ((62 : Int32), 96), ((124 : Int32), 92)] (d := 102) d3_levelOf_1 (by decide +kernel) (by decide) (by decide +kernel) ?_
  refine z_swc (fun c1 => ?_) (fun c1 => ?_)
  · have hf := zit c1 hf
    refine z_iconst C (4 : Int32) d3_levelOf_100 kI_4 ?_
    exact z_iret C d3_levelOf_101 hf
  · have hf := zie c1 hf
    refine z_swc (fun c2 => ?_) (fun c2 => ?_)
    · have hf := zit c2 hf
      refine z_iconst C (1 : Int32) d3_levelOf_94 kI_1 ?_
      exact z_iret C d3_levelOf_95 hf
    · have hf := zie c2 hf
      refine z_swc (fun c3 => ?_) (fun c3 => ?_)
      · have hf := zit c3 hf
        refine z_iconst C (4 : Int32) d3_levelOf_100 kI_4 ?_
        exact z_iret C d3_levelOf_101 hf
      · have hf := zie c3 hf
        refine z_swc (fun c4 => ?_) (fun c4 => ?_)
        · have hf := zit c4 hf
          refine z_iconst C (3 : Int32) d3_levelOf_98 kI_3 ?_
          exact z_iret C d3_levelOf_99 hf
        · have hf := zie c4 hf
          refine z_swc (fun c5 => ?_) (fun c5 => ?_)
          · have hf := zit c5 hf
            refine z_iconst C (3 : Int32) d3_levelOf_98 kI_3 ?_
            exact z_iret C d3_levelOf_99 hf
          · have hf := zie c5 hf
            refine z_swc (fun c6 => ?_) (fun c6 => ?_)
            · have hf := zit c6 hf
              refine z_iconst C (4 : Int32) d3_levelOf_100 kI_4 ?_
              exact z_iret C d3_levelOf_101 hf
            · have hf := zie c6 hf
              refine z_swc (fun c7 => ?_) (fun c7 => ?_)
              · have hf := zit c7 hf
                refine z_iconst C (2 : Int32) d3_levelOf_96 kI_2 ?_
                exact z_iret C d3_levelOf_97 hf
              · have hf := zie c7 hf
                refine z_swc (fun c8 => ?_) (fun c8 => ?_)
                · have hf := zit c8 hf
                  refine z_iconst C (2 : Int32) d3_levelOf_96 kI_2 ?_
                  exact z_iret C d3_levelOf_97 hf
                · have hf := zie c8 hf
                  refine z_swc (fun c9 => ?_) (fun c9 => ?_)
                  · have hf := zit c9 hf
                    refine z_iconst C (2 : Int32) d3_levelOf_96 kI_2 ?_
                    exact z_iret C d3_levelOf_97 hf
                  · have hf := zie c9 hf
                    refine z_swc (fun c10 => ?_) (fun c10 => ?_)
                    · have hf := zit c10 hf
                      refine z_iconst C (0 : Int32) d3_levelOf_92 kI_0 ?_
                      exact z_iret C d3_levelOf_93 hf
                    · have hf := zie c10 hf
                      refine z_sw0 ?_
                      refine z_iconst C (-1 : Int32) d3_levelOf_102 kI_m1 ?_
                      exact z_iret C d3_levelOf_103 hf
theorem d3_signHere_0 : zd b3_signHere 0 (.aload_n 0) 1 1 := ⟨by decide +kernel, rfl⟩
theorem d3_signHere_1 : zd b3_signHere 1 (.getfield 18) 3 4 := ⟨by decide +kernel, rfl⟩
theorem d3_signHere_4 : zdb b3_signHere 4 (.ifnull 33) 33 7 37 := ⟨by decide +kernel, rfl, by decide⟩
theorem d3_signHere_7 : zd b3_signHere 7 (.aload_n 0) 1 8 := ⟨by decide +kernel, rfl⟩
theorem d3_signHere_8 : zd b3_signHere 8 (.getfield 26) 3 11 := ⟨by decide +kernel, rfl⟩
theorem d3_signHere_11 : zdb b3_signHere 11 (.ifCond .lt 26) 26 14 37 := ⟨by decide +kernel, rfl, by decide⟩
theorem d3_signHere_14 : zd b3_signHere 14 (.aload_n 0) 1 15 := ⟨by decide +kernel, rfl⟩
theorem d3_signHere_15 : zd b3_signHere 15 (.getfield 26) 3 18 := ⟨by decide +kernel, rfl⟩
theorem d3_signHere_18 : zd b3_signHere 18 (.aload_n 0) 1 19 := ⟨by decide +kernel, rfl⟩
theorem d3_signHere_19 : zd b3_signHere 19 (.getfield 22) 3 22 := ⟨by decide +kernel, rfl⟩
theorem d3_signHere_22 : zdb b3_signHere 22 (.if_icmp .ge 15) 15 25 37 := ⟨by decide +kernel, rfl, by decide⟩
theorem d3_signHere_25 : zd b3_signHere 25 (.aload_n 0) 1 26 := ⟨by decide +kernel, rfl⟩
theorem d3_signHere_26 : zd b3_signHere 26 (.getfield 26) 3 29 := ⟨by decide +kernel, rfl⟩
theorem d3_signHere_29 : zd b3_signHere 29 (.aload_n 0) 1 30 := ⟨by decide +kernel, rfl⟩
theorem d3_signHere_30 : zd b3_signHere 30 (.getfield 18) 3 33 := ⟨by decide +kernel, rfl⟩
theorem d3_signHere_33 : zd b3_signHere 33 .arraylength 1 34 := ⟨by decide +kernel, rfl⟩
theorem d3_signHere_34 : zdb b3_signHere 34 (.if_icmp .lt 5) 5 37 39 := ⟨by decide +kernel, rfl, by decide⟩
theorem d3_signHere_37 : zd b3_signHere 37 (.iconst (-1)) 1 38 := ⟨by decide +kernel, rfl⟩
theorem d3_signHere_38 : zd b3_signHere 38 .ireturn 1 39 := ⟨by decide +kernel, rfl⟩
theorem d3_signHere_39 : zd b3_signHere 39 (.aload_n 0) 1 40 := ⟨by decide +kernel, rfl⟩
theorem d3_signHere_40 : zd b3_signHere 40 (.getfield 18) 3 43 := ⟨by decide +kernel, rfl⟩
theorem d3_signHere_43 : zd b3_signHere 43 (.aload_n 0) 1 44 := ⟨by decide +kernel, rfl⟩
theorem d3_signHere_44 : zd b3_signHere 44 (.getfield 26) 3 47 := ⟨by decide +kernel, rfl⟩
theorem d3_signHere_47 : zd b3_signHere 47 .iaload 1 48 := ⟨by decide +kernel, rfl⟩
theorem d3_signHere_48 : zd b3_signHere 48 .ireturn 1 49 := ⟨by decide +kernel, rfl⟩
def f3_signHere (k : Nat)  (σ : ZS) : Option (Int32 × ZS) :=
  if (σ 86 1).toNatClampNeg = 0 then (
  some ((-1 : Int32), σ))
  else (
  if (σ 86 3) < 0 then (
  some ((-1 : Int32), σ))
  else (
  if (σ 86 2) ≤ (σ 86 3) then (
  some ((-1 : Int32), σ))
  else (
  if zsh (σ 86 1).toNatClampNeg = 15 then (
  if (σ 86 3) < (nI (zln (σ 86 1).toNatClampNeg)) then (
  if zin (σ 86 3) (zln (σ 86 1).toNatClampNeg) then (
  some ((σ (σ 86 1).toNatClampNeg (σ 86 3).toNatClampNeg), σ)) else none)
  else (
  some ((-1 : Int32), σ))) else none)))
theorem c3_signHere (l : Launch) (g : ZG) {k : Nat}  {σ : ZS} {r : Int32} {σr : ZS} (hf : f3_signHere k  σ = some (r, σr)) : zT l g y3_signHere b3_signHere 1 (some .int) 1 60 [zr 86] σ (some (zi r)) σr := by
  unfold f3_signHere at hf
  refine zT_start (own := R3) rfl (by decide +kernel) 0 (L := [some (zr 86)]) rfl rfl (fun x hl C => ?_)
  subst hl
  refine z_aload_n C d3_signHere_0 rfl ?_
  refine z_getD C d3_signHere_1 fl_199 kZ_86 ?_
  refine z_ifnull C d3_signHere_4 (fun c1 => ?_) (fun c1 => ?_)
  · have hf := zit c1 hf
    refine z_iconst C (-1 : Int32) d3_signHere_37 kI_m1 ?_
    exact z_iret C d3_signHere_38 hf
  · have hf := zie c1 hf
    refine z_aload_n C d3_signHere_7 rfl ?_
    refine z_getI C d3_signHere_8 fl_201 kZ_86 ?_
    refine z_if_lt C d3_signHere_11 (fun c2 => ?_) (fun c2 => ?_)
    · have hf := zit c2 hf
      refine z_iconst C (-1 : Int32) d3_signHere_37 kI_m1 ?_
      exact z_iret C d3_signHere_38 hf
    · have hf := zie c2 hf
      refine z_aload_n C d3_signHere_14 rfl ?_
      refine z_getI C d3_signHere_15 fl_201 kZ_86 ?_
      refine z_aload_n C d3_signHere_18 rfl ?_
      refine z_getI C d3_signHere_19 fl_200 kZ_86 ?_
      refine z_icmp_ge C d3_signHere_22 (fun c3 => ?_) (fun c3 => ?_)
      · have hf := zit c3 hf
        refine z_iconst C (-1 : Int32) d3_signHere_37 kI_m1 ?_
        exact z_iret C d3_signHere_38 hf
      · have hf := zie c3 hf
        refine z_aload_n C d3_signHere_25 rfl ?_
        refine z_getI C d3_signHere_26 fl_201 kZ_86 ?_
        refine z_aload_n C d3_signHere_29 rfl ?_
        refine z_getD C d3_signHere_30 fl_199 kZ_86 ?_
        obtain ⟨g4, hf⟩ := zgo hf
        refine z_alen C (nI (zln (σ 86 1).toNatClampNeg)) d3_signHere_33 g4 rfl rfl ?_
        refine z_icmp_lt C d3_signHere_34 (fun c5 => ?_) (fun c5 => ?_)
        · have hf := zit c5 hf
          refine z_aload_n C d3_signHere_39 rfl ?_
          refine z_getD C d3_signHere_40 fl_199 kZ_86 ?_
          refine z_aload_n C d3_signHere_43 rfl ?_
          refine z_getI C d3_signHere_44 fl_201 kZ_86 ?_
          obtain ⟨g6, hf⟩ := zgo hf
          refine z_iald C d3_signHere_47 g4 rfl g6 ((σ 86 3).toNatClampNeg) rfl ?_
          exact z_iret C d3_signHere_48 hf
        · have hf := zie c5 hf
          refine z_iconst C (-1 : Int32) d3_signHere_37 kI_m1 ?_
          exact z_iret C d3_signHere_38 hf
