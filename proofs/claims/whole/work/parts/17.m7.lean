/-! methods, printed by wip/whole/gen: GlassTaxModel.gives, GlassTaxModel.isNight, GlassTaxModel.plainOnward, GlassTaxModel.onward, GlassTaxModel.meet, GlassTaxModel.next, GlassTaxModel.looks, GlassTaxModel.at, GlassTaxModel.becomes, GlassTaxModel.isKm, GlassTaxModel.become, GlassTaxModel.begins, GlassTaxModel.body, GlassTaxModel.isSeen, GlassTaxModel.looksOf, GlassTaxModel.doesSee, GlassTaxModel.canSee, GlassTaxModel.isPerson, GlassTaxModel.check, GlassTaxModel.copyAll, GlassTaxModel.count, GlassTaxModel.draw -/
theorem d9_gives_0 : zd b9_gives 0 (.sipush 148) 3 3 := ⟨by decide +kernel, rfl⟩
theorem d9_gives_3 : zd b9_gives 3 (.bipush 121) 2 5 := ⟨by decide +kernel, rfl⟩
theorem d9_gives_5 : zd b9_gives 5 (.iload_n 1) 1 6 := ⟨by decide +kernel, rfl⟩
theorem d9_gives_6 : zd b9_gives 6 .imul 1 7 := ⟨by decide +kernel, rfl⟩
theorem d9_gives_7 : zd b9_gives 7 .iadd 1 8 := ⟨by decide +kernel, rfl⟩
theorem d9_gives_8 : zd b9_gives 8 (.istore 5) 2 10 := ⟨by decide +kernel, rfl⟩
theorem d9_gives_10 : zd b9_gives 10 (.aload_n 0) 1 11 := ⟨by decide +kernel, rfl⟩
theorem d9_gives_11 : zd b9_gives 11 (.getfield 43) 3 14 := ⟨by decide +kernel, rfl⟩
theorem d9_gives_14 : zd b9_gives 14 (.iconst 0) 1 15 := ⟨by decide +kernel, rfl⟩
theorem d9_gives_15 : zd b9_gives 15 (.iload_n 2) 1 16 := ⟨by decide +kernel, rfl⟩
theorem d9_gives_16 : zd b9_gives 16 .iastore 1 17 := ⟨by decide +kernel, rfl⟩
theorem d9_gives_17 : zd b9_gives 17 (.aload_n 0) 1 18 := ⟨by decide +kernel, rfl⟩
theorem d9_gives_18 : zd b9_gives 18 (.getfield 43) 3 21 := ⟨by decide +kernel, rfl⟩
theorem d9_gives_21 : zd b9_gives 21 (.iconst 1) 1 22 := ⟨by decide +kernel, rfl⟩
theorem d9_gives_22 : zd b9_gives 22 (.iload_n 3) 1 23 := ⟨by decide +kernel, rfl⟩
theorem d9_gives_23 : zd b9_gives 23 .iastore 1 24 := ⟨by decide +kernel, rfl⟩
theorem d9_gives_24 : zd b9_gives 24 (.aload_n 0) 1 25 := ⟨by decide +kernel, rfl⟩
theorem d9_gives_25 : zd b9_gives 25 (.getfield 43) 3 28 := ⟨by decide +kernel, rfl⟩
theorem d9_gives_28 : zd b9_gives 28 (.iconst 2) 1 29 := ⟨by decide +kernel, rfl⟩
theorem d9_gives_29 : zd b9_gives 29 (.iload 4) 2 31 := ⟨by decide +kernel, rfl⟩
theorem d9_gives_31 : zd b9_gives 31 .iastore 1 32 := ⟨by decide +kernel, rfl⟩
theorem d9_gives_32 : zd b9_gives 32 (.aload_n 0) 1 33 := ⟨by decide +kernel, rfl⟩
theorem d9_gives_33 : zd b9_gives 33 (.getfield 9) 3 36 := ⟨by decide +kernel, rfl⟩
theorem d9_gives_36 : zd b9_gives 36 (.iload 5) 2 38 := ⟨by decide +kernel, rfl⟩
theorem d9_gives_38 : zd b9_gives 38 .iaload 1 39 := ⟨by decide +kernel, rfl⟩
theorem d9_gives_39 : zdb b9_gives 39 (.ifCond .le 12) 12 42 51 := ⟨by decide +kernel, rfl, by decide⟩
theorem d9_gives_42 : zd b9_gives 42 (.aload_n 0) 1 43 := ⟨by decide +kernel, rfl⟩
theorem d9_gives_43 : zd b9_gives 43 (.iload 5) 2 45 := ⟨by decide +kernel, rfl⟩
theorem d9_gives_45 : zd b9_gives 45 (.invokevirtual 207) 3 48 := ⟨by decide +kernel, rfl⟩
theorem d9_gives_48 : zdb b9_gives 48 (.goto 13) 13 51 61 := ⟨by decide +kernel, rfl, by decide⟩
theorem d9_gives_51 : zd b9_gives 51 (.iload_n 1) 1 52 := ⟨by decide +kernel, rfl⟩
theorem d9_gives_52 : zdb b9_gives 52 (.ifCond .ne 8) 8 55 60 := ⟨by decide +kernel, rfl, by decide⟩
theorem d9_gives_55 : zd b9_gives 55 (.iload 4) 2 57 := ⟨by decide +kernel, rfl⟩
theorem d9_gives_57 : zdb b9_gives 57 (.goto 4) 4 60 61 := ⟨by decide +kernel, rfl, by decide⟩
theorem d9_gives_60 : zd b9_gives 60 (.iload_n 2) 1 61 := ⟨by decide +kernel, rfl⟩
theorem d9_gives_61 : zd b9_gives 61 (.istore 6) 2 63 := ⟨by decide +kernel, rfl⟩
theorem d9_gives_63 : zd b9_gives 63 (.iload_n 1) 1 64 := ⟨by decide +kernel, rfl⟩
theorem d9_gives_64 : zdb b9_gives 64 (.ifCond .ne 14) 14 67 78 := ⟨by decide +kernel, rfl, by decide⟩
theorem d9_gives_67 : zd b9_gives 67 (.iload 6) 2 69 := ⟨by decide +kernel, rfl⟩
theorem d9_gives_69 : zd b9_gives 69 (.iconst 0) 1 70 := ⟨by decide +kernel, rfl⟩
theorem d9_gives_70 : zd b9_gives 70 (.bipush 99) 2 72 := ⟨by decide +kernel, rfl⟩
theorem d9_gives_72 : zd b9_gives 72 (.invokestatic 89) 3 75 := ⟨by decide +kernel, rfl⟩
theorem d9_gives_75 : zdb b9_gives 75 (.goto 12) 12 78 87 := ⟨by decide +kernel, rfl, by decide⟩
theorem d9_gives_78 : zd b9_gives 78 (.iload 6) 2 80 := ⟨by decide +kernel, rfl⟩
theorem d9_gives_80 : zd b9_gives 80 (.iconst 0) 1 81 := ⟨by decide +kernel, rfl⟩
theorem d9_gives_81 : zd b9_gives 81 (.sipush 999) 3 84 := ⟨by decide +kernel, rfl⟩
theorem d9_gives_84 : zd b9_gives 84 (.invokestatic 89) 3 87 := ⟨by decide +kernel, rfl⟩
theorem d9_gives_87 : zd b9_gives 87 .ireturn 1 88 := ⟨by decide +kernel, rfl⟩
def f9_gives (k : Nat) (x1 : Int32) (x2 : Int32) (x3 : Int32) (x4 : Int32) (σ : ZS) : Option (Int32 × ZS) :=
  zput (zu σ 115 (0) x2) fun s1 =>
  zput (zu s1 115 (1) x3) fun s2 =>
  zput (zu s2 115 (2) x4) fun s3 =>
  if zin ((148 : Int32) + ((121 : Int32) * x1)) 390 then (
  if (s3 104 ((148 : Int32) + ((121 : Int32) * x1)).toNatClampNeg) ≤ 0 then (
  if x1 = 0 then (
  if x1 = 0 then (
  zbd (f9_held k x4 (0 : Int32) (99 : Int32) s3) fun r8 s8 =>
  some (r8, s8))
  else (
  zbd (f9_held k x4 (0 : Int32) (999 : Int32) s3) fun r9 s9 =>
  some (r9, s9)))
  else (
  if x1 = 0 then (
  zbd (f9_held k x2 (0 : Int32) (99 : Int32) s3) fun r11 s11 =>
  some (r11, s11))
  else (
  zbd (f9_held k x2 (0 : Int32) (999 : Int32) s3) fun r12 s12 =>
  some (r12, s12))))
  else (
  zbd (f9_works k ((148 : Int32) + ((121 : Int32) * x1)) s3) fun r13 s13 =>
  if x1 = 0 then (
  zbd (f9_held k r13 (0 : Int32) (99 : Int32) s13) fun r15 s15 =>
  some (r15, s15))
  else (
  zbd (f9_held k r13 (0 : Int32) (999 : Int32) s13) fun r16 s16 =>
  some (r16, s16)))) else none
theorem c9_gives (l : Launch) (g : ZG) {k : Nat} {x1 : Int32} {x2 : Int32} {x3 : Int32} {x4 : Int32} {σ : ZS} {r : Int32} {σr : ZS} (hf : f9_gives k x1 x2 x3 x4 σ = some (r, σr)) : zT l g y9_gives b9_gives 7 (some .int) 3 106 [zr 103, zi x1, zi x2, zi x3, zi x4] σ (some (zi r)) σr := by
  unfold f9_gives at hf
  refine zT_start (own := R9) rfl (by decide +kernel) 2 (L := [some (zr 103), some (zi x1), some (zi x2), some (zi x3), some (zi x4), none, none]) rfl rfl (fun x hl C => ?_)
  subst hl
  refine z_sipush C (148 : Int32) d9_gives_0 kS_148 ?_
  refine z_bipush C (121 : Int32) d9_gives_3 kB_121 ?_
  refine z_iload_n C d9_gives_5 rfl ?_
  refine z_imul C d9_gives_6 ?_
  refine z_iadd C d9_gives_7 ?_
  refine z_istore C d9_gives_8 (Nat.le_of_ble_eq_true rfl) rfl (L' := [some (zr 103), some (zi x1), some (zi x2), some (zi x3), some (zi x4), some (zi ((148 : Int32) + ((121 : Int32) * x1))), none]) rfl ?_
  refine z_aload_n C d9_gives_10 rfl ?_
  refine z_getR C d9_gives_11 fl_833 kZ_103 115 rfl (zn0 kZ_115) ?_
  refine z_iconst C (0 : Int32) d9_gives_14 kI_0 ?_
  refine z_iload_n C d9_gives_15 rfl ?_
  obtain ⟨s1, e1, hf⟩ := zpx hf
  refine z_iast C d9_gives_16 kZ_115 kL_115 ⟨by decide, by decide⟩ kN_0 e1 ?_
  refine z_aload_n C d9_gives_17 rfl ?_
  refine z_getR C d9_gives_18 fl_833 kZ_103 115 rfl (zn0 kZ_115) ?_
  refine z_iconst C (1 : Int32) d9_gives_21 kI_1 ?_
  refine z_iload_n C d9_gives_22 rfl ?_
  obtain ⟨s2, e2, hf⟩ := zpx hf
  refine z_iast C d9_gives_23 kZ_115 kL_115 ⟨by decide, by decide⟩ kN_1 e2 ?_
  refine z_aload_n C d9_gives_24 rfl ?_
  refine z_getR C d9_gives_25 fl_833 kZ_103 115 rfl (zn0 kZ_115) ?_
  refine z_iconst C (2 : Int32) d9_gives_28 kI_2 ?_
  refine z_iload C d9_gives_29 rfl ?_
  obtain ⟨s3, e3, hf⟩ := zpx hf
  refine z_iast C d9_gives_31 kZ_115 kL_115 ⟨by decide, by decide⟩ kN_2 e3 ?_
  refine z_aload_n C d9_gives_32 rfl ?_
  refine z_getR C d9_gives_33 fl_817 kZ_103 104 rfl (zn0 kZ_104) ?_
  refine z_iload C d9_gives_36 rfl ?_
  obtain ⟨g4, hf⟩ := zgo hf
  refine z_iald C d9_gives_38 kZ_104 kL_104 g4 (((148 : Int32) + ((121 : Int32) * x1)).toNatClampNeg) rfl ?_
  refine z_if_le C d9_gives_39 (fun c5 => ?_) (fun c5 => ?_)
  · have hf := zit c5 hf
    refine z_iload_n C d9_gives_51 rfl ?_
    refine z_if_ne C d9_gives_52 (fun c6 => ?_) (fun c6 => ?_)
    · have hf := zit c6 hf
      refine z_iload C d9_gives_55 rfl ?_
      refine z_goto C d9_gives_57 ?_
      refine z_istore C d9_gives_61 (Nat.le_of_ble_eq_true rfl) rfl (L' := [some (zr 103), some (zi x1), some (zi x2), some (zi x3), some (zi x4), some (zi ((148 : Int32) + ((121 : Int32) * x1))), some (zi x4)]) rfl ?_
      refine z_iload_n C d9_gives_63 rfl ?_
      refine z_if_ne C d9_gives_64 (fun c7 => ?_) (fun c7 => ?_)
      · have hf := zit c7 hf
        refine z_iload C d9_gives_67 rfl ?_
        refine z_iconst C (0 : Int32) d9_gives_69 kI_0 ?_
        refine z_bipush C (99 : Int32) d9_gives_70 kB_99 ?_
        obtain ⟨r8, s8, h8, hf⟩ := zbx hf
        refine z_callSi C (as := [zi x4, zi (0 : Int32), zi (99 : Int32)]) d9_gives_72 w_1024 yy9_held (c9_held x.2.1 g h8) rfl rfl (Nat.le_of_ble_eq_true rfl) ⟨Nat.le_of_ble_eq_true rfl, Nat.le_of_ble_eq_true rfl⟩ ⟨Nat.zero_le _, Nat.zero_le _⟩ ?_
        refine z_goto C d9_gives_75 ?_
        exact z_iret C d9_gives_87 hf
      · have hf := zie c7 hf
        refine z_iload C d9_gives_78 rfl ?_
        refine z_iconst C (0 : Int32) d9_gives_80 kI_0 ?_
        refine z_sipush C (999 : Int32) d9_gives_81 kS_999 ?_
        obtain ⟨r9, s9, h9, hf⟩ := zbx hf
        refine z_callSi C (as := [zi x4, zi (0 : Int32), zi (999 : Int32)]) d9_gives_84 w_1024 yy9_held (c9_held x.2.1 g h9) rfl rfl (Nat.le_of_ble_eq_true rfl) ⟨Nat.le_of_ble_eq_true rfl, Nat.le_of_ble_eq_true rfl⟩ ⟨Nat.zero_le _, Nat.zero_le _⟩ ?_
        exact z_iret C d9_gives_87 hf
    · have hf := zie c6 hf
      refine z_iload_n C d9_gives_60 rfl ?_
      refine z_istore C d9_gives_61 (Nat.le_of_ble_eq_true rfl) rfl (L' := [some (zr 103), some (zi x1), some (zi x2), some (zi x3), some (zi x4), some (zi ((148 : Int32) + ((121 : Int32) * x1))), some (zi x2)]) rfl ?_
      refine z_iload_n C d9_gives_63 rfl ?_
      refine z_if_ne C d9_gives_64 (fun c10 => ?_) (fun c10 => ?_)
      · have hf := zit c10 hf
        refine z_iload C d9_gives_67 rfl ?_
        refine z_iconst C (0 : Int32) d9_gives_69 kI_0 ?_
        refine z_bipush C (99 : Int32) d9_gives_70 kB_99 ?_
        obtain ⟨r11, s11, h11, hf⟩ := zbx hf
        refine z_callSi C (as := [zi x2, zi (0 : Int32), zi (99 : Int32)]) d9_gives_72 w_1024 yy9_held (c9_held x.2.1 g h11) rfl rfl (Nat.le_of_ble_eq_true rfl) ⟨Nat.le_of_ble_eq_true rfl, Nat.le_of_ble_eq_true rfl⟩ ⟨Nat.zero_le _, Nat.zero_le _⟩ ?_
        refine z_goto C d9_gives_75 ?_
        exact z_iret C d9_gives_87 hf
      · have hf := zie c10 hf
        refine z_iload C d9_gives_78 rfl ?_
        refine z_iconst C (0 : Int32) d9_gives_80 kI_0 ?_
        refine z_sipush C (999 : Int32) d9_gives_81 kS_999 ?_
        obtain ⟨r12, s12, h12, hf⟩ := zbx hf
        refine z_callSi C (as := [zi x2, zi (0 : Int32), zi (999 : Int32)]) d9_gives_84 w_1024 yy9_held (c9_held x.2.1 g h12) rfl rfl (Nat.le_of_ble_eq_true rfl) ⟨Nat.le_of_ble_eq_true rfl, Nat.le_of_ble_eq_true rfl⟩ ⟨Nat.zero_le _, Nat.zero_le _⟩ ?_
        exact z_iret C d9_gives_87 hf
  · have hf := zie c5 hf
    refine z_aload_n C d9_gives_42 rfl ?_
    refine z_iload C d9_gives_43 rfl ?_
    obtain ⟨r13, s13, h13, hf⟩ := zbx hf
    refine z_callVi C (as := [zi ((148 : Int32) + ((121 : Int32) * x1))]) d9_gives_45 w_1017 yy9_works (c9_works x.2.1 g h13) yc9_works kZ_103 rfl rfl (Nat.le_of_ble_eq_true rfl) ⟨Nat.le_of_ble_eq_true rfl, Nat.le_of_ble_eq_true rfl⟩ ⟨Nat.zero_le _, Nat.zero_le _⟩ ?_
    refine z_goto C d9_gives_48 ?_
    refine z_istore C d9_gives_61 (Nat.le_of_ble_eq_true rfl) rfl (L' := [some (zr 103), some (zi x1), some (zi x2), some (zi x3), some (zi x4), some (zi ((148 : Int32) + ((121 : Int32) * x1))), some (zi r13)]) rfl ?_
    refine z_iload_n C d9_gives_63 rfl ?_
    refine z_if_ne C d9_gives_64 (fun c14 => ?_) (fun c14 => ?_)
    · have hf := zit c14 hf
      refine z_iload C d9_gives_67 rfl ?_
      refine z_iconst C (0 : Int32) d9_gives_69 kI_0 ?_
      refine z_bipush C (99 : Int32) d9_gives_70 kB_99 ?_
      obtain ⟨r15, s15, h15, hf⟩ := zbx hf
      refine z_callSi C (as := [zi r13, zi (0 : Int32), zi (99 : Int32)]) d9_gives_72 w_1024 yy9_held (c9_held x.2.1 g h15) rfl rfl (Nat.le_of_ble_eq_true rfl) ⟨Nat.le_of_ble_eq_true rfl, Nat.le_of_ble_eq_true rfl⟩ ⟨Nat.zero_le _, Nat.zero_le _⟩ ?_
      refine z_goto C d9_gives_75 ?_
      exact z_iret C d9_gives_87 hf
    · have hf := zie c14 hf
      refine z_iload C d9_gives_78 rfl ?_
      refine z_iconst C (0 : Int32) d9_gives_80 kI_0 ?_
      refine z_sipush C (999 : Int32) d9_gives_81 kS_999 ?_
      obtain ⟨r16, s16, h16, hf⟩ := zbx hf
      refine z_callSi C (as := [zi r13, zi (0 : Int32), zi (999 : Int32)]) d9_gives_84 w_1024 yy9_held (c9_held x.2.1 g h16) rfl rfl (Nat.le_of_ble_eq_true rfl) ⟨Nat.le_of_ble_eq_true rfl, Nat.le_of_ble_eq_true rfl⟩ ⟨Nat.zero_le _, Nat.zero_le _⟩ ?_
      exact z_iret C d9_gives_87 hf
theorem d9_isNight_0 : zd b9_isNight 0 (.aload_n 0) 1 1 := ⟨by decide +kernel, rfl⟩
theorem d9_isNight_1 : zd b9_isNight 1 (.getfield 9) 3 4 := ⟨by decide +kernel, rfl⟩
theorem d9_isNight_4 : zd b9_isNight 4 (.iconst 0) 1 5 := ⟨by decide +kernel, rfl⟩
theorem d9_isNight_5 : zd b9_isNight 5 .iaload 1 6 := ⟨by decide +kernel, rfl⟩
theorem d9_isNight_6 : zd b9_isNight 6 (.bipush 24) 2 8 := ⟨by decide +kernel, rfl⟩
theorem d9_isNight_8 : zd b9_isNight 8 .irem 1 9 := ⟨by decide +kernel, rfl⟩
theorem d9_isNight_9 : zd b9_isNight 9 (.istore_n 1) 1 10 := ⟨by decide +kernel, rfl⟩
theorem d9_isNight_10 : zd b9_isNight 10 (.iload_n 1) 1 11 := ⟨by decide +kernel, rfl⟩
theorem d9_isNight_11 : zd b9_isNight 11 (.bipush 18) 2 13 := ⟨by decide +kernel, rfl⟩
theorem d9_isNight_13 : zdb b9_isNight 13 (.if_icmp .ge 9) 9 16 22 := ⟨by decide +kernel, rfl, by decide⟩
theorem d9_isNight_16 : zd b9_isNight 16 (.iload_n 1) 1 17 := ⟨by decide +kernel, rfl⟩
theorem d9_isNight_17 : zd b9_isNight 17 (.bipush 6) 2 19 := ⟨by decide +kernel, rfl⟩
theorem d9_isNight_19 : zdb b9_isNight 19 (.if_icmp .ge 7) 7 22 26 := ⟨by decide +kernel, rfl, by decide⟩
theorem d9_isNight_22 : zd b9_isNight 22 (.iconst 1) 1 23 := ⟨by decide +kernel, rfl⟩
theorem d9_isNight_23 : zdb b9_isNight 23 (.goto 4) 4 26 27 := ⟨by decide +kernel, rfl, by decide⟩
theorem d9_isNight_26 : zd b9_isNight 26 (.iconst 0) 1 27 := ⟨by decide +kernel, rfl⟩
theorem d9_isNight_27 : zd b9_isNight 27 .ireturn 1 28 := ⟨by decide +kernel, rfl⟩
def f9_isNight (k : Nat)  (σ : ZS) : Option (Int32 × ZS) :=
  if (18 : Int32) ≤ ((σ 104 0) % (24 : Int32)) then (
  some ((1 : Int32), σ))
  else (
  if (6 : Int32) ≤ ((σ 104 0) % (24 : Int32)) then (
  some ((0 : Int32), σ))
  else (
  some ((1 : Int32), σ)))
theorem c9_isNight (l : Launch) (g : ZG) {k : Nat}  {σ : ZS} {r : Int32} {σr : ZS} (hf : f9_isNight k  σ = some (r, σr)) : zT l g y9_isNight b9_isNight 2 (some .boolean) 1 60 [zr 103] σ (some (zi r)) σr := by
  unfold f9_isNight at hf
  refine zT_start (own := R9) rfl (by decide +kernel) 1 (L := [some (zr 103), none]) rfl rfl (fun x hl C => ?_)
  subst hl
  refine z_aload_n C d9_isNight_0 rfl ?_
  refine z_getR C d9_isNight_1 fl_817 kZ_103 104 rfl (zn0 kZ_104) ?_
  refine z_iconst C (0 : Int32) d9_isNight_4 kI_0 ?_
  refine z_iald C d9_isNight_5 kZ_104 kL_104 ⟨by decide, by decide⟩ (0) kN_0 ?_
  refine z_bipush C (24 : Int32) d9_isNight_6 kB_24 ?_
  refine z_irem C d9_isNight_8 (by decide) ?_
  refine z_istore_n C d9_isNight_9 (Nat.le_of_ble_eq_true rfl) rfl (L' := [some (zr 103), some (zi ((σ 104 0) % (24 : Int32)))]) rfl ?_
  refine z_iload_n C d9_isNight_10 rfl ?_
  refine z_bipush C (18 : Int32) d9_isNight_11 kB_18 ?_
  refine z_icmp_ge C d9_isNight_13 (fun c1 => ?_) (fun c1 => ?_)
  · have hf := zit c1 hf
    refine z_iconst C (1 : Int32) d9_isNight_22 kI_1 ?_
    refine z_goto C d9_isNight_23 ?_
    exact z_zret C d9_isNight_27 (Or.inr rfl) hf
  · have hf := zie c1 hf
    refine z_iload_n C d9_isNight_16 rfl ?_
    refine z_bipush C (6 : Int32) d9_isNight_17 kB_6 ?_
    refine z_icmp_ge C d9_isNight_19 (fun c2 => ?_) (fun c2 => ?_)
    · have hf := zit c2 hf
      refine z_iconst C (0 : Int32) d9_isNight_26 kI_0 ?_
      exact z_zret C d9_isNight_27 (Or.inl rfl) hf
    · have hf := zie c2 hf
      refine z_iconst C (1 : Int32) d9_isNight_22 kI_1 ?_
      refine z_goto C d9_isNight_23 ?_
      exact z_zret C d9_isNight_27 (Or.inr rfl) hf
theorem d9_plainOnward_0 : zd b9_plainOnward 0 (.iload_n 0) 1 1 := ⟨by decide +kernel, rfl⟩
theorem d9_plainOnward_1 : decode b9_plainOnward 1 = .ok ((.tableswitch 63 0 2 #[27, 43, 47]), 27) := by decide +kernel
theorem d9_plainOnward_28 : zd b9_plainOnward 28 (.iload_n 1) 1 29 := ⟨by decide +kernel, rfl⟩
theorem d9_plainOnward_29 : zd b9_plainOnward 29 (.iconst 2) 1 30 := ⟨by decide +kernel, rfl⟩
theorem d9_plainOnward_30 : zd b9_plainOnward 30 .irem 1 31 := ⟨by decide +kernel, rfl⟩
theorem d9_plainOnward_31 : zdb b9_plainOnward 31 (.ifCond .ne 9) 9 34 40 := ⟨by decide +kernel, rfl, by decide⟩
theorem d9_plainOnward_34 : zd b9_plainOnward 34 (.iload_n 1) 1 35 := ⟨by decide +kernel, rfl⟩
theorem d9_plainOnward_35 : zd b9_plainOnward 35 (.iconst 1) 1 36 := ⟨by decide +kernel, rfl⟩
theorem d9_plainOnward_36 : zd b9_plainOnward 36 .iadd 1 37 := ⟨by decide +kernel, rfl⟩
theorem d9_plainOnward_37 : zdb b9_plainOnward 37 (.goto 6) 6 40 43 := ⟨by decide +kernel, rfl, by decide⟩
theorem d9_plainOnward_40 : zd b9_plainOnward 40 (.iload_n 1) 1 41 := ⟨by decide +kernel, rfl⟩
theorem d9_plainOnward_41 : zd b9_plainOnward 41 (.iconst 1) 1 42 := ⟨by decide +kernel, rfl⟩
theorem d9_plainOnward_42 : zd b9_plainOnward 42 .isub 1 43 := ⟨by decide +kernel, rfl⟩
theorem d9_plainOnward_43 : zd b9_plainOnward 43 .ireturn 1 44 := ⟨by decide +kernel, rfl⟩
theorem d9_plainOnward_44 : zd b9_plainOnward 44 (.iconst 3) 1 45 := ⟨by decide +kernel, rfl⟩
theorem d9_plainOnward_45 : zd b9_plainOnward 45 (.iload_n 1) 1 46 := ⟨by decide +kernel, rfl⟩
theorem d9_plainOnward_46 : zd b9_plainOnward 46 .isub 1 47 := ⟨by decide +kernel, rfl⟩
theorem d9_plainOnward_47 : zd b9_plainOnward 47 .ireturn 1 48 := ⟨by decide +kernel, rfl⟩
theorem d9_plainOnward_48 : zd b9_plainOnward 48 (.iload_n 1) 1 49 := ⟨by decide +kernel, rfl⟩
theorem d9_plainOnward_49 : zd b9_plainOnward 49 (.iconst 2) 1 50 := ⟨by decide +kernel, rfl⟩
theorem d9_plainOnward_50 : zd b9_plainOnward 50 .irem 1 51 := ⟨by decide +kernel, rfl⟩
theorem d9_plainOnward_51 : zd b9_plainOnward 51 (.iconst 1) 1 52 := ⟨by decide +kernel, rfl⟩
theorem d9_plainOnward_52 : zdb b9_plainOnward 52 (.if_icmp .ne 10) 10 55 62 := ⟨by decide +kernel, rfl, by decide⟩
theorem d9_plainOnward_55 : zd b9_plainOnward 55 (.iload_n 1) 1 56 := ⟨by decide +kernel, rfl⟩
theorem d9_plainOnward_56 : zd b9_plainOnward 56 (.invokestatic 64) 3 59 := ⟨by decide +kernel, rfl⟩
theorem d9_plainOnward_59 : zdb b9_plainOnward 59 (.goto 4) 4 62 63 := ⟨by decide +kernel, rfl, by decide⟩
theorem d9_plainOnward_62 : zd b9_plainOnward 62 (.iload_n 1) 1 63 := ⟨by decide +kernel, rfl⟩
theorem d9_plainOnward_63 : zd b9_plainOnward 63 .ireturn 1 64 := ⟨by decide +kernel, rfl⟩
theorem d9_plainOnward_64 : zd b9_plainOnward 64 (.iload_n 1) 1 65 := ⟨by decide +kernel, rfl⟩
theorem d9_plainOnward_65 : zd b9_plainOnward 65 (.iconst 2) 1 66 := ⟨by decide +kernel, rfl⟩
theorem d9_plainOnward_66 : zd b9_plainOnward 66 .irem 1 67 := ⟨by decide +kernel, rfl⟩
theorem d9_plainOnward_67 : zdb b9_plainOnward 67 (.ifCond .ne 10) 10 70 77 := ⟨by decide +kernel, rfl, by decide⟩
theorem d9_plainOnward_70 : zd b9_plainOnward 70 (.iload_n 1) 1 71 := ⟨by decide +kernel, rfl⟩
theorem d9_plainOnward_71 : zd b9_plainOnward 71 (.invokestatic 64) 3 74 := ⟨by decide +kernel, rfl⟩
theorem d9_plainOnward_74 : zdb b9_plainOnward 74 (.goto 4) 4 77 78 := ⟨by decide +kernel, rfl, by decide⟩
theorem d9_plainOnward_77 : zd b9_plainOnward 77 (.iload_n 1) 1 78 := ⟨by decide +kernel, rfl⟩
theorem d9_plainOnward_78 : zd b9_plainOnward 78 .ireturn 1 79 := ⟨by decide +kernel, rfl⟩
def f9_plainOnward (k : Nat) (x0 : Int32) (x1 : Int32) (σ : ZS) : Option (Int32 × ZS) :=
  if x0 = (0 : Int32) then (
  if (x1 % (2 : Int32)) = 0 then (
  some ((x1 + (1 : Int32)), σ))
  else (
  some ((x1 - (1 : Int32)), σ)))
  else (
  if x0 = (1 : Int32) then (
  some (((3 : Int32) - x1), σ))
  else (
  if x0 = (2 : Int32) then (
  if (x1 % (2 : Int32)) = (1 : Int32) then (
  zbd (f9_around k x1 σ) fun r6 s6 =>
  some (r6, s6))
  else (
  some (x1, σ)))
  else (
  if (x1 % (2 : Int32)) = 0 then (
  zbd (f9_around k x1 σ) fun r8 s8 =>
  some (r8, s8))
  else (
  some (x1, σ)))))
theorem c9_plainOnward (l : Launch) (g : ZG) {k : Nat} {x0 : Int32} {x1 : Int32} {σ : ZS} {r : Int32} {σr : ZS} (hf : f9_plainOnward k x0 x1 σ = some (r, σr)) : zT l g y9_plainOnward b9_plainOnward 2 (some .int) 2 80 [zi x0, zi x1] σ (some (zi r)) σr := by
  unfold f9_plainOnward at hf
  refine zT_start (own := R9) rfl (by decide +kernel) 0 (L := [some (zi x0), some (zi x1)]) rfl rfl (fun x hl C => ?_)
  subst hl
  refine z_iload_n C d9_plainOnward_0 rfl ?_
  refine z_tsw C [((0 : Int32), 28), ((1 : Int32), 44), ((2 : Int32), 48)] (d := 64) d9_plainOnward_1 (by decide) (by decide) (by decide +kernel) ?_
  refine z_swc (fun c1 => ?_) (fun c1 => ?_)
  · have hf := zit c1 hf
    refine z_iload_n C d9_plainOnward_28 rfl ?_
    refine z_iconst C (2 : Int32) d9_plainOnward_29 kI_2 ?_
    refine z_irem C d9_plainOnward_30 (by decide) ?_
    refine z_if_ne C d9_plainOnward_31 (fun c2 => ?_) (fun c2 => ?_)
    · have hf := zit c2 hf
      refine z_iload_n C d9_plainOnward_34 rfl ?_
      refine z_iconst C (1 : Int32) d9_plainOnward_35 kI_1 ?_
      refine z_iadd C d9_plainOnward_36 ?_
      refine z_goto C d9_plainOnward_37 ?_
      exact z_iret C d9_plainOnward_43 hf
    · have hf := zie c2 hf
      refine z_iload_n C d9_plainOnward_40 rfl ?_
      refine z_iconst C (1 : Int32) d9_plainOnward_41 kI_1 ?_
      refine z_isub C d9_plainOnward_42 ?_
      exact z_iret C d9_plainOnward_43 hf
  · have hf := zie c1 hf
    refine z_swc (fun c3 => ?_) (fun c3 => ?_)
    · have hf := zit c3 hf
      refine z_iconst C (3 : Int32) d9_plainOnward_44 kI_3 ?_
      refine z_iload_n C d9_plainOnward_45 rfl ?_
      refine z_isub C d9_plainOnward_46 ?_
      exact z_iret C d9_plainOnward_47 hf
    · have hf := zie c3 hf
      refine z_swc (fun c4 => ?_) (fun c4 => ?_)
      · have hf := zit c4 hf
        refine z_iload_n C d9_plainOnward_48 rfl ?_
        refine z_iconst C (2 : Int32) d9_plainOnward_49 kI_2 ?_
        refine z_irem C d9_plainOnward_50 (by decide) ?_
        refine z_iconst C (1 : Int32) d9_plainOnward_51 kI_1 ?_
        refine z_icmp_ne C d9_plainOnward_52 (fun c5 => ?_) (fun c5 => ?_)
        · have hf := zit c5 hf
          refine z_iload_n C d9_plainOnward_55 rfl ?_
          obtain ⟨r6, s6, h6, hf⟩ := zbx hf
          refine z_callSi C (as := [zi x1]) d9_plainOnward_56 w_950 yy9_around (c9_around x.2.1 g h6) rfl rfl (Nat.le_of_ble_eq_true rfl) ⟨Nat.le_of_ble_eq_true rfl, Nat.le_of_ble_eq_true rfl⟩ ⟨Nat.zero_le _, Nat.zero_le _⟩ ?_
          refine z_goto C d9_plainOnward_59 ?_
          exact z_iret C d9_plainOnward_63 hf
        · have hf := zie c5 hf
          refine z_iload_n C d9_plainOnward_62 rfl ?_
          exact z_iret C d9_plainOnward_63 hf
      · have hf := zie c4 hf
        refine z_sw0 ?_
        refine z_iload_n C d9_plainOnward_64 rfl ?_
        refine z_iconst C (2 : Int32) d9_plainOnward_65 kI_2 ?_
        refine z_irem C d9_plainOnward_66 (by decide) ?_
        refine z_if_ne C d9_plainOnward_67 (fun c7 => ?_) (fun c7 => ?_)
        · have hf := zit c7 hf
          refine z_iload_n C d9_plainOnward_70 rfl ?_
          obtain ⟨r8, s8, h8, hf⟩ := zbx hf
          refine z_callSi C (as := [zi x1]) d9_plainOnward_71 w_950 yy9_around (c9_around x.2.1 g h8) rfl rfl (Nat.le_of_ble_eq_true rfl) ⟨Nat.le_of_ble_eq_true rfl, Nat.le_of_ble_eq_true rfl⟩ ⟨Nat.zero_le _, Nat.zero_le _⟩ ?_
          refine z_goto C d9_plainOnward_74 ?_
          exact z_iret C d9_plainOnward_78 hf
        · have hf := zie c7 hf
          refine z_iload_n C d9_plainOnward_77 rfl ?_
          exact z_iret C d9_plainOnward_78 hf
theorem d9_onward_0 : zd b9_onward 0 (.aload_n 0) 1 1 := ⟨by decide +kernel, rfl⟩
theorem d9_onward_1 : zd b9_onward 1 (.iload_n 1) 1 2 := ⟨by decide +kernel, rfl⟩
theorem d9_onward_2 : zd b9_onward 2 (.iconst 3) 1 3 := ⟨by decide +kernel, rfl⟩
theorem d9_onward_3 : zd b9_onward 3 (.invokevirtual 60) 3 6 := ⟨by decide +kernel, rfl⟩
theorem d9_onward_6 : zd b9_onward 6 (.iload_n 2) 1 7 := ⟨by decide +kernel, rfl⟩
theorem d9_onward_7 : zd b9_onward 7 (.invokestatic 68) 3 10 := ⟨by decide +kernel, rfl⟩
theorem d9_onward_10 : zd b9_onward 10 (.istore_n 3) 1 11 := ⟨by decide +kernel, rfl⟩
theorem d9_onward_11 : zd b9_onward 11 (.aload_n 0) 1 12 := ⟨by decide +kernel, rfl⟩
theorem d9_onward_12 : zd b9_onward 12 (.iload_n 1) 1 13 := ⟨by decide +kernel, rfl⟩
theorem d9_onward_13 : zd b9_onward 13 (.iconst 0) 1 14 := ⟨by decide +kernel, rfl⟩
theorem d9_onward_14 : zd b9_onward 14 (.invokevirtual 60) 3 17 := ⟨by decide +kernel, rfl⟩
theorem d9_onward_17 : decode b9_onward 17 = .ok ((.tableswitch 135 1 6 #[39, 50, 63, 68, 84, 114]), 39) := by decide +kernel
theorem d9_onward_56 : zd b9_onward 56 (.iload_n 2) 1 57 := ⟨by decide +kernel, rfl⟩
theorem d9_onward_57 : zd b9_onward 57 (.iconst 2) 1 58 := ⟨by decide +kernel, rfl⟩
theorem d9_onward_58 : zdb b9_onward 58 (.if_icmp .ge 7) 7 61 65 := ⟨by decide +kernel, rfl, by decide⟩
theorem d9_onward_61 : zd b9_onward 61 (.iload_n 3) 1 62 := ⟨by decide +kernel, rfl⟩
theorem d9_onward_62 : zdb b9_onward 62 (.goto 4) 4 65 66 := ⟨by decide +kernel, rfl, by decide⟩
theorem d9_onward_65 : zd b9_onward 65 (.iload_n 2) 1 66 := ⟨by decide +kernel, rfl⟩
theorem d9_onward_66 : zd b9_onward 66 .ireturn 1 67 := ⟨by decide +kernel, rfl⟩
theorem d9_onward_67 : zd b9_onward 67 (.aload_n 0) 1 68 := ⟨by decide +kernel, rfl⟩
theorem d9_onward_68 : zd b9_onward 68 (.invokevirtual 71) 3 71 := ⟨by decide +kernel, rfl⟩
theorem d9_onward_71 : zdb b9_onward 71 (.ifCond .eq 7) 7 74 78 := ⟨by decide +kernel, rfl, by decide⟩
theorem d9_onward_74 : zd b9_onward 74 (.iload_n 3) 1 75 := ⟨by decide +kernel, rfl⟩
theorem d9_onward_75 : zdb b9_onward 75 (.goto 4) 4 78 79 := ⟨by decide +kernel, rfl, by decide⟩
theorem d9_onward_78 : zd b9_onward 78 (.iload_n 2) 1 79 := ⟨by decide +kernel, rfl⟩
theorem d9_onward_79 : zd b9_onward 79 .ireturn 1 80 := ⟨by decide +kernel, rfl⟩
theorem d9_onward_80 : zd b9_onward 80 (.iload_n 2) 1 81 := ⟨by decide +kernel, rfl⟩
theorem d9_onward_81 : zd b9_onward 81 (.invokestatic 64) 3 84 := ⟨by decide +kernel, rfl⟩
theorem d9_onward_84 : zd b9_onward 84 .ireturn 1 85 := ⟨by decide +kernel, rfl⟩
theorem d9_onward_85 : zd b9_onward 85 (.iload_n 2) 1 86 := ⟨by decide +kernel, rfl⟩
theorem d9_onward_86 : zd b9_onward 86 (.iconst 2) 1 87 := ⟨by decide +kernel, rfl⟩
theorem d9_onward_87 : zdb b9_onward 87 (.if_icmp .ge 10) 10 90 97 := ⟨by decide +kernel, rfl, by decide⟩
theorem d9_onward_90 : zd b9_onward 90 (.iload_n 3) 1 91 := ⟨by decide +kernel, rfl⟩
theorem d9_onward_91 : zd b9_onward 91 (.invokestatic 64) 3 94 := ⟨by decide +kernel, rfl⟩
theorem d9_onward_94 : zdb b9_onward 94 (.goto 6) 6 97 100 := ⟨by decide +kernel, rfl, by decide⟩
theorem d9_onward_97 : zd b9_onward 97 (.iconst 5) 1 98 := ⟨by decide +kernel, rfl⟩
theorem d9_onward_98 : zd b9_onward 98 (.iload_n 2) 1 99 := ⟨by decide +kernel, rfl⟩
theorem d9_onward_99 : zd b9_onward 99 .isub 1 100 := ⟨by decide +kernel, rfl⟩
theorem d9_onward_100 : zd b9_onward 100 .ireturn 1 101 := ⟨by decide +kernel, rfl⟩
theorem d9_onward_101 : zd b9_onward 101 (.aload_n 0) 1 102 := ⟨by decide +kernel, rfl⟩
theorem d9_onward_102 : zd b9_onward 102 (.invokevirtual 71) 3 105 := ⟨by decide +kernel, rfl⟩
theorem d9_onward_105 : zdb b9_onward 105 (.ifCond .eq 7) 7 108 112 := ⟨by decide +kernel, rfl, by decide⟩
theorem d9_onward_108 : zd b9_onward 108 (.iload_n 3) 1 109 := ⟨by decide +kernel, rfl⟩
theorem d9_onward_109 : zdb b9_onward 109 (.goto 21) 21 112 130 := ⟨by decide +kernel, rfl, by decide⟩
theorem d9_onward_112 : zd b9_onward 112 (.aload_n 0) 1 113 := ⟨by decide +kernel, rfl⟩
theorem d9_onward_113 : zd b9_onward 113 (.iload_n 1) 1 114 := ⟨by decide +kernel, rfl⟩
theorem d9_onward_114 : zd b9_onward 114 (.iconst 1) 1 115 := ⟨by decide +kernel, rfl⟩
theorem d9_onward_115 : zd b9_onward 115 (.invokevirtual 60) 3 118 := ⟨by decide +kernel, rfl⟩
theorem d9_onward_118 : zd b9_onward 118 (.iconst 4) 1 119 := ⟨by decide +kernel, rfl⟩
theorem d9_onward_119 : zdb b9_onward 119 (.if_icmp .le 10) 10 122 129 := ⟨by decide +kernel, rfl, by decide⟩
theorem d9_onward_122 : zd b9_onward 122 (.iload_n 2) 1 123 := ⟨by decide +kernel, rfl⟩
theorem d9_onward_123 : zd b9_onward 123 (.invokestatic 64) 3 126 := ⟨by decide +kernel, rfl⟩
theorem d9_onward_126 : zdb b9_onward 126 (.goto 4) 4 129 130 := ⟨by decide +kernel, rfl, by decide⟩
theorem d9_onward_129 : zd b9_onward 129 (.iload_n 2) 1 130 := ⟨by decide +kernel, rfl⟩
theorem d9_onward_130 : zd b9_onward 130 .ireturn 1 131 := ⟨by decide +kernel, rfl⟩
theorem d9_onward_131 : zd b9_onward 131 (.aload_n 0) 1 132 := ⟨by decide +kernel, rfl⟩
theorem d9_onward_132 : zd b9_onward 132 (.iload_n 1) 1 133 := ⟨by decide +kernel, rfl⟩
theorem d9_onward_133 : zd b9_onward 133 (.iconst 4) 1 134 := ⟨by decide +kernel, rfl⟩
theorem d9_onward_134 : zd b9_onward 134 (.invokevirtual 60) 3 137 := ⟨by decide +kernel, rfl⟩
theorem d9_onward_137 : zd b9_onward 137 (.aload_n 0) 1 138 := ⟨by decide +kernel, rfl⟩
theorem d9_onward_138 : zd b9_onward 138 (.iload_n 1) 1 139 := ⟨by decide +kernel, rfl⟩
theorem d9_onward_139 : zd b9_onward 139 (.iconst 1) 1 140 := ⟨by decide +kernel, rfl⟩
theorem d9_onward_140 : zd b9_onward 140 (.invokevirtual 60) 3 143 := ⟨by decide +kernel, rfl⟩
theorem d9_onward_143 : zdb b9_onward 143 (.if_icmp .le 7) 7 146 150 := ⟨by decide +kernel, rfl, by decide⟩
theorem d9_onward_146 : zd b9_onward 146 (.iconst (-1)) 1 147 := ⟨by decide +kernel, rfl⟩
theorem d9_onward_147 : zdb b9_onward 147 (.goto 4) 4 150 151 := ⟨by decide +kernel, rfl, by decide⟩
theorem d9_onward_150 : zd b9_onward 150 (.iload_n 3) 1 151 := ⟨by decide +kernel, rfl⟩
theorem d9_onward_151 : zd b9_onward 151 .ireturn 1 152 := ⟨by decide +kernel, rfl⟩
theorem d9_onward_152 : zd b9_onward 152 (.iload_n 3) 1 153 := ⟨by decide +kernel, rfl⟩
theorem d9_onward_153 : zd b9_onward 153 .ireturn 1 154 := ⟨by decide +kernel, rfl⟩
def f9_onward (k : Nat) (x1 : Int32) (x2 : Int32) (σ : ZS) : Option (Int32 × ZS) :=
  zbd (f9_of k x1 (3 : Int32) σ) fun r1 s1 =>
  zbd (f9_plainOnward k r1 x2 s1) fun r2 s2 =>
  zbd (f9_of k x1 (0 : Int32) s2) fun r3 s3 =>
  if r3 = (1 : Int32) then (
  if (2 : Int32) ≤ x2 then (
  some (x2, s3))
  else (
  some (r2, s3)))
  else (
  if r3 = (2 : Int32) then (
  zbd (f9_isNight k s3) fun r7 s7 =>
  if r7 = 0 then (
  some (x2, s7))
  else (
  some (r2, s7)))
  else (
  if r3 = (3 : Int32) then (
  zbd (f9_around k x2 s3) fun r10 s10 =>
  some (r10, s10))
  else (
  if r3 = (4 : Int32) then (
  if (2 : Int32) ≤ x2 then (
  some (((5 : Int32) - x2), s3))
  else (
  zbd (f9_around k r2 s3) fun r13 s13 =>
  some (r13, s13)))
  else (
  if r3 = (5 : Int32) then (
  zbd (f9_isNight k s3) fun r15 s15 =>
  if r15 = 0 then (
  zbd (f9_of k x1 (1 : Int32) s15) fun r17 s17 =>
  if r17 ≤ (4 : Int32) then (
  some (x2, s17))
  else (
  zbd (f9_around k x2 s17) fun r19 s19 =>
  some (r19, s19)))
  else (
  some (r2, s15)))
  else (
  if r3 = (6 : Int32) then (
  zbd (f9_of k x1 (4 : Int32) s3) fun r21 s21 =>
  zbd (f9_of k x1 (1 : Int32) s21) fun r22 s22 =>
  if r21 ≤ r22 then (
  some (r2, s22))
  else (
  some ((-1 : Int32), s22)))
  else (
  some (r2, s3)))))))
theorem c9_onward (l : Launch) (g : ZG) {k : Nat} {x1 : Int32} {x2 : Int32} {σ : ZS} {r : Int32} {σr : ZS} (hf : f9_onward k x1 x2 σ = some (r, σr)) : zT l g y9_onward b9_onward 4 (some .int) 3 101 [zr 103, zi x1, zi x2] σ (some (zi r)) σr := by
  unfold f9_onward at hf
  refine zT_start (own := R9) rfl (by decide +kernel) 1 (L := [some (zr 103), some (zi x1), some (zi x2), none]) rfl rfl (fun x hl C => ?_)
  subst hl
  refine z_aload_n C d9_onward_0 rfl ?_
  refine z_iload_n C d9_onward_1 rfl ?_
  refine z_iconst C (3 : Int32) d9_onward_2 kI_3 ?_
  obtain ⟨r1, s1, h1, hf⟩ := zbx hf
  refine z_callVi C (as := [zi x1, zi (3 : Int32)]) d9_onward_3 w_926 yy9_of (c9_of x.2.1 g h1) yc9_of kZ_103 rfl rfl (Nat.le_of_ble_eq_true rfl) ⟨Nat.le_of_ble_eq_true rfl, Nat.le_of_ble_eq_true rfl⟩ ⟨Nat.zero_le _, Nat.zero_le _⟩ ?_
  refine z_iload_n C d9_onward_6 rfl ?_
  obtain ⟨r2, s2, h2, hf⟩ := zbx hf
  refine z_callSi C (as := [zi r1, zi x2]) d9_onward_7 w_947 yy9_plainOnward (c9_plainOnward x.2.1 g h2) rfl rfl (Nat.le_of_ble_eq_true rfl) ⟨Nat.le_of_ble_eq_true rfl, Nat.le_of_ble_eq_true rfl⟩ ⟨Nat.zero_le _, Nat.zero_le _⟩ ?_
  refine z_istore_n C d9_onward_10 (Nat.le_of_ble_eq_true rfl) rfl (L' := [some (zr 103), some (zi x1), some (zi x2), some (zi r2)]) rfl ?_
  refine z_aload_n C d9_onward_11 rfl ?_
  refine z_iload_n C d9_onward_12 rfl ?_
  refine z_iconst C (0 : Int32) d9_onward_13 kI_0 ?_
  obtain ⟨r3, s3, h3, hf⟩ := zbx hf
  refine z_callVi C (as := [zi x1, zi (0 : Int32)]) d9_onward_14 w_926 yy9_of (c9_of x.2.1 g h3) yc9_of kZ_103 rfl rfl (Nat.le_of_ble_eq_true rfl) ⟨Nat.le_of_ble_eq_true rfl, Nat.le_of_ble_eq_true rfl⟩ ⟨Nat.zero_le _, Nat.zero_le _⟩ ?_
  refine z_tsw C [((1 : Int32), 56), ((2 : Int32), 67), ((3 : Int32), 80), ((4 : Int32), 85), ((5 : Int32), 101), ((6 : Int32), 131)] (d := 152) d9_onward_17 (by decide) (by decide) (by decide +kernel) ?_
  refine z_swc (fun c4 => ?_) (fun c4 => ?_)
  · have hf := zit c4 hf
    refine z_iload_n C d9_onward_56 rfl ?_
    refine z_iconst C (2 : Int32) d9_onward_57 kI_2 ?_
    refine z_icmp_ge C d9_onward_58 (fun c5 => ?_) (fun c5 => ?_)
    · have hf := zit c5 hf
      refine z_iload_n C d9_onward_65 rfl ?_
      exact z_iret C d9_onward_66 hf
    · have hf := zie c5 hf
      refine z_iload_n C d9_onward_61 rfl ?_
      refine z_goto C d9_onward_62 ?_
      exact z_iret C d9_onward_66 hf
  · have hf := zie c4 hf
    refine z_swc (fun c6 => ?_) (fun c6 => ?_)
    · have hf := zit c6 hf
      refine z_aload_n C d9_onward_67 rfl ?_
      obtain ⟨r7, s7, h7, hf⟩ := zbx hf
      refine z_callVi C (as := []) d9_onward_68 w_953 yy9_isNight (c9_isNight x.2.1 g h7) yc9_isNight kZ_103 rfl rfl (Nat.le_of_ble_eq_true rfl) ⟨Nat.le_of_ble_eq_true rfl, Nat.le_of_ble_eq_true rfl⟩ ⟨Nat.zero_le _, Nat.zero_le _⟩ ?_
      refine z_if_eq C d9_onward_71 (fun c8 => ?_) (fun c8 => ?_)
      · have hf := zit c8 hf
        refine z_iload_n C d9_onward_78 rfl ?_
        exact z_iret C d9_onward_79 hf
      · have hf := zie c8 hf
        refine z_iload_n C d9_onward_74 rfl ?_
        refine z_goto C d9_onward_75 ?_
        exact z_iret C d9_onward_79 hf
    · have hf := zie c6 hf
      refine z_swc (fun c9 => ?_) (fun c9 => ?_)
      · have hf := zit c9 hf
        refine z_iload_n C d9_onward_80 rfl ?_
        obtain ⟨r10, s10, h10, hf⟩ := zbx hf
        refine z_callSi C (as := [zi x2]) d9_onward_81 w_950 yy9_around (c9_around x.2.1 g h10) rfl rfl (Nat.le_of_ble_eq_true rfl) ⟨Nat.le_of_ble_eq_true rfl, Nat.le_of_ble_eq_true rfl⟩ ⟨Nat.zero_le _, Nat.zero_le _⟩ ?_
        exact z_iret C d9_onward_84 hf
      · have hf := zie c9 hf
        refine z_swc (fun c11 => ?_) (fun c11 => ?_)
        · have hf := zit c11 hf
          refine z_iload_n C d9_onward_85 rfl ?_
          refine z_iconst C (2 : Int32) d9_onward_86 kI_2 ?_
          refine z_icmp_ge C d9_onward_87 (fun c12 => ?_) (fun c12 => ?_)
          · have hf := zit c12 hf
            refine z_iconst C (5 : Int32) d9_onward_97 kI_5 ?_
            refine z_iload_n C d9_onward_98 rfl ?_
            refine z_isub C d9_onward_99 ?_
            exact z_iret C d9_onward_100 hf
          · have hf := zie c12 hf
            refine z_iload_n C d9_onward_90 rfl ?_
            obtain ⟨r13, s13, h13, hf⟩ := zbx hf
            refine z_callSi C (as := [zi r2]) d9_onward_91 w_950 yy9_around (c9_around x.2.1 g h13) rfl rfl (Nat.le_of_ble_eq_true rfl) ⟨Nat.le_of_ble_eq_true rfl, Nat.le_of_ble_eq_true rfl⟩ ⟨Nat.zero_le _, Nat.zero_le _⟩ ?_
            refine z_goto C d9_onward_94 ?_
            exact z_iret C d9_onward_100 hf
        · have hf := zie c11 hf
          refine z_swc (fun c14 => ?_) (fun c14 => ?_)
          · have hf := zit c14 hf
            refine z_aload_n C d9_onward_101 rfl ?_
            obtain ⟨r15, s15, h15, hf⟩ := zbx hf
            refine z_callVi C (as := []) d9_onward_102 w_953 yy9_isNight (c9_isNight x.2.1 g h15) yc9_isNight kZ_103 rfl rfl (Nat.le_of_ble_eq_true rfl) ⟨Nat.le_of_ble_eq_true rfl, Nat.le_of_ble_eq_true rfl⟩ ⟨Nat.zero_le _, Nat.zero_le _⟩ ?_
            refine z_if_eq C d9_onward_105 (fun c16 => ?_) (fun c16 => ?_)
            · have hf := zit c16 hf
              refine z_aload_n C d9_onward_112 rfl ?_
              refine z_iload_n C d9_onward_113 rfl ?_
              refine z_iconst C (1 : Int32) d9_onward_114 kI_1 ?_
              obtain ⟨r17, s17, h17, hf⟩ := zbx hf
              refine z_callVi C (as := [zi x1, zi (1 : Int32)]) d9_onward_115 w_926 yy9_of (c9_of x.2.1 g h17) yc9_of kZ_103 rfl rfl (Nat.le_of_ble_eq_true rfl) ⟨Nat.le_of_ble_eq_true rfl, Nat.le_of_ble_eq_true rfl⟩ ⟨Nat.zero_le _, Nat.zero_le _⟩ ?_
              refine z_iconst C (4 : Int32) d9_onward_118 kI_4 ?_
              refine z_icmp_le C d9_onward_119 (fun c18 => ?_) (fun c18 => ?_)
              · have hf := zit c18 hf
                refine z_iload_n C d9_onward_129 rfl ?_
                exact z_iret C d9_onward_130 hf
              · have hf := zie c18 hf
                refine z_iload_n C d9_onward_122 rfl ?_
                obtain ⟨r19, s19, h19, hf⟩ := zbx hf
                refine z_callSi C (as := [zi x2]) d9_onward_123 w_950 yy9_around (c9_around x.2.1 g h19) rfl rfl (Nat.le_of_ble_eq_true rfl) ⟨Nat.le_of_ble_eq_true rfl, Nat.le_of_ble_eq_true rfl⟩ ⟨Nat.zero_le _, Nat.zero_le _⟩ ?_
                refine z_goto C d9_onward_126 ?_
                exact z_iret C d9_onward_130 hf
            · have hf := zie c16 hf
              refine z_iload_n C d9_onward_108 rfl ?_
              refine z_goto C d9_onward_109 ?_
              exact z_iret C d9_onward_130 hf
          · have hf := zie c14 hf
            refine z_swc (fun c20 => ?_) (fun c20 => ?_)
            · have hf := zit c20 hf
              refine z_aload_n C d9_onward_131 rfl ?_
              refine z_iload_n C d9_onward_132 rfl ?_
              refine z_iconst C (4 : Int32) d9_onward_133 kI_4 ?_
              obtain ⟨r21, s21, h21, hf⟩ := zbx hf
              refine z_callVi C (as := [zi x1, zi (4 : Int32)]) d9_onward_134 w_926 yy9_of (c9_of x.2.1 g h21) yc9_of kZ_103 rfl rfl (Nat.le_of_ble_eq_true rfl) ⟨Nat.le_of_ble_eq_true rfl, Nat.le_of_ble_eq_true rfl⟩ ⟨Nat.zero_le _, Nat.zero_le _⟩ ?_
              refine z_aload_n C d9_onward_137 rfl ?_
              refine z_iload_n C d9_onward_138 rfl ?_
              refine z_iconst C (1 : Int32) d9_onward_139 kI_1 ?_
              obtain ⟨r22, s22, h22, hf⟩ := zbx hf
              refine z_callVi C (as := [zi x1, zi (1 : Int32)]) d9_onward_140 w_926 yy9_of (c9_of x.2.1 g h22) yc9_of kZ_103 rfl rfl (Nat.le_of_ble_eq_true rfl) ⟨Nat.le_of_ble_eq_true rfl, Nat.le_of_ble_eq_true rfl⟩ ⟨Nat.zero_le _, Nat.zero_le _⟩ ?_
              refine z_icmp_le C d9_onward_143 (fun c23 => ?_) (fun c23 => ?_)
              · have hf := zit c23 hf
                refine z_iload_n C d9_onward_150 rfl ?_
                exact z_iret C d9_onward_151 hf
              · have hf := zie c23 hf
                refine z_iconst C (-1 : Int32) d9_onward_146 kI_m1 ?_
                refine z_goto C d9_onward_147 ?_
                exact z_iret C d9_onward_151 hf
            · have hf := zie c20 hf
              refine z_sw0 ?_
              refine z_iload_n C d9_onward_152 rfl ?_
              exact z_iret C d9_onward_153 hf
theorem d9_meet_0 : zd b9_meet 0 (.aload_n 0) 1 1 := ⟨by decide +kernel, rfl⟩
theorem d9_meet_1 : zd b9_meet 1 (.iload_n 1) 1 2 := ⟨by decide +kernel, rfl⟩
theorem d9_meet_2 : zd b9_meet 2 (.iload_n 2) 1 3 := ⟨by decide +kernel, rfl⟩
theorem d9_meet_3 : zd b9_meet 3 (.invokevirtual 75) 3 6 := ⟨by decide +kernel, rfl⟩
theorem d9_meet_6 : zd b9_meet 6 (.istore_n 3) 1 7 := ⟨by decide +kernel, rfl⟩
theorem d9_meet_7 : zd b9_meet 7 (.iload_n 3) 1 8 := ⟨by decide +kernel, rfl⟩
theorem d9_meet_8 : zd b9_meet 8 (.iload_n 2) 1 9 := ⟨by decide +kernel, rfl⟩
theorem d9_meet_9 : zdb b9_meet 9 (.if_icmp .eq 60) 60 12 69 := ⟨by decide +kernel, rfl, by decide⟩
theorem d9_meet_12 : zd b9_meet 12 (.aload_n 0) 1 13 := ⟨by decide +kernel, rfl⟩
theorem d9_meet_13 : zd b9_meet 13 .dup 1 14 := ⟨by decide +kernel, rfl⟩
theorem d9_meet_14 : zd b9_meet 14 (.getfield 78) 3 17 := ⟨by decide +kernel, rfl⟩
theorem d9_meet_17 : zd b9_meet 17 (.iconst 1) 1 18 := ⟨by decide +kernel, rfl⟩
theorem d9_meet_18 : zd b9_meet 18 .iadd 1 19 := ⟨by decide +kernel, rfl⟩
theorem d9_meet_19 : zd b9_meet 19 (.putfield 78) 3 22 := ⟨by decide +kernel, rfl⟩
theorem d9_meet_22 : zd b9_meet 22 (.aload_n 0) 1 23 := ⟨by decide +kernel, rfl⟩
theorem d9_meet_23 : zd b9_meet 23 (.getfield 34) 3 26 := ⟨by decide +kernel, rfl⟩
theorem d9_meet_26 : zd b9_meet 26 (.iload_n 1) 1 27 := ⟨by decide +kernel, rfl⟩
theorem d9_meet_27 : zd b9_meet 27 .dup2 1 28 := ⟨by decide +kernel, rfl⟩
theorem d9_meet_28 : zd b9_meet 28 .iaload 1 29 := ⟨by decide +kernel, rfl⟩
theorem d9_meet_29 : zd b9_meet 29 (.iconst 1) 1 30 := ⟨by decide +kernel, rfl⟩
theorem d9_meet_30 : zd b9_meet 30 .iadd 1 31 := ⟨by decide +kernel, rfl⟩
theorem d9_meet_31 : zd b9_meet 31 .iastore 1 32 := ⟨by decide +kernel, rfl⟩
theorem d9_meet_32 : zd b9_meet 32 (.aload_n 0) 1 33 := ⟨by decide +kernel, rfl⟩
theorem d9_meet_33 : zd b9_meet 33 (.aload_n 0) 1 34 := ⟨by decide +kernel, rfl⟩
theorem d9_meet_34 : zd b9_meet 34 (.getfield 82) 3 37 := ⟨by decide +kernel, rfl⟩
theorem d9_meet_37 : zd b9_meet 37 (.aload_n 0) 1 38 := ⟨by decide +kernel, rfl⟩
theorem d9_meet_38 : zd b9_meet 38 (.iconst 0) 1 39 := ⟨by decide +kernel, rfl⟩
theorem d9_meet_39 : zd b9_meet 39 (.aload_n 0) 1 40 := ⟨by decide +kernel, rfl⟩
theorem d9_meet_40 : zd b9_meet 40 (.getfield 78) 3 43 := ⟨by decide +kernel, rfl⟩
theorem d9_meet_43 : zd b9_meet 43 (.aload_n 0) 1 44 := ⟨by decide +kernel, rfl⟩
theorem d9_meet_44 : zd b9_meet 44 (.iload_n 1) 1 45 := ⟨by decide +kernel, rfl⟩
theorem d9_meet_45 : zd b9_meet 45 (.iconst 0) 1 46 := ⟨by decide +kernel, rfl⟩
theorem d9_meet_46 : zd b9_meet 46 (.invokevirtual 60) 3 49 := ⟨by decide +kernel, rfl⟩
theorem d9_meet_49 : zd b9_meet 49 (.aload_n 0) 1 50 := ⟨by decide +kernel, rfl⟩
theorem d9_meet_50 : zd b9_meet 50 (.iload_n 1) 1 51 := ⟨by decide +kernel, rfl⟩
theorem d9_meet_51 : zd b9_meet 51 (.iconst 1) 1 52 := ⟨by decide +kernel, rfl⟩
theorem d9_meet_52 : zd b9_meet 52 (.invokevirtual 60) 3 55 := ⟨by decide +kernel, rfl⟩
theorem d9_meet_55 : zd b9_meet 55 (.invokevirtual 85) 3 58 := ⟨by decide +kernel, rfl⟩
theorem d9_meet_58 : zd b9_meet 58 .iadd 1 59 := ⟨by decide +kernel, rfl⟩
theorem d9_meet_59 : zd b9_meet 59 (.iconst 0) 1 60 := ⟨by decide +kernel, rfl⟩
theorem d9_meet_60 : zd b9_meet 60 (.sipush 999) 3 63 := ⟨by decide +kernel, rfl⟩
theorem d9_meet_63 : zd b9_meet 63 (.invokestatic 89) 3 66 := ⟨by decide +kernel, rfl⟩
theorem d9_meet_66 : zd b9_meet 66 (.putfield 82) 3 69 := ⟨by decide +kernel, rfl⟩
theorem d9_meet_69 : zd b9_meet 69 (.iload_n 3) 1 70 := ⟨by decide +kernel, rfl⟩
theorem d9_meet_70 : zd b9_meet 70 .ireturn 1 71 := ⟨by decide +kernel, rfl⟩
def f9_meet (k : Nat) (x1 : Int32) (x2 : Int32) (σ : ZS) : Option (Int32 × ZS) :=
  zbd (f9_onward k x1 x2 σ) fun r1 s1 =>
  if r1 = x2 then (
  some (r1, s1))
  else (
  zput (zu s1 103 10 ((s1 103 10) + (1 : Int32))) fun s3 =>
  if zin x1 8 then (
  if zin x1 8 then (
  zput (zu s3 112 (x1.toNatClampNeg) ((s3 112 x1.toNatClampNeg) + (1 : Int32))) fun s6 =>
  zbd (f9_of k x1 (0 : Int32) s6) fun r7 s7 =>
  zbd (f9_of k x1 (1 : Int32) s7) fun r8 s8 =>
  zbd (f9_gives k (0 : Int32) (s6 103 10) r7 r8 s8) fun r9 s9 =>
  zbd (f9_held k ((s6 103 12) + r9) (0 : Int32) (999 : Int32) s9) fun r10 s10 =>
  zput (zu s10 103 12 r10) fun s11 =>
  some (r1, s11)) else none) else none)
theorem c9_meet (l : Launch) (g : ZG) {k : Nat} {x1 : Int32} {x2 : Int32} {σ : ZS} {r : Int32} {σr : ZS} (hf : f9_meet k x1 x2 σ = some (r, σr)) : zT l g y9_meet b9_meet 4 (some .int) 4 132 [zr 103, zi x1, zi x2] σ (some (zi r)) σr := by
  unfold f9_meet at hf
  refine zT_start (own := R9) rfl (by decide +kernel) 1 (L := [some (zr 103), some (zi x1), some (zi x2), none]) rfl rfl (fun x hl C => ?_)
  subst hl
  refine z_aload_n C d9_meet_0 rfl ?_
  refine z_iload_n C d9_meet_1 rfl ?_
  refine z_iload_n C d9_meet_2 rfl ?_
  obtain ⟨r1, s1, h1, hf⟩ := zbx hf
  refine z_callVi C (as := [zi x1, zi x2]) d9_meet_3 w_943 yy9_onward (c9_onward x.2.1 g h1) yc9_onward kZ_103 rfl rfl (Nat.le_of_ble_eq_true rfl) ⟨Nat.le_of_ble_eq_true rfl, Nat.le_of_ble_eq_true rfl⟩ ⟨Nat.zero_le _, Nat.zero_le _⟩ ?_
  refine z_istore_n C d9_meet_6 (Nat.le_of_ble_eq_true rfl) rfl (L' := [some (zr 103), some (zi x1), some (zi x2), some (zi r1)]) rfl ?_
  refine z_iload_n C d9_meet_7 rfl ?_
  refine z_iload_n C d9_meet_8 rfl ?_
  refine z_icmp_eq C d9_meet_9 (fun c2 => ?_) (fun c2 => ?_)
  · have hf := zit c2 hf
    refine z_iload_n C d9_meet_69 rfl ?_
    exact z_iret C d9_meet_70 hf
  · have hf := zie c2 hf
    refine z_aload_n C d9_meet_12 rfl ?_
    refine z_dup C d9_meet_13 rfl ?_
    refine z_getI C d9_meet_14 fl_827 kZ_103 ?_
    refine z_iconst C (1 : Int32) d9_meet_17 kI_1 ?_
    refine z_iadd C d9_meet_18 ?_
    obtain ⟨s3, e3, hf⟩ := zpx hf
    refine z_putI C d9_meet_19 fl_827 ft_9_10 kZ_103 e3 ?_
    refine z_aload_n C d9_meet_22 rfl ?_
    refine z_getR C d9_meet_23 fl_828 kZ_103 112 rfl (zn0 kZ_112) ?_
    refine z_iload_n C d9_meet_26 rfl ?_
    refine z_dup2 C d9_meet_27 rfl rfl ?_
    obtain ⟨g4, hf⟩ := zgo hf
    refine z_iald C d9_meet_28 kZ_112 kL_112 g4 (x1.toNatClampNeg) rfl ?_
    refine z_iconst C (1 : Int32) d9_meet_29 kI_1 ?_
    refine z_iadd C d9_meet_30 ?_
    obtain ⟨g5, hf⟩ := zgo hf
    obtain ⟨s6, e6, hf⟩ := zpx hf
    refine z_iast C d9_meet_31 kZ_112 kL_112 g5 rfl e6 ?_
    refine z_aload_n C d9_meet_32 rfl ?_
    refine z_aload_n C d9_meet_33 rfl ?_
    refine z_getI C d9_meet_34 fl_829 kZ_103 ?_
    refine z_aload_n C d9_meet_37 rfl ?_
    refine z_iconst C (0 : Int32) d9_meet_38 kI_0 ?_
    refine z_aload_n C d9_meet_39 rfl ?_
    refine z_getI C d9_meet_40 fl_827 kZ_103 ?_
    refine z_aload_n C d9_meet_43 rfl ?_
    refine z_iload_n C d9_meet_44 rfl ?_
    refine z_iconst C (0 : Int32) d9_meet_45 kI_0 ?_
    obtain ⟨r7, s7, h7, hf⟩ := zbx hf
    refine z_callVi C (as := [zi x1, zi (0 : Int32)]) d9_meet_46 w_926 yy9_of (c9_of x.2.1 g h7) yc9_of kZ_103 rfl rfl (Nat.le_of_ble_eq_true rfl) ⟨Nat.le_of_ble_eq_true rfl, Nat.le_of_ble_eq_true rfl⟩ ⟨Nat.zero_le _, Nat.zero_le _⟩ ?_
    refine z_aload_n C d9_meet_49 rfl ?_
    refine z_iload_n C d9_meet_50 rfl ?_
    refine z_iconst C (1 : Int32) d9_meet_51 kI_1 ?_
    obtain ⟨r8, s8, h8, hf⟩ := zbx hf
    refine z_callVi C (as := [zi x1, zi (1 : Int32)]) d9_meet_52 w_926 yy9_of (c9_of x.2.1 g h8) yc9_of kZ_103 rfl rfl (Nat.le_of_ble_eq_true rfl) ⟨Nat.le_of_ble_eq_true rfl, Nat.le_of_ble_eq_true rfl⟩ ⟨Nat.zero_le _, Nat.zero_le _⟩ ?_
    obtain ⟨r9, s9, h9, hf⟩ := zbx hf
    refine z_callVi C (as := [zi (0 : Int32), zi (s6 103 10), zi r7, zi r8]) d9_meet_55 w_1013 yy9_gives (c9_gives x.2.1 g h9) yc9_gives kZ_103 rfl rfl (Nat.le_of_ble_eq_true rfl) ⟨Nat.le_of_ble_eq_true rfl, Nat.le_of_ble_eq_true rfl⟩ ⟨Nat.zero_le _, Nat.zero_le _⟩ ?_
    refine z_iadd C d9_meet_58 ?_
    refine z_iconst C (0 : Int32) d9_meet_59 kI_0 ?_
    refine z_sipush C (999 : Int32) d9_meet_60 kS_999 ?_
    obtain ⟨r10, s10, h10, hf⟩ := zbx hf
    refine z_callSi C (as := [zi ((s6 103 12) + r9), zi (0 : Int32), zi (999 : Int32)]) d9_meet_63 w_1024 yy9_held (c9_held x.2.1 g h10) rfl rfl (Nat.le_of_ble_eq_true rfl) ⟨Nat.le_of_ble_eq_true rfl, Nat.le_of_ble_eq_true rfl⟩ ⟨Nat.zero_le _, Nat.zero_le _⟩ ?_
    obtain ⟨s11, e11, hf⟩ := zpx hf
    refine z_putI C d9_meet_66 fl_829 ft_9_12 kZ_103 e11 ?_
    refine z_iload_n C d9_meet_69 rfl ?_
    exact z_iret C d9_meet_70 hf
theorem d9_next_0 : zd b9_next 0 (.iload_n 1) 1 1 := ⟨by decide +kernel, rfl⟩
theorem d9_next_1 : decode b9_next 1 = .ok ((.tableswitch 74 0 2 #[27, 42, 59]), 27) := by decide +kernel
theorem d9_next_28 : zd b9_next 28 (.iload_n 0) 1 29 := ⟨by decide +kernel, rfl⟩
theorem d9_next_29 : zd b9_next 29 (.bipush 8) 2 31 := ⟨by decide +kernel, rfl⟩
theorem d9_next_31 : zdb b9_next 31 (.if_icmp .ge 7) 7 34 38 := ⟨by decide +kernel, rfl, by decide⟩
theorem d9_next_34 : zd b9_next 34 (.iconst (-1)) 1 35 := ⟨by decide +kernel, rfl⟩
theorem d9_next_35 : zdb b9_next 35 (.goto 7) 7 38 42 := ⟨by decide +kernel, rfl, by decide⟩
theorem d9_next_38 : zd b9_next 38 (.iload_n 0) 1 39 := ⟨by decide +kernel, rfl⟩
theorem d9_next_39 : zd b9_next 39 (.bipush 8) 2 41 := ⟨by decide +kernel, rfl⟩
theorem d9_next_41 : zd b9_next 41 .isub 1 42 := ⟨by decide +kernel, rfl⟩
theorem d9_next_42 : zd b9_next 42 .ireturn 1 43 := ⟨by decide +kernel, rfl⟩
theorem d9_next_43 : zd b9_next 43 (.iload_n 0) 1 44 := ⟨by decide +kernel, rfl⟩
theorem d9_next_44 : zd b9_next 44 (.bipush 8) 2 46 := ⟨by decide +kernel, rfl⟩
theorem d9_next_46 : zd b9_next 46 .irem 1 47 := ⟨by decide +kernel, rfl⟩
theorem d9_next_47 : zd b9_next 47 (.bipush 7) 2 49 := ⟨by decide +kernel, rfl⟩
theorem d9_next_49 : zdb b9_next 49 (.if_icmp .ne 7) 7 52 56 := ⟨by decide +kernel, rfl, by decide⟩
theorem d9_next_52 : zd b9_next 52 (.iconst (-1)) 1 53 := ⟨by decide +kernel, rfl⟩
theorem d9_next_53 : zdb b9_next 53 (.goto 6) 6 56 59 := ⟨by decide +kernel, rfl, by decide⟩
theorem d9_next_56 : zd b9_next 56 (.iload_n 0) 1 57 := ⟨by decide +kernel, rfl⟩
theorem d9_next_57 : zd b9_next 57 (.iconst 1) 1 58 := ⟨by decide +kernel, rfl⟩
theorem d9_next_58 : zd b9_next 58 .iadd 1 59 := ⟨by decide +kernel, rfl⟩
theorem d9_next_59 : zd b9_next 59 .ireturn 1 60 := ⟨by decide +kernel, rfl⟩
theorem d9_next_60 : zd b9_next 60 (.iload_n 0) 1 61 := ⟨by decide +kernel, rfl⟩
theorem d9_next_61 : zd b9_next 61 (.bipush 55) 2 63 := ⟨by decide +kernel, rfl⟩
theorem d9_next_63 : zdb b9_next 63 (.if_icmp .le 7) 7 66 70 := ⟨by decide +kernel, rfl, by decide⟩
theorem d9_next_66 : zd b9_next 66 (.iconst (-1)) 1 67 := ⟨by decide +kernel, rfl⟩
theorem d9_next_67 : zdb b9_next 67 (.goto 7) 7 70 74 := ⟨by decide +kernel, rfl, by decide⟩
theorem d9_next_70 : zd b9_next 70 (.iload_n 0) 1 71 := ⟨by decide +kernel, rfl⟩
theorem d9_next_71 : zd b9_next 71 (.bipush 8) 2 73 := ⟨by decide +kernel, rfl⟩
theorem d9_next_73 : zd b9_next 73 .iadd 1 74 := ⟨by decide +kernel, rfl⟩
theorem d9_next_74 : zd b9_next 74 .ireturn 1 75 := ⟨by decide +kernel, rfl⟩
theorem d9_next_75 : zd b9_next 75 (.iload_n 0) 1 76 := ⟨by decide +kernel, rfl⟩
theorem d9_next_76 : zd b9_next 76 (.bipush 8) 2 78 := ⟨by decide +kernel, rfl⟩
theorem d9_next_78 : zd b9_next 78 .irem 1 79 := ⟨by decide +kernel, rfl⟩
theorem d9_next_79 : zdb b9_next 79 (.ifCond .ne 7) 7 82 86 := ⟨by decide +kernel, rfl, by decide⟩
theorem d9_next_82 : zd b9_next 82 (.iconst (-1)) 1 83 := ⟨by decide +kernel, rfl⟩
theorem d9_next_83 : zdb b9_next 83 (.goto 6) 6 86 89 := ⟨by decide +kernel, rfl, by decide⟩
theorem d9_next_86 : zd b9_next 86 (.iload_n 0) 1 87 := ⟨by decide +kernel, rfl⟩
theorem d9_next_87 : zd b9_next 87 (.iconst 1) 1 88 := ⟨by decide +kernel, rfl⟩
theorem d9_next_88 : zd b9_next 88 .isub 1 89 := ⟨by decide +kernel, rfl⟩
theorem d9_next_89 : zd b9_next 89 .ireturn 1 90 := ⟨by decide +kernel, rfl⟩
def f9_next (k : Nat) (x0 : Int32) (x1 : Int32) (σ : ZS) : Option (Int32 × ZS) :=
  if x1 = (0 : Int32) then (
  if (8 : Int32) ≤ x0 then (
  some ((x0 - (8 : Int32)), σ))
  else (
  some ((-1 : Int32), σ)))
  else (
  if x1 = (1 : Int32) then (
  if (x0 % (8 : Int32)) = (7 : Int32) then (
  some ((-1 : Int32), σ))
  else (
  some ((x0 + (1 : Int32)), σ)))
  else (
  if x1 = (2 : Int32) then (
  if x0 ≤ (55 : Int32) then (
  some ((x0 + (8 : Int32)), σ))
  else (
  some ((-1 : Int32), σ)))
  else (
  if (x0 % (8 : Int32)) = 0 then (
  some ((-1 : Int32), σ))
  else (
  some ((x0 - (1 : Int32)), σ)))))
theorem c9_next (l : Launch) (g : ZG) {k : Nat} {x0 : Int32} {x1 : Int32} {σ : ZS} {r : Int32} {σr : ZS} (hf : f9_next k x0 x1 σ = some (r, σr)) : zT l g y9_next b9_next 2 (some .int) 1 60 [zi x0, zi x1] σ (some (zi r)) σr := by
  unfold f9_next at hf
  refine zT_start (own := R9) rfl (by decide +kernel) 0 (L := [some (zi x0), some (zi x1)]) rfl rfl (fun x hl C => ?_)
  subst hl
  refine z_iload_n C d9_next_0 rfl ?_
  refine z_tsw C [((0 : Int32), 28), ((1 : Int32), 43), ((2 : Int32), 60)] (d := 75) d9_next_1 (by decide) (by decide) (by decide +kernel) ?_
  refine z_swc (fun c1 => ?_) (fun c1 => ?_)
  · have hf := zit c1 hf
    refine z_iload_n C d9_next_28 rfl ?_
    refine z_bipush C (8 : Int32) d9_next_29 kB_8 ?_
    refine z_icmp_ge C d9_next_31 (fun c2 => ?_) (fun c2 => ?_)
    · have hf := zit c2 hf
      refine z_iload_n C d9_next_38 rfl ?_
      refine z_bipush C (8 : Int32) d9_next_39 kB_8 ?_
      refine z_isub C d9_next_41 ?_
      exact z_iret C d9_next_42 hf
    · have hf := zie c2 hf
      refine z_iconst C (-1 : Int32) d9_next_34 kI_m1 ?_
      refine z_goto C d9_next_35 ?_
      exact z_iret C d9_next_42 hf
  · have hf := zie c1 hf
    refine z_swc (fun c3 => ?_) (fun c3 => ?_)
    · have hf := zit c3 hf
      refine z_iload_n C d9_next_43 rfl ?_
      refine z_bipush C (8 : Int32) d9_next_44 kB_8 ?_
      refine z_irem C d9_next_46 (by decide) ?_
      refine z_bipush C (7 : Int32) d9_next_47 kB_7 ?_
      refine z_icmp_ne C d9_next_49 (fun c4 => ?_) (fun c4 => ?_)
      · have hf := zit c4 hf
        refine z_iconst C (-1 : Int32) d9_next_52 kI_m1 ?_
        refine z_goto C d9_next_53 ?_
        exact z_iret C d9_next_59 hf
      · have hf := zie c4 hf
        refine z_iload_n C d9_next_56 rfl ?_
        refine z_iconst C (1 : Int32) d9_next_57 kI_1 ?_
        refine z_iadd C d9_next_58 ?_
        exact z_iret C d9_next_59 hf
    · have hf := zie c3 hf
      refine z_swc (fun c5 => ?_) (fun c5 => ?_)
      · have hf := zit c5 hf
        refine z_iload_n C d9_next_60 rfl ?_
        refine z_bipush C (55 : Int32) d9_next_61 kB_55 ?_
        refine z_icmp_le C d9_next_63 (fun c6 => ?_) (fun c6 => ?_)
        · have hf := zit c6 hf
          refine z_iload_n C d9_next_70 rfl ?_
          refine z_bipush C (8 : Int32) d9_next_71 kB_8 ?_
          refine z_iadd C d9_next_73 ?_
          exact z_iret C d9_next_74 hf
        · have hf := zie c6 hf
          refine z_iconst C (-1 : Int32) d9_next_66 kI_m1 ?_
          refine z_goto C d9_next_67 ?_
          exact z_iret C d9_next_74 hf
      · have hf := zie c5 hf
        refine z_sw0 ?_
        refine z_iload_n C d9_next_75 rfl ?_
        refine z_bipush C (8 : Int32) d9_next_76 kB_8 ?_
        refine z_irem C d9_next_78 (by decide) ?_
        refine z_if_ne C d9_next_79 (fun c7 => ?_) (fun c7 => ?_)
        · have hf := zit c7 hf
          refine z_iconst C (-1 : Int32) d9_next_82 kI_m1 ?_
          refine z_goto C d9_next_83 ?_
          exact z_iret C d9_next_89 hf
        · have hf := zie c7 hf
          refine z_iload_n C d9_next_86 rfl ?_
          refine z_iconst C (1 : Int32) d9_next_87 kI_1 ?_
          refine z_isub C d9_next_88 ?_
          exact z_iret C d9_next_89 hf
theorem d9_looks_0 : zd b9_looks 0 (.aload_n 0) 1 1 := ⟨by decide +kernel, rfl⟩
theorem d9_looks_1 : zd b9_looks 1 (.iconst 0) 1 2 := ⟨by decide +kernel, rfl⟩
theorem d9_looks_2 : zd b9_looks 2 (.putfield 78) 3 5 := ⟨by decide +kernel, rfl⟩
theorem d9_looks_5 : zd b9_looks 5 (.aload_n 0) 1 6 := ⟨by decide +kernel, rfl⟩
theorem d9_looks_6 : zd b9_looks 6 (.iconst 0) 1 7 := ⟨by decide +kernel, rfl⟩
theorem d9_looks_7 : zd b9_looks 7 (.putfield 82) 3 10 := ⟨by decide +kernel, rfl⟩
theorem d9_looks_10 : zd b9_looks 10 (.iconst 0) 1 11 := ⟨by decide +kernel, rfl⟩
theorem d9_looks_11 : zd b9_looks 11 (.istore_n 3) 1 12 := ⟨by decide +kernel, rfl⟩
theorem d9_looks_12 : zd b9_looks 12 (.iload_n 3) 1 13 := ⟨by decide +kernel, rfl⟩
theorem d9_looks_13 : zd b9_looks 13 (.bipush 8) 2 15 := ⟨by decide +kernel, rfl⟩
theorem d9_looks_15 : zdb b9_looks 15 (.if_icmp .ge 16) 16 18 31 := ⟨by decide +kernel, rfl, by decide⟩
theorem d9_looks_18 : zd b9_looks 18 (.aload_n 0) 1 19 := ⟨by decide +kernel, rfl⟩
theorem d9_looks_19 : zd b9_looks 19 (.getfield 34) 3 22 := ⟨by decide +kernel, rfl⟩
theorem d9_looks_22 : zd b9_looks 22 (.iload_n 3) 1 23 := ⟨by decide +kernel, rfl⟩
theorem d9_looks_23 : zd b9_looks 23 (.iconst 0) 1 24 := ⟨by decide +kernel, rfl⟩
theorem d9_looks_24 : zd b9_looks 24 .iastore 1 25 := ⟨by decide +kernel, rfl⟩
theorem d9_looks_25 : zd b9_looks 25 (.iinc 3 1) 3 28 := ⟨by decide +kernel, rfl⟩
theorem d9_looks_28 : zdb b9_looks 28 (.goto (-16)) (-16) 31 12 := ⟨by decide +kernel, rfl, by decide⟩
theorem d9_looks_31 : zd b9_looks 31 (.aload_n 0) 1 32 := ⟨by decide +kernel, rfl⟩
theorem d9_looks_32 : zd b9_looks 32 (.getfield 31) 3 35 := ⟨by decide +kernel, rfl⟩
theorem d9_looks_35 : zd b9_looks 35 (.iconst 0) 1 36 := ⟨by decide +kernel, rfl⟩
theorem d9_looks_36 : zd b9_looks 36 (.iload_n 1) 1 37 := ⟨by decide +kernel, rfl⟩
theorem d9_looks_37 : zd b9_looks 37 .iastore 1 38 := ⟨by decide +kernel, rfl⟩
theorem d9_looks_38 : zd b9_looks 38 (.aload_n 0) 1 39 := ⟨by decide +kernel, rfl⟩
theorem d9_looks_39 : zd b9_looks 39 (.iconst 1) 1 40 := ⟨by decide +kernel, rfl⟩
theorem d9_looks_40 : zd b9_looks 40 (.putfield 93) 3 43 := ⟨by decide +kernel, rfl⟩
theorem d9_looks_43 : zd b9_looks 43 (.iload_n 2) 1 44 := ⟨by decide +kernel, rfl⟩
theorem d9_looks_44 : zd b9_looks 44 (.istore_n 3) 1 45 := ⟨by decide +kernel, rfl⟩
theorem d9_looks_45 : zd b9_looks 45 (.iload_n 1) 1 46 := ⟨by decide +kernel, rfl⟩
theorem d9_looks_46 : zd b9_looks 46 (.iload_n 3) 1 47 := ⟨by decide +kernel, rfl⟩
theorem d9_looks_47 : zd b9_looks 47 (.invokestatic 96) 3 50 := ⟨by decide +kernel, rfl⟩
theorem d9_looks_50 : zd b9_looks 50 (.istore 4) 2 52 := ⟨by decide +kernel, rfl⟩
theorem d9_looks_52 : zd b9_looks 52 (.iload 4) 2 54 := ⟨by decide +kernel, rfl⟩
theorem d9_looks_54 : zdb b9_looks 54 (.ifCond .lt 79) 79 57 133 := ⟨by decide +kernel, rfl, by decide⟩
theorem d9_looks_57 : zd b9_looks 57 (.aload_n 0) 1 58 := ⟨by decide +kernel, rfl⟩
theorem d9_looks_58 : zd b9_looks 58 (.getfield 93) 3 61 := ⟨by decide +kernel, rfl⟩
theorem d9_looks_61 : zd b9_looks 61 (.sipush 257) 3 64 := ⟨by decide +kernel, rfl⟩
theorem d9_looks_64 : zdb b9_looks 64 (.if_icmp .ge 69) 69 67 133 := ⟨by decide +kernel, rfl, by decide⟩
theorem d9_looks_67 : zd b9_looks 67 (.aload_n 0) 1 68 := ⟨by decide +kernel, rfl⟩
theorem d9_looks_68 : zd b9_looks 68 (.getfield 31) 3 71 := ⟨by decide +kernel, rfl⟩
theorem d9_looks_71 : zd b9_looks 71 (.aload_n 0) 1 72 := ⟨by decide +kernel, rfl⟩
theorem d9_looks_72 : zd b9_looks 72 (.getfield 93) 3 75 := ⟨by decide +kernel, rfl⟩
theorem d9_looks_75 : zd b9_looks 75 (.iload 4) 2 77 := ⟨by decide +kernel, rfl⟩
theorem d9_looks_77 : zd b9_looks 77 .iastore 1 78 := ⟨by decide +kernel, rfl⟩
theorem d9_looks_78 : zd b9_looks 78 (.aload_n 0) 1 79 := ⟨by decide +kernel, rfl⟩
theorem d9_looks_79 : zd b9_looks 79 .dup 1 80 := ⟨by decide +kernel, rfl⟩
theorem d9_looks_80 : zd b9_looks 80 (.getfield 93) 3 83 := ⟨by decide +kernel, rfl⟩
theorem d9_looks_83 : zd b9_looks 83 (.iconst 1) 1 84 := ⟨by decide +kernel, rfl⟩
theorem d9_looks_84 : zd b9_looks 84 .iadd 1 85 := ⟨by decide +kernel, rfl⟩
theorem d9_looks_85 : zd b9_looks 85 (.putfield 93) 3 88 := ⟨by decide +kernel, rfl⟩
theorem d9_looks_88 : zd b9_looks 88 (.aload_n 0) 1 89 := ⟨by decide +kernel, rfl⟩
theorem d9_looks_89 : zd b9_looks 89 (.iload 4) 2 91 := ⟨by decide +kernel, rfl⟩
theorem d9_looks_91 : zd b9_looks 91 (.invokevirtual 99) 3 94 := ⟨by decide +kernel, rfl⟩
theorem d9_looks_94 : zd b9_looks 94 (.istore 5) 2 96 := ⟨by decide +kernel, rfl⟩
theorem d9_looks_96 : zd b9_looks 96 (.iload 5) 2 98 := ⟨by decide +kernel, rfl⟩
theorem d9_looks_98 : zdb b9_looks 98 (.ifCond .ge 7) 7 101 105 := ⟨by decide +kernel, rfl, by decide⟩
theorem d9_looks_101 : zd b9_looks 101 (.iload_n 3) 1 102 := ⟨by decide +kernel, rfl⟩
theorem d9_looks_102 : zdb b9_looks 102 (.goto 10) 10 105 112 := ⟨by decide +kernel, rfl, by decide⟩
theorem d9_looks_105 : zd b9_looks 105 (.aload_n 0) 1 106 := ⟨by decide +kernel, rfl⟩
theorem d9_looks_106 : zd b9_looks 106 (.iload 5) 2 108 := ⟨by decide +kernel, rfl⟩
theorem d9_looks_108 : zd b9_looks 108 (.iload_n 3) 1 109 := ⟨by decide +kernel, rfl⟩
theorem d9_looks_109 : zd b9_looks 109 (.invokevirtual 102) 3 112 := ⟨by decide +kernel, rfl⟩
theorem d9_looks_112 : zd b9_looks 112 (.istore_n 3) 1 113 := ⟨by decide +kernel, rfl⟩
theorem d9_looks_113 : zd b9_looks 113 (.iload_n 3) 1 114 := ⟨by decide +kernel, rfl⟩
theorem d9_looks_114 : zd b9_looks 114 (.iconst (-1)) 1 115 := ⟨by decide +kernel, rfl⟩
theorem d9_looks_115 : zdb b9_looks 115 (.if_icmp .ne 7) 7 118 122 := ⟨by decide +kernel, rfl, by decide⟩
theorem d9_looks_118 : zd b9_looks 118 (.iconst (-1)) 1 119 := ⟨by decide +kernel, rfl⟩
theorem d9_looks_119 : zdb b9_looks 119 (.goto 9) 9 122 128 := ⟨by decide +kernel, rfl, by decide⟩
theorem d9_looks_122 : zd b9_looks 122 (.iload 4) 2 124 := ⟨by decide +kernel, rfl⟩
theorem d9_looks_124 : zd b9_looks 124 (.iload_n 3) 1 125 := ⟨by decide +kernel, rfl⟩
theorem d9_looks_125 : zd b9_looks 125 (.invokestatic 96) 3 128 := ⟨by decide +kernel, rfl⟩
theorem d9_looks_128 : zd b9_looks 128 (.istore 4) 2 130 := ⟨by decide +kernel, rfl⟩
theorem d9_looks_130 : zdb b9_looks 130 (.goto (-78)) (-78) 133 52 := ⟨by decide +kernel, rfl, by decide⟩
theorem d9_looks_133 : zd b9_looks 133 (.aload_n 0) 1 134 := ⟨by decide +kernel, rfl⟩
theorem d9_looks_134 : zd b9_looks 134 (.iload 4) 2 136 := ⟨by decide +kernel, rfl⟩
theorem d9_looks_136 : zdb b9_looks 136 (.ifCond .lt 7) 7 139 143 := ⟨by decide +kernel, rfl, by decide⟩
theorem d9_looks_139 : zd b9_looks 139 (.iconst 1) 1 140 := ⟨by decide +kernel, rfl⟩
theorem d9_looks_140 : zdb b9_looks 140 (.goto 4) 4 143 144 := ⟨by decide +kernel, rfl, by decide⟩
theorem d9_looks_143 : zd b9_looks 143 (.iconst 0) 1 144 := ⟨by decide +kernel, rfl⟩
theorem d9_looks_144 : zd b9_looks 144 (.putfield 105) 3 147 := ⟨by decide +kernel, rfl⟩
theorem d9_looks_147 : zd b9_looks 147 (.aload_n 0) 1 148 := ⟨by decide +kernel, rfl⟩
theorem d9_looks_148 : zd b9_looks 148 (.aload_n 0) 1 149 := ⟨by decide +kernel, rfl⟩
theorem d9_looks_149 : zd b9_looks 149 (.getfield 105) 3 152 := ⟨by decide +kernel, rfl⟩
theorem d9_looks_152 : zdb b9_looks 152 (.ifCond .eq 9) 9 155 161 := ⟨by decide +kernel, rfl, by decide⟩
theorem d9_looks_155 : zd b9_looks 155 (.sipush 999) 3 158 := ⟨by decide +kernel, rfl⟩
theorem d9_looks_158 : zdb b9_looks 158 (.goto 7) 7 161 165 := ⟨by decide +kernel, rfl, by decide⟩
theorem d9_looks_161 : zd b9_looks 161 (.aload_n 0) 1 162 := ⟨by decide +kernel, rfl⟩
theorem d9_looks_162 : zd b9_looks 162 (.getfield 82) 3 165 := ⟨by decide +kernel, rfl⟩
theorem d9_looks_165 : zd b9_looks 165 (.putfield 82) 3 168 := ⟨by decide +kernel, rfl⟩
theorem d9_looks_168 : zd b9_looks 168 .return_ 1 169 := ⟨by decide +kernel, rfl⟩
def b9_looks_133 (k : Nat) (x4 : Int32) (σ : ZS) : Option (Unit × ZS) :=
  if x4 < 0 then (
  zput (zu σ 103 13 (0 : Int32)) fun s2 =>
  if (s2 103 13) = 0 then (
  zput (zu s2 103 12 (s2 103 12)) fun s4 =>
  some ((), s4))
  else (
  zput (zu s2 103 12 (999 : Int32)) fun s5 =>
  some ((), s5)))
  else (
  zput (zu σ 103 13 (1 : Int32)) fun s6 =>
  if (s6 103 13) = 0 then (
  zput (zu s6 103 12 (s6 103 12)) fun s8 =>
  some ((), s8))
  else (
  zput (zu s6 103 12 (999 : Int32)) fun s9 =>
  some ((), s9)))
theorem j9_looks_133 {x : ZX} {g : ZG} (C : zC x g b9_looks R9 none 6 5 155) {k : Nat} {r : Unit} {σr : ZS}  {x4 : Int32} {σ : ZS} (hf : b9_looks_133 k  x4 σ = some (r, σr)) : zw x g 6 0 0 (zMQ x g none σr) σ 133 [some (zr 103), none, none, none, some (zi x4), none] [] := by
  unfold b9_looks_133 at hf
  refine z_aload_n C d9_looks_133 rfl ?_
  refine z_iload C d9_looks_134 rfl ?_
  refine z_if_lt C d9_looks_136 (fun c1 => ?_) (fun c1 => ?_)
  · have hf := zit c1 hf
    refine z_iconst C (0 : Int32) d9_looks_143 kI_0 ?_
    obtain ⟨s2, e2, hf⟩ := zpx hf
    refine z_putZ C d9_looks_144 fl_830 ft_9_13 kZ_103 (Or.inl rfl) e2 ?_
    refine z_aload_n C d9_looks_147 rfl ?_
    refine z_aload_n C d9_looks_148 rfl ?_
    refine z_getI C d9_looks_149 fl_830 kZ_103 ?_
    refine z_if_eq C d9_looks_152 (fun c3 => ?_) (fun c3 => ?_)
    · have hf := zit c3 hf
      refine z_aload_n C d9_looks_161 rfl ?_
      refine z_getI C d9_looks_162 fl_829 kZ_103 ?_
      obtain ⟨s4, e4, hf⟩ := zpx hf
      refine z_putI C d9_looks_165 fl_829 ft_9_12 kZ_103 e4 ?_
      exact z_vret C d9_looks_168 hf
    · have hf := zie c3 hf
      refine z_sipush C (999 : Int32) d9_looks_155 kS_999 ?_
      refine z_goto C d9_looks_158 ?_
      obtain ⟨s5, e5, hf⟩ := zpx hf
      refine z_putI C d9_looks_165 fl_829 ft_9_12 kZ_103 e5 ?_
      exact z_vret C d9_looks_168 hf
  · have hf := zie c1 hf
    refine z_iconst C (1 : Int32) d9_looks_139 kI_1 ?_
    refine z_goto C d9_looks_140 ?_
    obtain ⟨s6, e6, hf⟩ := zpx hf
    refine z_putZ C d9_looks_144 fl_830 ft_9_13 kZ_103 (Or.inr rfl) e6 ?_
    refine z_aload_n C d9_looks_147 rfl ?_
    refine z_aload_n C d9_looks_148 rfl ?_
    refine z_getI C d9_looks_149 fl_830 kZ_103 ?_
    refine z_if_eq C d9_looks_152 (fun c7 => ?_) (fun c7 => ?_)
    · have hf := zit c7 hf
      refine z_aload_n C d9_looks_161 rfl ?_
      refine z_getI C d9_looks_162 fl_829 kZ_103 ?_
      obtain ⟨s8, e8, hf⟩ := zpx hf
      refine z_putI C d9_looks_165 fl_829 ft_9_12 kZ_103 e8 ?_
      exact z_vret C d9_looks_168 hf
    · have hf := zie c7 hf
      refine z_sipush C (999 : Int32) d9_looks_155 kS_999 ?_
      refine z_goto C d9_looks_158 ?_
      obtain ⟨s9, e9, hf⟩ := zpx hf
      refine z_putI C d9_looks_165 fl_829 ft_9_12 kZ_103 e9 ?_
      exact z_vret C d9_looks_168 hf
def b9_looks_112 (k : Nat) (q52 : Int32 → Int32 → ZS → Option (Unit × ZS)) (x4 : Int32) (v0 : Int32) (σ : ZS) : Option (Unit × ZS) :=
  if v0 = (-1 : Int32) then (
  q52 v0 (-1 : Int32) σ)
  else (
  zbd (f9_next k x4 v0 σ) fun r2 s2 =>
  q52 v0 r2 s2)
theorem j9_looks_112 {x : ZX} {g : ZG} (C : zC x g b9_looks R9 none 6 5 155) {k : Nat} {r : Unit} {σr : ZS}  {q52 : Int32 → Int32 → ZS → Option (Unit × ZS)} (hq52 : (∀ (x3 : Int32) (x4 : Int32) (σ : ZS), q52 x3 x4 σ = some (r, σr) → zw x g 6 0 0 (zMQ x g none σr) σ 52 [some (zr 103), none, none, some (zi x3), some (zi x4), none] [])) {x4 : Int32} {v0 : Int32} {σ : ZS} (hf : b9_looks_112 k q52 x4 v0 σ = some (r, σr)) : zw x g 6 0 0 (zMQ x g none σr) σ 112 [some (zr 103), none, none, none, some (zi x4), none] [zi v0] := by
  unfold b9_looks_112 at hf
  refine z_istore_n C d9_looks_112 (Nat.le_of_ble_eq_true rfl) rfl (L' := [some (zr 103), none, none, some (zi v0), some (zi x4), none]) rfl ?_
  refine z_iload_n C d9_looks_113 rfl ?_
  refine z_iconst C (-1 : Int32) d9_looks_114 kI_m1 ?_
  refine z_icmp_ne C d9_looks_115 (fun c1 => ?_) (fun c1 => ?_)
  · have hf := zit c1 hf
    refine z_iconst C (-1 : Int32) d9_looks_118 kI_m1 ?_
    refine z_goto C d9_looks_119 ?_
    refine z_istore C d9_looks_128 (Nat.le_of_ble_eq_true rfl) rfl (L' := [some (zr 103), none, none, some (zi v0), some (zi (-1 : Int32)), none]) rfl ?_
    refine z_goto C d9_looks_130 ?_
    exact hq52 _ _ _ hf
  · have hf := zie c1 hf
    refine z_iload C d9_looks_122 rfl ?_
    refine z_iload_n C d9_looks_124 rfl ?_
    obtain ⟨r2, s2, h2, hf⟩ := zbx hf
    refine z_callSi C (as := [zi x4, zi v0]) d9_looks_125 w_1006 yy9_next (c9_next x.2.1 g h2) rfl rfl (Nat.le_of_ble_eq_true rfl) ⟨Nat.le_of_ble_eq_true rfl, Nat.le_of_ble_eq_true rfl⟩ ⟨Nat.zero_le _, Nat.zero_le _⟩ ?_
    refine z_istore C d9_looks_128 (Nat.le_of_ble_eq_true rfl) rfl (L' := [some (zr 103), none, none, some (zi v0), some (zi r2), none]) rfl ?_
    refine z_goto C d9_looks_130 ?_
    exact hq52 _ _ _ hf
def b9_looks_52 (k : Nat) (q52 : Int32 → Int32 → ZS → Option (Unit × ZS)) (x3 : Int32) (x4 : Int32) (σ : ZS) : Option (Unit × ZS) :=
  if x4 < 0 then (
  b9_looks_133 k  x4 σ)
  else (
  if (257 : Int32) ≤ (σ 103 9) then (
  b9_looks_133 k  x4 σ)
  else (
  if zin (σ 103 9) 257 then (
  zput (zu σ 111 ((σ 103 9).toNatClampNeg) x4) fun s4 =>
  zput (zu s4 103 9 ((s4 103 9) + (1 : Int32))) fun s5 =>
  zbd (f9_glassAt k x4 s5) fun r6 s6 =>
  if 0 ≤ r6 then (
  zbd (f9_meet k r6 x3 s6) fun r8 s8 =>
  b9_looks_112 k q52 x4 r8 s8)
  else (
  b9_looks_112 k q52 x4 x3 s6)) else none))
def f9_looks_52 (k : Nat) : Nat → Int32 → Int32 → ZS → Option (Unit × ZS)
  | 0 => fun _ _ _ => none
  | n + 1 => b9_looks_52 k  (f9_looks_52 k  n)
theorem j9_looks_52 {x : ZX} {g : ZG} (C : zC x g b9_looks R9 none 6 5 155) {k : Nat} {r : Unit} {σr : ZS}  {q52 : Int32 → Int32 → ZS → Option (Unit × ZS)} (hq52 : (∀ (x3 : Int32) (x4 : Int32) (σ : ZS), q52 x3 x4 σ = some (r, σr) → zw x g 6 0 0 (zMQ x g none σr) σ 52 [some (zr 103), none, none, some (zi x3), some (zi x4), none] [])) {x3 : Int32} {x4 : Int32} {σ : ZS} (hf : b9_looks_52 k q52 x3 x4 σ = some (r, σr)) : zw x g 6 0 0 (zMQ x g none σr) σ 52 [some (zr 103), none, none, some (zi x3), some (zi x4), none] [] := by
  unfold b9_looks_52 at hf
  refine z_iload C d9_looks_52 rfl ?_
  refine z_if_lt C d9_looks_54 (fun c1 => ?_) (fun c1 => ?_)
  · have hf := zit c1 hf
    refine z_drop [true, false, false, false, true, false] (L' := [some (zr 103), none, none, none, some (zi x4), none]) rfl ?_
    exact j9_looks_133 C  hf
  · have hf := zie c1 hf
    refine z_aload_n C d9_looks_57 rfl ?_
    refine z_getI C d9_looks_58 fl_826 kZ_103 ?_
    refine z_sipush C (257 : Int32) d9_looks_61 kS_257 ?_
    refine z_icmp_ge C d9_looks_64 (fun c2 => ?_) (fun c2 => ?_)
    · have hf := zit c2 hf
      refine z_drop [true, false, false, false, true, false] (L' := [some (zr 103), none, none, none, some (zi x4), none]) rfl ?_
      exact j9_looks_133 C  hf
    · have hf := zie c2 hf
      refine z_aload_n C d9_looks_67 rfl ?_
      refine z_getR C d9_looks_68 fl_825 kZ_103 111 rfl (zn0 kZ_111) ?_
      refine z_aload_n C d9_looks_71 rfl ?_
      refine z_getI C d9_looks_72 fl_826 kZ_103 ?_
      refine z_iload C d9_looks_75 rfl ?_
      obtain ⟨g3, hf⟩ := zgo hf
      obtain ⟨s4, e4, hf⟩ := zpx hf
      refine z_iast C d9_looks_77 kZ_111 kL_111 g3 rfl e4 ?_
      refine z_aload_n C d9_looks_78 rfl ?_
      refine z_dup C d9_looks_79 rfl ?_
      refine z_getI C d9_looks_80 fl_826 kZ_103 ?_
      refine z_iconst C (1 : Int32) d9_looks_83 kI_1 ?_
      refine z_iadd C d9_looks_84 ?_
      obtain ⟨s5, e5, hf⟩ := zpx hf
      refine z_putI C d9_looks_85 fl_826 ft_9_9 kZ_103 e5 ?_
      refine z_aload_n C d9_looks_88 rfl ?_
      refine z_iload C d9_looks_89 rfl ?_
      obtain ⟨r6, s6, h6, hf⟩ := zbx hf
      refine z_callVi C (as := [zi x4]) d9_looks_91 w_922 yy9_glassAt (c9_glassAt x.2.1 g h6) yc9_glassAt kZ_103 rfl rfl (Nat.le_of_ble_eq_true rfl) ⟨Nat.le_of_ble_eq_true rfl, Nat.le_of_ble_eq_true rfl⟩ ⟨Nat.zero_le _, Nat.zero_le _⟩ ?_
      refine z_istore C d9_looks_94 (Nat.le_of_ble_eq_true rfl) rfl (L' := [some (zr 103), none, none, some (zi x3), some (zi x4), some (zi r6)]) rfl ?_
      refine z_iload C d9_looks_96 rfl ?_
      refine z_if_ge C d9_looks_98 (fun c7 => ?_) (fun c7 => ?_)
      · have hf := zit c7 hf
        refine z_aload_n C d9_looks_105 rfl ?_
        refine z_iload C d9_looks_106 rfl ?_
        refine z_iload_n C d9_looks_108 rfl ?_
        obtain ⟨r8, s8, h8, hf⟩ := zbx hf
        refine z_callVi C (as := [zi r6, zi x3]) d9_looks_109 w_1009 yy9_meet (c9_meet x.2.1 g h8) yc9_meet kZ_103 rfl rfl (Nat.le_of_ble_eq_true rfl) ⟨Nat.le_of_ble_eq_true rfl, Nat.le_of_ble_eq_true rfl⟩ ⟨Nat.zero_le _, Nat.zero_le _⟩ ?_
        refine z_drop [true, false, false, false, true, false] (L' := [some (zr 103), none, none, none, some (zi x4), none]) rfl ?_
        exact j9_looks_112 C hq52 hf
      · have hf := zie c7 hf
        refine z_iload_n C d9_looks_101 rfl ?_
        refine z_goto C d9_looks_102 ?_
        refine z_drop [true, false, false, false, true, false] (L' := [some (zr 103), none, none, none, some (zi x4), none]) rfl ?_
        exact j9_looks_112 C hq52 hf
theorem j9_looks_52l {x : ZX} {g : ZG} (C : zC x g b9_looks R9 none 6 5 155) {k : Nat} {r : Unit} {σr : ZS}  : ∀ (n : Nat) (x3 : Int32) (x4 : Int32) (σ : ZS), f9_looks_52 k  n x3 x4 σ = some (r, σr) → zw x g 6 0 0 (zMQ x g none σr) σ 52 [some (zr 103), none, none, some (zi x3), some (zi x4), none] [] := by
  intro n
  induction n with
  | zero => intro x3 x4 σ hf; exact absurd (show none = some (r, σr) from hf) (fun z => by cases z)
  | succ n ih => intro x3 x4 σ hf; exact j9_looks_52 C  ih (show b9_looks_52 k  (f9_looks_52 k  n) x3 x4 σ = some (r, σr) from hf)
def b9_looks_12 (k : Nat) (q12 : Int32 → Int32 → Int32 → ZS → Option (Unit × ZS)) (x1 : Int32) (x2 : Int32) (x3 : Int32) (σ : ZS) : Option (Unit × ZS) :=
  if (8 : Int32) ≤ x3 then (
  zput (zu σ 111 (0) x1) fun s2 =>
  zput (zu s2 103 9 (1 : Int32)) fun s3 =>
  zbd (f9_next k x1 x2 s3) fun r4 s4 =>
  f9_looks_52 k  k x2 r4 s4)
  else (
  if zin x3 8 then (
  zput (zu σ 112 (x3.toNatClampNeg) (0 : Int32)) fun s6 =>
  q12 x1 x2 (x3 + (1 : Int32)) s6) else none)
def f9_looks_12 (k : Nat) : Nat → Int32 → Int32 → Int32 → ZS → Option (Unit × ZS)
  | 0 => fun _ _ _ _ => none
  | n + 1 => b9_looks_12 k  (f9_looks_12 k  n)
theorem j9_looks_12 {x : ZX} {g : ZG} (C : zC x g b9_looks R9 none 6 5 155) {k : Nat} {r : Unit} {σr : ZS}  {q12 : Int32 → Int32 → Int32 → ZS → Option (Unit × ZS)} (hq12 : (∀ (x1 : Int32) (x2 : Int32) (x3 : Int32) (σ : ZS), q12 x1 x2 x3 σ = some (r, σr) → zw x g 6 0 0 (zMQ x g none σr) σ 12 [some (zr 103), some (zi x1), some (zi x2), some (zi x3), none, none] [])) {x1 : Int32} {x2 : Int32} {x3 : Int32} {σ : ZS} (hf : b9_looks_12 k q12 x1 x2 x3 σ = some (r, σr)) : zw x g 6 0 0 (zMQ x g none σr) σ 12 [some (zr 103), some (zi x1), some (zi x2), some (zi x3), none, none] [] := by
  unfold b9_looks_12 at hf
  refine z_iload_n C d9_looks_12 rfl ?_
  refine z_bipush C (8 : Int32) d9_looks_13 kB_8 ?_
  refine z_icmp_ge C d9_looks_15 (fun c1 => ?_) (fun c1 => ?_)
  · have hf := zit c1 hf
    refine z_aload_n C d9_looks_31 rfl ?_
    refine z_getR C d9_looks_32 fl_825 kZ_103 111 rfl (zn0 kZ_111) ?_
    refine z_iconst C (0 : Int32) d9_looks_35 kI_0 ?_
    refine z_iload_n C d9_looks_36 rfl ?_
    obtain ⟨s2, e2, hf⟩ := zpx hf
    refine z_iast C d9_looks_37 kZ_111 kL_111 ⟨by decide, by decide⟩ kN_0 e2 ?_
    refine z_aload_n C d9_looks_38 rfl ?_
    refine z_iconst C (1 : Int32) d9_looks_39 kI_1 ?_
    obtain ⟨s3, e3, hf⟩ := zpx hf
    refine z_putI C d9_looks_40 fl_826 ft_9_9 kZ_103 e3 ?_
    refine z_iload_n C d9_looks_43 rfl ?_
    refine z_istore_n C d9_looks_44 (Nat.le_of_ble_eq_true rfl) rfl (L' := [some (zr 103), some (zi x1), some (zi x2), some (zi x2), none, none]) rfl ?_
    refine z_iload_n C d9_looks_45 rfl ?_
    refine z_iload_n C d9_looks_46 rfl ?_
    obtain ⟨r4, s4, h4, hf⟩ := zbx hf
    refine z_callSi C (as := [zi x1, zi x2]) d9_looks_47 w_1006 yy9_next (c9_next x.2.1 g h4) rfl rfl (Nat.le_of_ble_eq_true rfl) ⟨Nat.le_of_ble_eq_true rfl, Nat.le_of_ble_eq_true rfl⟩ ⟨Nat.zero_le _, Nat.zero_le _⟩ ?_
    refine z_istore C d9_looks_50 (Nat.le_of_ble_eq_true rfl) rfl (L' := [some (zr 103), some (zi x1), some (zi x2), some (zi x2), some (zi r4), none]) rfl ?_
    refine z_drop [true, false, false, true, true, false] (L' := [some (zr 103), none, none, some (zi x2), some (zi r4), none]) rfl ?_
    exact j9_looks_52l C  _ _ _ _ hf
  · have hf := zie c1 hf
    refine z_aload_n C d9_looks_18 rfl ?_
    refine z_getR C d9_looks_19 fl_828 kZ_103 112 rfl (zn0 kZ_112) ?_
    refine z_iload_n C d9_looks_22 rfl ?_
    refine z_iconst C (0 : Int32) d9_looks_23 kI_0 ?_
    obtain ⟨g5, hf⟩ := zgo hf
    obtain ⟨s6, e6, hf⟩ := zpx hf
    refine z_iast C d9_looks_24 kZ_112 kL_112 g5 rfl e6 ?_
    refine z_iinc C d9_looks_25 rfl kI_1 (Nat.le_of_ble_eq_true rfl) rfl (L' := [some (zr 103), some (zi x1), some (zi x2), some (zi (x3 + (1 : Int32))), none, none]) rfl ?_
    refine z_goto C d9_looks_28 ?_
    exact hq12 _ _ _ _ hf
theorem j9_looks_12l {x : ZX} {g : ZG} (C : zC x g b9_looks R9 none 6 5 155) {k : Nat} {r : Unit} {σr : ZS}  : ∀ (n : Nat) (x1 : Int32) (x2 : Int32) (x3 : Int32) (σ : ZS), f9_looks_12 k  n x1 x2 x3 σ = some (r, σr) → zw x g 6 0 0 (zMQ x g none σr) σ 12 [some (zr 103), some (zi x1), some (zi x2), some (zi x3), none, none] [] := by
  intro n
  induction n with
  | zero => intro x1 x2 x3 σ hf; exact absurd (show none = some (r, σr) from hf) (fun z => by cases z)
  | succ n ih => intro x1 x2 x3 σ hf; exact j9_looks_12 C  ih (show b9_looks_12 k  (f9_looks_12 k  n) x1 x2 x3 σ = some (r, σr) from hf)
def f9_looks (k : Nat) (x1 : Int32) (x2 : Int32) (σ : ZS) : Option (Unit × ZS) :=
  zput (zu σ 103 10 (0 : Int32)) fun s1 =>
  zput (zu s1 103 12 (0 : Int32)) fun s2 =>
  f9_looks_12 k  k x1 x2 (0 : Int32) s2
theorem c9_looks (l : Launch) (g : ZG) {k : Nat} {x1 : Int32} {x2 : Int32} {σ : ZS} {r : Unit} {σr : ZS} (hf : f9_looks k x1 x2 σ = some (r, σr)) : zT l g y9_looks b9_looks 6 none 5 155 [zr 103, zi x1, zi x2] σ none σr := by
  unfold f9_looks at hf
  refine zT_start (own := R9) rfl (by decide +kernel) 3 (L := [some (zr 103), some (zi x1), some (zi x2), none, none, none]) rfl rfl (fun x hl C => ?_)
  subst hl
  refine z_aload_n C d9_looks_0 rfl ?_
  refine z_iconst C (0 : Int32) d9_looks_1 kI_0 ?_
  obtain ⟨s1, e1, hf⟩ := zpx hf
  refine z_putI C d9_looks_2 fl_827 ft_9_10 kZ_103 e1 ?_
  refine z_aload_n C d9_looks_5 rfl ?_
  refine z_iconst C (0 : Int32) d9_looks_6 kI_0 ?_
  obtain ⟨s2, e2, hf⟩ := zpx hf
  refine z_putI C d9_looks_7 fl_829 ft_9_12 kZ_103 e2 ?_
  refine z_iconst C (0 : Int32) d9_looks_10 kI_0 ?_
  refine z_istore_n C d9_looks_11 (Nat.le_of_ble_eq_true rfl) rfl (L' := [some (zr 103), some (zi x1), some (zi x2), some (zi (0 : Int32)), none, none]) rfl ?_
  exact j9_looks_12l C  _ _ _ _ _ hf
theorem d9_at_0 : zd b9_at 0 (.iload_n 1) 1 1 := ⟨by decide +kernel, rfl⟩
theorem d9_at_1 : zd b9_at 1 (.invokestatic 124) 3 4 := ⟨by decide +kernel, rfl⟩
theorem d9_at_4 : zdb b9_at 4 (.ifCond .eq 14) 14 7 18 := ⟨by decide +kernel, rfl, by decide⟩
theorem d9_at_7 : zd b9_at 7 (.iload_n 2) 1 8 := ⟨by decide +kernel, rfl⟩
theorem d9_at_8 : zd b9_at 8 (.invokestatic 127) 3 11 := ⟨by decide +kernel, rfl⟩
theorem d9_at_11 : zdb b9_at 11 (.ifCond .eq 7) 7 14 18 := ⟨by decide +kernel, rfl, by decide⟩
theorem d9_at_14 : zd b9_at 14 (.iload_n 3) 1 15 := ⟨by decide +kernel, rfl⟩
theorem d9_at_15 : zdb b9_at 15 (.ifCond .ge 10) 10 18 25 := ⟨by decide +kernel, rfl, by decide⟩
theorem d9_at_18 : zd b9_at 18 (.aload_n 0) 1 19 := ⟨by decide +kernel, rfl⟩
theorem d9_at_19 : zd b9_at 19 (.ldc 130) 2 21 := ⟨by decide +kernel, rfl⟩
theorem d9_at_21 : zd b9_at 21 (.invokevirtual 131) 3 24 := ⟨by decide +kernel, rfl⟩
theorem d9_at_24 : zd b9_at 24 .ireturn 1 25 := ⟨by decide +kernel, rfl⟩
theorem d9_at_25 : zd b9_at 25 (.aload_n 0) 1 26 := ⟨by decide +kernel, rfl⟩
theorem d9_at_26 : zd b9_at 26 (.iload_n 1) 1 27 := ⟨by decide +kernel, rfl⟩
theorem d9_at_27 : zd b9_at 27 (.iload_n 2) 1 28 := ⟨by decide +kernel, rfl⟩
theorem d9_at_28 : zd b9_at 28 (.invokevirtual 112) 3 31 := ⟨by decide +kernel, rfl⟩
theorem d9_at_31 : zd b9_at 31 (.iload_n 3) 1 32 := ⟨by decide +kernel, rfl⟩
theorem d9_at_32 : zd b9_at 32 (.aload_n 0) 1 33 := ⟨by decide +kernel, rfl⟩
theorem d9_at_33 : zd b9_at 33 (.getfield 93) 3 36 := ⟨by decide +kernel, rfl⟩
theorem d9_at_36 : zdb b9_at 36 (.if_icmp .ge 12) 12 39 48 := ⟨by decide +kernel, rfl, by decide⟩
theorem d9_at_39 : zd b9_at 39 (.aload_n 0) 1 40 := ⟨by decide +kernel, rfl⟩
theorem d9_at_40 : zd b9_at 40 (.getfield 31) 3 43 := ⟨by decide +kernel, rfl⟩
theorem d9_at_43 : zd b9_at 43 (.iload_n 3) 1 44 := ⟨by decide +kernel, rfl⟩
theorem d9_at_44 : zd b9_at 44 .iaload 1 45 := ⟨by decide +kernel, rfl⟩
theorem d9_at_45 : zdb b9_at 45 (.goto 9) 9 48 54 := ⟨by decide +kernel, rfl, by decide⟩
theorem d9_at_48 : zd b9_at 48 (.aload_n 0) 1 49 := ⟨by decide +kernel, rfl⟩
theorem d9_at_49 : zd b9_at 49 (.ldc 220) 2 51 := ⟨by decide +kernel, rfl⟩
theorem d9_at_51 : zd b9_at 51 (.invokevirtual 131) 3 54 := ⟨by decide +kernel, rfl⟩
theorem d9_at_54 : zd b9_at 54 .ireturn 1 55 := ⟨by decide +kernel, rfl⟩
def f9_at (k : Nat) (x1 : Int32) (x2 : Int32) (x3 : Int32) (σ : ZS) : Option (Int32 × ZS) :=
  zbd (f9_isCell k x1 σ) fun r1 s1 =>
  if r1 = 0 then (
  zbd (f9_error k (-1000000001 : Int32) s1) fun r3 s3 =>
  some (r3, s3))
  else (
  zbd (f9_isFour k x2 s1) fun r4 s4 =>
  if r4 = 0 then (
  zbd (f9_error k (-1000000001 : Int32) s4) fun r6 s6 =>
  some (r6, s6))
  else (
  if 0 ≤ x3 then (
  zbd (f9_looks k x1 x2 s4) fun _ s8 =>
  if (s8 103 9) ≤ x3 then (
  zbd (f9_error k (-1000000002 : Int32) s8) fun r10 s10 =>
  some (r10, s10))
  else (
  if zin x3 257 then (
  some ((s8 111 x3.toNatClampNeg), s8)) else none))
  else (
  zbd (f9_error k (-1000000001 : Int32) s4) fun r12 s12 =>
  some (r12, s12))))
theorem c9_at (l : Launch) (g : ZG) {k : Nat} {x1 : Int32} {x2 : Int32} {x3 : Int32} {σ : ZS} {r : Int32} {σr : ZS} (hf : f9_at k x1 x2 x3 σ = some (r, σr)) : zT l g y9_at b9_at 4 (some .int) 6 180 [zr 103, zi x1, zi x2, zi x3] σ (some (zi r)) σr := by
  unfold f9_at at hf
  refine zT_start (own := R9) rfl (by decide +kernel) 0 (L := [some (zr 103), some (zi x1), some (zi x2), some (zi x3)]) rfl rfl (fun x hl C => ?_)
  subst hl
  refine z_iload_n C d9_at_0 rfl ?_
  obtain ⟨r1, s1, h1, hf⟩ := zbx hf
  refine z_callSi C (as := [zi x1]) d9_at_1 w_909 yy9_isCell (c9_isCell x.2.1 g h1) rfl rfl (Nat.le_of_ble_eq_true rfl) ⟨Nat.le_of_ble_eq_true rfl, Nat.le_of_ble_eq_true rfl⟩ ⟨Nat.zero_le _, Nat.zero_le _⟩ ?_
  refine z_if_eq C d9_at_4 (fun c2 => ?_) (fun c2 => ?_)
  · have hf := zit c2 hf
    refine z_aload_n C d9_at_18 rfl ?_
    refine z_ldc C (-1000000001 : Int32) d9_at_19 w_915 ?_
    obtain ⟨r3, s3, h3, hf⟩ := zbx hf
    refine z_callVi C (as := [zi (-1000000001 : Int32)]) d9_at_21 w_916 yy9_error (c9_error x.2.1 g h3) yc9_error kZ_103 rfl rfl (Nat.le_of_ble_eq_true rfl) ⟨Nat.le_of_ble_eq_true rfl, Nat.le_of_ble_eq_true rfl⟩ ⟨Nat.zero_le _, Nat.zero_le _⟩ ?_
    exact z_iret C d9_at_24 hf
  · have hf := zie c2 hf
    refine z_iload_n C d9_at_7 rfl ?_
    obtain ⟨r4, s4, h4, hf⟩ := zbx hf
    refine z_callSi C (as := [zi x2]) d9_at_8 w_912 yy9_isFour (c9_isFour x.2.1 g h4) rfl rfl (Nat.le_of_ble_eq_true rfl) ⟨Nat.le_of_ble_eq_true rfl, Nat.le_of_ble_eq_true rfl⟩ ⟨Nat.zero_le _, Nat.zero_le _⟩ ?_
    refine z_if_eq C d9_at_11 (fun c5 => ?_) (fun c5 => ?_)
    · have hf := zit c5 hf
      refine z_aload_n C d9_at_18 rfl ?_
      refine z_ldc C (-1000000001 : Int32) d9_at_19 w_915 ?_
      obtain ⟨r6, s6, h6, hf⟩ := zbx hf
      refine z_callVi C (as := [zi (-1000000001 : Int32)]) d9_at_21 w_916 yy9_error (c9_error x.2.1 g h6) yc9_error kZ_103 rfl rfl (Nat.le_of_ble_eq_true rfl) ⟨Nat.le_of_ble_eq_true rfl, Nat.le_of_ble_eq_true rfl⟩ ⟨Nat.zero_le _, Nat.zero_le _⟩ ?_
      exact z_iret C d9_at_24 hf
    · have hf := zie c5 hf
      refine z_iload_n C d9_at_14 rfl ?_
      refine z_if_ge C d9_at_15 (fun c7 => ?_) (fun c7 => ?_)
      · have hf := zit c7 hf
        refine z_aload_n C d9_at_25 rfl ?_
        refine z_iload_n C d9_at_26 rfl ?_
        refine z_iload_n C d9_at_27 rfl ?_
        obtain ⟨r8, s8, h8, hf⟩ := zbx hf
        refine z_callVv C (as := [zi x1, zi x2]) d9_at_28 w_1002 yy9_looks (c9_looks x.2.1 g h8) yc9_looks kZ_103 rfl rfl (Nat.le_of_ble_eq_true rfl) ⟨Nat.le_of_ble_eq_true rfl, Nat.le_of_ble_eq_true rfl⟩ ⟨Nat.zero_le _, Nat.zero_le _⟩ ?_
        refine z_iload_n C d9_at_31 rfl ?_
        refine z_aload_n C d9_at_32 rfl ?_
        refine z_getI C d9_at_33 fl_826 kZ_103 ?_
        refine z_icmp_ge C d9_at_36 (fun c9 => ?_) (fun c9 => ?_)
        · have hf := zit c9 hf
          refine z_aload_n C d9_at_48 rfl ?_
          refine z_ldc C (-1000000002 : Int32) d9_at_49 w_1134 ?_
          obtain ⟨r10, s10, h10, hf⟩ := zbx hf
          refine z_callVi C (as := [zi (-1000000002 : Int32)]) d9_at_51 w_916 yy9_error (c9_error x.2.1 g h10) yc9_error kZ_103 rfl rfl (Nat.le_of_ble_eq_true rfl) ⟨Nat.le_of_ble_eq_true rfl, Nat.le_of_ble_eq_true rfl⟩ ⟨Nat.zero_le _, Nat.zero_le _⟩ ?_
          exact z_iret C d9_at_54 hf
        · have hf := zie c9 hf
          refine z_aload_n C d9_at_39 rfl ?_
          refine z_getR C d9_at_40 fl_825 kZ_103 111 rfl (zn0 kZ_111) ?_
          refine z_iload_n C d9_at_43 rfl ?_
          obtain ⟨g11, hf⟩ := zgo hf
          refine z_iald C d9_at_44 kZ_111 kL_111 g11 (x3.toNatClampNeg) rfl ?_
          refine z_goto C d9_at_45 ?_
          exact z_iret C d9_at_54 hf
      · have hf := zie c7 hf
        refine z_aload_n C d9_at_18 rfl ?_
        refine z_ldc C (-1000000001 : Int32) d9_at_19 w_915 ?_
        obtain ⟨r12, s12, h12, hf⟩ := zbx hf
        refine z_callVi C (as := [zi (-1000000001 : Int32)]) d9_at_21 w_916 yy9_error (c9_error x.2.1 g h12) yc9_error kZ_103 rfl rfl (Nat.le_of_ble_eq_true rfl) ⟨Nat.le_of_ble_eq_true rfl, Nat.le_of_ble_eq_true rfl⟩ ⟨Nat.zero_le _, Nat.zero_le _⟩ ?_
        exact z_iret C d9_at_24 hf
theorem d9_becomes_0 : zd b9_becomes 0 (.aload_n 0) 1 1 := ⟨by decide +kernel, rfl⟩
theorem d9_becomes_1 : zd b9_becomes 1 (.getfield 9) 3 4 := ⟨by decide +kernel, rfl⟩
theorem d9_becomes_4 : zd b9_becomes 4 (.iload_n 1) 1 5 := ⟨by decide +kernel, rfl⟩
theorem d9_becomes_5 : zd b9_becomes 5 .iaload 1 6 := ⟨by decide +kernel, rfl⟩
theorem d9_becomes_6 : zd b9_becomes 6 (.istore_n 3) 1 7 := ⟨by decide +kernel, rfl⟩
theorem d9_becomes_7 : zd b9_becomes 7 (.aload_n 0) 1 8 := ⟨by decide +kernel, rfl⟩
theorem d9_becomes_8 : zd b9_becomes 8 (.getfield 9) 3 11 := ⟨by decide +kernel, rfl⟩
theorem d9_becomes_11 : zd b9_becomes 11 (.iload_n 1) 1 12 := ⟨by decide +kernel, rfl⟩
theorem d9_becomes_12 : zd b9_becomes 12 (.iload_n 2) 1 13 := ⟨by decide +kernel, rfl⟩
theorem d9_becomes_13 : zd b9_becomes 13 .iastore 1 14 := ⟨by decide +kernel, rfl⟩
theorem d9_becomes_14 : zd b9_becomes 14 (.iload_n 3) 1 15 := ⟨by decide +kernel, rfl⟩
theorem d9_becomes_15 : zd b9_becomes 15 .ireturn 1 16 := ⟨by decide +kernel, rfl⟩
def f9_becomes (k : Nat) (x1 : Int32) (x2 : Int32) (σ : ZS) : Option (Int32 × ZS) :=
  if zin x1 390 then (
  if zin x1 390 then (
  zput (zu σ 104 (x1.toNatClampNeg) x2) fun s3 =>
  some ((σ 104 x1.toNatClampNeg), s3)) else none) else none
theorem c9_becomes (l : Launch) (g : ZG) {k : Nat} {x1 : Int32} {x2 : Int32} {σ : ZS} {r : Int32} {σr : ZS} (hf : f9_becomes k x1 x2 σ = some (r, σr)) : zT l g y9_becomes b9_becomes 4 (some .int) 1 60 [zr 103, zi x1, zi x2] σ (some (zi r)) σr := by
  unfold f9_becomes at hf
  refine zT_start (own := R9) rfl (by decide +kernel) 1 (L := [some (zr 103), some (zi x1), some (zi x2), none]) rfl rfl (fun x hl C => ?_)
  subst hl
  refine z_aload_n C d9_becomes_0 rfl ?_
  refine z_getR C d9_becomes_1 fl_817 kZ_103 104 rfl (zn0 kZ_104) ?_
  refine z_iload_n C d9_becomes_4 rfl ?_
  obtain ⟨g1, hf⟩ := zgo hf
  refine z_iald C d9_becomes_5 kZ_104 kL_104 g1 (x1.toNatClampNeg) rfl ?_
  refine z_istore_n C d9_becomes_6 (Nat.le_of_ble_eq_true rfl) rfl (L' := [some (zr 103), some (zi x1), some (zi x2), some (zi (σ 104 x1.toNatClampNeg))]) rfl ?_
  refine z_aload_n C d9_becomes_7 rfl ?_
  refine z_getR C d9_becomes_8 fl_817 kZ_103 104 rfl (zn0 kZ_104) ?_
  refine z_iload_n C d9_becomes_11 rfl ?_
  refine z_iload_n C d9_becomes_12 rfl ?_
  obtain ⟨g2, hf⟩ := zgo hf
  obtain ⟨s3, e3, hf⟩ := zpx hf
  refine z_iast C d9_becomes_13 kZ_104 kL_104 g2 rfl e3 ?_
  refine z_iload_n C d9_becomes_14 rfl ?_
  exact z_iret C d9_becomes_15 hf
theorem d9_isKm_0 : zd b9_isKm 0 (.iload_n 0) 1 1 := ⟨by decide +kernel, rfl⟩
theorem d9_isKm_1 : zd b9_isKm 1 (.iconst 0) 1 2 := ⟨by decide +kernel, rfl⟩
theorem d9_isKm_2 : zd b9_isKm 2 (.bipush 69) 2 4 := ⟨by decide +kernel, rfl⟩
theorem d9_isKm_4 : zd b9_isKm 4 (.invokestatic 56) 3 7 := ⟨by decide +kernel, rfl⟩
theorem d9_isKm_7 : zd b9_isKm 7 .ireturn 1 8 := ⟨by decide +kernel, rfl⟩
def f9_isKm (k : Nat) (x0 : Int32) (σ : ZS) : Option (Int32 × ZS) :=
  zbd (f9_in k x0 (0 : Int32) (69 : Int32) σ) fun r1 s1 =>
  if zbo r1 then (
  some (r1, s1)) else none
theorem c9_isKm (l : Launch) (g : ZG) {k : Nat} {x0 : Int32} {σ : ZS} {r : Int32} {σr : ZS} (hf : f9_isKm k x0 σ = some (r, σr)) : zT l g y9_isKm b9_isKm 1 (some .boolean) 2 82 [zi x0] σ (some (zi r)) σr := by
  unfold f9_isKm at hf
  refine zT_start (own := R9) rfl (by decide +kernel) 0 (L := [some (zi x0)]) rfl rfl (fun x hl C => ?_)
  subst hl
  refine z_iload_n C d9_isKm_0 rfl ?_
  refine z_iconst C (0 : Int32) d9_isKm_1 kI_0 ?_
  refine z_bipush C (69 : Int32) d9_isKm_2 kB_69 ?_
  obtain ⟨r1, s1, h1, hf⟩ := zbx hf
  refine z_callSi C (as := [zi x0, zi (0 : Int32), zi (69 : Int32)]) d9_isKm_4 w_906 yy9_in (c9_in x.2.1 g h1) rfl rfl (Nat.le_of_ble_eq_true rfl) ⟨Nat.le_of_ble_eq_true rfl, Nat.le_of_ble_eq_true rfl⟩ ⟨Nat.zero_le _, Nat.zero_le _⟩ ?_
  obtain ⟨g2, hf⟩ := zgo hf
  exact z_zret C d9_isKm_7 g2 hf
theorem d9_become_0 : zd b9_become 0 (.aload_n 0) 1 1 := ⟨by decide +kernel, rfl⟩
theorem d9_become_1 : zd b9_become 1 (.iload_n 1) 1 2 := ⟨by decide +kernel, rfl⟩
theorem d9_become_2 : zd b9_become 2 (.invokevirtual 136) 3 5 := ⟨by decide +kernel, rfl⟩
theorem d9_become_5 : zdb b9_become 5 (.ifCond .eq 10) 10 8 15 := ⟨by decide +kernel, rfl, by decide⟩
theorem d9_become_8 : zd b9_become 8 (.iload_n 2) 1 9 := ⟨by decide +kernel, rfl⟩
theorem d9_become_9 : zd b9_become 9 (.invokestatic 120) 3 12 := ⟨by decide +kernel, rfl⟩
theorem d9_become_12 : zdb b9_become 12 (.ifCond .ne 10) 10 15 22 := ⟨by decide +kernel, rfl, by decide⟩
theorem d9_become_15 : zd b9_become 15 (.aload_n 0) 1 16 := ⟨by decide +kernel, rfl⟩
theorem d9_become_16 : zd b9_become 16 (.ldc 130) 2 18 := ⟨by decide +kernel, rfl⟩
theorem d9_become_18 : zd b9_become 18 (.invokevirtual 131) 3 21 := ⟨by decide +kernel, rfl⟩
theorem d9_become_21 : zd b9_become 21 .ireturn 1 22 := ⟨by decide +kernel, rfl⟩
theorem d9_become_22 : zd b9_become 22 (.aload_n 0) 1 23 := ⟨by decide +kernel, rfl⟩
theorem d9_become_23 : zd b9_become 23 (.getfield 9) 3 26 := ⟨by decide +kernel, rfl⟩
theorem d9_become_26 : zd b9_become 26 (.bipush 6) 2 28 := ⟨by decide +kernel, rfl⟩
theorem d9_become_28 : zd b9_become 28 (.iconst 5) 1 29 := ⟨by decide +kernel, rfl⟩
theorem d9_become_29 : zd b9_become 29 (.iload_n 1) 1 30 := ⟨by decide +kernel, rfl⟩
theorem d9_become_30 : zd b9_become 30 .imul 1 31 := ⟨by decide +kernel, rfl⟩
theorem d9_become_31 : zd b9_become 31 .iadd 1 32 := ⟨by decide +kernel, rfl⟩
theorem d9_become_32 : zd b9_become 32 (.iconst 1) 1 33 := ⟨by decide +kernel, rfl⟩
theorem d9_become_33 : zd b9_become 33 .iadd 1 34 := ⟨by decide +kernel, rfl⟩
theorem d9_become_34 : zd b9_become 34 (.iload_n 2) 1 35 := ⟨by decide +kernel, rfl⟩
theorem d9_become_35 : zd b9_become 35 (.bipush 10) 2 37 := ⟨by decide +kernel, rfl⟩
theorem d9_become_37 : zd b9_become 37 .irem 1 38 := ⟨by decide +kernel, rfl⟩
theorem d9_become_38 : zd b9_become 38 .iastore 1 39 := ⟨by decide +kernel, rfl⟩
theorem d9_become_39 : zd b9_become 39 (.aload_n 0) 1 40 := ⟨by decide +kernel, rfl⟩
theorem d9_become_40 : zd b9_become 40 (.bipush 6) 2 42 := ⟨by decide +kernel, rfl⟩
theorem d9_become_42 : zd b9_become 42 (.iconst 5) 1 43 := ⟨by decide +kernel, rfl⟩
theorem d9_become_43 : zd b9_become 43 (.iload_n 1) 1 44 := ⟨by decide +kernel, rfl⟩
theorem d9_become_44 : zd b9_become 44 .imul 1 45 := ⟨by decide +kernel, rfl⟩
theorem d9_become_45 : zd b9_become 45 .iadd 1 46 := ⟨by decide +kernel, rfl⟩
theorem d9_become_46 : zd b9_become 46 (.iload_n 2) 1 47 := ⟨by decide +kernel, rfl⟩
theorem d9_become_47 : zd b9_become 47 (.bipush 10) 2 49 := ⟨by decide +kernel, rfl⟩
theorem d9_become_49 : zd b9_become 49 .idiv 1 50 := ⟨by decide +kernel, rfl⟩
theorem d9_become_50 : zd b9_become 50 (.invokevirtual 139) 3 53 := ⟨by decide +kernel, rfl⟩
theorem d9_become_53 : zd b9_become 53 .ireturn 1 54 := ⟨by decide +kernel, rfl⟩
def f9_become (k : Nat) (x1 : Int32) (x2 : Int32) (σ : ZS) : Option (Int32 × ZS) :=
  zbd (f9_isGlass k x1 σ) fun r1 s1 =>
  if r1 = 0 then (
  zbd (f9_error k (-1000000001 : Int32) s1) fun r3 s3 =>
  some (r3, s3))
  else (
  zbd (f9_isKm k x2 s1) fun r4 s4 =>
  if r4 = 0 then (
  zbd (f9_error k (-1000000001 : Int32) s4) fun r6 s6 =>
  some (r6, s6))
  else (
  if zin (((6 : Int32) + ((5 : Int32) * x1)) + (1 : Int32)) 390 then (
  zput (zu s4 104 ((((6 : Int32) + ((5 : Int32) * x1)) + (1 : Int32)).toNatClampNeg) (x2 % (10 : Int32))) fun s8 =>
  zbd (f9_becomes k ((6 : Int32) + ((5 : Int32) * x1)) (x2 / (10 : Int32)) s8) fun r9 s9 =>
  some (r9, s9)) else none))
theorem c9_become (l : Launch) (g : ZG) {k : Nat} {x1 : Int32} {x2 : Int32} {σ : ZS} {r : Int32} {σr : ZS} (hf : f9_become k x1 x2 σ = some (r, σr)) : zT l g y9_become b9_become 3 (some .int) 3 103 [zr 103, zi x1, zi x2] σ (some (zi r)) σr := by
  unfold f9_become at hf
  refine zT_start (own := R9) rfl (by decide +kernel) 0 (L := [some (zr 103), some (zi x1), some (zi x2)]) rfl rfl (fun x hl C => ?_)
  subst hl
  refine z_aload_n C d9_become_0 rfl ?_
  refine z_iload_n C d9_become_1 rfl ?_
  obtain ⟨r1, s1, h1, hf⟩ := zbx hf
  refine z_callVi C (as := [zi x1]) d9_become_2 w_935 yy9_isGlass (c9_isGlass x.2.1 g h1) yc9_isGlass kZ_103 rfl rfl (Nat.le_of_ble_eq_true rfl) ⟨Nat.le_of_ble_eq_true rfl, Nat.le_of_ble_eq_true rfl⟩ ⟨Nat.zero_le _, Nat.zero_le _⟩ ?_
  refine z_if_eq C d9_become_5 (fun c2 => ?_) (fun c2 => ?_)
  · have hf := zit c2 hf
    refine z_aload_n C d9_become_15 rfl ?_
    refine z_ldc C (-1000000001 : Int32) d9_become_16 w_915 ?_
    obtain ⟨r3, s3, h3, hf⟩ := zbx hf
    refine z_callVi C (as := [zi (-1000000001 : Int32)]) d9_become_18 w_916 yy9_error (c9_error x.2.1 g h3) yc9_error kZ_103 rfl rfl (Nat.le_of_ble_eq_true rfl) ⟨Nat.le_of_ble_eq_true rfl, Nat.le_of_ble_eq_true rfl⟩ ⟨Nat.zero_le _, Nat.zero_le _⟩ ?_
    exact z_iret C d9_become_21 hf
  · have hf := zie c2 hf
    refine z_iload_n C d9_become_8 rfl ?_
    obtain ⟨r4, s4, h4, hf⟩ := zbx hf
    refine z_callSi C (as := [zi x2]) d9_become_9 w_903 yy9_isKm (c9_isKm x.2.1 g h4) rfl rfl (Nat.le_of_ble_eq_true rfl) ⟨Nat.le_of_ble_eq_true rfl, Nat.le_of_ble_eq_true rfl⟩ ⟨Nat.zero_le _, Nat.zero_le _⟩ ?_
    refine z_if_ne C d9_become_12 (fun c5 => ?_) (fun c5 => ?_)
    · have hf := zit c5 hf
      refine z_aload_n C d9_become_15 rfl ?_
      refine z_ldc C (-1000000001 : Int32) d9_become_16 w_915 ?_
      obtain ⟨r6, s6, h6, hf⟩ := zbx hf
      refine z_callVi C (as := [zi (-1000000001 : Int32)]) d9_become_18 w_916 yy9_error (c9_error x.2.1 g h6) yc9_error kZ_103 rfl rfl (Nat.le_of_ble_eq_true rfl) ⟨Nat.le_of_ble_eq_true rfl, Nat.le_of_ble_eq_true rfl⟩ ⟨Nat.zero_le _, Nat.zero_le _⟩ ?_
      exact z_iret C d9_become_21 hf
    · have hf := zie c5 hf
      refine z_aload_n C d9_become_22 rfl ?_
      refine z_getR C d9_become_23 fl_817 kZ_103 104 rfl (zn0 kZ_104) ?_
      refine z_bipush C (6 : Int32) d9_become_26 kB_6 ?_
      refine z_iconst C (5 : Int32) d9_become_28 kI_5 ?_
      refine z_iload_n C d9_become_29 rfl ?_
      refine z_imul C d9_become_30 ?_
      refine z_iadd C d9_become_31 ?_
      refine z_iconst C (1 : Int32) d9_become_32 kI_1 ?_
      refine z_iadd C d9_become_33 ?_
      refine z_iload_n C d9_become_34 rfl ?_
      refine z_bipush C (10 : Int32) d9_become_35 kB_10 ?_
      refine z_irem C d9_become_37 (by decide) ?_
      obtain ⟨g7, hf⟩ := zgo hf
      obtain ⟨s8, e8, hf⟩ := zpx hf
      refine z_iast C d9_become_38 kZ_104 kL_104 g7 rfl e8 ?_
      refine z_aload_n C d9_become_39 rfl ?_
      refine z_bipush C (6 : Int32) d9_become_40 kB_6 ?_
      refine z_iconst C (5 : Int32) d9_become_42 kI_5 ?_
      refine z_iload_n C d9_become_43 rfl ?_
      refine z_imul C d9_become_44 ?_
      refine z_iadd C d9_become_45 ?_
      refine z_iload_n C d9_become_46 rfl ?_
      refine z_bipush C (10 : Int32) d9_become_47 kB_10 ?_
      refine z_idiv C d9_become_49 (by decide) ?_
      obtain ⟨r9, s9, h9, hf⟩ := zbx hf
      refine z_callVi C (as := [zi ((6 : Int32) + ((5 : Int32) * x1)), zi (x2 / (10 : Int32))]) d9_become_50 w_961 yy9_becomes (c9_becomes x.2.1 g h9) yc9_becomes kZ_103 rfl rfl (Nat.le_of_ble_eq_true rfl) ⟨Nat.le_of_ble_eq_true rfl, Nat.le_of_ble_eq_true rfl⟩ ⟨Nat.zero_le _, Nat.zero_le _⟩ ?_
      exact z_iret C d9_become_53 hf
theorem d9_begins_0 : zd b9_begins 0 (.aload_n 0) 1 1 := ⟨by decide +kernel, rfl⟩
theorem d9_begins_1 : zd b9_begins 1 (.getfield 248) 3 4 := ⟨by decide +kernel, rfl⟩
theorem d9_begins_4 : zd b9_begins 4 (.bipush 30) 2 6 := ⟨by decide +kernel, rfl⟩
theorem d9_begins_6 : zdb b9_begins 6 (.if_icmp .ge 23) 23 9 29 := ⟨by decide +kernel, rfl, by decide⟩
theorem d9_begins_9 : zd b9_begins 9 (.aload_n 0) 1 10 := ⟨by decide +kernel, rfl⟩
theorem d9_begins_10 : zd b9_begins 10 (.getfield 52) 3 13 := ⟨by decide +kernel, rfl⟩
theorem d9_begins_13 : zd b9_begins 13 (.aload_n 0) 1 14 := ⟨by decide +kernel, rfl⟩
theorem d9_begins_14 : zd b9_begins 14 (.getfield 248) 3 17 := ⟨by decide +kernel, rfl⟩
theorem d9_begins_17 : zd b9_begins 17 (.iload_n 1) 1 18 := ⟨by decide +kernel, rfl⟩
theorem d9_begins_18 : zd b9_begins 18 .iastore 1 19 := ⟨by decide +kernel, rfl⟩
theorem d9_begins_19 : zd b9_begins 19 (.aload_n 0) 1 20 := ⟨by decide +kernel, rfl⟩
theorem d9_begins_20 : zd b9_begins 20 .dup 1 21 := ⟨by decide +kernel, rfl⟩
theorem d9_begins_21 : zd b9_begins 21 (.getfield 248) 3 24 := ⟨by decide +kernel, rfl⟩
theorem d9_begins_24 : zd b9_begins 24 (.iconst 1) 1 25 := ⟨by decide +kernel, rfl⟩
theorem d9_begins_25 : zd b9_begins 25 .iadd 1 26 := ⟨by decide +kernel, rfl⟩
theorem d9_begins_26 : zd b9_begins 26 (.putfield 248) 3 29 := ⟨by decide +kernel, rfl⟩
theorem d9_begins_29 : zd b9_begins 29 .return_ 1 30 := ⟨by decide +kernel, rfl⟩
def f9_begins (k : Nat) (x1 : Int32) (σ : ZS) : Option (Unit × ZS) :=
  if (30 : Int32) ≤ (σ 103 25) then (
  some ((), σ))
  else (
  if zin (σ 103 25) 30 then (
  zput (zu σ 118 ((σ 103 25).toNatClampNeg) x1) fun s3 =>
  zput (zu s3 103 25 ((s3 103 25) + (1 : Int32))) fun s4 =>
  some ((), s4)) else none)
theorem c9_begins (l : Launch) (g : ZG) {k : Nat} {x1 : Int32} {σ : ZS} {r : Unit} {σr : ZS} (hf : f9_begins k x1 σ = some (r, σr)) : zT l g y9_begins b9_begins 2 none 1 60 [zr 103, zi x1] σ none σr := by
  unfold f9_begins at hf
  refine zT_start (own := R9) rfl (by decide +kernel) 0 (L := [some (zr 103), some (zi x1)]) rfl rfl (fun x hl C => ?_)
  subst hl
  refine z_aload_n C d9_begins_0 rfl ?_
  refine z_getI C d9_begins_1 fl_842 kZ_103 ?_
  refine z_bipush C (30 : Int32) d9_begins_4 kB_30 ?_
  refine z_icmp_ge C d9_begins_6 (fun c1 => ?_) (fun c1 => ?_)
  · have hf := zit c1 hf
    exact z_vret C d9_begins_29 hf
  · have hf := zie c1 hf
    refine z_aload_n C d9_begins_9 rfl ?_
    refine z_getR C d9_begins_10 fl_841 kZ_103 118 rfl (zn0 kZ_118) ?_
    refine z_aload_n C d9_begins_13 rfl ?_
    refine z_getI C d9_begins_14 fl_842 kZ_103 ?_
    refine z_iload_n C d9_begins_17 rfl ?_
    obtain ⟨g2, hf⟩ := zgo hf
    obtain ⟨s3, e3, hf⟩ := zpx hf
    refine z_iast C d9_begins_18 kZ_118 kL_118 g2 rfl e3 ?_
    refine z_aload_n C d9_begins_19 rfl ?_
    refine z_dup C d9_begins_20 rfl ?_
    refine z_getI C d9_begins_21 fl_842 kZ_103 ?_
    refine z_iconst C (1 : Int32) d9_begins_24 kI_1 ?_
    refine z_iadd C d9_begins_25 ?_
    obtain ⟨s4, e4, hf⟩ := zpx hf
    refine z_putI C d9_begins_26 fl_842 ft_9_25 kZ_103 e4 ?_
    exact z_vret C d9_begins_29 hf
theorem d9_body_0 : zd b9_body 0 (.iload_n 1) 1 1 := ⟨by decide +kernel, rfl⟩
theorem d9_body_1 : zd b9_body 1 (.iconst 0) 1 2 := ⟨by decide +kernel, rfl⟩
theorem d9_body_2 : zd b9_body 2 (.aload_n 0) 1 3 := ⟨by decide +kernel, rfl⟩
theorem d9_body_3 : zd b9_body 3 (.getfield 248) 3 6 := ⟨by decide +kernel, rfl⟩
theorem d9_body_6 : zd b9_body 6 (.iconst 1) 1 7 := ⟨by decide +kernel, rfl⟩
theorem d9_body_7 : zd b9_body 7 .isub 1 8 := ⟨by decide +kernel, rfl⟩
theorem d9_body_8 : zd b9_body 8 (.invokestatic 56) 3 11 := ⟨by decide +kernel, rfl⟩
theorem d9_body_11 : zdb b9_body 11 (.ifCond .eq 12) 12 14 23 := ⟨by decide +kernel, rfl, by decide⟩
theorem d9_body_14 : zd b9_body 14 (.aload_n 0) 1 15 := ⟨by decide +kernel, rfl⟩
theorem d9_body_15 : zd b9_body 15 (.getfield 52) 3 18 := ⟨by decide +kernel, rfl⟩
theorem d9_body_18 : zd b9_body 18 (.iload_n 1) 1 19 := ⟨by decide +kernel, rfl⟩
theorem d9_body_19 : zd b9_body 19 .iaload 1 20 := ⟨by decide +kernel, rfl⟩
theorem d9_body_20 : zdb b9_body 20 (.goto 9) 9 23 29 := ⟨by decide +kernel, rfl, by decide⟩
theorem d9_body_23 : zd b9_body 23 (.aload_n 0) 1 24 := ⟨by decide +kernel, rfl⟩
theorem d9_body_24 : zd b9_body 24 (.ldc 220) 2 26 := ⟨by decide +kernel, rfl⟩
theorem d9_body_26 : zd b9_body 26 (.invokevirtual 131) 3 29 := ⟨by decide +kernel, rfl⟩
theorem d9_body_29 : zd b9_body 29 .ireturn 1 30 := ⟨by decide +kernel, rfl⟩
def f9_body (k : Nat) (x1 : Int32) (σ : ZS) : Option (Int32 × ZS) :=
  zbd (f9_in k x1 (0 : Int32) ((σ 103 25) - (1 : Int32)) σ) fun r1 s1 =>
  if r1 = 0 then (
  zbd (f9_error k (-1000000002 : Int32) s1) fun r3 s3 =>
  some (r3, s3))
  else (
  if zin x1 30 then (
  some ((s1 118 x1.toNatClampNeg), s1)) else none)
theorem c9_body (l : Launch) (g : ZG) {k : Nat} {x1 : Int32} {σ : ZS} {r : Int32} {σr : ZS} (hf : f9_body k x1 σ = some (r, σr)) : zT l g y9_body b9_body 2 (some .int) 2 82 [zr 103, zi x1] σ (some (zi r)) σr := by
  unfold f9_body at hf
  refine zT_start (own := R9) rfl (by decide +kernel) 0 (L := [some (zr 103), some (zi x1)]) rfl rfl (fun x hl C => ?_)
  subst hl
  refine z_iload_n C d9_body_0 rfl ?_
  refine z_iconst C (0 : Int32) d9_body_1 kI_0 ?_
  refine z_aload_n C d9_body_2 rfl ?_
  refine z_getI C d9_body_3 fl_842 kZ_103 ?_
  refine z_iconst C (1 : Int32) d9_body_6 kI_1 ?_
  refine z_isub C d9_body_7 ?_
  obtain ⟨r1, s1, h1, hf⟩ := zbx hf
  refine z_callSi C (as := [zi x1, zi (0 : Int32), zi ((σ 103 25) - (1 : Int32))]) d9_body_8 w_906 yy9_in (c9_in x.2.1 g h1) rfl rfl (Nat.le_of_ble_eq_true rfl) ⟨Nat.le_of_ble_eq_true rfl, Nat.le_of_ble_eq_true rfl⟩ ⟨Nat.zero_le _, Nat.zero_le _⟩ ?_
  refine z_if_eq C d9_body_11 (fun c2 => ?_) (fun c2 => ?_)
  · have hf := zit c2 hf
    refine z_aload_n C d9_body_23 rfl ?_
    refine z_ldc C (-1000000002 : Int32) d9_body_24 w_1134 ?_
    obtain ⟨r3, s3, h3, hf⟩ := zbx hf
    refine z_callVi C (as := [zi (-1000000002 : Int32)]) d9_body_26 w_916 yy9_error (c9_error x.2.1 g h3) yc9_error kZ_103 rfl rfl (Nat.le_of_ble_eq_true rfl) ⟨Nat.le_of_ble_eq_true rfl, Nat.le_of_ble_eq_true rfl⟩ ⟨Nat.zero_le _, Nat.zero_le _⟩ ?_
    exact z_iret C d9_body_29 hf
  · have hf := zie c2 hf
    refine z_aload_n C d9_body_14 rfl ?_
    refine z_getR C d9_body_15 fl_841 kZ_103 118 rfl (zn0 kZ_118) ?_
    refine z_iload_n C d9_body_18 rfl ?_
    obtain ⟨g4, hf⟩ := zgo hf
    refine z_iald C d9_body_19 kZ_118 kL_118 g4 (x1.toNatClampNeg) rfl ?_
    refine z_goto C d9_body_20 ?_
    exact z_iret C d9_body_29 hf
theorem d9_isSeen_0 : zd b9_isSeen 0 (.iconst 0) 1 1 := ⟨by decide +kernel, rfl⟩
theorem d9_isSeen_1 : zd b9_isSeen 1 (.istore_n 2) 1 2 := ⟨by decide +kernel, rfl⟩
theorem d9_isSeen_2 : zd b9_isSeen 2 (.iload_n 2) 1 3 := ⟨by decide +kernel, rfl⟩
theorem d9_isSeen_3 : zd b9_isSeen 3 (.aload_n 0) 1 4 := ⟨by decide +kernel, rfl⟩
theorem d9_isSeen_4 : zd b9_isSeen 4 (.getfield 93) 3 7 := ⟨by decide +kernel, rfl⟩
theorem d9_isSeen_7 : zdb b9_isSeen 7 (.if_icmp .ge 21) 21 10 28 := ⟨by decide +kernel, rfl, by decide⟩
theorem d9_isSeen_10 : zd b9_isSeen 10 (.aload_n 0) 1 11 := ⟨by decide +kernel, rfl⟩
theorem d9_isSeen_11 : zd b9_isSeen 11 (.getfield 31) 3 14 := ⟨by decide +kernel, rfl⟩
theorem d9_isSeen_14 : zd b9_isSeen 14 (.iload_n 2) 1 15 := ⟨by decide +kernel, rfl⟩
theorem d9_isSeen_15 : zd b9_isSeen 15 .iaload 1 16 := ⟨by decide +kernel, rfl⟩
theorem d9_isSeen_16 : zd b9_isSeen 16 (.iload_n 1) 1 17 := ⟨by decide +kernel, rfl⟩
theorem d9_isSeen_17 : zdb b9_isSeen 17 (.if_icmp .ne 5) 5 20 22 := ⟨by decide +kernel, rfl, by decide⟩
theorem d9_isSeen_20 : zd b9_isSeen 20 (.iconst 1) 1 21 := ⟨by decide +kernel, rfl⟩
theorem d9_isSeen_21 : zd b9_isSeen 21 .ireturn 1 22 := ⟨by decide +kernel, rfl⟩
theorem d9_isSeen_22 : zd b9_isSeen 22 (.iinc 2 1) 3 25 := ⟨by decide +kernel, rfl⟩
theorem d9_isSeen_25 : zdb b9_isSeen 25 (.goto (-23)) (-23) 28 2 := ⟨by decide +kernel, rfl, by decide⟩
theorem d9_isSeen_28 : zd b9_isSeen 28 (.iconst 0) 1 29 := ⟨by decide +kernel, rfl⟩
theorem d9_isSeen_29 : zd b9_isSeen 29 .ireturn 1 30 := ⟨by decide +kernel, rfl⟩
def b9_isSeen_2 (k : Nat) (q2 : Int32 → Int32 → ZS → Option (Int32 × ZS)) (x1 : Int32) (x2 : Int32) (σ : ZS) : Option (Int32 × ZS) :=
  if (σ 103 9) ≤ x2 then (
  some ((0 : Int32), σ))
  else (
  if zin x2 257 then (
  if (σ 111 x2.toNatClampNeg) = x1 then (
  some ((1 : Int32), σ))
  else (
  q2 x1 (x2 + (1 : Int32)) σ)) else none)
def f9_isSeen_2 (k : Nat) : Nat → Int32 → Int32 → ZS → Option (Int32 × ZS)
  | 0 => fun _ _ _ => none
  | n + 1 => b9_isSeen_2 k  (f9_isSeen_2 k  n)
theorem j9_isSeen_2 {x : ZX} {g : ZG} (C : zC x g b9_isSeen R9 (some .boolean) 3 1 60) {k : Nat} {r : Int32} {σr : ZS}  {q2 : Int32 → Int32 → ZS → Option (Int32 × ZS)} (hq2 : (∀ (x1 : Int32) (x2 : Int32) (σ : ZS), q2 x1 x2 σ = some (r, σr) → zw x g 3 0 0 (zMQ x g (some (zi r)) σr) σ 2 [some (zr 103), some (zi x1), some (zi x2)] [])) {x1 : Int32} {x2 : Int32} {σ : ZS} (hf : b9_isSeen_2 k q2 x1 x2 σ = some (r, σr)) : zw x g 3 0 0 (zMQ x g (some (zi r)) σr) σ 2 [some (zr 103), some (zi x1), some (zi x2)] [] := by
  unfold b9_isSeen_2 at hf
  refine z_iload_n C d9_isSeen_2 rfl ?_
  refine z_aload_n C d9_isSeen_3 rfl ?_
  refine z_getI C d9_isSeen_4 fl_826 kZ_103 ?_
  refine z_icmp_ge C d9_isSeen_7 (fun c1 => ?_) (fun c1 => ?_)
  · have hf := zit c1 hf
    refine z_iconst C (0 : Int32) d9_isSeen_28 kI_0 ?_
    exact z_zret C d9_isSeen_29 (Or.inl rfl) hf
  · have hf := zie c1 hf
    refine z_aload_n C d9_isSeen_10 rfl ?_
    refine z_getR C d9_isSeen_11 fl_825 kZ_103 111 rfl (zn0 kZ_111) ?_
    refine z_iload_n C d9_isSeen_14 rfl ?_
    obtain ⟨g2, hf⟩ := zgo hf
    refine z_iald C d9_isSeen_15 kZ_111 kL_111 g2 (x2.toNatClampNeg) rfl ?_
    refine z_iload_n C d9_isSeen_16 rfl ?_
    refine z_icmp_ne C d9_isSeen_17 (fun c3 => ?_) (fun c3 => ?_)
    · have hf := zit c3 hf
      refine z_iconst C (1 : Int32) d9_isSeen_20 kI_1 ?_
      exact z_zret C d9_isSeen_21 (Or.inr rfl) hf
    · have hf := zie c3 hf
      refine z_iinc C d9_isSeen_22 rfl kI_1 (Nat.le_of_ble_eq_true rfl) rfl (L' := [some (zr 103), some (zi x1), some (zi (x2 + (1 : Int32)))]) rfl ?_
      refine z_goto C d9_isSeen_25 ?_
      exact hq2 _ _ _ hf
theorem j9_isSeen_2l {x : ZX} {g : ZG} (C : zC x g b9_isSeen R9 (some .boolean) 3 1 60) {k : Nat} {r : Int32} {σr : ZS}  : ∀ (n : Nat) (x1 : Int32) (x2 : Int32) (σ : ZS), f9_isSeen_2 k  n x1 x2 σ = some (r, σr) → zw x g 3 0 0 (zMQ x g (some (zi r)) σr) σ 2 [some (zr 103), some (zi x1), some (zi x2)] [] := by
  intro n
  induction n with
  | zero => intro x1 x2 σ hf; exact absurd (show none = some (r, σr) from hf) (fun z => by cases z)
  | succ n ih => intro x1 x2 σ hf; exact j9_isSeen_2 C  ih (show b9_isSeen_2 k  (f9_isSeen_2 k  n) x1 x2 σ = some (r, σr) from hf)
def f9_isSeen (k : Nat) (x1 : Int32) (σ : ZS) : Option (Int32 × ZS) :=
  f9_isSeen_2 k  k x1 (0 : Int32) σ
theorem c9_isSeen (l : Launch) (g : ZG) {k : Nat} {x1 : Int32} {σ : ZS} {r : Int32} {σr : ZS} (hf : f9_isSeen k x1 σ = some (r, σr)) : zT l g y9_isSeen b9_isSeen 3 (some .boolean) 1 60 [zr 103, zi x1] σ (some (zi r)) σr := by
  unfold f9_isSeen at hf
  refine zT_start (own := R9) rfl (by decide +kernel) 1 (L := [some (zr 103), some (zi x1), none]) rfl rfl (fun x hl C => ?_)
  subst hl
  refine z_iconst C (0 : Int32) d9_isSeen_0 kI_0 ?_
  refine z_istore_n C d9_isSeen_1 (Nat.le_of_ble_eq_true rfl) rfl (L' := [some (zr 103), some (zi x1), some (zi (0 : Int32))]) rfl ?_
  exact j9_isSeen_2l C  _ _ _ _ hf
theorem d9_looksOf_0 : zd b9_looksOf 0 (.aload_n 0) 1 1 := ⟨by decide +kernel, rfl⟩
theorem d9_looksOf_1 : zd b9_looksOf 1 (.aload_n 0) 1 2 := ⟨by decide +kernel, rfl⟩
theorem d9_looksOf_2 : zd b9_looksOf 2 (.iload_n 1) 1 3 := ⟨by decide +kernel, rfl⟩
theorem d9_looksOf_3 : zd b9_looksOf 3 (.iconst 0) 1 4 := ⟨by decide +kernel, rfl⟩
theorem d9_looksOf_4 : zd b9_looksOf 4 (.invokevirtual 109) 3 7 := ⟨by decide +kernel, rfl⟩
theorem d9_looksOf_7 : zd b9_looksOf 7 (.aload_n 0) 1 8 := ⟨by decide +kernel, rfl⟩
theorem d9_looksOf_8 : zd b9_looksOf 8 (.iload_n 1) 1 9 := ⟨by decide +kernel, rfl⟩
theorem d9_looksOf_9 : zd b9_looksOf 9 (.iconst 1) 1 10 := ⟨by decide +kernel, rfl⟩
theorem d9_looksOf_10 : zd b9_looksOf 10 (.invokevirtual 109) 3 13 := ⟨by decide +kernel, rfl⟩
theorem d9_looksOf_13 : zd b9_looksOf 13 (.invokevirtual 112) 3 16 := ⟨by decide +kernel, rfl⟩
theorem d9_looksOf_16 : zd b9_looksOf 16 .return_ 1 17 := ⟨by decide +kernel, rfl⟩
def f9_looksOf (k : Nat) (x1 : Int32) (σ : ZS) : Option (Unit × ZS) :=
  zbd (f9_about k x1 (0 : Int32) σ) fun r1 s1 =>
  zbd (f9_about k x1 (1 : Int32) s1) fun r2 s2 =>
  zbd (f9_looks k r1 r2 s2) fun _ s3 =>
  some ((), s3)
theorem c9_looksOf (l : Launch) (g : ZG) {k : Nat} {x1 : Int32} {σ : ZS} {r : Unit} {σr : ZS} (hf : f9_looksOf k x1 σ = some (r, σr)) : zT l g y9_looksOf b9_looksOf 2 none 6 180 [zr 103, zi x1] σ none σr := by
  unfold f9_looksOf at hf
  refine zT_start (own := R9) rfl (by decide +kernel) 0 (L := [some (zr 103), some (zi x1)]) rfl rfl (fun x hl C => ?_)
  subst hl
  refine z_aload_n C d9_looksOf_0 rfl ?_
  refine z_aload_n C d9_looksOf_1 rfl ?_
  refine z_iload_n C d9_looksOf_2 rfl ?_
  refine z_iconst C (0 : Int32) d9_looksOf_3 kI_0 ?_
  obtain ⟨r1, s1, h1, hf⟩ := zbx hf
  refine z_callVi C (as := [zi x1, zi (0 : Int32)]) d9_looksOf_4 w_990 yy9_about (c9_about x.2.1 g h1) yc9_about kZ_103 rfl rfl (Nat.le_of_ble_eq_true rfl) ⟨Nat.le_of_ble_eq_true rfl, Nat.le_of_ble_eq_true rfl⟩ ⟨Nat.zero_le _, Nat.zero_le _⟩ ?_
  refine z_aload_n C d9_looksOf_7 rfl ?_
  refine z_iload_n C d9_looksOf_8 rfl ?_
  refine z_iconst C (1 : Int32) d9_looksOf_9 kI_1 ?_
  obtain ⟨r2, s2, h2, hf⟩ := zbx hf
  refine z_callVi C (as := [zi x1, zi (1 : Int32)]) d9_looksOf_10 w_990 yy9_about (c9_about x.2.1 g h2) yc9_about kZ_103 rfl rfl (Nat.le_of_ble_eq_true rfl) ⟨Nat.le_of_ble_eq_true rfl, Nat.le_of_ble_eq_true rfl⟩ ⟨Nat.zero_le _, Nat.zero_le _⟩ ?_
  obtain ⟨r3, s3, h3, hf⟩ := zbx hf
  refine z_callVv C (as := [zi r1, zi r2]) d9_looksOf_13 w_1002 yy9_looks (c9_looks x.2.1 g h3) yc9_looks kZ_103 rfl rfl (Nat.le_of_ble_eq_true rfl) ⟨Nat.le_of_ble_eq_true rfl, Nat.le_of_ble_eq_true rfl⟩ ⟨Nat.zero_le _, Nat.zero_le _⟩ ?_
  exact z_vret C d9_looksOf_16 hf
theorem d9_doesSee_0 : zd b9_doesSee 0 (.aload_n 0) 1 1 := ⟨by decide +kernel, rfl⟩
theorem d9_doesSee_1 : zd b9_doesSee 1 (.iload_n 1) 1 2 := ⟨by decide +kernel, rfl⟩
theorem d9_doesSee_2 : zd b9_doesSee 2 (.invokevirtual 116) 3 5 := ⟨by decide +kernel, rfl⟩
theorem d9_doesSee_5 : zd b9_doesSee 5 (.aload_n 0) 1 6 := ⟨by decide +kernel, rfl⟩
theorem d9_doesSee_6 : zd b9_doesSee 6 (.iload_n 2) 1 7 := ⟨by decide +kernel, rfl⟩
theorem d9_doesSee_7 : zd b9_doesSee 7 (.invokevirtual 221) 3 10 := ⟨by decide +kernel, rfl⟩
theorem d9_doesSee_10 : zd b9_doesSee 10 .ireturn 1 11 := ⟨by decide +kernel, rfl⟩
def f9_doesSee (k : Nat) (x1 : Int32) (x2 : Int32) (σ : ZS) : Option (Int32 × ZS) :=
  zbd (f9_looksOf k x1 σ) fun _ s1 =>
  zbd (f9_isSeen k x2 s1) fun r2 s2 =>
  if zbo r2 then (
  some (r2, s2)) else none
theorem c9_doesSee (l : Launch) (g : ZG) {k : Nat} {x1 : Int32} {x2 : Int32} {σ : ZS} {r : Int32} {σr : ZS} (hf : f9_doesSee k x1 x2 σ = some (r, σr)) : zT l g y9_doesSee b9_doesSee 3 (some .boolean) 7 201 [zr 103, zi x1, zi x2] σ (some (zi r)) σr := by
  unfold f9_doesSee at hf
  refine zT_start (own := R9) rfl (by decide +kernel) 0 (L := [some (zr 103), some (zi x1), some (zi x2)]) rfl rfl (fun x hl C => ?_)
  subst hl
  refine z_aload_n C d9_doesSee_0 rfl ?_
  refine z_iload_n C d9_doesSee_1 rfl ?_
  obtain ⟨r1, s1, h1, hf⟩ := zbx hf
  refine z_callVv C (as := [zi x1]) d9_doesSee_2 w_998 yy9_looksOf (c9_looksOf x.2.1 g h1) yc9_looksOf kZ_103 rfl rfl (Nat.le_of_ble_eq_true rfl) ⟨Nat.le_of_ble_eq_true rfl, Nat.le_of_ble_eq_true rfl⟩ ⟨Nat.zero_le _, Nat.zero_le _⟩ ?_
  refine z_aload_n C d9_doesSee_5 rfl ?_
  refine z_iload_n C d9_doesSee_6 rfl ?_
  obtain ⟨r2, s2, h2, hf⟩ := zbx hf
  refine z_callVi C (as := [zi x2]) d9_doesSee_7 w_1143 yy9_isSeen (c9_isSeen x.2.1 g h2) yc9_isSeen kZ_103 rfl rfl (Nat.le_of_ble_eq_true rfl) ⟨Nat.le_of_ble_eq_true rfl, Nat.le_of_ble_eq_true rfl⟩ ⟨Nat.zero_le _, Nat.zero_le _⟩ ?_
  obtain ⟨g3, hf⟩ := zgo hf
  exact z_zret C d9_doesSee_10 g3 hf
theorem d9_canSee_0 : zd b9_canSee 0 (.iload_n 3) 1 1 := ⟨by decide +kernel, rfl⟩
theorem d9_canSee_1 : zdb b9_canSee 1 (.ifCond .ne 10) 10 4 11 := ⟨by decide +kernel, rfl, by decide⟩
theorem d9_canSee_4 : zd b9_canSee 4 (.aload_n 0) 1 5 := ⟨by decide +kernel, rfl⟩
theorem d9_canSee_5 : zd b9_canSee 5 (.iload_n 1) 1 6 := ⟨by decide +kernel, rfl⟩
theorem d9_canSee_6 : zd b9_canSee 6 (.iload_n 2) 1 7 := ⟨by decide +kernel, rfl⟩
theorem d9_canSee_7 : zd b9_canSee 7 (.invokevirtual 234) 3 10 := ⟨by decide +kernel, rfl⟩
theorem d9_canSee_10 : zd b9_canSee 10 .ireturn 1 11 := ⟨by decide +kernel, rfl⟩
theorem d9_canSee_11 : zd b9_canSee 11 (.iload 4) 2 13 := ⟨by decide +kernel, rfl⟩
theorem d9_canSee_13 : zd b9_canSee 13 (.istore 5) 2 15 := ⟨by decide +kernel, rfl⟩
theorem d9_canSee_15 : zd b9_canSee 15 (.iload 5) 2 17 := ⟨by decide +kernel, rfl⟩
theorem d9_canSee_17 : zd b9_canSee 17 (.aload_n 0) 1 18 := ⟨by decide +kernel, rfl⟩
theorem d9_canSee_18 : zd b9_canSee 18 (.getfield 9) 3 21 := ⟨by decide +kernel, rfl⟩
theorem d9_canSee_21 : zd b9_canSee 21 (.iconst 2) 1 22 := ⟨by decide +kernel, rfl⟩
theorem d9_canSee_22 : zd b9_canSee 22 .iaload 1 23 := ⟨by decide +kernel, rfl⟩
theorem d9_canSee_23 : zdb b9_canSee 23 (.if_icmp .ge 126) 126 26 149 := ⟨by decide +kernel, rfl, by decide⟩
theorem d9_canSee_26 : zd b9_canSee 26 (.aload_n 0) 1 27 := ⟨by decide +kernel, rfl⟩
theorem d9_canSee_27 : zd b9_canSee 27 (.iload 5) 2 29 := ⟨by decide +kernel, rfl⟩
theorem d9_canSee_29 : zd b9_canSee 29 (.iconst 3) 1 30 := ⟨by decide +kernel, rfl⟩
theorem d9_canSee_30 : zd b9_canSee 30 (.invokevirtual 60) 3 33 := ⟨by decide +kernel, rfl⟩
theorem d9_canSee_33 : zd b9_canSee 33 (.istore 6) 2 35 := ⟨by decide +kernel, rfl⟩
theorem d9_canSee_35 : zd b9_canSee 35 (.iconst 0) 1 36 := ⟨by decide +kernel, rfl⟩
theorem d9_canSee_36 : zd b9_canSee 36 (.istore 7) 2 38 := ⟨by decide +kernel, rfl⟩
theorem d9_canSee_38 : zd b9_canSee 38 (.iload 7) 2 40 := ⟨by decide +kernel, rfl⟩
theorem d9_canSee_40 : zd b9_canSee 40 (.iconst 4) 1 41 := ⟨by decide +kernel, rfl⟩
theorem d9_canSee_41 : zdb b9_canSee 41 (.if_icmp .ge 102) 102 44 143 := ⟨by decide +kernel, rfl, by decide⟩
theorem d9_canSee_44 : zd b9_canSee 44 (.aload_n 0) 1 45 := ⟨by decide +kernel, rfl⟩
theorem d9_canSee_45 : zd b9_canSee 45 (.getfield 9) 3 48 := ⟨by decide +kernel, rfl⟩
theorem d9_canSee_48 : zd b9_canSee 48 (.bipush 6) 2 50 := ⟨by decide +kernel, rfl⟩
theorem d9_canSee_50 : zd b9_canSee 50 (.iconst 5) 1 51 := ⟨by decide +kernel, rfl⟩
theorem d9_canSee_51 : zd b9_canSee 51 (.iload 5) 2 53 := ⟨by decide +kernel, rfl⟩
theorem d9_canSee_53 : zd b9_canSee 53 .imul 1 54 := ⟨by decide +kernel, rfl⟩
theorem d9_canSee_54 : zd b9_canSee 54 .iadd 1 55 := ⟨by decide +kernel, rfl⟩
theorem d9_canSee_55 : zd b9_canSee 55 (.iconst 3) 1 56 := ⟨by decide +kernel, rfl⟩
theorem d9_canSee_56 : zd b9_canSee 56 .iadd 1 57 := ⟨by decide +kernel, rfl⟩
theorem d9_canSee_57 : zd b9_canSee 57 (.iload 7) 2 59 := ⟨by decide +kernel, rfl⟩
theorem d9_canSee_59 : zd b9_canSee 59 .iastore 1 60 := ⟨by decide +kernel, rfl⟩
theorem d9_canSee_60 : zd b9_canSee 60 (.iload 7) 2 62 := ⟨by decide +kernel, rfl⟩
theorem d9_canSee_62 : zd b9_canSee 62 (.iload 6) 2 64 := ⟨by decide +kernel, rfl⟩
theorem d9_canSee_64 : zdb b9_canSee 64 (.if_icmp .eq 23) 23 67 87 := ⟨by decide +kernel, rfl, by decide⟩
theorem d9_canSee_67 : zd b9_canSee 67 (.aload_n 0) 1 68 := ⟨by decide +kernel, rfl⟩
theorem d9_canSee_68 : zd b9_canSee 68 (.iload_n 1) 1 69 := ⟨by decide +kernel, rfl⟩
theorem d9_canSee_69 : zd b9_canSee 69 (.iload_n 2) 1 70 := ⟨by decide +kernel, rfl⟩
theorem d9_canSee_70 : zd b9_canSee 70 (.iload_n 3) 1 71 := ⟨by decide +kernel, rfl⟩
theorem d9_canSee_71 : zd b9_canSee 71 (.iconst 1) 1 72 := ⟨by decide +kernel, rfl⟩
theorem d9_canSee_72 : zd b9_canSee 72 .isub 1 73 := ⟨by decide +kernel, rfl⟩
theorem d9_canSee_73 : zd b9_canSee 73 (.iload 5) 2 75 := ⟨by decide +kernel, rfl⟩
theorem d9_canSee_75 : zd b9_canSee 75 (.iconst 1) 1 76 := ⟨by decide +kernel, rfl⟩
theorem d9_canSee_76 : zd b9_canSee 76 .iadd 1 77 := ⟨by decide +kernel, rfl⟩
theorem d9_canSee_77 : zd b9_canSee 77 (.invokevirtual 238) 3 80 := ⟨by decide +kernel, rfl⟩
theorem d9_canSee_80 : zdb b9_canSee 80 (.ifCond .eq 7) 7 83 87 := ⟨by decide +kernel, rfl, by decide⟩
theorem d9_canSee_83 : zd b9_canSee 83 (.iconst 1) 1 84 := ⟨by decide +kernel, rfl⟩
theorem d9_canSee_84 : zdb b9_canSee 84 (.goto 4) 4 87 88 := ⟨by decide +kernel, rfl, by decide⟩
theorem d9_canSee_87 : zd b9_canSee 87 (.iconst 0) 1 88 := ⟨by decide +kernel, rfl⟩
theorem d9_canSee_88 : zd b9_canSee 88 (.istore 8) 2 90 := ⟨by decide +kernel, rfl⟩
theorem d9_canSee_90 : zd b9_canSee 90 (.aload_n 0) 1 91 := ⟨by decide +kernel, rfl⟩
theorem d9_canSee_91 : zd b9_canSee 91 (.getfield 9) 3 94 := ⟨by decide +kernel, rfl⟩
theorem d9_canSee_94 : zd b9_canSee 94 (.bipush 6) 2 96 := ⟨by decide +kernel, rfl⟩
theorem d9_canSee_96 : zd b9_canSee 96 (.iconst 5) 1 97 := ⟨by decide +kernel, rfl⟩
theorem d9_canSee_97 : zd b9_canSee 97 (.iload 5) 2 99 := ⟨by decide +kernel, rfl⟩
theorem d9_canSee_99 : zd b9_canSee 99 .imul 1 100 := ⟨by decide +kernel, rfl⟩
theorem d9_canSee_100 : zd b9_canSee 100 .iadd 1 101 := ⟨by decide +kernel, rfl⟩
theorem d9_canSee_101 : zd b9_canSee 101 (.iconst 3) 1 102 := ⟨by decide +kernel, rfl⟩
theorem d9_canSee_102 : zd b9_canSee 102 .iadd 1 103 := ⟨by decide +kernel, rfl⟩
theorem d9_canSee_103 : zd b9_canSee 103 (.iload 6) 2 105 := ⟨by decide +kernel, rfl⟩
theorem d9_canSee_105 : zd b9_canSee 105 .iastore 1 106 := ⟨by decide +kernel, rfl⟩
theorem d9_canSee_106 : zd b9_canSee 106 (.iload 8) 2 108 := ⟨by decide +kernel, rfl⟩
theorem d9_canSee_108 : zdb b9_canSee 108 (.ifCond .eq 29) 29 111 137 := ⟨by decide +kernel, rfl, by decide⟩
theorem d9_canSee_111 : zd b9_canSee 111 (.aload_n 0) 1 112 := ⟨by decide +kernel, rfl⟩
theorem d9_canSee_112 : zd b9_canSee 112 (.getfield 49) 3 115 := ⟨by decide +kernel, rfl⟩
theorem d9_canSee_115 : zd b9_canSee 115 (.iconst 2) 1 116 := ⟨by decide +kernel, rfl⟩
theorem d9_canSee_116 : zd b9_canSee 116 (.iload_n 3) 1 117 := ⟨by decide +kernel, rfl⟩
theorem d9_canSee_117 : zd b9_canSee 117 .imul 1 118 := ⟨by decide +kernel, rfl⟩
theorem d9_canSee_118 : zd b9_canSee 118 (.iconst 2) 1 119 := ⟨by decide +kernel, rfl⟩
theorem d9_canSee_119 : zd b9_canSee 119 .isub 1 120 := ⟨by decide +kernel, rfl⟩
theorem d9_canSee_120 : zd b9_canSee 120 (.iload 5) 2 122 := ⟨by decide +kernel, rfl⟩
theorem d9_canSee_122 : zd b9_canSee 122 .iastore 1 123 := ⟨by decide +kernel, rfl⟩
theorem d9_canSee_123 : zd b9_canSee 123 (.aload_n 0) 1 124 := ⟨by decide +kernel, rfl⟩
theorem d9_canSee_124 : zd b9_canSee 124 (.getfield 49) 3 127 := ⟨by decide +kernel, rfl⟩
theorem d9_canSee_127 : zd b9_canSee 127 (.iconst 2) 1 128 := ⟨by decide +kernel, rfl⟩
theorem d9_canSee_128 : zd b9_canSee 128 (.iload_n 3) 1 129 := ⟨by decide +kernel, rfl⟩
theorem d9_canSee_129 : zd b9_canSee 129 .imul 1 130 := ⟨by decide +kernel, rfl⟩
theorem d9_canSee_130 : zd b9_canSee 130 (.iconst 1) 1 131 := ⟨by decide +kernel, rfl⟩
theorem d9_canSee_131 : zd b9_canSee 131 .isub 1 132 := ⟨by decide +kernel, rfl⟩
theorem d9_canSee_132 : zd b9_canSee 132 (.iload 7) 2 134 := ⟨by decide +kernel, rfl⟩
theorem d9_canSee_134 : zd b9_canSee 134 .iastore 1 135 := ⟨by decide +kernel, rfl⟩
theorem d9_canSee_135 : zd b9_canSee 135 (.iconst 1) 1 136 := ⟨by decide +kernel, rfl⟩
theorem d9_canSee_136 : zd b9_canSee 136 .ireturn 1 137 := ⟨by decide +kernel, rfl⟩
theorem d9_canSee_137 : zd b9_canSee 137 (.iinc 7 1) 3 140 := ⟨by decide +kernel, rfl⟩
theorem d9_canSee_140 : zdb b9_canSee 140 (.goto (-102)) (-102) 143 38 := ⟨by decide +kernel, rfl, by decide⟩
theorem d9_canSee_143 : zd b9_canSee 143 (.iinc 5 1) 3 146 := ⟨by decide +kernel, rfl⟩
theorem d9_canSee_146 : zdb b9_canSee 146 (.goto (-131)) (-131) 149 15 := ⟨by decide +kernel, rfl, by decide⟩
theorem d9_canSee_149 : zd b9_canSee 149 (.iconst 0) 1 150 := ⟨by decide +kernel, rfl⟩
theorem d9_canSee_150 : zd b9_canSee 150 .ireturn 1 151 := ⟨by decide +kernel, rfl⟩
def zGCS (l : Launch) (g : ZG) (F Lo : Nat) (rc : Nat → List Int32 → ZS → Option (Int32 × ZS)) : Prop :=
  (∀ (a0 : Int32) (a1 : Int32) (a2 : Int32) (a3 : Int32) (σ : ZS) (r : Int32) (σr : ZS), rc 0 [a0, a1, a2, a3] σ = some (r, σr) → zT l g y9_canSee b9_canSee 9 (some .boolean) (F) (Lo) [zr 103, zi a0, zi a1, zi a2, zi a3] σ (some (zi r)) σr)
def b9_canSee_88 (k : Nat) (rc : Nat → List Int32 → ZS → Option (Int32 × ZS)) (q15 : Int32 → Int32 → Int32 → Int32 → ZS → Option (Int32 × ZS)) (q38 : Int32 → Int32 → Int32 → Int32 → Int32 → Int32 → ZS → Option (Int32 × ZS)) (x1 : Int32) (x2 : Int32) (x3 : Int32) (x5 : Int32) (x6 : Int32) (x7 : Int32) (v0 : Int32) (σ : ZS) : Option (Int32 × ZS) :=
  if zin (((6 : Int32) + ((5 : Int32) * x5)) + (3 : Int32)) 390 then (
  zput (zu σ 104 ((((6 : Int32) + ((5 : Int32) * x5)) + (3 : Int32)).toNatClampNeg) x6) fun s2 =>
  if v0 = 0 then (
  q38 x1 x2 x3 x5 x6 (x7 + (1 : Int32)) s2)
  else (
  if zin (((2 : Int32) * x3) - (2 : Int32)) 4 then (
  zput (zu s2 117 ((((2 : Int32) * x3) - (2 : Int32)).toNatClampNeg) x5) fun s5 =>
  if zin (((2 : Int32) * x3) - (1 : Int32)) 4 then (
  zput (zu s5 117 ((((2 : Int32) * x3) - (1 : Int32)).toNatClampNeg) x7) fun s7 =>
  some ((1 : Int32), s7)) else none) else none)) else none
theorem j9_canSee_88 {x : ZX} {g : ZG} {F Lo : Nat} (C : zC x g b9_canSee R9 (some .boolean) 9 (F + 1) (Lo + 28)) {k : Nat} (hF : 8 ≤ F ∧ 223 ≤ Lo) {rc : Nat → List Int32 → ZS → Option (Int32 × ZS)} (hrc : zGCS x.2.1 g F Lo rc) {r : Int32} {σr : ZS}  {q15 : Int32 → Int32 → Int32 → Int32 → ZS → Option (Int32 × ZS)} (hq15 : (∀ (x1 : Int32) (x2 : Int32) (x3 : Int32) (x5 : Int32) (σ : ZS), q15 x1 x2 x3 x5 σ = some (r, σr) → zw x g 9 0 0 (zMQ x g (some (zi r)) σr) σ 15 [some (zr 103), some (zi x1), some (zi x2), some (zi x3), none, some (zi x5), none, none, none] [])) {q38 : Int32 → Int32 → Int32 → Int32 → Int32 → Int32 → ZS → Option (Int32 × ZS)} (hq38 : (∀ (x1 : Int32) (x2 : Int32) (x3 : Int32) (x5 : Int32) (x6 : Int32) (x7 : Int32) (σ : ZS), q38 x1 x2 x3 x5 x6 x7 σ = some (r, σr) → zw x g 9 0 0 (zMQ x g (some (zi r)) σr) σ 38 [some (zr 103), some (zi x1), some (zi x2), some (zi x3), none, some (zi x5), some (zi x6), some (zi x7), none] [])) {x1 : Int32} {x2 : Int32} {x3 : Int32} {x5 : Int32} {x6 : Int32} {x7 : Int32} {v0 : Int32} {σ : ZS} (hf : b9_canSee_88 k rc q15 q38 x1 x2 x3 x5 x6 x7 v0 σ = some (r, σr)) : zw x g 9 0 0 (zMQ x g (some (zi r)) σr) σ 88 [some (zr 103), some (zi x1), some (zi x2), some (zi x3), none, some (zi x5), some (zi x6), some (zi x7), none] [zi v0] := by
  unfold b9_canSee_88 at hf
  refine z_istore C d9_canSee_88 (Nat.le_of_ble_eq_true rfl) rfl (L' := [some (zr 103), some (zi x1), some (zi x2), some (zi x3), none, some (zi x5), some (zi x6), some (zi x7), some (zi v0)]) rfl ?_
  refine z_aload_n C d9_canSee_90 rfl ?_
  refine z_getR C d9_canSee_91 fl_817 kZ_103 104 rfl (zn0 kZ_104) ?_
  refine z_bipush C (6 : Int32) d9_canSee_94 kB_6 ?_
  refine z_iconst C (5 : Int32) d9_canSee_96 kI_5 ?_
  refine z_iload C d9_canSee_97 rfl ?_
  refine z_imul C d9_canSee_99 ?_
  refine z_iadd C d9_canSee_100 ?_
  refine z_iconst C (3 : Int32) d9_canSee_101 kI_3 ?_
  refine z_iadd C d9_canSee_102 ?_
  refine z_iload C d9_canSee_103 rfl ?_
  obtain ⟨g1, hf⟩ := zgo hf
  obtain ⟨s2, e2, hf⟩ := zpx hf
  refine z_iast C d9_canSee_105 kZ_104 kL_104 g1 rfl e2 ?_
  refine z_iload C d9_canSee_106 rfl ?_
  refine z_if_eq C d9_canSee_108 (fun c3 => ?_) (fun c3 => ?_)
  · have hf := zit c3 hf
    refine z_iinc C d9_canSee_137 rfl kI_1 (Nat.le_of_ble_eq_true rfl) rfl (L' := [some (zr 103), some (zi x1), some (zi x2), some (zi x3), none, some (zi x5), some (zi x6), some (zi (x7 + (1 : Int32))), some (zi v0)]) rfl ?_
    refine z_goto C d9_canSee_140 ?_
    refine z_drop [true, true, true, true, false, true, true, true, false] (L' := [some (zr 103), some (zi x1), some (zi x2), some (zi x3), none, some (zi x5), some (zi x6), some (zi (x7 + (1 : Int32))), none]) rfl ?_
    exact hq38 _ _ _ _ _ _ _ hf
  · have hf := zie c3 hf
    refine z_aload_n C d9_canSee_111 rfl ?_
    refine z_getR C d9_canSee_112 fl_840 kZ_103 117 rfl (zn0 kZ_117) ?_
    refine z_iconst C (2 : Int32) d9_canSee_115 kI_2 ?_
    refine z_iload_n C d9_canSee_116 rfl ?_
    refine z_imul C d9_canSee_117 ?_
    refine z_iconst C (2 : Int32) d9_canSee_118 kI_2 ?_
    refine z_isub C d9_canSee_119 ?_
    refine z_iload C d9_canSee_120 rfl ?_
    obtain ⟨g4, hf⟩ := zgo hf
    obtain ⟨s5, e5, hf⟩ := zpx hf
    refine z_iast C d9_canSee_122 kZ_117 kL_117 g4 rfl e5 ?_
    refine z_aload_n C d9_canSee_123 rfl ?_
    refine z_getR C d9_canSee_124 fl_840 kZ_103 117 rfl (zn0 kZ_117) ?_
    refine z_iconst C (2 : Int32) d9_canSee_127 kI_2 ?_
    refine z_iload_n C d9_canSee_128 rfl ?_
    refine z_imul C d9_canSee_129 ?_
    refine z_iconst C (1 : Int32) d9_canSee_130 kI_1 ?_
    refine z_isub C d9_canSee_131 ?_
    refine z_iload C d9_canSee_132 rfl ?_
    obtain ⟨g6, hf⟩ := zgo hf
    obtain ⟨s7, e7, hf⟩ := zpx hf
    refine z_iast C d9_canSee_134 kZ_117 kL_117 g6 rfl e7 ?_
    refine z_iconst C (1 : Int32) d9_canSee_135 kI_1 ?_
    exact z_zret C d9_canSee_136 (Or.inr rfl) hf
def b9_canSee_38 (k : Nat) (rc : Nat → List Int32 → ZS → Option (Int32 × ZS)) (q15 : Int32 → Int32 → Int32 → Int32 → ZS → Option (Int32 × ZS)) (q38 : Int32 → Int32 → Int32 → Int32 → Int32 → Int32 → ZS → Option (Int32 × ZS)) (x1 : Int32) (x2 : Int32) (x3 : Int32) (x5 : Int32) (x6 : Int32) (x7 : Int32) (σ : ZS) : Option (Int32 × ZS) :=
  if (4 : Int32) ≤ x7 then (
  q15 x1 x2 x3 (x5 + (1 : Int32)) σ)
  else (
  if zin (((6 : Int32) + ((5 : Int32) * x5)) + (3 : Int32)) 390 then (
  zput (zu σ 104 ((((6 : Int32) + ((5 : Int32) * x5)) + (3 : Int32)).toNatClampNeg) x7) fun s3 =>
  if x7 = x6 then (
  b9_canSee_88 k rc q15 q38 x1 x2 x3 x5 x6 x7 (0 : Int32) s3)
  else (
  zbd (rc 0 [x1, x2, (x3 - (1 : Int32)), (x5 + (1 : Int32))] s3) fun r5 s5 =>
  if r5 = 0 then (
  b9_canSee_88 k rc q15 q38 x1 x2 x3 x5 x6 x7 (0 : Int32) s5)
  else (
  b9_canSee_88 k rc q15 q38 x1 x2 x3 x5 x6 x7 (1 : Int32) s5))) else none)
def f9_canSee_38 (k : Nat) (rc : Nat → List Int32 → ZS → Option (Int32 × ZS)) (q15 : Int32 → Int32 → Int32 → Int32 → ZS → Option (Int32 × ZS)) : Nat → Int32 → Int32 → Int32 → Int32 → Int32 → Int32 → ZS → Option (Int32 × ZS)
  | 0 => fun _ _ _ _ _ _ _ => none
  | n + 1 => b9_canSee_38 k rc q15 (f9_canSee_38 k rc q15 n)
theorem j9_canSee_38 {x : ZX} {g : ZG} {F Lo : Nat} (C : zC x g b9_canSee R9 (some .boolean) 9 (F + 1) (Lo + 28)) {k : Nat} (hF : 8 ≤ F ∧ 223 ≤ Lo) {rc : Nat → List Int32 → ZS → Option (Int32 × ZS)} (hrc : zGCS x.2.1 g F Lo rc) {r : Int32} {σr : ZS}  {q15 : Int32 → Int32 → Int32 → Int32 → ZS → Option (Int32 × ZS)} (hq15 : (∀ (x1 : Int32) (x2 : Int32) (x3 : Int32) (x5 : Int32) (σ : ZS), q15 x1 x2 x3 x5 σ = some (r, σr) → zw x g 9 0 0 (zMQ x g (some (zi r)) σr) σ 15 [some (zr 103), some (zi x1), some (zi x2), some (zi x3), none, some (zi x5), none, none, none] [])) {q38 : Int32 → Int32 → Int32 → Int32 → Int32 → Int32 → ZS → Option (Int32 × ZS)} (hq38 : (∀ (x1 : Int32) (x2 : Int32) (x3 : Int32) (x5 : Int32) (x6 : Int32) (x7 : Int32) (σ : ZS), q38 x1 x2 x3 x5 x6 x7 σ = some (r, σr) → zw x g 9 0 0 (zMQ x g (some (zi r)) σr) σ 38 [some (zr 103), some (zi x1), some (zi x2), some (zi x3), none, some (zi x5), some (zi x6), some (zi x7), none] [])) {x1 : Int32} {x2 : Int32} {x3 : Int32} {x5 : Int32} {x6 : Int32} {x7 : Int32} {σ : ZS} (hf : b9_canSee_38 k rc q15 q38 x1 x2 x3 x5 x6 x7 σ = some (r, σr)) : zw x g 9 0 0 (zMQ x g (some (zi r)) σr) σ 38 [some (zr 103), some (zi x1), some (zi x2), some (zi x3), none, some (zi x5), some (zi x6), some (zi x7), none] [] := by
  unfold b9_canSee_38 at hf
  refine z_iload C d9_canSee_38 rfl ?_
  refine z_iconst C (4 : Int32) d9_canSee_40 kI_4 ?_
  refine z_icmp_ge C d9_canSee_41 (fun c1 => ?_) (fun c1 => ?_)
  · have hf := zit c1 hf
    refine z_iinc C d9_canSee_143 rfl kI_1 (Nat.le_of_ble_eq_true rfl) rfl (L' := [some (zr 103), some (zi x1), some (zi x2), some (zi x3), none, some (zi (x5 + (1 : Int32))), some (zi x6), some (zi x7), none]) rfl ?_
    refine z_goto C d9_canSee_146 ?_
    refine z_drop [true, true, true, true, false, true, false, false, false] (L' := [some (zr 103), some (zi x1), some (zi x2), some (zi x3), none, some (zi (x5 + (1 : Int32))), none, none, none]) rfl ?_
    exact hq15 _ _ _ _ _ hf
  · have hf := zie c1 hf
    refine z_aload_n C d9_canSee_44 rfl ?_
    refine z_getR C d9_canSee_45 fl_817 kZ_103 104 rfl (zn0 kZ_104) ?_
    refine z_bipush C (6 : Int32) d9_canSee_48 kB_6 ?_
    refine z_iconst C (5 : Int32) d9_canSee_50 kI_5 ?_
    refine z_iload C d9_canSee_51 rfl ?_
    refine z_imul C d9_canSee_53 ?_
    refine z_iadd C d9_canSee_54 ?_
    refine z_iconst C (3 : Int32) d9_canSee_55 kI_3 ?_
    refine z_iadd C d9_canSee_56 ?_
    refine z_iload C d9_canSee_57 rfl ?_
    obtain ⟨g2, hf⟩ := zgo hf
    obtain ⟨s3, e3, hf⟩ := zpx hf
    refine z_iast C d9_canSee_59 kZ_104 kL_104 g2 rfl e3 ?_
    refine z_iload C d9_canSee_60 rfl ?_
    refine z_iload C d9_canSee_62 rfl ?_
    refine z_icmp_eq C d9_canSee_64 (fun c4 => ?_) (fun c4 => ?_)
    · have hf := zit c4 hf
      refine z_iconst C (0 : Int32) d9_canSee_87 kI_0 ?_
      exact j9_canSee_88 C hF hrc hq15 hq38 hf
    · have hf := zie c4 hf
      refine z_aload_n C d9_canSee_67 rfl ?_
      refine z_iload_n C d9_canSee_68 rfl ?_
      refine z_iload_n C d9_canSee_69 rfl ?_
      refine z_iload_n C d9_canSee_70 rfl ?_
      refine z_iconst C (1 : Int32) d9_canSee_71 kI_1 ?_
      refine z_isub C d9_canSee_72 ?_
      refine z_iload C d9_canSee_73 rfl ?_
      refine z_iconst C (1 : Int32) d9_canSee_75 kI_1 ?_
      refine z_iadd C d9_canSee_76 ?_
      obtain ⟨r5, s5, h5, hf⟩ := zbx hf
      refine z_callVi C (as := [zi x1, zi x2, zi (x3 - (1 : Int32)), zi (x5 + (1 : Int32))]) d9_canSee_77 w_1170 yy9_canSee (hrc _ _ _ _ _ _ _ h5) yc9_canSee kZ_103 rfl rfl (Nat.le_of_ble_eq_true rfl) ⟨by omega, by omega⟩ ⟨Nat.zero_le _, Nat.zero_le _⟩ ?_
      refine z_if_eq C d9_canSee_80 (fun c6 => ?_) (fun c6 => ?_)
      · have hf := zit c6 hf
        refine z_iconst C (0 : Int32) d9_canSee_87 kI_0 ?_
        exact j9_canSee_88 C hF hrc hq15 hq38 hf
      · have hf := zie c6 hf
        refine z_iconst C (1 : Int32) d9_canSee_83 kI_1 ?_
        refine z_goto C d9_canSee_84 ?_
        exact j9_canSee_88 C hF hrc hq15 hq38 hf
theorem j9_canSee_38l {x : ZX} {g : ZG} {F Lo : Nat} (C : zC x g b9_canSee R9 (some .boolean) 9 (F + 1) (Lo + 28)) {k : Nat} (hF : 8 ≤ F ∧ 223 ≤ Lo) {rc : Nat → List Int32 → ZS → Option (Int32 × ZS)} (hrc : zGCS x.2.1 g F Lo rc) {r : Int32} {σr : ZS}  {q15 : Int32 → Int32 → Int32 → Int32 → ZS → Option (Int32 × ZS)} (hq15 : (∀ (x1 : Int32) (x2 : Int32) (x3 : Int32) (x5 : Int32) (σ : ZS), q15 x1 x2 x3 x5 σ = some (r, σr) → zw x g 9 0 0 (zMQ x g (some (zi r)) σr) σ 15 [some (zr 103), some (zi x1), some (zi x2), some (zi x3), none, some (zi x5), none, none, none] [])) : ∀ (n : Nat) (x1 : Int32) (x2 : Int32) (x3 : Int32) (x5 : Int32) (x6 : Int32) (x7 : Int32) (σ : ZS), f9_canSee_38 k rc q15 n x1 x2 x3 x5 x6 x7 σ = some (r, σr) → zw x g 9 0 0 (zMQ x g (some (zi r)) σr) σ 38 [some (zr 103), some (zi x1), some (zi x2), some (zi x3), none, some (zi x5), some (zi x6), some (zi x7), none] [] := by
  intro n
  induction n with
  | zero => intro x1 x2 x3 x5 x6 x7 σ hf; exact absurd (show none = some (r, σr) from hf) (fun z => by cases z)
  | succ n ih => intro x1 x2 x3 x5 x6 x7 σ hf; exact j9_canSee_38 C hF hrc hq15 ih (show b9_canSee_38 k rc q15 (f9_canSee_38 k rc q15 n) x1 x2 x3 x5 x6 x7 σ = some (r, σr) from hf)
def b9_canSee_15 (k : Nat) (rc : Nat → List Int32 → ZS → Option (Int32 × ZS)) (q15 : Int32 → Int32 → Int32 → Int32 → ZS → Option (Int32 × ZS)) (x1 : Int32) (x2 : Int32) (x3 : Int32) (x5 : Int32) (σ : ZS) : Option (Int32 × ZS) :=
  if (σ 104 2) ≤ x5 then (
  some ((0 : Int32), σ))
  else (
  zbd (f9_of k x5 (3 : Int32) σ) fun r2 s2 =>
  f9_canSee_38 k rc q15 k x1 x2 x3 x5 r2 (0 : Int32) s2)
def f9_canSee_15 (k : Nat) (rc : Nat → List Int32 → ZS → Option (Int32 × ZS)) : Nat → Int32 → Int32 → Int32 → Int32 → ZS → Option (Int32 × ZS)
  | 0 => fun _ _ _ _ _ => none
  | n + 1 => b9_canSee_15 k rc  (f9_canSee_15 k rc  n)
theorem j9_canSee_15 {x : ZX} {g : ZG} {F Lo : Nat} (C : zC x g b9_canSee R9 (some .boolean) 9 (F + 1) (Lo + 28)) {k : Nat} (hF : 8 ≤ F ∧ 223 ≤ Lo) {rc : Nat → List Int32 → ZS → Option (Int32 × ZS)} (hrc : zGCS x.2.1 g F Lo rc) {r : Int32} {σr : ZS}  {q15 : Int32 → Int32 → Int32 → Int32 → ZS → Option (Int32 × ZS)} (hq15 : (∀ (x1 : Int32) (x2 : Int32) (x3 : Int32) (x5 : Int32) (σ : ZS), q15 x1 x2 x3 x5 σ = some (r, σr) → zw x g 9 0 0 (zMQ x g (some (zi r)) σr) σ 15 [some (zr 103), some (zi x1), some (zi x2), some (zi x3), none, some (zi x5), none, none, none] [])) {x1 : Int32} {x2 : Int32} {x3 : Int32} {x5 : Int32} {σ : ZS} (hf : b9_canSee_15 k rc q15 x1 x2 x3 x5 σ = some (r, σr)) : zw x g 9 0 0 (zMQ x g (some (zi r)) σr) σ 15 [some (zr 103), some (zi x1), some (zi x2), some (zi x3), none, some (zi x5), none, none, none] [] := by
  unfold b9_canSee_15 at hf
  refine z_iload C d9_canSee_15 rfl ?_
  refine z_aload_n C d9_canSee_17 rfl ?_
  refine z_getR C d9_canSee_18 fl_817 kZ_103 104 rfl (zn0 kZ_104) ?_
  refine z_iconst C (2 : Int32) d9_canSee_21 kI_2 ?_
  refine z_iald C d9_canSee_22 kZ_104 kL_104 ⟨by decide, by decide⟩ (2) kN_2 ?_
  refine z_icmp_ge C d9_canSee_23 (fun c1 => ?_) (fun c1 => ?_)
  · have hf := zit c1 hf
    refine z_iconst C (0 : Int32) d9_canSee_149 kI_0 ?_
    exact z_zret C d9_canSee_150 (Or.inl rfl) hf
  · have hf := zie c1 hf
    refine z_aload_n C d9_canSee_26 rfl ?_
    refine z_iload C d9_canSee_27 rfl ?_
    refine z_iconst C (3 : Int32) d9_canSee_29 kI_3 ?_
    obtain ⟨r2, s2, h2, hf⟩ := zbx hf
    refine z_callVi C (as := [zi x5, zi (3 : Int32)]) d9_canSee_30 w_926 yy9_of (c9_of x.2.1 g h2) yc9_of kZ_103 rfl rfl (Nat.le_of_ble_eq_true rfl) ⟨by omega, by omega⟩ ⟨Nat.zero_le _, Nat.zero_le _⟩ ?_
    refine z_istore C d9_canSee_33 (Nat.le_of_ble_eq_true rfl) rfl (L' := [some (zr 103), some (zi x1), some (zi x2), some (zi x3), none, some (zi x5), some (zi r2), none, none]) rfl ?_
    refine z_iconst C (0 : Int32) d9_canSee_35 kI_0 ?_
    refine z_istore C d9_canSee_36 (Nat.le_of_ble_eq_true rfl) rfl (L' := [some (zr 103), some (zi x1), some (zi x2), some (zi x3), none, some (zi x5), some (zi r2), some (zi (0 : Int32)), none]) rfl ?_
    exact j9_canSee_38l C hF hrc hq15 _ _ _ _ _ _ _ _ hf
theorem j9_canSee_15l {x : ZX} {g : ZG} {F Lo : Nat} (C : zC x g b9_canSee R9 (some .boolean) 9 (F + 1) (Lo + 28)) {k : Nat} (hF : 8 ≤ F ∧ 223 ≤ Lo) {rc : Nat → List Int32 → ZS → Option (Int32 × ZS)} (hrc : zGCS x.2.1 g F Lo rc) {r : Int32} {σr : ZS}  : ∀ (n : Nat) (x1 : Int32) (x2 : Int32) (x3 : Int32) (x5 : Int32) (σ : ZS), f9_canSee_15 k rc  n x1 x2 x3 x5 σ = some (r, σr) → zw x g 9 0 0 (zMQ x g (some (zi r)) σr) σ 15 [some (zr 103), some (zi x1), some (zi x2), some (zi x3), none, some (zi x5), none, none, none] [] := by
  intro n
  induction n with
  | zero => intro x1 x2 x3 x5 σ hf; exact absurd (show none = some (r, σr) from hf) (fun z => by cases z)
  | succ n ih => intro x1 x2 x3 x5 σ hf; exact j9_canSee_15 C hF hrc  ih (show b9_canSee_15 k rc  (f9_canSee_15 k rc  n) x1 x2 x3 x5 σ = some (r, σr) from hf)
def f9_canSee (k : Nat) (rc : Nat → List Int32 → ZS → Option (Int32 × ZS)) (x1 : Int32) (x2 : Int32) (x3 : Int32) (x4 : Int32) (σ : ZS) : Option (Int32 × ZS) :=
  if x3 = 0 then (
  zbd (f9_doesSee k x1 x2 σ) fun r2 s2 =>
  if zbo r2 then (
  some (r2, s2)) else none)
  else (
  f9_canSee_15 k rc  k x1 x2 x3 x4 σ)
theorem c9_canSee (l : Launch) (g : ZG) {F Lo : Nat} {k : Nat} (hF : 8 ≤ F ∧ 223 ≤ Lo) {rc : Nat → List Int32 → ZS → Option (Int32 × ZS)} (hrc : zGCS l g F Lo rc) {x1 : Int32} {x2 : Int32} {x3 : Int32} {x4 : Int32} {σ : ZS} {r : Int32} {σr : ZS} (hf : f9_canSee k rc x1 x2 x3 x4 σ = some (r, σr)) : zT l g y9_canSee b9_canSee 9 (some .boolean) (F + 1) (Lo + 28) [zr 103, zi x1, zi x2, zi x3, zi x4] σ (some (zi r)) σr := by
  unfold f9_canSee at hf
  refine zT_start (own := R9) rfl (by decide +kernel) 4 (L := [some (zr 103), some (zi x1), some (zi x2), some (zi x3), some (zi x4), none, none, none, none]) rfl rfl (fun x hl C => ?_)
  subst hl
  refine z_iload_n C d9_canSee_0 rfl ?_
  refine z_if_ne C d9_canSee_1 (fun c1 => ?_) (fun c1 => ?_)
  · have hf := zit c1 hf
    refine z_aload_n C d9_canSee_4 rfl ?_
    refine z_iload_n C d9_canSee_5 rfl ?_
    refine z_iload_n C d9_canSee_6 rfl ?_
    obtain ⟨r2, s2, h2, hf⟩ := zbx hf
    refine z_callVi C (as := [zi x1, zi x2]) d9_canSee_7 w_1174 yy9_doesSee (c9_doesSee x.2.1 g h2) yc9_doesSee kZ_103 rfl rfl (Nat.le_of_ble_eq_true rfl) ⟨by omega, by omega⟩ ⟨Nat.zero_le _, Nat.zero_le _⟩ ?_
    obtain ⟨g3, hf⟩ := zgo hf
    exact z_zret C d9_canSee_10 g3 hf
  · have hf := zie c1 hf
    refine z_iload C d9_canSee_11 rfl ?_
    refine z_istore C d9_canSee_13 (Nat.le_of_ble_eq_true rfl) rfl (L' := [some (zr 103), some (zi x1), some (zi x2), some (zi x3), some (zi x4), some (zi x4), none, none, none]) rfl ?_
    refine z_drop [true, true, true, true, false, true, false, false, false] (L' := [some (zr 103), some (zi x1), some (zi x2), some (zi x3), none, some (zi x4), none, none, none]) rfl ?_
    exact j9_canSee_15l C hF hrc  _ _ _ _ _ _ hf
def fCS (k : Nat) : Nat → Nat → List Int32 → ZS → Option (Int32 × ZS)
  | 0, _, _, _ => none
  | d + 1, 0, [a0, a1, a2, a3], σ => f9_canSee k (fCS k d) a0 a1 a2 a3 σ
  | _ + 1, _, _, _ => none
theorem cCS (l : Launch) (g : ZG) (k : Nat) : ∀ d : Nat, zGCS l g (8 + d) (223 + 28 * d) (fCS k d)
  | 0 => ((fun _ _ _ _ _ _ _ h => nomatch (show none = some _ from h)))
  | d + 1 => by
    have ih := cCS l g k d
    have hF : 8 ≤ 8 + d ∧ 223 ≤ 223 + 28 * d := ⟨by omega, by omega⟩
    refine (?_)
    · intro a0 a1 a2 a3 σ r σr h
      exact c9_canSee l g hF ih (show f9_canSee k (fCS k d) a0 a1 a2 a3 σ = some (r, σr) from h)
def f9_canSeex (k : Nat) (a0 : Int32) (a1 : Int32) (a2 : Int32) (a3 : Int32) (σ : ZS) : Option (Int32 × ZS) := fCS k 6 0 [a0, a1, a2, a3] σ
theorem c9_canSeex (l : Launch) (g : ZG) {k : Nat} {a0 : Int32} {a1 : Int32} {a2 : Int32} {a3 : Int32} {σ : ZS} {r : Int32} {σr : ZS} (hf : f9_canSeex k a0 a1 a2 a3 σ = some (r, σr)) : zT l g y9_canSee b9_canSee 9 (some .boolean) 14 391 [zr 103, zi a0, zi a1, zi a2, zi a3] σ (some (zi r)) σr := (cCS l g k 6) _ _ _ _ _ _ _ hf
theorem d9_isPerson_0 : zd b9_isPerson 0 (.iload_n 1) 1 1 := ⟨by decide +kernel, rfl⟩
theorem d9_isPerson_1 : zd b9_isPerson 1 (.iconst 0) 1 2 := ⟨by decide +kernel, rfl⟩
theorem d9_isPerson_2 : zd b9_isPerson 2 (.aload_n 0) 1 3 := ⟨by decide +kernel, rfl⟩
theorem d9_isPerson_3 : zd b9_isPerson 3 (.getfield 9) 3 6 := ⟨by decide +kernel, rfl⟩
theorem d9_isPerson_6 : zd b9_isPerson 6 (.iconst 3) 1 7 := ⟨by decide +kernel, rfl⟩
theorem d9_isPerson_7 : zd b9_isPerson 7 .iaload 1 8 := ⟨by decide +kernel, rfl⟩
theorem d9_isPerson_8 : zd b9_isPerson 8 (.iconst 1) 1 9 := ⟨by decide +kernel, rfl⟩
theorem d9_isPerson_9 : zd b9_isPerson 9 .isub 1 10 := ⟨by decide +kernel, rfl⟩
theorem d9_isPerson_10 : zd b9_isPerson 10 (.invokestatic 56) 3 13 := ⟨by decide +kernel, rfl⟩
theorem d9_isPerson_13 : zd b9_isPerson 13 .ireturn 1 14 := ⟨by decide +kernel, rfl⟩
def f9_isPerson (k : Nat) (x1 : Int32) (σ : ZS) : Option (Int32 × ZS) :=
  zbd (f9_in k x1 (0 : Int32) ((σ 104 3) - (1 : Int32)) σ) fun r1 s1 =>
  if zbo r1 then (
  some (r1, s1)) else none
theorem c9_isPerson (l : Launch) (g : ZG) {k : Nat} {x1 : Int32} {σ : ZS} {r : Int32} {σr : ZS} (hf : f9_isPerson k x1 σ = some (r, σr)) : zT l g y9_isPerson b9_isPerson 2 (some .boolean) 2 82 [zr 103, zi x1] σ (some (zi r)) σr := by
  unfold f9_isPerson at hf
  refine zT_start (own := R9) rfl (by decide +kernel) 0 (L := [some (zr 103), some (zi x1)]) rfl rfl (fun x hl C => ?_)
  subst hl
  refine z_iload_n C d9_isPerson_0 rfl ?_
  refine z_iconst C (0 : Int32) d9_isPerson_1 kI_0 ?_
  refine z_aload_n C d9_isPerson_2 rfl ?_
  refine z_getR C d9_isPerson_3 fl_817 kZ_103 104 rfl (zn0 kZ_104) ?_
  refine z_iconst C (3 : Int32) d9_isPerson_6 kI_3 ?_
  refine z_iald C d9_isPerson_7 kZ_104 kL_104 ⟨by decide, by decide⟩ (3) kN_3 ?_
  refine z_iconst C (1 : Int32) d9_isPerson_8 kI_1 ?_
  refine z_isub C d9_isPerson_9 ?_
  obtain ⟨r1, s1, h1, hf⟩ := zbx hf
  refine z_callSi C (as := [zi x1, zi (0 : Int32), zi ((σ 104 3) - (1 : Int32))]) d9_isPerson_10 w_906 yy9_in (c9_in x.2.1 g h1) rfl rfl (Nat.le_of_ble_eq_true rfl) ⟨Nat.le_of_ble_eq_true rfl, Nat.le_of_ble_eq_true rfl⟩ ⟨Nat.zero_le _, Nat.zero_le _⟩ ?_
  obtain ⟨g2, hf⟩ := zgo hf
  exact z_zret C d9_isPerson_13 g2 hf
theorem d9_check_0 : zd b9_check 0 (.aload_n 0) 1 1 := ⟨by decide +kernel, rfl⟩
theorem d9_check_1 : zd b9_check 1 (.getfield 9) 3 4 := ⟨by decide +kernel, rfl⟩
theorem d9_check_4 : zd b9_check 4 (.iconst 5) 1 5 := ⟨by decide +kernel, rfl⟩
theorem d9_check_5 : zd b9_check 5 .iaload 1 6 := ⟨by decide +kernel, rfl⟩
theorem d9_check_6 : zd b9_check 6 (.istore_n 1) 1 7 := ⟨by decide +kernel, rfl⟩
theorem d9_check_7 : zd b9_check 7 (.aload_n 0) 1 8 := ⟨by decide +kernel, rfl⟩
theorem d9_check_8 : zd b9_check 8 (.getfield 9) 3 11 := ⟨by decide +kernel, rfl⟩
theorem d9_check_11 : zd b9_check 11 (.iconst 5) 1 12 := ⟨by decide +kernel, rfl⟩
theorem d9_check_12 : zd b9_check 12 (.iconst 0) 1 13 := ⟨by decide +kernel, rfl⟩
theorem d9_check_13 : zd b9_check 13 .iastore 1 14 := ⟨by decide +kernel, rfl⟩
theorem d9_check_14 : zd b9_check 14 (.iconst 0) 1 15 := ⟨by decide +kernel, rfl⟩
theorem d9_check_15 : zd b9_check 15 (.istore_n 2) 1 16 := ⟨by decide +kernel, rfl⟩
theorem d9_check_16 : zd b9_check 16 (.iload_n 2) 1 17 := ⟨by decide +kernel, rfl⟩
theorem d9_check_17 : zd b9_check 17 (.iload_n 1) 1 18 := ⟨by decide +kernel, rfl⟩
theorem d9_check_18 : zdb b9_check 18 (.if_icmp .ge 39) 39 21 57 := ⟨by decide +kernel, rfl, by decide⟩
theorem d9_check_21 : zd b9_check 21 (.aload_n 0) 1 22 := ⟨by decide +kernel, rfl⟩
theorem d9_check_22 : zd b9_check 22 (.iload_n 2) 1 23 := ⟨by decide +kernel, rfl⟩
theorem d9_check_23 : zd b9_check 23 (.invokevirtual 143) 3 26 := ⟨by decide +kernel, rfl⟩
theorem d9_check_26 : zdb b9_check 26 (.ifCond .eq 21) 21 29 47 := ⟨by decide +kernel, rfl, by decide⟩
theorem d9_check_29 : zd b9_check 29 (.aload_n 0) 1 30 := ⟨by decide +kernel, rfl⟩
theorem d9_check_30 : zd b9_check 30 (.getfield 9) 3 33 := ⟨by decide +kernel, rfl⟩
theorem d9_check_33 : zd b9_check 33 (.bipush 124) 2 35 := ⟨by decide +kernel, rfl⟩
theorem d9_check_35 : zd b9_check 35 (.iload_n 2) 1 36 := ⟨by decide +kernel, rfl⟩
theorem d9_check_36 : zd b9_check 36 .iadd 1 37 := ⟨by decide +kernel, rfl⟩
theorem d9_check_37 : zd b9_check 37 .iaload 1 38 := ⟨by decide +kernel, rfl⟩
theorem d9_check_38 : zd b9_check 38 (.aload_n 0) 1 39 := ⟨by decide +kernel, rfl⟩
theorem d9_check_39 : zd b9_check 39 (.iload_n 2) 1 40 := ⟨by decide +kernel, rfl⟩
theorem d9_check_40 : zd b9_check 40 (.iconst 2) 1 41 := ⟨by decide +kernel, rfl⟩
theorem d9_check_41 : zd b9_check 41 (.invokevirtual 109) 3 44 := ⟨by decide +kernel, rfl⟩
theorem d9_check_44 : zdb b9_check 44 (.if_icmp .eq 7) 7 47 51 := ⟨by decide +kernel, rfl, by decide⟩
theorem d9_check_47 : zd b9_check 47 (.iconst 1) 1 48 := ⟨by decide +kernel, rfl⟩
theorem d9_check_48 : zd b9_check 48 (.iload_n 2) 1 49 := ⟨by decide +kernel, rfl⟩
theorem d9_check_49 : zd b9_check 49 .iadd 1 50 := ⟨by decide +kernel, rfl⟩
theorem d9_check_50 : zd b9_check 50 .ireturn 1 51 := ⟨by decide +kernel, rfl⟩
theorem d9_check_51 : zd b9_check 51 (.iinc 2 1) 3 54 := ⟨by decide +kernel, rfl⟩
theorem d9_check_54 : zdb b9_check 54 (.goto (-38)) (-38) 57 16 := ⟨by decide +kernel, rfl, by decide⟩
theorem d9_check_57 : zd b9_check 57 (.iconst 0) 1 58 := ⟨by decide +kernel, rfl⟩
theorem d9_check_58 : zd b9_check 58 .ireturn 1 59 := ⟨by decide +kernel, rfl⟩
def b9_check_16 (k : Nat) (q16 : Int32 → Int32 → ZS → Option (Int32 × ZS)) (x1 : Int32) (x2 : Int32) (σ : ZS) : Option (Int32 × ZS) :=
  if x1 ≤ x2 then (
  some ((0 : Int32), σ))
  else (
  zbd (f9_isPerson k x2 σ) fun r2 s2 =>
  if r2 = 0 then (
  some (((1 : Int32) + x2), s2))
  else (
  if zin ((124 : Int32) + x2) 390 then (
  zbd (f9_about k x2 (2 : Int32) s2) fun r5 s5 =>
  if (s2 104 ((124 : Int32) + x2).toNatClampNeg) = r5 then (
  q16 x1 (x2 + (1 : Int32)) s5)
  else (
  some (((1 : Int32) + x2), s5))) else none))
def f9_check_16 (k : Nat) : Nat → Int32 → Int32 → ZS → Option (Int32 × ZS)
  | 0 => fun _ _ _ => none
  | n + 1 => b9_check_16 k  (f9_check_16 k  n)
theorem j9_check_16 {x : ZX} {g : ZG} (C : zC x g b9_check R9 (some .int) 3 3 103) {k : Nat} {r : Int32} {σr : ZS}  {q16 : Int32 → Int32 → ZS → Option (Int32 × ZS)} (hq16 : (∀ (x1 : Int32) (x2 : Int32) (σ : ZS), q16 x1 x2 σ = some (r, σr) → zw x g 3 0 0 (zMQ x g (some (zi r)) σr) σ 16 [some (zr 103), some (zi x1), some (zi x2)] [])) {x1 : Int32} {x2 : Int32} {σ : ZS} (hf : b9_check_16 k q16 x1 x2 σ = some (r, σr)) : zw x g 3 0 0 (zMQ x g (some (zi r)) σr) σ 16 [some (zr 103), some (zi x1), some (zi x2)] [] := by
  unfold b9_check_16 at hf
  refine z_iload_n C d9_check_16 rfl ?_
  refine z_iload_n C d9_check_17 rfl ?_
  refine z_icmp_ge C d9_check_18 (fun c1 => ?_) (fun c1 => ?_)
  · have hf := zit c1 hf
    refine z_iconst C (0 : Int32) d9_check_57 kI_0 ?_
    exact z_iret C d9_check_58 hf
  · have hf := zie c1 hf
    refine z_aload_n C d9_check_21 rfl ?_
    refine z_iload_n C d9_check_22 rfl ?_
    obtain ⟨r2, s2, h2, hf⟩ := zbx hf
    refine z_callVi C (as := [zi x2]) d9_check_23 w_986 yy9_isPerson (c9_isPerson x.2.1 g h2) yc9_isPerson kZ_103 rfl rfl (Nat.le_of_ble_eq_true rfl) ⟨Nat.le_of_ble_eq_true rfl, Nat.le_of_ble_eq_true rfl⟩ ⟨Nat.zero_le _, Nat.zero_le _⟩ ?_
    refine z_if_eq C d9_check_26 (fun c3 => ?_) (fun c3 => ?_)
    · have hf := zit c3 hf
      refine z_iconst C (1 : Int32) d9_check_47 kI_1 ?_
      refine z_iload_n C d9_check_48 rfl ?_
      refine z_iadd C d9_check_49 ?_
      exact z_iret C d9_check_50 hf
    · have hf := zie c3 hf
      refine z_aload_n C d9_check_29 rfl ?_
      refine z_getR C d9_check_30 fl_817 kZ_103 104 rfl (zn0 kZ_104) ?_
      refine z_bipush C (124 : Int32) d9_check_33 kB_124 ?_
      refine z_iload_n C d9_check_35 rfl ?_
      refine z_iadd C d9_check_36 ?_
      obtain ⟨g4, hf⟩ := zgo hf
      refine z_iald C d9_check_37 kZ_104 kL_104 g4 (((124 : Int32) + x2).toNatClampNeg) rfl ?_
      refine z_aload_n C d9_check_38 rfl ?_
      refine z_iload_n C d9_check_39 rfl ?_
      refine z_iconst C (2 : Int32) d9_check_40 kI_2 ?_
      obtain ⟨r5, s5, h5, hf⟩ := zbx hf
      refine z_callVi C (as := [zi x2, zi (2 : Int32)]) d9_check_41 w_990 yy9_about (c9_about x.2.1 g h5) yc9_about kZ_103 rfl rfl (Nat.le_of_ble_eq_true rfl) ⟨Nat.le_of_ble_eq_true rfl, Nat.le_of_ble_eq_true rfl⟩ ⟨Nat.zero_le _, Nat.zero_le _⟩ ?_
      refine z_icmp_eq C d9_check_44 (fun c6 => ?_) (fun c6 => ?_)
      · have hf := zit c6 hf
        refine z_iinc C d9_check_51 rfl kI_1 (Nat.le_of_ble_eq_true rfl) rfl (L' := [some (zr 103), some (zi x1), some (zi (x2 + (1 : Int32)))]) rfl ?_
        refine z_goto C d9_check_54 ?_
        exact hq16 _ _ _ hf
      · have hf := zie c6 hf
        refine z_iconst C (1 : Int32) d9_check_47 kI_1 ?_
        refine z_iload_n C d9_check_48 rfl ?_
        refine z_iadd C d9_check_49 ?_
        exact z_iret C d9_check_50 hf
theorem j9_check_16l {x : ZX} {g : ZG} (C : zC x g b9_check R9 (some .int) 3 3 103) {k : Nat} {r : Int32} {σr : ZS}  : ∀ (n : Nat) (x1 : Int32) (x2 : Int32) (σ : ZS), f9_check_16 k  n x1 x2 σ = some (r, σr) → zw x g 3 0 0 (zMQ x g (some (zi r)) σr) σ 16 [some (zr 103), some (zi x1), some (zi x2)] [] := by
  intro n
  induction n with
  | zero => intro x1 x2 σ hf; exact absurd (show none = some (r, σr) from hf) (fun z => by cases z)
  | succ n ih => intro x1 x2 σ hf; exact j9_check_16 C  ih (show b9_check_16 k  (f9_check_16 k  n) x1 x2 σ = some (r, σr) from hf)
def f9_check (k : Nat)  (σ : ZS) : Option (Int32 × ZS) :=
  zput (zu σ 104 (5) (0 : Int32)) fun s1 =>
  f9_check_16 k  k (σ 104 5) (0 : Int32) s1
theorem c9_check (l : Launch) (g : ZG) {k : Nat}  {σ : ZS} {r : Int32} {σr : ZS} (hf : f9_check k  σ = some (r, σr)) : zT l g y9_check b9_check 3 (some .int) 3 103 [zr 103] σ (some (zi r)) σr := by
  unfold f9_check at hf
  refine zT_start (own := R9) rfl (by decide +kernel) 2 (L := [some (zr 103), none, none]) rfl rfl (fun x hl C => ?_)
  subst hl
  refine z_aload_n C d9_check_0 rfl ?_
  refine z_getR C d9_check_1 fl_817 kZ_103 104 rfl (zn0 kZ_104) ?_
  refine z_iconst C (5 : Int32) d9_check_4 kI_5 ?_
  refine z_iald C d9_check_5 kZ_104 kL_104 ⟨by decide, by decide⟩ (5) kN_5 ?_
  refine z_istore_n C d9_check_6 (Nat.le_of_ble_eq_true rfl) rfl (L' := [some (zr 103), some (zi (σ 104 5)), none]) rfl ?_
  refine z_aload_n C d9_check_7 rfl ?_
  refine z_getR C d9_check_8 fl_817 kZ_103 104 rfl (zn0 kZ_104) ?_
  refine z_iconst C (5 : Int32) d9_check_11 kI_5 ?_
  refine z_iconst C (0 : Int32) d9_check_12 kI_0 ?_
  obtain ⟨s1, e1, hf⟩ := zpx hf
  refine z_iast C d9_check_13 kZ_104 kL_104 ⟨by decide, by decide⟩ kN_5 e1 ?_
  refine z_iconst C (0 : Int32) d9_check_14 kI_0 ?_
  refine z_istore_n C d9_check_15 (Nat.le_of_ble_eq_true rfl) rfl (L' := [some (zr 103), some (zi (σ 104 5)), some (zi (0 : Int32))]) rfl ?_
  exact j9_check_16l C  _ _ _ _ hf
theorem d9_copyAll_0 : zd b9_copyAll 0 (.iconst 0) 1 1 := ⟨by decide +kernel, rfl⟩
theorem d9_copyAll_1 : zd b9_copyAll 1 (.istore_n 2) 1 2 := ⟨by decide +kernel, rfl⟩
theorem d9_copyAll_2 : zd b9_copyAll 2 (.iload_n 2) 1 3 := ⟨by decide +kernel, rfl⟩
theorem d9_copyAll_3 : zd b9_copyAll 3 (.sipush 390) 3 6 := ⟨by decide +kernel, rfl⟩
theorem d9_copyAll_6 : zdb b9_copyAll 6 (.if_icmp .ge 15) 15 9 21 := ⟨by decide +kernel, rfl, by decide⟩
theorem d9_copyAll_9 : zd b9_copyAll 9 (.aload_n 1) 1 10 := ⟨by decide +kernel, rfl⟩
theorem d9_copyAll_10 : zd b9_copyAll 10 (.iload_n 2) 1 11 := ⟨by decide +kernel, rfl⟩
theorem d9_copyAll_11 : zd b9_copyAll 11 (.aload_n 0) 1 12 := ⟨by decide +kernel, rfl⟩
theorem d9_copyAll_12 : zd b9_copyAll 12 (.iload_n 2) 1 13 := ⟨by decide +kernel, rfl⟩
theorem d9_copyAll_13 : zd b9_copyAll 13 .iaload 1 14 := ⟨by decide +kernel, rfl⟩
theorem d9_copyAll_14 : zd b9_copyAll 14 .iastore 1 15 := ⟨by decide +kernel, rfl⟩
theorem d9_copyAll_15 : zd b9_copyAll 15 (.iinc 2 1) 3 18 := ⟨by decide +kernel, rfl⟩
theorem d9_copyAll_18 : zdb b9_copyAll 18 (.goto (-16)) (-16) 21 2 := ⟨by decide +kernel, rfl, by decide⟩
theorem d9_copyAll_21 : zd b9_copyAll 21 .return_ 1 22 := ⟨by decide +kernel, rfl⟩
def b9_copyAll_2 (k : Nat) (q2 : Nat → Nat → Int32 → ZS → Option (Unit × ZS)) (x0 : Nat) (x1 : Nat) (x2 : Int32) (σ : ZS) : Option (Unit × ZS) :=
  if (390 : Int32) ≤ x2 then (
  some ((), σ))
  else (
  if zsh x0 = 15 then (
  if zin x2 (zln x0) then (
  if zsh x1 = 15 then (
  if zin x2 (zln x1) then (
  zput (zu σ x1 (x2.toNatClampNeg) (σ x0 x2.toNatClampNeg)) fun s6 =>
  q2 x0 x1 (x2 + (1 : Int32)) s6) else none) else none) else none) else none)
def f9_copyAll_2 (k : Nat) : Nat → Nat → Nat → Int32 → ZS → Option (Unit × ZS)
  | 0 => fun _ _ _ _ => none
  | n + 1 => b9_copyAll_2 k  (f9_copyAll_2 k  n)
theorem j9_copyAll_2 {x : ZX} {g : ZG} (C : zC x g b9_copyAll R9 none 3 1 60) {k : Nat} {r : Unit} {σr : ZS}  {q2 : Nat → Nat → Int32 → ZS → Option (Unit × ZS)} (hq2 : (∀ (x0 : Nat) (x1 : Nat) (x2 : Int32) (σ : ZS), q2 x0 x1 x2 σ = some (r, σr) → zw x g 3 0 0 (zMQ x g none σr) σ 2 [some (zr x0), some (zr x1), some (zi x2)] [])) {x0 : Nat} {x1 : Nat} {x2 : Int32} {σ : ZS} (hf : b9_copyAll_2 k q2 x0 x1 x2 σ = some (r, σr)) : zw x g 3 0 0 (zMQ x g none σr) σ 2 [some (zr x0), some (zr x1), some (zi x2)] [] := by
  unfold b9_copyAll_2 at hf
  refine z_iload_n C d9_copyAll_2 rfl ?_
  refine z_sipush C (390 : Int32) d9_copyAll_3 kS_390 ?_
  refine z_icmp_ge C d9_copyAll_6 (fun c1 => ?_) (fun c1 => ?_)
  · have hf := zit c1 hf
    exact z_vret C d9_copyAll_21 hf
  · have hf := zie c1 hf
    refine z_aload_n C d9_copyAll_9 rfl ?_
    refine z_iload_n C d9_copyAll_10 rfl ?_
    refine z_aload_n C d9_copyAll_11 rfl ?_
    refine z_iload_n C d9_copyAll_12 rfl ?_
    obtain ⟨g2, hf⟩ := zgo hf
    obtain ⟨g3, hf⟩ := zgo hf
    refine z_iald C d9_copyAll_13 g2 rfl g3 (x2.toNatClampNeg) rfl ?_
    obtain ⟨g4, hf⟩ := zgo hf
    obtain ⟨g5, hf⟩ := zgo hf
    obtain ⟨s6, e6, hf⟩ := zpx hf
    refine z_iast C d9_copyAll_14 g4 rfl g5 rfl e6 ?_
    refine z_iinc C d9_copyAll_15 rfl kI_1 (Nat.le_of_ble_eq_true rfl) rfl (L' := [some (zr x0), some (zr x1), some (zi (x2 + (1 : Int32)))]) rfl ?_
    refine z_goto C d9_copyAll_18 ?_
    exact hq2 _ _ _ _ hf
theorem j9_copyAll_2l {x : ZX} {g : ZG} (C : zC x g b9_copyAll R9 none 3 1 60) {k : Nat} {r : Unit} {σr : ZS}  : ∀ (n : Nat) (x0 : Nat) (x1 : Nat) (x2 : Int32) (σ : ZS), f9_copyAll_2 k  n x0 x1 x2 σ = some (r, σr) → zw x g 3 0 0 (zMQ x g none σr) σ 2 [some (zr x0), some (zr x1), some (zi x2)] [] := by
  intro n
  induction n with
  | zero => intro x0 x1 x2 σ hf; exact absurd (show none = some (r, σr) from hf) (fun z => by cases z)
  | succ n ih => intro x0 x1 x2 σ hf; exact j9_copyAll_2 C  ih (show b9_copyAll_2 k  (f9_copyAll_2 k  n) x0 x1 x2 σ = some (r, σr) from hf)
def f9_copyAll (k : Nat) (x0 : Nat) (x1 : Nat) (σ : ZS) : Option (Unit × ZS) :=
  f9_copyAll_2 k  k x0 x1 (0 : Int32) σ
theorem c9_copyAll (l : Launch) (g : ZG) {k : Nat} {x0 : Nat} {x1 : Nat} {σ : ZS} {r : Unit} {σr : ZS} (hf : f9_copyAll k x0 x1 σ = some (r, σr)) : zT l g y9_copyAll b9_copyAll 3 none 1 60 [zr x0, zr x1] σ none σr := by
  unfold f9_copyAll at hf
  refine zT_start (own := R9) rfl (by decide +kernel) 1 (L := [some (zr x0), some (zr x1), none]) rfl rfl (fun x hl C => ?_)
  subst hl
  refine z_iconst C (0 : Int32) d9_copyAll_0 kI_0 ?_
  refine z_istore_n C d9_copyAll_1 (Nat.le_of_ble_eq_true rfl) rfl (L' := [some (zr x0), some (zr x1), some (zi (0 : Int32))]) rfl ?_
  exact j9_copyAll_2l C  _ _ _ _ _ hf
theorem d9_count_0 : zd b9_count 0 (.iload_n 1) 1 1 := ⟨by decide +kernel, rfl⟩
theorem d9_count_1 : decode b9_count 1 = .ok ((.tableswitch 90 0 6 #[43, 50, 57, 64, 71, 78, 83]), 43) := by decide +kernel
theorem d9_count_44 : zd b9_count 44 (.aload_n 0) 1 45 := ⟨by decide +kernel, rfl⟩
theorem d9_count_45 : zd b9_count 45 (.getfield 9) 3 48 := ⟨by decide +kernel, rfl⟩
theorem d9_count_48 : zd b9_count 48 (.iconst 2) 1 49 := ⟨by decide +kernel, rfl⟩
theorem d9_count_49 : zd b9_count 49 .iaload 1 50 := ⟨by decide +kernel, rfl⟩
theorem d9_count_50 : zd b9_count 50 .ireturn 1 51 := ⟨by decide +kernel, rfl⟩
theorem d9_count_51 : zd b9_count 51 (.aload_n 0) 1 52 := ⟨by decide +kernel, rfl⟩
theorem d9_count_52 : zd b9_count 52 (.getfield 9) 3 55 := ⟨by decide +kernel, rfl⟩
theorem d9_count_55 : zd b9_count 55 (.iconst 3) 1 56 := ⟨by decide +kernel, rfl⟩
theorem d9_count_56 : zd b9_count 56 .iaload 1 57 := ⟨by decide +kernel, rfl⟩
theorem d9_count_57 : zd b9_count 57 .ireturn 1 58 := ⟨by decide +kernel, rfl⟩
theorem d9_count_58 : zd b9_count 58 (.aload_n 0) 1 59 := ⟨by decide +kernel, rfl⟩
theorem d9_count_59 : zd b9_count 59 (.getfield 9) 3 62 := ⟨by decide +kernel, rfl⟩
theorem d9_count_62 : zd b9_count 62 (.iconst 0) 1 63 := ⟨by decide +kernel, rfl⟩
theorem d9_count_63 : zd b9_count 63 .iaload 1 64 := ⟨by decide +kernel, rfl⟩
theorem d9_count_64 : zd b9_count 64 .ireturn 1 65 := ⟨by decide +kernel, rfl⟩
theorem d9_count_65 : zd b9_count 65 (.aload_n 0) 1 66 := ⟨by decide +kernel, rfl⟩
theorem d9_count_66 : zd b9_count 66 (.getfield 9) 3 69 := ⟨by decide +kernel, rfl⟩
theorem d9_count_69 : zd b9_count 69 (.iconst 4) 1 70 := ⟨by decide +kernel, rfl⟩
theorem d9_count_70 : zd b9_count 70 .iaload 1 71 := ⟨by decide +kernel, rfl⟩
theorem d9_count_71 : zd b9_count 71 .ireturn 1 72 := ⟨by decide +kernel, rfl⟩
theorem d9_count_72 : zd b9_count 72 (.aload_n 0) 1 73 := ⟨by decide +kernel, rfl⟩
theorem d9_count_73 : zd b9_count 73 (.getfield 9) 3 76 := ⟨by decide +kernel, rfl⟩
theorem d9_count_76 : zd b9_count 76 (.iconst 5) 1 77 := ⟨by decide +kernel, rfl⟩
theorem d9_count_77 : zd b9_count 77 .iaload 1 78 := ⟨by decide +kernel, rfl⟩
theorem d9_count_78 : zd b9_count 78 .ireturn 1 79 := ⟨by decide +kernel, rfl⟩
theorem d9_count_79 : zd b9_count 79 (.aload_n 0) 1 80 := ⟨by decide +kernel, rfl⟩
theorem d9_count_80 : zd b9_count 80 (.getfield 248) 3 83 := ⟨by decide +kernel, rfl⟩
theorem d9_count_83 : zd b9_count 83 .ireturn 1 84 := ⟨by decide +kernel, rfl⟩
theorem d9_count_84 : zd b9_count 84 (.aload_n 0) 1 85 := ⟨by decide +kernel, rfl⟩
theorem d9_count_85 : zd b9_count 85 (.getfield 9) 3 88 := ⟨by decide +kernel, rfl⟩
theorem d9_count_88 : zd b9_count 88 (.iconst 1) 1 89 := ⟨by decide +kernel, rfl⟩
theorem d9_count_89 : zd b9_count 89 .iaload 1 90 := ⟨by decide +kernel, rfl⟩
theorem d9_count_90 : zd b9_count 90 .ireturn 1 91 := ⟨by decide +kernel, rfl⟩
theorem d9_count_91 : zd b9_count 91 (.aload_n 0) 1 92 := ⟨by decide +kernel, rfl⟩
theorem d9_count_92 : zd b9_count 92 (.ldc 130) 2 94 := ⟨by decide +kernel, rfl⟩
theorem d9_count_94 : zd b9_count 94 (.invokevirtual 131) 3 97 := ⟨by decide +kernel, rfl⟩
theorem d9_count_97 : zd b9_count 97 .ireturn 1 98 := ⟨by decide +kernel, rfl⟩
def f9_count (k : Nat) (x1 : Int32) (σ : ZS) : Option (Int32 × ZS) :=
  if x1 = (0 : Int32) then (
  some ((σ 104 2), σ))
  else (
  if x1 = (1 : Int32) then (
  some ((σ 104 3), σ))
  else (
  if x1 = (2 : Int32) then (
  some ((σ 104 0), σ))
  else (
  if x1 = (3 : Int32) then (
  some ((σ 104 4), σ))
  else (
  if x1 = (4 : Int32) then (
  some ((σ 104 5), σ))
  else (
  if x1 = (5 : Int32) then (
  some ((σ 103 25), σ))
  else (
  if x1 = (6 : Int32) then (
  some ((σ 104 1), σ))
  else (
  zbd (f9_error k (-1000000001 : Int32) σ) fun r8 s8 =>
  some (r8, s8))))))))
theorem c9_count (l : Launch) (g : ZG) {k : Nat} {x1 : Int32} {σ : ZS} {r : Int32} {σr : ZS} (hf : f9_count k x1 σ = some (r, σr)) : zT l g y9_count b9_count 2 (some .int) 2 81 [zr 103, zi x1] σ (some (zi r)) σr := by
  unfold f9_count at hf
  refine zT_start (own := R9) rfl (by decide +kernel) 0 (L := [some (zr 103), some (zi x1)]) rfl rfl (fun x hl C => ?_)
  subst hl
  refine z_iload_n C d9_count_0 rfl ?_
  refine z_tsw C [((0 : Int32), 44), ((1 : Int32), 51), ((2 : Int32), 58), ((3 : Int32), 65), ((4 : Int32), 72), ((5 : Int32), 79), ((6 : Int32), 84)] (d := 91) d9_count_1 (by decide) (by decide) (by decide +kernel) ?_
  refine z_swc (fun c1 => ?_) (fun c1 => ?_)
  · have hf := zit c1 hf
    refine z_aload_n C d9_count_44 rfl ?_
    refine z_getR C d9_count_45 fl_817 kZ_103 104 rfl (zn0 kZ_104) ?_
    refine z_iconst C (2 : Int32) d9_count_48 kI_2 ?_
    refine z_iald C d9_count_49 kZ_104 kL_104 ⟨by decide, by decide⟩ (2) kN_2 ?_
    exact z_iret C d9_count_50 hf
  · have hf := zie c1 hf
    refine z_swc (fun c2 => ?_) (fun c2 => ?_)
    · have hf := zit c2 hf
      refine z_aload_n C d9_count_51 rfl ?_
      refine z_getR C d9_count_52 fl_817 kZ_103 104 rfl (zn0 kZ_104) ?_
      refine z_iconst C (3 : Int32) d9_count_55 kI_3 ?_
      refine z_iald C d9_count_56 kZ_104 kL_104 ⟨by decide, by decide⟩ (3) kN_3 ?_
      exact z_iret C d9_count_57 hf
    · have hf := zie c2 hf
      refine z_swc (fun c3 => ?_) (fun c3 => ?_)
      · have hf := zit c3 hf
        refine z_aload_n C d9_count_58 rfl ?_
        refine z_getR C d9_count_59 fl_817 kZ_103 104 rfl (zn0 kZ_104) ?_
        refine z_iconst C (0 : Int32) d9_count_62 kI_0 ?_
        refine z_iald C d9_count_63 kZ_104 kL_104 ⟨by decide, by decide⟩ (0) kN_0 ?_
        exact z_iret C d9_count_64 hf
      · have hf := zie c3 hf
        refine z_swc (fun c4 => ?_) (fun c4 => ?_)
        · have hf := zit c4 hf
          refine z_aload_n C d9_count_65 rfl ?_
          refine z_getR C d9_count_66 fl_817 kZ_103 104 rfl (zn0 kZ_104) ?_
          refine z_iconst C (4 : Int32) d9_count_69 kI_4 ?_
          refine z_iald C d9_count_70 kZ_104 kL_104 ⟨by decide, by decide⟩ (4) kN_4 ?_
          exact z_iret C d9_count_71 hf
        · have hf := zie c4 hf
          refine z_swc (fun c5 => ?_) (fun c5 => ?_)
          · have hf := zit c5 hf
            refine z_aload_n C d9_count_72 rfl ?_
            refine z_getR C d9_count_73 fl_817 kZ_103 104 rfl (zn0 kZ_104) ?_
            refine z_iconst C (5 : Int32) d9_count_76 kI_5 ?_
            refine z_iald C d9_count_77 kZ_104 kL_104 ⟨by decide, by decide⟩ (5) kN_5 ?_
            exact z_iret C d9_count_78 hf
          · have hf := zie c5 hf
            refine z_swc (fun c6 => ?_) (fun c6 => ?_)
            · have hf := zit c6 hf
              refine z_aload_n C d9_count_79 rfl ?_
              refine z_getI C d9_count_80 fl_842 kZ_103 ?_
              exact z_iret C d9_count_83 hf
            · have hf := zie c6 hf
              refine z_swc (fun c7 => ?_) (fun c7 => ?_)
              · have hf := zit c7 hf
                refine z_aload_n C d9_count_84 rfl ?_
                refine z_getR C d9_count_85 fl_817 kZ_103 104 rfl (zn0 kZ_104) ?_
                refine z_iconst C (1 : Int32) d9_count_88 kI_1 ?_
                refine z_iald C d9_count_89 kZ_104 kL_104 ⟨by decide, by decide⟩ (1) kN_1 ?_
                exact z_iret C d9_count_90 hf
              · have hf := zie c7 hf
                refine z_sw0 ?_
                refine z_aload_n C d9_count_91 rfl ?_
                refine z_ldc C (-1000000001 : Int32) d9_count_92 w_915 ?_
                obtain ⟨r8, s8, h8, hf⟩ := zbx hf
                refine z_callVi C (as := [zi (-1000000001 : Int32)]) d9_count_94 w_916 yy9_error (c9_error x.2.1 g h8) yc9_error kZ_103 rfl rfl (Nat.le_of_ble_eq_true rfl) ⟨Nat.le_of_ble_eq_true rfl, Nat.le_of_ble_eq_true rfl⟩ ⟨Nat.zero_le _, Nat.zero_le _⟩ ?_
                exact z_iret C d9_count_97 hf
theorem d9_draw_0 : zd b9_draw 0 (.aload_n 0) 1 1 := ⟨by decide +kernel, rfl⟩
theorem d9_draw_1 : zd b9_draw 1 (.getfield 9) 3 4 := ⟨by decide +kernel, rfl⟩
theorem d9_draw_4 : zd b9_draw 4 (.iconst 1) 1 5 := ⟨by decide +kernel, rfl⟩
theorem d9_draw_5 : zd b9_draw 5 (.aload_n 0) 1 6 := ⟨by decide +kernel, rfl⟩
theorem d9_draw_6 : zd b9_draw 6 (.getfield 9) 3 9 := ⟨by decide +kernel, rfl⟩
theorem d9_draw_9 : zd b9_draw 9 (.iconst 1) 1 10 := ⟨by decide +kernel, rfl⟩
theorem d9_draw_10 : zd b9_draw 10 .iaload 1 11 := ⟨by decide +kernel, rfl⟩
theorem d9_draw_11 : zd b9_draw 11 (.ldc 213) 2 13 := ⟨by decide +kernel, rfl⟩
theorem d9_draw_13 : zd b9_draw 13 .imul 1 14 := ⟨by decide +kernel, rfl⟩
theorem d9_draw_14 : zd b9_draw 14 (.sipush 12345) 3 17 := ⟨by decide +kernel, rfl⟩
theorem d9_draw_17 : zd b9_draw 17 .iadd 1 18 := ⟨by decide +kernel, rfl⟩
theorem d9_draw_18 : zd b9_draw 18 .iastore 1 19 := ⟨by decide +kernel, rfl⟩
theorem d9_draw_19 : zd b9_draw 19 (.aload_n 0) 1 20 := ⟨by decide +kernel, rfl⟩
theorem d9_draw_20 : zd b9_draw 20 (.getfield 9) 3 23 := ⟨by decide +kernel, rfl⟩
theorem d9_draw_23 : zd b9_draw 23 (.iconst 1) 1 24 := ⟨by decide +kernel, rfl⟩
theorem d9_draw_24 : zd b9_draw 24 .iaload 1 25 := ⟨by decide +kernel, rfl⟩
theorem d9_draw_25 : zd b9_draw 25 (.bipush 8) 2 27 := ⟨by decide +kernel, rfl⟩
theorem d9_draw_27 : zd b9_draw 27 .iushr 1 28 := ⟨by decide +kernel, rfl⟩
theorem d9_draw_28 : zd b9_draw 28 .ireturn 1 29 := ⟨by decide +kernel, rfl⟩
def f9_draw (k : Nat)  (σ : ZS) : Option (Int32 × ZS) :=
  zput (zu σ 104 (1) (((σ 104 1) * (1103515245 : Int32)) + (12345 : Int32))) fun s1 =>
  some ((((s1 104 1).toUInt32 >>> ((8 : Int32).toUInt32 &&& Int32.toUInt32 31)).toInt32), s1)
theorem c9_draw (l : Launch) (g : ZG) {k : Nat}  {σ : ZS} {r : Int32} {σr : ZS} (hf : f9_draw k  σ = some (r, σr)) : zT l g y9_draw b9_draw 1 (some .int) 1 60 [zr 103] σ (some (zi r)) σr := by
  unfold f9_draw at hf
  refine zT_start (own := R9) rfl (by decide +kernel) 0 (L := [some (zr 103)]) rfl rfl (fun x hl C => ?_)
  subst hl
  refine z_aload_n C d9_draw_0 rfl ?_
  refine z_getR C d9_draw_1 fl_817 kZ_103 104 rfl (zn0 kZ_104) ?_
  refine z_iconst C (1 : Int32) d9_draw_4 kI_1 ?_
  refine z_aload_n C d9_draw_5 rfl ?_
  refine z_getR C d9_draw_6 fl_817 kZ_103 104 rfl (zn0 kZ_104) ?_
  refine z_iconst C (1 : Int32) d9_draw_9 kI_1 ?_
  refine z_iald C d9_draw_10 kZ_104 kL_104 ⟨by decide, by decide⟩ (1) kN_1 ?_
  refine z_ldc C (1103515245 : Int32) d9_draw_11 w_1125 ?_
  refine z_imul C d9_draw_13 ?_
  refine z_sipush C (12345 : Int32) d9_draw_14 kS_12345 ?_
  refine z_iadd C d9_draw_17 ?_
  obtain ⟨s1, e1, hf⟩ := zpx hf
  refine z_iast C d9_draw_18 kZ_104 kL_104 ⟨by decide, by decide⟩ kN_1 e1 ?_
  refine z_aload_n C d9_draw_19 rfl ?_
  refine z_getR C d9_draw_20 fl_817 kZ_103 104 rfl (zn0 kZ_104) ?_
  refine z_iconst C (1 : Int32) d9_draw_23 kI_1 ?_
  refine z_iald C d9_draw_24 kZ_104 kL_104 ⟨by decide, by decide⟩ (1) kN_1 ?_
  refine z_bipush C (8 : Int32) d9_draw_25 kB_8 ?_
  refine z_iushr C d9_draw_27 ?_
  exact z_iret C d9_draw_28 hf
