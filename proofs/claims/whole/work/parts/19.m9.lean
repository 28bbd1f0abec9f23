/-! methods, printed by wip/whole/gen: GlassTaxModel.look, GlassTaxModel.loose, GlassTaxModel.notMoved, GlassTaxModel.move, GlassTaxModel.odds, GlassTaxModel.plainParts, GlassTaxModel.parts, GlassTaxModel.pay, GlassTaxModel.person, GlassTaxModel.personIs, GlassTaxModel.put, GlassTaxModel.putsBack, GlassTaxModel.restore, GlassTaxModel.seed, GlassTaxModel.sees, GlassTaxModel.sheet, GlassTaxModel.spin -/
theorem d9_look_0 : zd b9_look 0 (.iload_n 1) 1 1 := ⟨by decide +kernel, rfl⟩
theorem d9_look_1 : zd b9_look 1 (.invokestatic 124) 3 4 := ⟨by decide +kernel, rfl⟩
theorem d9_look_4 : zdb b9_look 4 (.ifCond .eq 17) 17 7 21 := ⟨by decide +kernel, rfl, by decide⟩
theorem d9_look_7 : zd b9_look 7 (.iload_n 2) 1 8 := ⟨by decide +kernel, rfl⟩
theorem d9_look_8 : zd b9_look 8 (.invokestatic 127) 3 11 := ⟨by decide +kernel, rfl⟩
theorem d9_look_11 : zdb b9_look 11 (.ifCond .eq 10) 10 14 21 := ⟨by decide +kernel, rfl, by decide⟩
theorem d9_look_14 : zd b9_look 14 (.iload_n 3) 1 15 := ⟨by decide +kernel, rfl⟩
theorem d9_look_15 : zd b9_look 15 (.invokestatic 127) 3 18 := ⟨by decide +kernel, rfl⟩
theorem d9_look_18 : zdb b9_look 18 (.ifCond .ne 10) 10 21 28 := ⟨by decide +kernel, rfl, by decide⟩
theorem d9_look_21 : zd b9_look 21 (.aload_n 0) 1 22 := ⟨by decide +kernel, rfl⟩
theorem d9_look_22 : zd b9_look 22 (.ldc 130) 2 24 := ⟨by decide +kernel, rfl⟩
theorem d9_look_24 : zd b9_look 24 (.invokevirtual 131) 3 27 := ⟨by decide +kernel, rfl⟩
theorem d9_look_27 : zd b9_look 27 .ireturn 1 28 := ⟨by decide +kernel, rfl⟩
theorem d9_look_28 : zd b9_look 28 (.aload_n 0) 1 29 := ⟨by decide +kernel, rfl⟩
theorem d9_look_29 : zd b9_look 29 (.iload_n 1) 1 30 := ⟨by decide +kernel, rfl⟩
theorem d9_look_30 : zd b9_look 30 (.iload_n 2) 1 31 := ⟨by decide +kernel, rfl⟩
theorem d9_look_31 : zd b9_look 31 (.invokevirtual 112) 3 34 := ⟨by decide +kernel, rfl⟩
theorem d9_look_34 : zd b9_look 34 (.aload_n 0) 1 35 := ⟨by decide +kernel, rfl⟩
theorem d9_look_35 : zd b9_look 35 (.getfield 105) 3 38 := ⟨by decide +kernel, rfl⟩
theorem d9_look_38 : zdb b9_look 38 (.ifCond .eq 15) 15 41 53 := ⟨by decide +kernel, rfl, by decide⟩
theorem d9_look_41 : zd b9_look 41 (.iload_n 3) 1 42 := ⟨by decide +kernel, rfl⟩
theorem d9_look_42 : zd b9_look 42 (.iconst 3) 1 43 := ⟨by decide +kernel, rfl⟩
theorem d9_look_43 : zdb b9_look 43 (.if_icmp .ge 10) 10 46 53 := ⟨by decide +kernel, rfl, by decide⟩
theorem d9_look_46 : zd b9_look 46 (.aload_n 0) 1 47 := ⟨by decide +kernel, rfl⟩
theorem d9_look_47 : zd b9_look 47 (.ldc 220) 2 49 := ⟨by decide +kernel, rfl⟩
theorem d9_look_49 : zd b9_look 49 (.invokevirtual 131) 3 52 := ⟨by decide +kernel, rfl⟩
theorem d9_look_52 : zd b9_look 52 .ireturn 1 53 := ⟨by decide +kernel, rfl⟩
theorem d9_look_53 : zd b9_look 53 (.iload_n 3) 1 54 := ⟨by decide +kernel, rfl⟩
theorem d9_look_54 : zdb b9_look 54 (.ifCond .ne 17) 17 57 71 := ⟨by decide +kernel, rfl, by decide⟩
theorem d9_look_57 : zd b9_look 57 (.aload_n 0) 1 58 := ⟨by decide +kernel, rfl⟩
theorem d9_look_58 : zd b9_look 58 (.getfield 31) 3 61 := ⟨by decide +kernel, rfl⟩
theorem d9_look_61 : zd b9_look 61 (.aload_n 0) 1 62 := ⟨by decide +kernel, rfl⟩
theorem d9_look_62 : zd b9_look 62 (.getfield 93) 3 65 := ⟨by decide +kernel, rfl⟩
theorem d9_look_65 : zd b9_look 65 (.iconst 1) 1 66 := ⟨by decide +kernel, rfl⟩
theorem d9_look_66 : zd b9_look 66 .isub 1 67 := ⟨by decide +kernel, rfl⟩
theorem d9_look_67 : zd b9_look 67 .iaload 1 68 := ⟨by decide +kernel, rfl⟩
theorem d9_look_68 : zdb b9_look 68 (.goto 31) 31 71 99 := ⟨by decide +kernel, rfl, by decide⟩
theorem d9_look_71 : zd b9_look 71 (.iload_n 3) 1 72 := ⟨by decide +kernel, rfl⟩
theorem d9_look_72 : zd b9_look 72 (.iconst 1) 1 73 := ⟨by decide +kernel, rfl⟩
theorem d9_look_73 : zdb b9_look 73 (.if_icmp .ne 10) 10 76 83 := ⟨by decide +kernel, rfl, by decide⟩
theorem d9_look_76 : zd b9_look 76 (.aload_n 0) 1 77 := ⟨by decide +kernel, rfl⟩
theorem d9_look_77 : zd b9_look 77 (.getfield 93) 3 80 := ⟨by decide +kernel, rfl⟩
theorem d9_look_80 : zdb b9_look 80 (.goto 19) 19 83 99 := ⟨by decide +kernel, rfl, by decide⟩
theorem d9_look_83 : zd b9_look 83 (.iload_n 3) 1 84 := ⟨by decide +kernel, rfl⟩
theorem d9_look_84 : zd b9_look 84 (.iconst 2) 1 85 := ⟨by decide +kernel, rfl⟩
theorem d9_look_85 : zdb b9_look 85 (.if_icmp .ne 10) 10 88 95 := ⟨by decide +kernel, rfl, by decide⟩
theorem d9_look_88 : zd b9_look 88 (.aload_n 0) 1 89 := ⟨by decide +kernel, rfl⟩
theorem d9_look_89 : zd b9_look 89 (.getfield 78) 3 92 := ⟨by decide +kernel, rfl⟩
theorem d9_look_92 : zdb b9_look 92 (.goto 7) 7 95 99 := ⟨by decide +kernel, rfl, by decide⟩
theorem d9_look_95 : zd b9_look 95 (.aload_n 0) 1 96 := ⟨by decide +kernel, rfl⟩
theorem d9_look_96 : zd b9_look 96 (.getfield 82) 3 99 := ⟨by decide +kernel, rfl⟩
theorem d9_look_99 : zd b9_look 99 .ireturn 1 100 := ⟨by decide +kernel, rfl⟩
def b9_look_53 (k : Nat) (x3 : Int32) (σ : ZS) : Option (Int32 × ZS) :=
  if x3 = 0 then (
  if zin ((σ 103 9) - (1 : Int32)) 257 then (
  some ((σ 111 ((σ 103 9) - (1 : Int32)).toNatClampNeg), σ)) else none)
  else (
  if x3 = (1 : Int32) then (
  some ((σ 103 9), σ))
  else (
  if x3 = (2 : Int32) then (
  some ((σ 103 10), σ))
  else (
  some ((σ 103 12), σ))))
theorem j9_look_53 {x : ZX} {g : ZG} (C : zC x g b9_look R9 (some .int) 4 6 180) {k : Nat} {r : Int32} {σr : ZS}  {x3 : Int32} {σ : ZS} (hf : b9_look_53 k  x3 σ = some (r, σr)) : zw x g 4 0 0 (zMQ x g (some (zi r)) σr) σ 53 [some (zr 103), none, none, some (zi x3)] [] := by
  unfold b9_look_53 at hf
  refine z_iload_n C d9_look_53 rfl ?_
  refine z_if_ne C d9_look_54 (fun c1 => ?_) (fun c1 => ?_)
  · have hf := zit c1 hf
    refine z_aload_n C d9_look_57 rfl ?_
    refine z_getR C d9_look_58 fl_825 kZ_103 111 rfl (zn0 kZ_111) ?_
    refine z_aload_n C d9_look_61 rfl ?_
    refine z_getI C d9_look_62 fl_826 kZ_103 ?_
    refine z_iconst C (1 : Int32) d9_look_65 kI_1 ?_
    refine z_isub C d9_look_66 ?_
    obtain ⟨g2, hf⟩ := zgo hf
    refine z_iald C d9_look_67 kZ_111 kL_111 g2 (((σ 103 9) - (1 : Int32)).toNatClampNeg) rfl ?_
    refine z_goto C d9_look_68 ?_
    exact z_iret C d9_look_99 hf
  · have hf := zie c1 hf
    refine z_iload_n C d9_look_71 rfl ?_
    refine z_iconst C (1 : Int32) d9_look_72 kI_1 ?_
    refine z_icmp_ne C d9_look_73 (fun c3 => ?_) (fun c3 => ?_)
    · have hf := zit c3 hf
      refine z_aload_n C d9_look_76 rfl ?_
      refine z_getI C d9_look_77 fl_826 kZ_103 ?_
      refine z_goto C d9_look_80 ?_
      exact z_iret C d9_look_99 hf
    · have hf := zie c3 hf
      refine z_iload_n C d9_look_83 rfl ?_
      refine z_iconst C (2 : Int32) d9_look_84 kI_2 ?_
      refine z_icmp_ne C d9_look_85 (fun c4 => ?_) (fun c4 => ?_)
      · have hf := zit c4 hf
        refine z_aload_n C d9_look_88 rfl ?_
        refine z_getI C d9_look_89 fl_827 kZ_103 ?_
        refine z_goto C d9_look_92 ?_
        exact z_iret C d9_look_99 hf
      · have hf := zie c4 hf
        refine z_aload_n C d9_look_95 rfl ?_
        refine z_getI C d9_look_96 fl_829 kZ_103 ?_
        exact z_iret C d9_look_99 hf
def f9_look (k : Nat) (x1 : Int32) (x2 : Int32) (x3 : Int32) (σ : ZS) : Option (Int32 × ZS) :=
  zbd (f9_isCell k x1 σ) fun r1 s1 =>
  if r1 = 0 then (
  zbd (f9_error k (-1000000001 : Int32) s1) fun r3 s3 =>
  some (r3, s3))
  else (
  zbd (f9_isFour k x2 s1) fun r4 s4 =>
  if r4 = 0 then (
  zbd (f9_error k (-1000000001 : Int32) s4) fun r6 s6 =>
  some (r6, s6))
  else (
  zbd (f9_isFour k x3 s4) fun r7 s7 =>
  if r7 = 0 then (
  zbd (f9_error k (-1000000001 : Int32) s7) fun r9 s9 =>
  some (r9, s9))
  else (
  zbd (f9_looks k x1 x2 s7) fun _ s10 =>
  if (s10 103 13) = 0 then (
  b9_look_53 k  x3 s10)
  else (
  if (3 : Int32) ≤ x3 then (
  b9_look_53 k  x3 s10)
  else (
  zbd (f9_error k (-1000000002 : Int32) s10) fun r13 s13 =>
  some (r13, s13))))))
theorem c9_look (l : Launch) (g : ZG) {k : Nat} {x1 : Int32} {x2 : Int32} {x3 : Int32} {σ : ZS} {r : Int32} {σr : ZS} (hf : f9_look k x1 x2 x3 σ = some (r, σr)) : zT l g y9_look b9_look 4 (some .int) 6 180 [zr 103, zi x1, zi x2, zi x3] σ (some (zi r)) σr := by
  unfold f9_look at hf
  refine zT_start (own := R9) rfl (by decide +kernel) 0 (L := [some (zr 103), some (zi x1), some (zi x2), some (zi x3)]) rfl rfl (fun x hl C => ?_)
  subst hl
  refine z_iload_n C d9_look_0 rfl ?_
  obtain ⟨r1, s1, h1, hf⟩ := zbx hf
  refine z_callSi C (as := [zi x1]) d9_look_1 w_909 yy9_isCell (c9_isCell x.2.1 g h1) rfl rfl (Nat.le_of_ble_eq_true rfl) ⟨Nat.le_of_ble_eq_true rfl, Nat.le_of_ble_eq_true rfl⟩ ⟨Nat.zero_le _, Nat.zero_le _⟩ ?_
  refine z_if_eq C d9_look_4 (fun c2 => ?_) (fun c2 => ?_)
  · have hf := zit c2 hf
    refine z_aload_n C d9_look_21 rfl ?_
    refine z_ldc C (-1000000001 : Int32) d9_look_22 w_915 ?_
    obtain ⟨r3, s3, h3, hf⟩ := zbx hf
    refine z_callVi C (as := [zi (-1000000001 : Int32)]) d9_look_24 w_916 yy9_error (c9_error x.2.1 g h3) yc9_error kZ_103 rfl rfl (Nat.le_of_ble_eq_true rfl) ⟨Nat.le_of_ble_eq_true rfl, Nat.le_of_ble_eq_true rfl⟩ ⟨Nat.zero_le _, Nat.zero_le _⟩ ?_
    exact z_iret C d9_look_27 hf
  · have hf := zie c2 hf
    refine z_iload_n C d9_look_7 rfl ?_
    obtain ⟨r4, s4, h4, hf⟩ := zbx hf
    refine z_callSi C (as := [zi x2]) d9_look_8 w_912 yy9_isFour (c9_isFour x.2.1 g h4) rfl rfl (Nat.le_of_ble_eq_true rfl) ⟨Nat.le_of_ble_eq_true rfl, Nat.le_of_ble_eq_true rfl⟩ ⟨Nat.zero_le _, Nat.zero_le _⟩ ?_
    refine z_if_eq C d9_look_11 (fun c5 => ?_) (fun c5 => ?_)
    · have hf := zit c5 hf
      refine z_aload_n C d9_look_21 rfl ?_
      refine z_ldc C (-1000000001 : Int32) d9_look_22 w_915 ?_
      obtain ⟨r6, s6, h6, hf⟩ := zbx hf
      refine z_callVi C (as := [zi (-1000000001 : Int32)]) d9_look_24 w_916 yy9_error (c9_error x.2.1 g h6) yc9_error kZ_103 rfl rfl (Nat.le_of_ble_eq_true rfl) ⟨Nat.le_of_ble_eq_true rfl, Nat.le_of_ble_eq_true rfl⟩ ⟨Nat.zero_le _, Nat.zero_le _⟩ ?_
      exact z_iret C d9_look_27 hf
    · have hf := zie c5 hf
      refine z_iload_n C d9_look_14 rfl ?_
      obtain ⟨r7, s7, h7, hf⟩ := zbx hf
      refine z_callSi C (as := [zi x3]) d9_look_15 w_912 yy9_isFour (c9_isFour x.2.1 g h7) rfl rfl (Nat.le_of_ble_eq_true rfl) ⟨Nat.le_of_ble_eq_true rfl, Nat.le_of_ble_eq_true rfl⟩ ⟨Nat.zero_le _, Nat.zero_le _⟩ ?_
      refine z_if_ne C d9_look_18 (fun c8 => ?_) (fun c8 => ?_)
      · have hf := zit c8 hf
        refine z_aload_n C d9_look_21 rfl ?_
        refine z_ldc C (-1000000001 : Int32) d9_look_22 w_915 ?_
        obtain ⟨r9, s9, h9, hf⟩ := zbx hf
        refine z_callVi C (as := [zi (-1000000001 : Int32)]) d9_look_24 w_916 yy9_error (c9_error x.2.1 g h9) yc9_error kZ_103 rfl rfl (Nat.le_of_ble_eq_true rfl) ⟨Nat.le_of_ble_eq_true rfl, Nat.le_of_ble_eq_true rfl⟩ ⟨Nat.zero_le _, Nat.zero_le _⟩ ?_
        exact z_iret C d9_look_27 hf
      · have hf := zie c8 hf
        refine z_aload_n C d9_look_28 rfl ?_
        refine z_iload_n C d9_look_29 rfl ?_
        refine z_iload_n C d9_look_30 rfl ?_
        obtain ⟨r10, s10, h10, hf⟩ := zbx hf
        refine z_callVv C (as := [zi x1, zi x2]) d9_look_31 w_1002 yy9_looks (c9_looks x.2.1 g h10) yc9_looks kZ_103 rfl rfl (Nat.le_of_ble_eq_true rfl) ⟨Nat.le_of_ble_eq_true rfl, Nat.le_of_ble_eq_true rfl⟩ ⟨Nat.zero_le _, Nat.zero_le _⟩ ?_
        refine z_aload_n C d9_look_34 rfl ?_
        refine z_getI C d9_look_35 fl_830 kZ_103 ?_
        refine z_if_eq C d9_look_38 (fun c11 => ?_) (fun c11 => ?_)
        · have hf := zit c11 hf
          refine z_drop [true, false, false, true] (L' := [some (zr 103), none, none, some (zi x3)]) rfl ?_
          exact j9_look_53 C  hf
        · have hf := zie c11 hf
          refine z_iload_n C d9_look_41 rfl ?_
          refine z_iconst C (3 : Int32) d9_look_42 kI_3 ?_
          refine z_icmp_ge C d9_look_43 (fun c12 => ?_) (fun c12 => ?_)
          · have hf := zit c12 hf
            refine z_drop [true, false, false, true] (L' := [some (zr 103), none, none, some (zi x3)]) rfl ?_
            exact j9_look_53 C  hf
          · have hf := zie c12 hf
            refine z_aload_n C d9_look_46 rfl ?_
            refine z_ldc C (-1000000002 : Int32) d9_look_47 w_1134 ?_
            obtain ⟨r13, s13, h13, hf⟩ := zbx hf
            refine z_callVi C (as := [zi (-1000000002 : Int32)]) d9_look_49 w_916 yy9_error (c9_error x.2.1 g h13) yc9_error kZ_103 rfl rfl (Nat.le_of_ble_eq_true rfl) ⟨Nat.le_of_ble_eq_true rfl, Nat.le_of_ble_eq_true rfl⟩ ⟨Nat.zero_le _, Nat.zero_le _⟩ ?_
            exact z_iret C d9_look_52 hf
theorem d9_loose_0 : zd b9_loose 0 (.iload_n 1) 1 1 := ⟨by decide +kernel, rfl⟩
theorem d9_loose_1 : zd b9_loose 1 (.iconst 1) 1 2 := ⟨by decide +kernel, rfl⟩
theorem d9_loose_2 : zd b9_loose 2 (.bipush 24) 2 4 := ⟨by decide +kernel, rfl⟩
theorem d9_loose_4 : zd b9_loose 4 (.invokestatic 56) 3 7 := ⟨by decide +kernel, rfl⟩
theorem d9_loose_7 : zdb b9_loose 7 (.ifCond .ne 10) 10 10 17 := ⟨by decide +kernel, rfl, by decide⟩
theorem d9_loose_10 : zd b9_loose 10 (.aload_n 0) 1 11 := ⟨by decide +kernel, rfl⟩
theorem d9_loose_11 : zd b9_loose 11 (.ldc 130) 2 13 := ⟨by decide +kernel, rfl⟩
theorem d9_loose_13 : zd b9_loose 13 (.invokevirtual 131) 3 16 := ⟨by decide +kernel, rfl⟩
theorem d9_loose_16 : zd b9_loose 16 .ireturn 1 17 := ⟨by decide +kernel, rfl⟩
theorem d9_loose_17 : zd b9_loose 17 (.aload_n 0) 1 18 := ⟨by decide +kernel, rfl⟩
theorem d9_loose_18 : zd b9_loose 18 (.getfield 9) 3 21 := ⟨by decide +kernel, rfl⟩
theorem d9_loose_21 : zd b9_loose 21 (.iconst 0) 1 22 := ⟨by decide +kernel, rfl⟩
theorem d9_loose_22 : zd b9_loose 22 .iaload 1 23 := ⟨by decide +kernel, rfl⟩
theorem d9_loose_23 : zd b9_loose 23 (.iload_n 1) 1 24 := ⟨by decide +kernel, rfl⟩
theorem d9_loose_24 : zd b9_loose 24 .iadd 1 25 := ⟨by decide +kernel, rfl⟩
theorem d9_loose_25 : zd b9_loose 25 (.sipush 9999) 3 28 := ⟨by decide +kernel, rfl⟩
theorem d9_loose_28 : zdb b9_loose 28 (.if_icmp .le 10) 10 31 38 := ⟨by decide +kernel, rfl, by decide⟩
theorem d9_loose_31 : zd b9_loose 31 (.aload_n 0) 1 32 := ⟨by decide +kernel, rfl⟩
theorem d9_loose_32 : zd b9_loose 32 (.ldc 135) 2 34 := ⟨by decide +kernel, rfl⟩
theorem d9_loose_34 : zd b9_loose 34 (.invokevirtual 131) 3 37 := ⟨by decide +kernel, rfl⟩
theorem d9_loose_37 : zd b9_loose 37 .ireturn 1 38 := ⟨by decide +kernel, rfl⟩
theorem d9_loose_38 : zd b9_loose 38 (.iconst 0) 1 39 := ⟨by decide +kernel, rfl⟩
theorem d9_loose_39 : zd b9_loose 39 (.istore_n 2) 1 40 := ⟨by decide +kernel, rfl⟩
theorem d9_loose_40 : zd b9_loose 40 (.iload_n 2) 1 41 := ⟨by decide +kernel, rfl⟩
theorem d9_loose_41 : zd b9_loose 41 (.iload_n 1) 1 42 := ⟨by decide +kernel, rfl⟩
theorem d9_loose_42 : zdb b9_loose 42 (.if_icmp .ge 26) 26 45 68 := ⟨by decide +kernel, rfl, by decide⟩
theorem d9_loose_45 : zd b9_loose 45 (.aload_n 0) 1 46 := ⟨by decide +kernel, rfl⟩
theorem d9_loose_46 : zd b9_loose 46 (.getfield 9) 3 49 := ⟨by decide +kernel, rfl⟩
theorem d9_loose_49 : zd b9_loose 49 (.iconst 3) 1 50 := ⟨by decide +kernel, rfl⟩
theorem d9_loose_50 : zd b9_loose 50 .iaload 1 51 := ⟨by decide +kernel, rfl⟩
theorem d9_loose_51 : zdb b9_loose 51 (.ifCond .le 7) 7 54 58 := ⟨by decide +kernel, rfl, by decide⟩
theorem d9_loose_54 : zd b9_loose 54 (.aload_n 0) 1 55 := ⟨by decide +kernel, rfl⟩
theorem d9_loose_55 : zd b9_loose 55 (.invokevirtual 217) 3 58 := ⟨by decide +kernel, rfl⟩
theorem d9_loose_58 : zd b9_loose 58 (.aload_n 0) 1 59 := ⟨by decide +kernel, rfl⟩
theorem d9_loose_59 : zd b9_loose 59 (.invokevirtual 210) 3 62 := ⟨by decide +kernel, rfl⟩
theorem d9_loose_62 : zd b9_loose 62 (.iinc 2 1) 3 65 := ⟨by decide +kernel, rfl⟩
theorem d9_loose_65 : zdb b9_loose 65 (.goto (-25)) (-25) 68 40 := ⟨by decide +kernel, rfl, by decide⟩
theorem d9_loose_68 : zd b9_loose 68 (.aload_n 0) 1 69 := ⟨by decide +kernel, rfl⟩
theorem d9_loose_69 : zd b9_loose 69 (.getfield 9) 3 72 := ⟨by decide +kernel, rfl⟩
theorem d9_loose_72 : zd b9_loose 72 (.iconst 0) 1 73 := ⟨by decide +kernel, rfl⟩
theorem d9_loose_73 : zd b9_loose 73 .iaload 1 74 := ⟨by decide +kernel, rfl⟩
theorem d9_loose_74 : zd b9_loose 74 .ireturn 1 75 := ⟨by decide +kernel, rfl⟩
def b9_loose_40 (k : Nat) (q40 : Int32 → Int32 → ZS → Option (Int32 × ZS)) (x1 : Int32) (x2 : Int32) (σ : ZS) : Option (Int32 × ZS) :=
  if x1 ≤ x2 then (
  some ((σ 104 0), σ))
  else (
  if (σ 104 3) ≤ 0 then (
  zbd (f9_goes k σ) fun _ s3 =>
  q40 x1 (x2 + (1 : Int32)) s3)
  else (
  zbd (f9_drawn k σ) fun _ s4 =>
  zbd (f9_goes k s4) fun _ s5 =>
  q40 x1 (x2 + (1 : Int32)) s5))
def f9_loose_40 (k : Nat) : Nat → Int32 → Int32 → ZS → Option (Int32 × ZS)
  | 0 => fun _ _ _ => none
  | n + 1 => b9_loose_40 k  (f9_loose_40 k  n)
theorem j9_loose_40 {x : ZX} {g : ZG} (C : zC x g b9_loose R9 (some .int) 3 9 244) {k : Nat} {r : Int32} {σr : ZS}  {q40 : Int32 → Int32 → ZS → Option (Int32 × ZS)} (hq40 : (∀ (x1 : Int32) (x2 : Int32) (σ : ZS), q40 x1 x2 σ = some (r, σr) → zw x g 3 0 0 (zMQ x g (some (zi r)) σr) σ 40 [some (zr 103), some (zi x1), some (zi x2)] [])) {x1 : Int32} {x2 : Int32} {σ : ZS} (hf : b9_loose_40 k q40 x1 x2 σ = some (r, σr)) : zw x g 3 0 0 (zMQ x g (some (zi r)) σr) σ 40 [some (zr 103), some (zi x1), some (zi x2)] [] := by
  unfold b9_loose_40 at hf
  refine z_iload_n C d9_loose_40 rfl ?_
  refine z_iload_n C d9_loose_41 rfl ?_
  refine z_icmp_ge C d9_loose_42 (fun c1 => ?_) (fun c1 => ?_)
  · have hf := zit c1 hf
    refine z_aload_n C d9_loose_68 rfl ?_
    refine z_getR C d9_loose_69 fl_817 kZ_103 104 rfl (zn0 kZ_104) ?_
    refine z_iconst C (0 : Int32) d9_loose_72 kI_0 ?_
    refine z_iald C d9_loose_73 kZ_104 kL_104 ⟨by decide, by decide⟩ (0) kN_0 ?_
    exact z_iret C d9_loose_74 hf
  · have hf := zie c1 hf
    refine z_aload_n C d9_loose_45 rfl ?_
    refine z_getR C d9_loose_46 fl_817 kZ_103 104 rfl (zn0 kZ_104) ?_
    refine z_iconst C (3 : Int32) d9_loose_49 kI_3 ?_
    refine z_iald C d9_loose_50 kZ_104 kL_104 ⟨by decide, by decide⟩ (3) kN_3 ?_
    refine z_if_le C d9_loose_51 (fun c2 => ?_) (fun c2 => ?_)
    · have hf := zit c2 hf
      refine z_aload_n C d9_loose_58 rfl ?_
      obtain ⟨r3, s3, h3, hf⟩ := zbx hf
      refine z_callVv C (as := []) d9_loose_59 w_1109 yy9_goes (c9_goes x.2.1 g h3) yc9_goes kZ_103 rfl rfl (Nat.le_of_ble_eq_true rfl) ⟨Nat.le_of_ble_eq_true rfl, Nat.le_of_ble_eq_true rfl⟩ ⟨Nat.zero_le _, Nat.zero_le _⟩ ?_
      refine z_iinc C d9_loose_62 rfl kI_1 (Nat.le_of_ble_eq_true rfl) rfl (L' := [some (zr 103), some (zi x1), some (zi (x2 + (1 : Int32)))]) rfl ?_
      refine z_goto C d9_loose_65 ?_
      exact hq40 _ _ _ hf
    · have hf := zie c2 hf
      refine z_aload_n C d9_loose_54 rfl ?_
      obtain ⟨r4, s4, h4, hf⟩ := zbx hf
      refine z_callVv C (as := []) d9_loose_55 w_1117 yy9_drawn (c9_drawn x.2.1 g h4) yc9_drawn kZ_103 rfl rfl (Nat.le_of_ble_eq_true rfl) ⟨Nat.le_of_ble_eq_true rfl, Nat.le_of_ble_eq_true rfl⟩ ⟨Nat.zero_le _, Nat.zero_le _⟩ ?_
      refine z_aload_n C d9_loose_58 rfl ?_
      obtain ⟨r5, s5, h5, hf⟩ := zbx hf
      refine z_callVv C (as := []) d9_loose_59 w_1109 yy9_goes (c9_goes x.2.1 g h5) yc9_goes kZ_103 rfl rfl (Nat.le_of_ble_eq_true rfl) ⟨Nat.le_of_ble_eq_true rfl, Nat.le_of_ble_eq_true rfl⟩ ⟨Nat.zero_le _, Nat.zero_le _⟩ ?_
      refine z_iinc C d9_loose_62 rfl kI_1 (Nat.le_of_ble_eq_true rfl) rfl (L' := [some (zr 103), some (zi x1), some (zi (x2 + (1 : Int32)))]) rfl ?_
      refine z_goto C d9_loose_65 ?_
      exact hq40 _ _ _ hf
theorem j9_loose_40l {x : ZX} {g : ZG} (C : zC x g b9_loose R9 (some .int) 3 9 244) {k : Nat} {r : Int32} {σr : ZS}  : ∀ (n : Nat) (x1 : Int32) (x2 : Int32) (σ : ZS), f9_loose_40 k  n x1 x2 σ = some (r, σr) → zw x g 3 0 0 (zMQ x g (some (zi r)) σr) σ 40 [some (zr 103), some (zi x1), some (zi x2)] [] := by
  intro n
  induction n with
  | zero => intro x1 x2 σ hf; exact absurd (show none = some (r, σr) from hf) (fun z => by cases z)
  | succ n ih => intro x1 x2 σ hf; exact j9_loose_40 C  ih (show b9_loose_40 k  (f9_loose_40 k  n) x1 x2 σ = some (r, σr) from hf)
def f9_loose (k : Nat) (x1 : Int32) (σ : ZS) : Option (Int32 × ZS) :=
  zbd (f9_in k x1 (1 : Int32) (24 : Int32) σ) fun r1 s1 =>
  if r1 = 0 then (
  zbd (f9_error k (-1000000001 : Int32) s1) fun r3 s3 =>
  some (r3, s3))
  else (
  if ((s1 104 0) + x1) ≤ (9999 : Int32) then (
  f9_loose_40 k  k x1 (0 : Int32) s1)
  else (
  zbd (f9_error k (-1000000003 : Int32) s1) fun r5 s5 =>
  some (r5, s5)))
theorem c9_loose (l : Launch) (g : ZG) {k : Nat} {x1 : Int32} {σ : ZS} {r : Int32} {σr : ZS} (hf : f9_loose k x1 σ = some (r, σr)) : zT l g y9_loose b9_loose 3 (some .int) 9 244 [zr 103, zi x1] σ (some (zi r)) σr := by
  unfold f9_loose at hf
  refine zT_start (own := R9) rfl (by decide +kernel) 1 (L := [some (zr 103), some (zi x1), none]) rfl rfl (fun x hl C => ?_)
  subst hl
  refine z_iload_n C d9_loose_0 rfl ?_
  refine z_iconst C (1 : Int32) d9_loose_1 kI_1 ?_
  refine z_bipush C (24 : Int32) d9_loose_2 kB_24 ?_
  obtain ⟨r1, s1, h1, hf⟩ := zbx hf
  refine z_callSi C (as := [zi x1, zi (1 : Int32), zi (24 : Int32)]) d9_loose_4 w_906 yy9_in (c9_in x.2.1 g h1) rfl rfl (Nat.le_of_ble_eq_true rfl) ⟨Nat.le_of_ble_eq_true rfl, Nat.le_of_ble_eq_true rfl⟩ ⟨Nat.zero_le _, Nat.zero_le _⟩ ?_
  refine z_if_ne C d9_loose_7 (fun c2 => ?_) (fun c2 => ?_)
  · have hf := zit c2 hf
    refine z_aload_n C d9_loose_10 rfl ?_
    refine z_ldc C (-1000000001 : Int32) d9_loose_11 w_915 ?_
    obtain ⟨r3, s3, h3, hf⟩ := zbx hf
    refine z_callVi C (as := [zi (-1000000001 : Int32)]) d9_loose_13 w_916 yy9_error (c9_error x.2.1 g h3) yc9_error kZ_103 rfl rfl (Nat.le_of_ble_eq_true rfl) ⟨Nat.le_of_ble_eq_true rfl, Nat.le_of_ble_eq_true rfl⟩ ⟨Nat.zero_le _, Nat.zero_le _⟩ ?_
    exact z_iret C d9_loose_16 hf
  · have hf := zie c2 hf
    refine z_aload_n C d9_loose_17 rfl ?_
    refine z_getR C d9_loose_18 fl_817 kZ_103 104 rfl (zn0 kZ_104) ?_
    refine z_iconst C (0 : Int32) d9_loose_21 kI_0 ?_
    refine z_iald C d9_loose_22 kZ_104 kL_104 ⟨by decide, by decide⟩ (0) kN_0 ?_
    refine z_iload_n C d9_loose_23 rfl ?_
    refine z_iadd C d9_loose_24 ?_
    refine z_sipush C (9999 : Int32) d9_loose_25 kS_9999 ?_
    refine z_icmp_le C d9_loose_28 (fun c4 => ?_) (fun c4 => ?_)
    · have hf := zit c4 hf
      refine z_iconst C (0 : Int32) d9_loose_38 kI_0 ?_
      refine z_istore_n C d9_loose_39 (Nat.le_of_ble_eq_true rfl) rfl (L' := [some (zr 103), some (zi x1), some (zi (0 : Int32))]) rfl ?_
      exact j9_loose_40l C  _ _ _ _ hf
    · have hf := zie c4 hf
      refine z_aload_n C d9_loose_31 rfl ?_
      refine z_ldc C (-1000000003 : Int32) d9_loose_32 w_930 ?_
      obtain ⟨r5, s5, h5, hf⟩ := zbx hf
      refine z_callVi C (as := [zi (-1000000003 : Int32)]) d9_loose_34 w_916 yy9_error (c9_error x.2.1 g h5) yc9_error kZ_103 rfl rfl (Nat.le_of_ble_eq_true rfl) ⟨Nat.le_of_ble_eq_true rfl, Nat.le_of_ble_eq_true rfl⟩ ⟨Nat.zero_le _, Nat.zero_le _⟩ ?_
      exact z_iret C d9_loose_37 hf
theorem d9_notMoved_0 : zd b9_notMoved 0 (.iload_n 1) 1 1 := ⟨by decide +kernel, rfl⟩
theorem d9_notMoved_1 : zd b9_notMoved 1 (.invokestatic 242) 3 4 := ⟨by decide +kernel, rfl⟩
theorem d9_notMoved_4 : zdb b9_notMoved 4 (.ifCond .eq 10) 10 7 14 := ⟨by decide +kernel, rfl, by decide⟩
theorem d9_notMoved_7 : zd b9_notMoved 7 (.iload_n 3) 1 8 := ⟨by decide +kernel, rfl⟩
theorem d9_notMoved_8 : zd b9_notMoved 8 (.invokestatic 242) 3 11 := ⟨by decide +kernel, rfl⟩
theorem d9_notMoved_11 : zdb b9_notMoved 11 (.ifCond .ne 6) 6 14 17 := ⟨by decide +kernel, rfl, by decide⟩
theorem d9_notMoved_14 : zd b9_notMoved 14 (.ldc 130) 2 16 := ⟨by decide +kernel, rfl⟩
theorem d9_notMoved_16 : zd b9_notMoved 16 .ireturn 1 17 := ⟨by decide +kernel, rfl⟩
theorem d9_notMoved_17 : zd b9_notMoved 17 (.aload_n 0) 1 18 := ⟨by decide +kernel, rfl⟩
theorem d9_notMoved_18 : zd b9_notMoved 18 (.getfield 22) 3 21 := ⟨by decide +kernel, rfl⟩
theorem d9_notMoved_21 : zd b9_notMoved 21 (.iload_n 1) 1 22 := ⟨by decide +kernel, rfl⟩
theorem d9_notMoved_22 : zd b9_notMoved 22 .iaload 1 23 := ⟨by decide +kernel, rfl⟩
theorem d9_notMoved_23 : zdb b9_notMoved 23 (.ifCond .eq 12) 12 26 35 := ⟨by decide +kernel, rfl, by decide⟩
theorem d9_notMoved_26 : zd b9_notMoved 26 (.aload_n 0) 1 27 := ⟨by decide +kernel, rfl⟩
theorem d9_notMoved_27 : zd b9_notMoved 27 (.getfield 22) 3 30 := ⟨by decide +kernel, rfl⟩
theorem d9_notMoved_30 : zd b9_notMoved 30 (.iload_n 3) 1 31 := ⟨by decide +kernel, rfl⟩
theorem d9_notMoved_31 : zd b9_notMoved 31 .iaload 1 32 := ⟨by decide +kernel, rfl⟩
theorem d9_notMoved_32 : zdb b9_notMoved 32 (.ifCond .ne 6) 6 35 38 := ⟨by decide +kernel, rfl, by decide⟩
theorem d9_notMoved_35 : zd b9_notMoved 35 (.ldc 220) 2 37 := ⟨by decide +kernel, rfl⟩
theorem d9_notMoved_37 : zd b9_notMoved 37 .ireturn 1 38 := ⟨by decide +kernel, rfl⟩
theorem d9_notMoved_38 : zd b9_notMoved 38 (.aload_n 0) 1 39 := ⟨by decide +kernel, rfl⟩
theorem d9_notMoved_39 : zd b9_notMoved 39 (.getfield 22) 3 42 := ⟨by decide +kernel, rfl⟩
theorem d9_notMoved_42 : zd b9_notMoved 42 (.iload_n 1) 1 43 := ⟨by decide +kernel, rfl⟩
theorem d9_notMoved_43 : zd b9_notMoved 43 .iaload 1 44 := ⟨by decide +kernel, rfl⟩
theorem d9_notMoved_44 : zd b9_notMoved 44 (.aload_n 0) 1 45 := ⟨by decide +kernel, rfl⟩
theorem d9_notMoved_45 : zd b9_notMoved 45 (.getfield 22) 3 48 := ⟨by decide +kernel, rfl⟩
theorem d9_notMoved_48 : zd b9_notMoved 48 (.iload_n 3) 1 49 := ⟨by decide +kernel, rfl⟩
theorem d9_notMoved_49 : zd b9_notMoved 49 .iaload 1 50 := ⟨by decide +kernel, rfl⟩
theorem d9_notMoved_50 : zdb b9_notMoved 50 (.if_icmp .eq 6) 6 53 56 := ⟨by decide +kernel, rfl, by decide⟩
theorem d9_notMoved_53 : zd b9_notMoved 53 (.ldc 142) 2 55 := ⟨by decide +kernel, rfl⟩
theorem d9_notMoved_55 : zd b9_notMoved 55 .ireturn 1 56 := ⟨by decide +kernel, rfl⟩
theorem d9_notMoved_56 : zd b9_notMoved 56 (.iload 5) 2 58 := ⟨by decide +kernel, rfl⟩
theorem d9_notMoved_58 : zdb b9_notMoved 58 (.ifCond .lt 43) 43 61 101 := ⟨by decide +kernel, rfl, by decide⟩
theorem d9_notMoved_61 : zd b9_notMoved 61 (.iload_n 2) 1 62 := ⟨by decide +kernel, rfl⟩
theorem d9_notMoved_62 : zdb b9_notMoved 62 (.ifCond .lt 39) 39 65 101 := ⟨by decide +kernel, rfl, by decide⟩
theorem d9_notMoved_65 : zd b9_notMoved 65 (.iload 4) 2 67 := ⟨by decide +kernel, rfl⟩
theorem d9_notMoved_67 : zdb b9_notMoved 67 (.ifCond .lt 34) 34 70 101 := ⟨by decide +kernel, rfl, by decide⟩
theorem d9_notMoved_70 : zd b9_notMoved 70 (.iload 5) 2 72 := ⟨by decide +kernel, rfl⟩
theorem d9_notMoved_72 : zd b9_notMoved 72 (.aload_n 0) 1 73 := ⟨by decide +kernel, rfl⟩
theorem d9_notMoved_73 : zd b9_notMoved 73 (.getfield 25) 3 76 := ⟨by decide +kernel, rfl⟩
theorem d9_notMoved_76 : zd b9_notMoved 76 (.iload_n 1) 1 77 := ⟨by decide +kernel, rfl⟩
theorem d9_notMoved_77 : zd b9_notMoved 77 .iaload 1 78 := ⟨by decide +kernel, rfl⟩
theorem d9_notMoved_78 : zd b9_notMoved 78 (.iload_n 2) 1 79 := ⟨by decide +kernel, rfl⟩
theorem d9_notMoved_79 : zd b9_notMoved 79 .isub 1 80 := ⟨by decide +kernel, rfl⟩
theorem d9_notMoved_80 : zdb b9_notMoved 80 (.if_icmp .gt 21) 21 83 101 := ⟨by decide +kernel, rfl, by decide⟩
theorem d9_notMoved_83 : zd b9_notMoved 83 (.iload 5) 2 85 := ⟨by decide +kernel, rfl⟩
theorem d9_notMoved_85 : zd b9_notMoved 85 (.aload_n 0) 1 86 := ⟨by decide +kernel, rfl⟩
theorem d9_notMoved_86 : zd b9_notMoved 86 (.getfield 25) 3 89 := ⟨by decide +kernel, rfl⟩
theorem d9_notMoved_89 : zd b9_notMoved 89 (.iload_n 3) 1 90 := ⟨by decide +kernel, rfl⟩
theorem d9_notMoved_90 : zd b9_notMoved 90 .iaload 1 91 := ⟨by decide +kernel, rfl⟩
theorem d9_notMoved_91 : zd b9_notMoved 91 (.iload 4) 2 93 := ⟨by decide +kernel, rfl⟩
theorem d9_notMoved_93 : zd b9_notMoved 93 .isub 1 94 := ⟨by decide +kernel, rfl⟩
theorem d9_notMoved_94 : zdb b9_notMoved 94 (.if_icmp .gt 7) 7 97 101 := ⟨by decide +kernel, rfl, by decide⟩
theorem d9_notMoved_97 : zd b9_notMoved 97 (.iconst 1) 1 98 := ⟨by decide +kernel, rfl⟩
theorem d9_notMoved_98 : zdb b9_notMoved 98 (.goto 4) 4 101 102 := ⟨by decide +kernel, rfl, by decide⟩
theorem d9_notMoved_101 : zd b9_notMoved 101 (.iconst 0) 1 102 := ⟨by decide +kernel, rfl⟩
theorem d9_notMoved_102 : zd b9_notMoved 102 (.istore 6) 2 104 := ⟨by decide +kernel, rfl⟩
theorem d9_notMoved_104 : zd b9_notMoved 104 (.iload 6) 2 106 := ⟨by decide +kernel, rfl⟩
theorem d9_notMoved_106 : zdb b9_notMoved 106 (.ifCond .eq 7) 7 109 113 := ⟨by decide +kernel, rfl, by decide⟩
theorem d9_notMoved_109 : zd b9_notMoved 109 (.iconst 0) 1 110 := ⟨by decide +kernel, rfl⟩
theorem d9_notMoved_110 : zdb b9_notMoved 110 (.goto 5) 5 113 115 := ⟨by decide +kernel, rfl, by decide⟩
theorem d9_notMoved_113 : zd b9_notMoved 113 (.ldc 130) 2 115 := ⟨by decide +kernel, rfl⟩
theorem d9_notMoved_115 : zd b9_notMoved 115 .ireturn 1 116 := ⟨by decide +kernel, rfl⟩
def f9_notMoved (k : Nat) (x1 : Int32) (x2 : Int32) (x3 : Int32) (x4 : Int32) (x5 : Int32) (σ : ZS) : Option (Int32 × ZS) :=
  zbd (f9_isSheet k x1 σ) fun r1 s1 =>
  if r1 = 0 then (
  some ((-1000000001 : Int32), s1))
  else (
  zbd (f9_isSheet k x3 s1) fun r3 s3 =>
  if r3 = 0 then (
  some ((-1000000001 : Int32), s3))
  else (
  if zin x1 4 then (
  if (s3 108 x1.toNatClampNeg) = 0 then (
  some ((-1000000002 : Int32), s3))
  else (
  if zin x3 4 then (
  if (s3 108 x3.toNatClampNeg) = 0 then (
  some ((-1000000002 : Int32), s3))
  else (
  if zin x1 4 then (
  if zin x3 4 then (
  if (s3 108 x1.toNatClampNeg) = (s3 108 x3.toNatClampNeg) then (
  if x5 < 0 then (
  if (0 : Int32) = 0 then (
  some ((-1000000001 : Int32), s3))
  else (
  some ((0 : Int32), s3)))
  else (
  if x2 < 0 then (
  if (0 : Int32) = 0 then (
  some ((-1000000001 : Int32), s3))
  else (
  some ((0 : Int32), s3)))
  else (
  if x4 < 0 then (
  if (0 : Int32) = 0 then (
  some ((-1000000001 : Int32), s3))
  else (
  some ((0 : Int32), s3)))
  else (
  if zin x1 4 then (
  if ((s3 109 x1.toNatClampNeg) - x2) < x5 then (
  if (0 : Int32) = 0 then (
  some ((-1000000001 : Int32), s3))
  else (
  some ((0 : Int32), s3)))
  else (
  if zin x3 4 then (
  if ((s3 109 x3.toNatClampNeg) - x4) < x5 then (
  if (0 : Int32) = 0 then (
  some ((-1000000001 : Int32), s3))
  else (
  some ((0 : Int32), s3)))
  else (
  if (1 : Int32) = 0 then (
  some ((-1000000001 : Int32), s3))
  else (
  some ((0 : Int32), s3)))) else none)) else none))))
  else (
  some ((-1000000005 : Int32), s3))) else none) else none)) else none)) else none))
theorem c9_notMoved (l : Launch) (g : ZG) {k : Nat} {x1 : Int32} {x2 : Int32} {x3 : Int32} {x4 : Int32} {x5 : Int32} {σ : ZS} {r : Int32} {σr : ZS} (hf : f9_notMoved k x1 x2 x3 x4 x5 σ = some (r, σr)) : zT l g y9_notMoved b9_notMoved 7 (some .int) 3 102 [zr 103, zi x1, zi x2, zi x3, zi x4, zi x5] σ (some (zi r)) σr := by
  unfold f9_notMoved at hf
  refine zT_start (own := R9) rfl (by decide +kernel) 1 (L := [some (zr 103), some (zi x1), some (zi x2), some (zi x3), some (zi x4), some (zi x5), none]) rfl rfl (fun x hl C => ?_)
  subst hl
  refine z_iload_n C d9_notMoved_0 rfl ?_
  obtain ⟨r1, s1, h1, hf⟩ := zbx hf
  refine z_callSi C (as := [zi x1]) d9_notMoved_1 w_1186 yy9_isSheet (c9_isSheet x.2.1 g h1) rfl rfl (Nat.le_of_ble_eq_true rfl) ⟨Nat.le_of_ble_eq_true rfl, Nat.le_of_ble_eq_true rfl⟩ ⟨Nat.zero_le _, Nat.zero_le _⟩ ?_
  refine z_if_eq C d9_notMoved_4 (fun c2 => ?_) (fun c2 => ?_)
  · have hf := zit c2 hf
    refine z_ldc C (-1000000001 : Int32) d9_notMoved_14 w_915 ?_
    exact z_iret C d9_notMoved_16 hf
  · have hf := zie c2 hf
    refine z_iload_n C d9_notMoved_7 rfl ?_
    obtain ⟨r3, s3, h3, hf⟩ := zbx hf
    refine z_callSi C (as := [zi x3]) d9_notMoved_8 w_1186 yy9_isSheet (c9_isSheet x.2.1 g h3) rfl rfl (Nat.le_of_ble_eq_true rfl) ⟨Nat.le_of_ble_eq_true rfl, Nat.le_of_ble_eq_true rfl⟩ ⟨Nat.zero_le _, Nat.zero_le _⟩ ?_
    refine z_if_ne C d9_notMoved_11 (fun c4 => ?_) (fun c4 => ?_)
    · have hf := zit c4 hf
      refine z_ldc C (-1000000001 : Int32) d9_notMoved_14 w_915 ?_
      exact z_iret C d9_notMoved_16 hf
    · have hf := zie c4 hf
      refine z_aload_n C d9_notMoved_17 rfl ?_
      refine z_getR C d9_notMoved_18 fl_822 kZ_103 108 rfl (zn0 kZ_108) ?_
      refine z_iload_n C d9_notMoved_21 rfl ?_
      obtain ⟨g5, hf⟩ := zgo hf
      refine z_iald C d9_notMoved_22 kZ_108 kL_108 g5 (x1.toNatClampNeg) rfl ?_
      refine z_if_eq C d9_notMoved_23 (fun c6 => ?_) (fun c6 => ?_)
      · have hf := zit c6 hf
        refine z_ldc C (-1000000002 : Int32) d9_notMoved_35 w_1134 ?_
        exact z_iret C d9_notMoved_37 hf
      · have hf := zie c6 hf
        refine z_aload_n C d9_notMoved_26 rfl ?_
        refine z_getR C d9_notMoved_27 fl_822 kZ_103 108 rfl (zn0 kZ_108) ?_
        refine z_iload_n C d9_notMoved_30 rfl ?_
        obtain ⟨g7, hf⟩ := zgo hf
        refine z_iald C d9_notMoved_31 kZ_108 kL_108 g7 (x3.toNatClampNeg) rfl ?_
        refine z_if_ne C d9_notMoved_32 (fun c8 => ?_) (fun c8 => ?_)
        · have hf := zit c8 hf
          refine z_ldc C (-1000000002 : Int32) d9_notMoved_35 w_1134 ?_
          exact z_iret C d9_notMoved_37 hf
        · have hf := zie c8 hf
          refine z_aload_n C d9_notMoved_38 rfl ?_
          refine z_getR C d9_notMoved_39 fl_822 kZ_103 108 rfl (zn0 kZ_108) ?_
          refine z_iload_n C d9_notMoved_42 rfl ?_
          obtain ⟨g9, hf⟩ := zgo hf
          refine z_iald C d9_notMoved_43 kZ_108 kL_108 g9 (x1.toNatClampNeg) rfl ?_
          refine z_aload_n C d9_notMoved_44 rfl ?_
          refine z_getR C d9_notMoved_45 fl_822 kZ_103 108 rfl (zn0 kZ_108) ?_
          refine z_iload_n C d9_notMoved_48 rfl ?_
          obtain ⟨g10, hf⟩ := zgo hf
          refine z_iald C d9_notMoved_49 kZ_108 kL_108 g10 (x3.toNatClampNeg) rfl ?_
          refine z_icmp_eq C d9_notMoved_50 (fun c11 => ?_) (fun c11 => ?_)
          · have hf := zit c11 hf
            refine z_iload C d9_notMoved_56 rfl ?_
            refine z_if_lt C d9_notMoved_58 (fun c12 => ?_) (fun c12 => ?_)
            · have hf := zit c12 hf
              refine z_iconst C (0 : Int32) d9_notMoved_101 kI_0 ?_
              refine z_istore C d9_notMoved_102 (Nat.le_of_ble_eq_true rfl) rfl (L' := [some (zr 103), some (zi x1), some (zi x2), some (zi x3), some (zi x4), some (zi x5), some (zi (0 : Int32))]) rfl ?_
              refine z_iload C d9_notMoved_104 rfl ?_
              refine z_if_eq C d9_notMoved_106 (fun c13 => ?_) (fun c13 => ?_)
              · have hf := zit c13 hf
                refine z_ldc C (-1000000001 : Int32) d9_notMoved_113 w_915 ?_
                exact z_iret C d9_notMoved_115 hf
              · have hf := zie c13 hf
                refine z_iconst C (0 : Int32) d9_notMoved_109 kI_0 ?_
                refine z_goto C d9_notMoved_110 ?_
                exact z_iret C d9_notMoved_115 hf
            · have hf := zie c12 hf
              refine z_iload_n C d9_notMoved_61 rfl ?_
              refine z_if_lt C d9_notMoved_62 (fun c14 => ?_) (fun c14 => ?_)
              · have hf := zit c14 hf
                refine z_iconst C (0 : Int32) d9_notMoved_101 kI_0 ?_
                refine z_istore C d9_notMoved_102 (Nat.le_of_ble_eq_true rfl) rfl (L' := [some (zr 103), some (zi x1), some (zi x2), some (zi x3), some (zi x4), some (zi x5), some (zi (0 : Int32))]) rfl ?_
                refine z_iload C d9_notMoved_104 rfl ?_
                refine z_if_eq C d9_notMoved_106 (fun c15 => ?_) (fun c15 => ?_)
                · have hf := zit c15 hf
                  refine z_ldc C (-1000000001 : Int32) d9_notMoved_113 w_915 ?_
                  exact z_iret C d9_notMoved_115 hf
                · have hf := zie c15 hf
                  refine z_iconst C (0 : Int32) d9_notMoved_109 kI_0 ?_
                  refine z_goto C d9_notMoved_110 ?_
                  exact z_iret C d9_notMoved_115 hf
              · have hf := zie c14 hf
                refine z_iload C d9_notMoved_65 rfl ?_
                refine z_if_lt C d9_notMoved_67 (fun c16 => ?_) (fun c16 => ?_)
                · have hf := zit c16 hf
                  refine z_iconst C (0 : Int32) d9_notMoved_101 kI_0 ?_
                  refine z_istore C d9_notMoved_102 (Nat.le_of_ble_eq_true rfl) rfl (L' := [some (zr 103), some (zi x1), some (zi x2), some (zi x3), some (zi x4), some (zi x5), some (zi (0 : Int32))]) rfl ?_
                  refine z_iload C d9_notMoved_104 rfl ?_
                  refine z_if_eq C d9_notMoved_106 (fun c17 => ?_) (fun c17 => ?_)
                  · have hf := zit c17 hf
                    refine z_ldc C (-1000000001 : Int32) d9_notMoved_113 w_915 ?_
                    exact z_iret C d9_notMoved_115 hf
                  · have hf := zie c17 hf
                    refine z_iconst C (0 : Int32) d9_notMoved_109 kI_0 ?_
                    refine z_goto C d9_notMoved_110 ?_
                    exact z_iret C d9_notMoved_115 hf
                · have hf := zie c16 hf
                  refine z_iload C d9_notMoved_70 rfl ?_
                  refine z_aload_n C d9_notMoved_72 rfl ?_
                  refine z_getR C d9_notMoved_73 fl_823 kZ_103 109 rfl (zn0 kZ_109) ?_
                  refine z_iload_n C d9_notMoved_76 rfl ?_
                  obtain ⟨g18, hf⟩ := zgo hf
                  refine z_iald C d9_notMoved_77 kZ_109 kL_109 g18 (x1.toNatClampNeg) rfl ?_
                  refine z_iload_n C d9_notMoved_78 rfl ?_
                  refine z_isub C d9_notMoved_79 ?_
                  refine z_icmp_gt C d9_notMoved_80 (fun c19 => ?_) (fun c19 => ?_)
                  · have hf := zit c19 hf
                    refine z_iconst C (0 : Int32) d9_notMoved_101 kI_0 ?_
                    refine z_istore C d9_notMoved_102 (Nat.le_of_ble_eq_true rfl) rfl (L' := [some (zr 103), some (zi x1), some (zi x2), some (zi x3), some (zi x4), some (zi x5), some (zi (0 : Int32))]) rfl ?_
                    refine z_iload C d9_notMoved_104 rfl ?_
                    refine z_if_eq C d9_notMoved_106 (fun c20 => ?_) (fun c20 => ?_)
                    · have hf := zit c20 hf
                      refine z_ldc C (-1000000001 : Int32) d9_notMoved_113 w_915 ?_
                      exact z_iret C d9_notMoved_115 hf
                    · have hf := zie c20 hf
                      refine z_iconst C (0 : Int32) d9_notMoved_109 kI_0 ?_
                      refine z_goto C d9_notMoved_110 ?_
                      exact z_iret C d9_notMoved_115 hf
                  · have hf := zie c19 hf
                    refine z_iload C d9_notMoved_83 rfl ?_
                    refine z_aload_n C d9_notMoved_85 rfl ?_
                    refine z_getR C d9_notMoved_86 fl_823 kZ_103 109 rfl (zn0 kZ_109) ?_
                    refine z_iload_n C d9_notMoved_89 rfl ?_
                    obtain ⟨g21, hf⟩ := zgo hf
                    refine z_iald C d9_notMoved_90 kZ_109 kL_109 g21 (x3.toNatClampNeg) rfl ?_
                    refine z_iload C d9_notMoved_91 rfl ?_
                    refine z_isub C d9_notMoved_93 ?_
                    refine z_icmp_gt C d9_notMoved_94 (fun c22 => ?_) (fun c22 => ?_)
                    · have hf := zit c22 hf
                      refine z_iconst C (0 : Int32) d9_notMoved_101 kI_0 ?_
                      refine z_istore C d9_notMoved_102 (Nat.le_of_ble_eq_true rfl) rfl (L' := [some (zr 103), some (zi x1), some (zi x2), some (zi x3), some (zi x4), some (zi x5), some (zi (0 : Int32))]) rfl ?_
                      refine z_iload C d9_notMoved_104 rfl ?_
                      refine z_if_eq C d9_notMoved_106 (fun c23 => ?_) (fun c23 => ?_)
                      · have hf := zit c23 hf
                        refine z_ldc C (-1000000001 : Int32) d9_notMoved_113 w_915 ?_
                        exact z_iret C d9_notMoved_115 hf
                      · have hf := zie c23 hf
                        refine z_iconst C (0 : Int32) d9_notMoved_109 kI_0 ?_
                        refine z_goto C d9_notMoved_110 ?_
                        exact z_iret C d9_notMoved_115 hf
                    · have hf := zie c22 hf
                      refine z_iconst C (1 : Int32) d9_notMoved_97 kI_1 ?_
                      refine z_goto C d9_notMoved_98 ?_
                      refine z_istore C d9_notMoved_102 (Nat.le_of_ble_eq_true rfl) rfl (L' := [some (zr 103), some (zi x1), some (zi x2), some (zi x3), some (zi x4), some (zi x5), some (zi (1 : Int32))]) rfl ?_
                      refine z_iload C d9_notMoved_104 rfl ?_
                      refine z_if_eq C d9_notMoved_106 (fun c24 => ?_) (fun c24 => ?_)
                      · have hf := zit c24 hf
                        refine z_ldc C (-1000000001 : Int32) d9_notMoved_113 w_915 ?_
                        exact z_iret C d9_notMoved_115 hf
                      · have hf := zie c24 hf
                        refine z_iconst C (0 : Int32) d9_notMoved_109 kI_0 ?_
                        refine z_goto C d9_notMoved_110 ?_
                        exact z_iret C d9_notMoved_115 hf
          · have hf := zie c11 hf
            refine z_ldc C (-1000000005 : Int32) d9_notMoved_53 w_969 ?_
            exact z_iret C d9_notMoved_55 hf
theorem d9_move_0 : zd b9_move 0 (.aload_n 0) 1 1 := ⟨by decide +kernel, rfl⟩
theorem d9_move_1 : zd b9_move 1 (.iload_n 1) 1 2 := ⟨by decide +kernel, rfl⟩
theorem d9_move_2 : zd b9_move 2 (.iload_n 2) 1 3 := ⟨by decide +kernel, rfl⟩
theorem d9_move_3 : zd b9_move 3 (.iload_n 3) 1 4 := ⟨by decide +kernel, rfl⟩
theorem d9_move_4 : zd b9_move 4 (.iload 4) 2 6 := ⟨by decide +kernel, rfl⟩
theorem d9_move_6 : zd b9_move 6 (.iload 5) 2 8 := ⟨by decide +kernel, rfl⟩
theorem d9_move_8 : zd b9_move 8 (.invokevirtual 291) 3 11 := ⟨by decide +kernel, rfl⟩
theorem d9_move_11 : zd b9_move 11 (.istore 6) 2 13 := ⟨by decide +kernel, rfl⟩
theorem d9_move_13 : zd b9_move 13 (.iload 6) 2 15 := ⟨by decide +kernel, rfl⟩
theorem d9_move_15 : zdb b9_move 15 (.ifCond .eq 10) 10 18 25 := ⟨by decide +kernel, rfl, by decide⟩
theorem d9_move_18 : zd b9_move 18 (.aload_n 0) 1 19 := ⟨by decide +kernel, rfl⟩
theorem d9_move_19 : zd b9_move 19 (.iload 6) 2 21 := ⟨by decide +kernel, rfl⟩
theorem d9_move_21 : zd b9_move 21 (.invokevirtual 131) 3 24 := ⟨by decide +kernel, rfl⟩
theorem d9_move_24 : zd b9_move 24 .ireturn 1 25 := ⟨by decide +kernel, rfl⟩
theorem d9_move_25 : zd b9_move 25 (.iconst 0) 1 26 := ⟨by decide +kernel, rfl⟩
theorem d9_move_26 : zd b9_move 26 (.istore 7) 2 28 := ⟨by decide +kernel, rfl⟩
theorem d9_move_28 : zd b9_move 28 (.iload 7) 2 30 := ⟨by decide +kernel, rfl⟩
theorem d9_move_30 : zd b9_move 30 (.iload 5) 2 32 := ⟨by decide +kernel, rfl⟩
theorem d9_move_32 : zdb b9_move 32 (.if_icmp .ge 58) 58 35 90 := ⟨by decide +kernel, rfl, by decide⟩
theorem d9_move_35 : zd b9_move 35 (.iload_n 2) 1 36 := ⟨by decide +kernel, rfl⟩
theorem d9_move_36 : zd b9_move 36 (.iload 4) 2 38 := ⟨by decide +kernel, rfl⟩
theorem d9_move_38 : zdb b9_move 38 (.if_icmp .ge 13) 13 41 51 := ⟨by decide +kernel, rfl, by decide⟩
theorem d9_move_41 : zd b9_move 41 (.iload 5) 2 43 := ⟨by decide +kernel, rfl⟩
theorem d9_move_43 : zd b9_move 43 (.iconst 1) 1 44 := ⟨by decide +kernel, rfl⟩
theorem d9_move_44 : zd b9_move 44 .isub 1 45 := ⟨by decide +kernel, rfl⟩
theorem d9_move_45 : zd b9_move 45 (.iload 7) 2 47 := ⟨by decide +kernel, rfl⟩
theorem d9_move_47 : zd b9_move 47 .isub 1 48 := ⟨by decide +kernel, rfl⟩
theorem d9_move_48 : zdb b9_move 48 (.goto 5) 5 51 53 := ⟨by decide +kernel, rfl, by decide⟩
theorem d9_move_51 : zd b9_move 51 (.iload 7) 2 53 := ⟨by decide +kernel, rfl⟩
theorem d9_move_53 : zd b9_move 53 (.istore 8) 2 55 := ⟨by decide +kernel, rfl⟩
theorem d9_move_55 : zd b9_move 55 (.aload_n 0) 1 56 := ⟨by decide +kernel, rfl⟩
theorem d9_move_56 : zd b9_move 56 (.getfield 28) 3 59 := ⟨by decide +kernel, rfl⟩
theorem d9_move_59 : zd b9_move 59 (.bipush 24) 2 61 := ⟨by decide +kernel, rfl⟩
theorem d9_move_61 : zd b9_move 61 (.iload_n 3) 1 62 := ⟨by decide +kernel, rfl⟩
theorem d9_move_62 : zd b9_move 62 .imul 1 63 := ⟨by decide +kernel, rfl⟩
theorem d9_move_63 : zd b9_move 63 (.iload 4) 2 65 := ⟨by decide +kernel, rfl⟩
theorem d9_move_65 : zd b9_move 65 .iadd 1 66 := ⟨by decide +kernel, rfl⟩
theorem d9_move_66 : zd b9_move 66 (.iload 8) 2 68 := ⟨by decide +kernel, rfl⟩
theorem d9_move_68 : zd b9_move 68 .iadd 1 69 := ⟨by decide +kernel, rfl⟩
theorem d9_move_69 : zd b9_move 69 (.aload_n 0) 1 70 := ⟨by decide +kernel, rfl⟩
theorem d9_move_70 : zd b9_move 70 (.getfield 28) 3 73 := ⟨by decide +kernel, rfl⟩
theorem d9_move_73 : zd b9_move 73 (.bipush 24) 2 75 := ⟨by decide +kernel, rfl⟩
theorem d9_move_75 : zd b9_move 75 (.iload_n 1) 1 76 := ⟨by decide +kernel, rfl⟩
theorem d9_move_76 : zd b9_move 76 .imul 1 77 := ⟨by decide +kernel, rfl⟩
theorem d9_move_77 : zd b9_move 77 (.iload_n 2) 1 78 := ⟨by decide +kernel, rfl⟩
theorem d9_move_78 : zd b9_move 78 .iadd 1 79 := ⟨by decide +kernel, rfl⟩
theorem d9_move_79 : zd b9_move 79 (.iload 8) 2 81 := ⟨by decide +kernel, rfl⟩
theorem d9_move_81 : zd b9_move 81 .iadd 1 82 := ⟨by decide +kernel, rfl⟩
theorem d9_move_82 : zd b9_move 82 .iaload 1 83 := ⟨by decide +kernel, rfl⟩
theorem d9_move_83 : zd b9_move 83 .iastore 1 84 := ⟨by decide +kernel, rfl⟩
theorem d9_move_84 : zd b9_move 84 (.iinc 7 1) 3 87 := ⟨by decide +kernel, rfl⟩
theorem d9_move_87 : zdb b9_move 87 (.goto (-59)) (-59) 90 28 := ⟨by decide +kernel, rfl, by decide⟩
theorem d9_move_90 : zd b9_move 90 (.iload 5) 2 92 := ⟨by decide +kernel, rfl⟩
theorem d9_move_92 : zd b9_move 92 .ireturn 1 93 := ⟨by decide +kernel, rfl⟩
def b9_move_53 (k : Nat) (q28 : Int32 → Int32 → Int32 → Int32 → Int32 → Int32 → ZS → Option (Int32 × ZS)) (x1 : Int32) (x2 : Int32) (x3 : Int32) (x4 : Int32) (x5 : Int32) (x7 : Int32) (v0 : Int32) (σ : ZS) : Option (Int32 × ZS) :=
  if zin ((((24 : Int32) * x1) + x2) + v0) 96 then (
  if zin ((((24 : Int32) * x3) + x4) + v0) 96 then (
  zput (zu σ 110 (((((24 : Int32) * x3) + x4) + v0).toNatClampNeg) (σ 110 ((((24 : Int32) * x1) + x2) + v0).toNatClampNeg)) fun s3 =>
  q28 x1 x2 x3 x4 x5 (x7 + (1 : Int32)) s3) else none) else none
theorem j9_move_53 {x : ZX} {g : ZG} (C : zC x g b9_move R9 (some .int) 9 4 128) {k : Nat} {r : Int32} {σr : ZS}  {q28 : Int32 → Int32 → Int32 → Int32 → Int32 → Int32 → ZS → Option (Int32 × ZS)} (hq28 : (∀ (x1 : Int32) (x2 : Int32) (x3 : Int32) (x4 : Int32) (x5 : Int32) (x7 : Int32) (σ : ZS), q28 x1 x2 x3 x4 x5 x7 σ = some (r, σr) → zw x g 9 0 0 (zMQ x g (some (zi r)) σr) σ 28 [some (zr 103), some (zi x1), some (zi x2), some (zi x3), some (zi x4), some (zi x5), none, some (zi x7), none] [])) {x1 : Int32} {x2 : Int32} {x3 : Int32} {x4 : Int32} {x5 : Int32} {x7 : Int32} {v0 : Int32} {σ : ZS} (hf : b9_move_53 k q28 x1 x2 x3 x4 x5 x7 v0 σ = some (r, σr)) : zw x g 9 0 0 (zMQ x g (some (zi r)) σr) σ 53 [some (zr 103), some (zi x1), some (zi x2), some (zi x3), some (zi x4), some (zi x5), none, some (zi x7), none] [zi v0] := by
  unfold b9_move_53 at hf
  refine z_istore C d9_move_53 (Nat.le_of_ble_eq_true rfl) rfl (L' := [some (zr 103), some (zi x1), some (zi x2), some (zi x3), some (zi x4), some (zi x5), none, some (zi x7), some (zi v0)]) rfl ?_
  refine z_aload_n C d9_move_55 rfl ?_
  refine z_getR C d9_move_56 fl_824 kZ_103 110 rfl (zn0 kZ_110) ?_
  refine z_bipush C (24 : Int32) d9_move_59 kB_24 ?_
  refine z_iload_n C d9_move_61 rfl ?_
  refine z_imul C d9_move_62 ?_
  refine z_iload C d9_move_63 rfl ?_
  refine z_iadd C d9_move_65 ?_
  refine z_iload C d9_move_66 rfl ?_
  refine z_iadd C d9_move_68 ?_
  refine z_aload_n C d9_move_69 rfl ?_
  refine z_getR C d9_move_70 fl_824 kZ_103 110 rfl (zn0 kZ_110) ?_
  refine z_bipush C (24 : Int32) d9_move_73 kB_24 ?_
  refine z_iload_n C d9_move_75 rfl ?_
  refine z_imul C d9_move_76 ?_
  refine z_iload_n C d9_move_77 rfl ?_
  refine z_iadd C d9_move_78 ?_
  refine z_iload C d9_move_79 rfl ?_
  refine z_iadd C d9_move_81 ?_
  obtain ⟨g1, hf⟩ := zgo hf
  refine z_iald C d9_move_82 kZ_110 kL_110 g1 (((((24 : Int32) * x1) + x2) + v0).toNatClampNeg) rfl ?_
  obtain ⟨g2, hf⟩ := zgo hf
  obtain ⟨s3, e3, hf⟩ := zpx hf
  refine z_iast C d9_move_83 kZ_110 kL_110 g2 rfl e3 ?_
  refine z_iinc C d9_move_84 rfl kI_1 (Nat.le_of_ble_eq_true rfl) rfl (L' := [some (zr 103), some (zi x1), some (zi x2), some (zi x3), some (zi x4), some (zi x5), none, some (zi (x7 + (1 : Int32))), some (zi v0)]) rfl ?_
  refine z_goto C d9_move_87 ?_
  refine z_drop [true, true, true, true, true, true, false, true, false] (L' := [some (zr 103), some (zi x1), some (zi x2), some (zi x3), some (zi x4), some (zi x5), none, some (zi (x7 + (1 : Int32))), none]) rfl ?_
  exact hq28 _ _ _ _ _ _ _ hf
def b9_move_28 (k : Nat) (q28 : Int32 → Int32 → Int32 → Int32 → Int32 → Int32 → ZS → Option (Int32 × ZS)) (x1 : Int32) (x2 : Int32) (x3 : Int32) (x4 : Int32) (x5 : Int32) (x7 : Int32) (σ : ZS) : Option (Int32 × ZS) :=
  if x5 ≤ x7 then (
  some (x5, σ))
  else (
  if x4 ≤ x2 then (
  b9_move_53 k q28 x1 x2 x3 x4 x5 x7 x7 σ)
  else (
  b9_move_53 k q28 x1 x2 x3 x4 x5 x7 ((x5 - (1 : Int32)) - x7) σ))
def f9_move_28 (k : Nat) : Nat → Int32 → Int32 → Int32 → Int32 → Int32 → Int32 → ZS → Option (Int32 × ZS)
  | 0 => fun _ _ _ _ _ _ _ => none
  | n + 1 => b9_move_28 k  (f9_move_28 k  n)
theorem j9_move_28 {x : ZX} {g : ZG} (C : zC x g b9_move R9 (some .int) 9 4 128) {k : Nat} {r : Int32} {σr : ZS}  {q28 : Int32 → Int32 → Int32 → Int32 → Int32 → Int32 → ZS → Option (Int32 × ZS)} (hq28 : (∀ (x1 : Int32) (x2 : Int32) (x3 : Int32) (x4 : Int32) (x5 : Int32) (x7 : Int32) (σ : ZS), q28 x1 x2 x3 x4 x5 x7 σ = some (r, σr) → zw x g 9 0 0 (zMQ x g (some (zi r)) σr) σ 28 [some (zr 103), some (zi x1), some (zi x2), some (zi x3), some (zi x4), some (zi x5), none, some (zi x7), none] [])) {x1 : Int32} {x2 : Int32} {x3 : Int32} {x4 : Int32} {x5 : Int32} {x7 : Int32} {σ : ZS} (hf : b9_move_28 k q28 x1 x2 x3 x4 x5 x7 σ = some (r, σr)) : zw x g 9 0 0 (zMQ x g (some (zi r)) σr) σ 28 [some (zr 103), some (zi x1), some (zi x2), some (zi x3), some (zi x4), some (zi x5), none, some (zi x7), none] [] := by
  unfold b9_move_28 at hf
  refine z_iload C d9_move_28 rfl ?_
  refine z_iload C d9_move_30 rfl ?_
  refine z_icmp_ge C d9_move_32 (fun c1 => ?_) (fun c1 => ?_)
  · have hf := zit c1 hf
    refine z_iload C d9_move_90 rfl ?_
    exact z_iret C d9_move_92 hf
  · have hf := zie c1 hf
    refine z_iload_n C d9_move_35 rfl ?_
    refine z_iload C d9_move_36 rfl ?_
    refine z_icmp_ge C d9_move_38 (fun c2 => ?_) (fun c2 => ?_)
    · have hf := zit c2 hf
      refine z_iload C d9_move_51 rfl ?_
      exact j9_move_53 C hq28 hf
    · have hf := zie c2 hf
      refine z_iload C d9_move_41 rfl ?_
      refine z_iconst C (1 : Int32) d9_move_43 kI_1 ?_
      refine z_isub C d9_move_44 ?_
      refine z_iload C d9_move_45 rfl ?_
      refine z_isub C d9_move_47 ?_
      refine z_goto C d9_move_48 ?_
      exact j9_move_53 C hq28 hf
theorem j9_move_28l {x : ZX} {g : ZG} (C : zC x g b9_move R9 (some .int) 9 4 128) {k : Nat} {r : Int32} {σr : ZS}  : ∀ (n : Nat) (x1 : Int32) (x2 : Int32) (x3 : Int32) (x4 : Int32) (x5 : Int32) (x7 : Int32) (σ : ZS), f9_move_28 k  n x1 x2 x3 x4 x5 x7 σ = some (r, σr) → zw x g 9 0 0 (zMQ x g (some (zi r)) σr) σ 28 [some (zr 103), some (zi x1), some (zi x2), some (zi x3), some (zi x4), some (zi x5), none, some (zi x7), none] [] := by
  intro n
  induction n with
  | zero => intro x1 x2 x3 x4 x5 x7 σ hf; exact absurd (show none = some (r, σr) from hf) (fun z => by cases z)
  | succ n ih => intro x1 x2 x3 x4 x5 x7 σ hf; exact j9_move_28 C  ih (show b9_move_28 k  (f9_move_28 k  n) x1 x2 x3 x4 x5 x7 σ = some (r, σr) from hf)
def f9_move (k : Nat) (x1 : Int32) (x2 : Int32) (x3 : Int32) (x4 : Int32) (x5 : Int32) (σ : ZS) : Option (Int32 × ZS) :=
  zbd (f9_notMoved k x1 x2 x3 x4 x5 σ) fun r1 s1 =>
  if r1 = 0 then (
  f9_move_28 k  k x1 x2 x3 x4 x5 (0 : Int32) s1)
  else (
  zbd (f9_error k r1 s1) fun r3 s3 =>
  some (r3, s3))
theorem c9_move (l : Launch) (g : ZG) {k : Nat} {x1 : Int32} {x2 : Int32} {x3 : Int32} {x4 : Int32} {x5 : Int32} {σ : ZS} {r : Int32} {σr : ZS} (hf : f9_move k x1 x2 x3 x4 x5 σ = some (r, σr)) : zT l g y9_move b9_move 9 (some .int) 4 128 [zr 103, zi x1, zi x2, zi x3, zi x4, zi x5] σ (some (zi r)) σr := by
  unfold f9_move at hf
  refine zT_start (own := R9) rfl (by decide +kernel) 3 (L := [some (zr 103), some (zi x1), some (zi x2), some (zi x3), some (zi x4), some (zi x5), none, none, none]) rfl rfl (fun x hl C => ?_)
  subst hl
  refine z_aload_n C d9_move_0 rfl ?_
  refine z_iload_n C d9_move_1 rfl ?_
  refine z_iload_n C d9_move_2 rfl ?_
  refine z_iload_n C d9_move_3 rfl ?_
  refine z_iload C d9_move_4 rfl ?_
  refine z_iload C d9_move_6 rfl ?_
  obtain ⟨r1, s1, h1, hf⟩ := zbx hf
  refine z_callVi C (as := [zi x1, zi x2, zi x3, zi x4, zi x5]) d9_move_8 w_1262 yy9_notMoved (c9_notMoved x.2.1 g h1) yc9_notMoved kZ_103 rfl rfl (Nat.le_of_ble_eq_true rfl) ⟨Nat.le_of_ble_eq_true rfl, Nat.le_of_ble_eq_true rfl⟩ ⟨Nat.zero_le _, Nat.zero_le _⟩ ?_
  refine z_istore C d9_move_11 (Nat.le_of_ble_eq_true rfl) rfl (L' := [some (zr 103), some (zi x1), some (zi x2), some (zi x3), some (zi x4), some (zi x5), some (zi r1), none, none]) rfl ?_
  refine z_iload C d9_move_13 rfl ?_
  refine z_if_eq C d9_move_15 (fun c2 => ?_) (fun c2 => ?_)
  · have hf := zit c2 hf
    refine z_iconst C (0 : Int32) d9_move_25 kI_0 ?_
    refine z_istore C d9_move_26 (Nat.le_of_ble_eq_true rfl) rfl (L' := [some (zr 103), some (zi x1), some (zi x2), some (zi x3), some (zi x4), some (zi x5), some (zi r1), some (zi (0 : Int32)), none]) rfl ?_
    refine z_drop [true, true, true, true, true, true, false, true, false] (L' := [some (zr 103), some (zi x1), some (zi x2), some (zi x3), some (zi x4), some (zi x5), none, some (zi (0 : Int32)), none]) rfl ?_
    exact j9_move_28l C  _ _ _ _ _ _ _ _ hf
  · have hf := zie c2 hf
    refine z_aload_n C d9_move_18 rfl ?_
    refine z_iload C d9_move_19 rfl ?_
    obtain ⟨r3, s3, h3, hf⟩ := zbx hf
    refine z_callVi C (as := [zi r1]) d9_move_21 w_916 yy9_error (c9_error x.2.1 g h3) yc9_error kZ_103 rfl rfl (Nat.le_of_ble_eq_true rfl) ⟨Nat.le_of_ble_eq_true rfl, Nat.le_of_ble_eq_true rfl⟩ ⟨Nat.zero_le _, Nat.zero_le _⟩ ?_
    exact z_iret C d9_move_24 hf
theorem d9_odds_0 : zd b9_odds 0 (.iload_n 1) 1 1 := ⟨by decide +kernel, rfl⟩
theorem d9_odds_1 : zd b9_odds 1 (.iconst 0) 1 2 := ⟨by decide +kernel, rfl⟩
theorem d9_odds_2 : zd b9_odds 2 (.iconst 1) 1 3 := ⟨by decide +kernel, rfl⟩
theorem d9_odds_3 : zd b9_odds 3 (.invokestatic 56) 3 6 := ⟨by decide +kernel, rfl⟩
theorem d9_odds_6 : zdb b9_odds 6 (.ifCond .ne 10) 10 9 16 := ⟨by decide +kernel, rfl, by decide⟩
theorem d9_odds_9 : zd b9_odds 9 (.aload_n 0) 1 10 := ⟨by decide +kernel, rfl⟩
theorem d9_odds_10 : zd b9_odds 10 (.ldc 130) 2 12 := ⟨by decide +kernel, rfl⟩
theorem d9_odds_12 : zd b9_odds 12 (.invokevirtual 131) 3 15 := ⟨by decide +kernel, rfl⟩
theorem d9_odds_15 : zd b9_odds 15 .ireturn 1 16 := ⟨by decide +kernel, rfl⟩
theorem d9_odds_16 : zd b9_odds 16 (.iconst 0) 1 17 := ⟨by decide +kernel, rfl⟩
theorem d9_odds_17 : zd b9_odds 17 (.istore_n 2) 1 18 := ⟨by decide +kernel, rfl⟩
theorem d9_odds_18 : zd b9_odds 18 (.iconst 0) 1 19 := ⟨by decide +kernel, rfl⟩
theorem d9_odds_19 : zd b9_odds 19 (.istore_n 3) 1 20 := ⟨by decide +kernel, rfl⟩
theorem d9_odds_20 : zd b9_odds 20 (.iload_n 3) 1 21 := ⟨by decide +kernel, rfl⟩
theorem d9_odds_21 : zd b9_odds 21 (.sipush 256) 3 24 := ⟨by decide +kernel, rfl⟩
theorem d9_odds_24 : zdb b9_odds 24 (.if_icmp .ge 34) 34 27 58 := ⟨by decide +kernel, rfl, by decide⟩
theorem d9_odds_27 : zd b9_odds 27 (.aload_n 0) 1 28 := ⟨by decide +kernel, rfl⟩
theorem d9_odds_28 : zd b9_odds 28 (.iload_n 3) 1 29 := ⟨by decide +kernel, rfl⟩
theorem d9_odds_29 : zd b9_odds 29 (.iconst 4) 1 30 := ⟨by decide +kernel, rfl⟩
theorem d9_odds_30 : zd b9_odds 30 .idiv 1 31 := ⟨by decide +kernel, rfl⟩
theorem d9_odds_31 : zd b9_odds 31 (.iload_n 3) 1 32 := ⟨by decide +kernel, rfl⟩
theorem d9_odds_32 : zd b9_odds 32 (.iconst 4) 1 33 := ⟨by decide +kernel, rfl⟩
theorem d9_odds_33 : zd b9_odds 33 .irem 1 34 := ⟨by decide +kernel, rfl⟩
theorem d9_odds_34 : zd b9_odds 34 (.invokevirtual 112) 3 37 := ⟨by decide +kernel, rfl⟩
theorem d9_odds_37 : zd b9_odds 37 (.iload_n 2) 1 38 := ⟨by decide +kernel, rfl⟩
theorem d9_odds_38 : zd b9_odds 38 (.aload_n 0) 1 39 := ⟨by decide +kernel, rfl⟩
theorem d9_odds_39 : zd b9_odds 39 (.getfield 105) 3 42 := ⟨by decide +kernel, rfl⟩
theorem d9_odds_42 : zdb b9_odds 42 (.ifCond .eq 7) 7 45 49 := ⟨by decide +kernel, rfl, by decide⟩
theorem d9_odds_45 : zd b9_odds 45 (.iconst 1) 1 46 := ⟨by decide +kernel, rfl⟩
theorem d9_odds_46 : zdb b9_odds 46 (.goto 4) 4 49 50 := ⟨by decide +kernel, rfl, by decide⟩
theorem d9_odds_49 : zd b9_odds 49 (.iconst 0) 1 50 := ⟨by decide +kernel, rfl⟩
theorem d9_odds_50 : zd b9_odds 50 .iadd 1 51 := ⟨by decide +kernel, rfl⟩
theorem d9_odds_51 : zd b9_odds 51 (.istore_n 2) 1 52 := ⟨by decide +kernel, rfl⟩
theorem d9_odds_52 : zd b9_odds 52 (.iinc 3 1) 3 55 := ⟨by decide +kernel, rfl⟩
theorem d9_odds_55 : zdb b9_odds 55 (.goto (-35)) (-35) 58 20 := ⟨by decide +kernel, rfl, by decide⟩
theorem d9_odds_58 : zd b9_odds 58 (.sipush 256) 3 61 := ⟨by decide +kernel, rfl⟩
theorem d9_odds_61 : zd b9_odds 61 (.istore_n 3) 1 62 := ⟨by decide +kernel, rfl⟩
theorem d9_odds_62 : zd b9_odds 62 (.iload_n 2) 1 63 := ⟨by decide +kernel, rfl⟩
theorem d9_odds_63 : zd b9_odds 63 (.iconst 2) 1 64 := ⟨by decide +kernel, rfl⟩
theorem d9_odds_64 : zd b9_odds 64 .irem 1 65 := ⟨by decide +kernel, rfl⟩
theorem d9_odds_65 : zdb b9_odds 65 (.ifCond .ne 19) 19 68 84 := ⟨by decide +kernel, rfl, by decide⟩
theorem d9_odds_68 : zd b9_odds 68 (.iload_n 3) 1 69 := ⟨by decide +kernel, rfl⟩
theorem d9_odds_69 : zd b9_odds 69 (.iconst 1) 1 70 := ⟨by decide +kernel, rfl⟩
theorem d9_odds_70 : zdb b9_odds 70 (.if_icmp .le 14) 14 73 84 := ⟨by decide +kernel, rfl, by decide⟩
theorem d9_odds_73 : zd b9_odds 73 (.iload_n 2) 1 74 := ⟨by decide +kernel, rfl⟩
theorem d9_odds_74 : zd b9_odds 74 (.iconst 2) 1 75 := ⟨by decide +kernel, rfl⟩
theorem d9_odds_75 : zd b9_odds 75 .idiv 1 76 := ⟨by decide +kernel, rfl⟩
theorem d9_odds_76 : zd b9_odds 76 (.istore_n 2) 1 77 := ⟨by decide +kernel, rfl⟩
theorem d9_odds_77 : zd b9_odds 77 (.iload_n 3) 1 78 := ⟨by decide +kernel, rfl⟩
theorem d9_odds_78 : zd b9_odds 78 (.iconst 2) 1 79 := ⟨by decide +kernel, rfl⟩
theorem d9_odds_79 : zd b9_odds 79 .idiv 1 80 := ⟨by decide +kernel, rfl⟩
theorem d9_odds_80 : zd b9_odds 80 (.istore_n 3) 1 81 := ⟨by decide +kernel, rfl⟩
theorem d9_odds_81 : zdb b9_odds 81 (.goto (-19)) (-19) 84 62 := ⟨by decide +kernel, rfl, by decide⟩
theorem d9_odds_84 : zd b9_odds 84 (.iload_n 1) 1 85 := ⟨by decide +kernel, rfl⟩
theorem d9_odds_85 : zdb b9_odds 85 (.ifCond .ne 7) 7 88 92 := ⟨by decide +kernel, rfl, by decide⟩
theorem d9_odds_88 : zd b9_odds 88 (.iload_n 2) 1 89 := ⟨by decide +kernel, rfl⟩
theorem d9_odds_89 : zdb b9_odds 89 (.goto 4) 4 92 93 := ⟨by decide +kernel, rfl, by decide⟩
theorem d9_odds_92 : zd b9_odds 92 (.iload_n 3) 1 93 := ⟨by decide +kernel, rfl⟩
theorem d9_odds_93 : zd b9_odds 93 .ireturn 1 94 := ⟨by decide +kernel, rfl⟩
def b9_odds_62 (k : Nat) (q62 : Int32 → Int32 → Int32 → ZS → Option (Int32 × ZS)) (x1 : Int32) (x2 : Int32) (x3 : Int32) (σ : ZS) : Option (Int32 × ZS) :=
  if (x2 % (2 : Int32)) = 0 then (
  if x3 ≤ (1 : Int32) then (
  if x1 = 0 then (
  some (x2, σ))
  else (
  some (x3, σ)))
  else (
  q62 x1 (x2 / (2 : Int32)) (x3 / (2 : Int32)) σ))
  else (
  if x1 = 0 then (
  some (x2, σ))
  else (
  some (x3, σ)))
def f9_odds_62 (k : Nat) : Nat → Int32 → Int32 → Int32 → ZS → Option (Int32 × ZS)
  | 0 => fun _ _ _ _ => none
  | n + 1 => b9_odds_62 k  (f9_odds_62 k  n)
theorem j9_odds_62 {x : ZX} {g : ZG} (C : zC x g b9_odds R9 (some .int) 4 6 180) {k : Nat} {r : Int32} {σr : ZS}  {q62 : Int32 → Int32 → Int32 → ZS → Option (Int32 × ZS)} (hq62 : (∀ (x1 : Int32) (x2 : Int32) (x3 : Int32) (σ : ZS), q62 x1 x2 x3 σ = some (r, σr) → zw x g 4 0 0 (zMQ x g (some (zi r)) σr) σ 62 [none, some (zi x1), some (zi x2), some (zi x3)] [])) {x1 : Int32} {x2 : Int32} {x3 : Int32} {σ : ZS} (hf : b9_odds_62 k q62 x1 x2 x3 σ = some (r, σr)) : zw x g 4 0 0 (zMQ x g (some (zi r)) σr) σ 62 [none, some (zi x1), some (zi x2), some (zi x3)] [] := by
  unfold b9_odds_62 at hf
  refine z_iload_n C d9_odds_62 rfl ?_
  refine z_iconst C (2 : Int32) d9_odds_63 kI_2 ?_
  refine z_irem C d9_odds_64 (by decide) ?_
  refine z_if_ne C d9_odds_65 (fun c1 => ?_) (fun c1 => ?_)
  · have hf := zit c1 hf
    refine z_iload_n C d9_odds_68 rfl ?_
    refine z_iconst C (1 : Int32) d9_odds_69 kI_1 ?_
    refine z_icmp_le C d9_odds_70 (fun c2 => ?_) (fun c2 => ?_)
    · have hf := zit c2 hf
      refine z_iload_n C d9_odds_84 rfl ?_
      refine z_if_ne C d9_odds_85 (fun c3 => ?_) (fun c3 => ?_)
      · have hf := zit c3 hf
        refine z_iload_n C d9_odds_88 rfl ?_
        refine z_goto C d9_odds_89 ?_
        exact z_iret C d9_odds_93 hf
      · have hf := zie c3 hf
        refine z_iload_n C d9_odds_92 rfl ?_
        exact z_iret C d9_odds_93 hf
    · have hf := zie c2 hf
      refine z_iload_n C d9_odds_73 rfl ?_
      refine z_iconst C (2 : Int32) d9_odds_74 kI_2 ?_
      refine z_idiv C d9_odds_75 (by decide) ?_
      refine z_istore_n C d9_odds_76 (Nat.le_of_ble_eq_true rfl) rfl (L' := [none, some (zi x1), some (zi (x2 / (2 : Int32))), some (zi x3)]) rfl ?_
      refine z_iload_n C d9_odds_77 rfl ?_
      refine z_iconst C (2 : Int32) d9_odds_78 kI_2 ?_
      refine z_idiv C d9_odds_79 (by decide) ?_
      refine z_istore_n C d9_odds_80 (Nat.le_of_ble_eq_true rfl) rfl (L' := [none, some (zi x1), some (zi (x2 / (2 : Int32))), some (zi (x3 / (2 : Int32)))]) rfl ?_
      refine z_goto C d9_odds_81 ?_
      exact hq62 _ _ _ _ hf
  · have hf := zie c1 hf
    refine z_iload_n C d9_odds_84 rfl ?_
    refine z_if_ne C d9_odds_85 (fun c4 => ?_) (fun c4 => ?_)
    · have hf := zit c4 hf
      refine z_iload_n C d9_odds_88 rfl ?_
      refine z_goto C d9_odds_89 ?_
      exact z_iret C d9_odds_93 hf
    · have hf := zie c4 hf
      refine z_iload_n C d9_odds_92 rfl ?_
      exact z_iret C d9_odds_93 hf
theorem j9_odds_62l {x : ZX} {g : ZG} (C : zC x g b9_odds R9 (some .int) 4 6 180) {k : Nat} {r : Int32} {σr : ZS}  : ∀ (n : Nat) (x1 : Int32) (x2 : Int32) (x3 : Int32) (σ : ZS), f9_odds_62 k  n x1 x2 x3 σ = some (r, σr) → zw x g 4 0 0 (zMQ x g (some (zi r)) σr) σ 62 [none, some (zi x1), some (zi x2), some (zi x3)] [] := by
  intro n
  induction n with
  | zero => intro x1 x2 x3 σ hf; exact absurd (show none = some (r, σr) from hf) (fun z => by cases z)
  | succ n ih => intro x1 x2 x3 σ hf; exact j9_odds_62 C  ih (show b9_odds_62 k  (f9_odds_62 k  n) x1 x2 x3 σ = some (r, σr) from hf)
def b9_odds_20 (k : Nat) (q20 : Int32 → Int32 → Int32 → ZS → Option (Int32 × ZS)) (x1 : Int32) (x2 : Int32) (x3 : Int32) (σ : ZS) : Option (Int32 × ZS) :=
  if (256 : Int32) ≤ x3 then (
  f9_odds_62 k  k x1 x2 (256 : Int32) σ)
  else (
  zbd (f9_looks k (x3 / (4 : Int32)) (x3 % (4 : Int32)) σ) fun _ s2 =>
  if (s2 103 13) = 0 then (
  q20 x1 (x2 + (0 : Int32)) (x3 + (1 : Int32)) s2)
  else (
  q20 x1 (x2 + (1 : Int32)) (x3 + (1 : Int32)) s2))
def f9_odds_20 (k : Nat) : Nat → Int32 → Int32 → Int32 → ZS → Option (Int32 × ZS)
  | 0 => fun _ _ _ _ => none
  | n + 1 => b9_odds_20 k  (f9_odds_20 k  n)
theorem j9_odds_20 {x : ZX} {g : ZG} (C : zC x g b9_odds R9 (some .int) 4 6 180) {k : Nat} {r : Int32} {σr : ZS}  {q20 : Int32 → Int32 → Int32 → ZS → Option (Int32 × ZS)} (hq20 : (∀ (x1 : Int32) (x2 : Int32) (x3 : Int32) (σ : ZS), q20 x1 x2 x3 σ = some (r, σr) → zw x g 4 0 0 (zMQ x g (some (zi r)) σr) σ 20 [some (zr 103), some (zi x1), some (zi x2), some (zi x3)] [])) {x1 : Int32} {x2 : Int32} {x3 : Int32} {σ : ZS} (hf : b9_odds_20 k q20 x1 x2 x3 σ = some (r, σr)) : zw x g 4 0 0 (zMQ x g (some (zi r)) σr) σ 20 [some (zr 103), some (zi x1), some (zi x2), some (zi x3)] [] := by
  unfold b9_odds_20 at hf
  refine z_iload_n C d9_odds_20 rfl ?_
  refine z_sipush C (256 : Int32) d9_odds_21 kS_256 ?_
  refine z_icmp_ge C d9_odds_24 (fun c1 => ?_) (fun c1 => ?_)
  · have hf := zit c1 hf
    refine z_sipush C (256 : Int32) d9_odds_58 kS_256 ?_
    refine z_istore_n C d9_odds_61 (Nat.le_of_ble_eq_true rfl) rfl (L' := [some (zr 103), some (zi x1), some (zi x2), some (zi (256 : Int32))]) rfl ?_
    refine z_drop [false, true, true, true] (L' := [none, some (zi x1), some (zi x2), some (zi (256 : Int32))]) rfl ?_
    exact j9_odds_62l C  _ _ _ _ _ hf
  · have hf := zie c1 hf
    refine z_aload_n C d9_odds_27 rfl ?_
    refine z_iload_n C d9_odds_28 rfl ?_
    refine z_iconst C (4 : Int32) d9_odds_29 kI_4 ?_
    refine z_idiv C d9_odds_30 (by decide) ?_
    refine z_iload_n C d9_odds_31 rfl ?_
    refine z_iconst C (4 : Int32) d9_odds_32 kI_4 ?_
    refine z_irem C d9_odds_33 (by decide) ?_
    obtain ⟨r2, s2, h2, hf⟩ := zbx hf
    refine z_callVv C (as := [zi (x3 / (4 : Int32)), zi (x3 % (4 : Int32))]) d9_odds_34 w_1002 yy9_looks (c9_looks x.2.1 g h2) yc9_looks kZ_103 rfl rfl (Nat.le_of_ble_eq_true rfl) ⟨Nat.le_of_ble_eq_true rfl, Nat.le_of_ble_eq_true rfl⟩ ⟨Nat.zero_le _, Nat.zero_le _⟩ ?_
    refine z_iload_n C d9_odds_37 rfl ?_
    refine z_aload_n C d9_odds_38 rfl ?_
    refine z_getI C d9_odds_39 fl_830 kZ_103 ?_
    refine z_if_eq C d9_odds_42 (fun c3 => ?_) (fun c3 => ?_)
    · have hf := zit c3 hf
      refine z_iconst C (0 : Int32) d9_odds_49 kI_0 ?_
      refine z_iadd C d9_odds_50 ?_
      refine z_istore_n C d9_odds_51 (Nat.le_of_ble_eq_true rfl) rfl (L' := [some (zr 103), some (zi x1), some (zi (x2 + (0 : Int32))), some (zi x3)]) rfl ?_
      refine z_iinc C d9_odds_52 rfl kI_1 (Nat.le_of_ble_eq_true rfl) rfl (L' := [some (zr 103), some (zi x1), some (zi (x2 + (0 : Int32))), some (zi (x3 + (1 : Int32)))]) rfl ?_
      refine z_goto C d9_odds_55 ?_
      exact hq20 _ _ _ _ hf
    · have hf := zie c3 hf
      refine z_iconst C (1 : Int32) d9_odds_45 kI_1 ?_
      refine z_goto C d9_odds_46 ?_
      refine z_iadd C d9_odds_50 ?_
      refine z_istore_n C d9_odds_51 (Nat.le_of_ble_eq_true rfl) rfl (L' := [some (zr 103), some (zi x1), some (zi (x2 + (1 : Int32))), some (zi x3)]) rfl ?_
      refine z_iinc C d9_odds_52 rfl kI_1 (Nat.le_of_ble_eq_true rfl) rfl (L' := [some (zr 103), some (zi x1), some (zi (x2 + (1 : Int32))), some (zi (x3 + (1 : Int32)))]) rfl ?_
      refine z_goto C d9_odds_55 ?_
      exact hq20 _ _ _ _ hf
theorem j9_odds_20l {x : ZX} {g : ZG} (C : zC x g b9_odds R9 (some .int) 4 6 180) {k : Nat} {r : Int32} {σr : ZS}  : ∀ (n : Nat) (x1 : Int32) (x2 : Int32) (x3 : Int32) (σ : ZS), f9_odds_20 k  n x1 x2 x3 σ = some (r, σr) → zw x g 4 0 0 (zMQ x g (some (zi r)) σr) σ 20 [some (zr 103), some (zi x1), some (zi x2), some (zi x3)] [] := by
  intro n
  induction n with
  | zero => intro x1 x2 x3 σ hf; exact absurd (show none = some (r, σr) from hf) (fun z => by cases z)
  | succ n ih => intro x1 x2 x3 σ hf; exact j9_odds_20 C  ih (show b9_odds_20 k  (f9_odds_20 k  n) x1 x2 x3 σ = some (r, σr) from hf)
def f9_odds (k : Nat) (x1 : Int32) (σ : ZS) : Option (Int32 × ZS) :=
  zbd (f9_in k x1 (0 : Int32) (1 : Int32) σ) fun r1 s1 =>
  if r1 = 0 then (
  zbd (f9_error k (-1000000001 : Int32) s1) fun r3 s3 =>
  some (r3, s3))
  else (
  f9_odds_20 k  k x1 (0 : Int32) (0 : Int32) s1)
theorem c9_odds (l : Launch) (g : ZG) {k : Nat} {x1 : Int32} {σ : ZS} {r : Int32} {σr : ZS} (hf : f9_odds k x1 σ = some (r, σr)) : zT l g y9_odds b9_odds 4 (some .int) 6 180 [zr 103, zi x1] σ (some (zi r)) σr := by
  unfold f9_odds at hf
  refine zT_start (own := R9) rfl (by decide +kernel) 2 (L := [some (zr 103), some (zi x1), none, none]) rfl rfl (fun x hl C => ?_)
  subst hl
  refine z_iload_n C d9_odds_0 rfl ?_
  refine z_iconst C (0 : Int32) d9_odds_1 kI_0 ?_
  refine z_iconst C (1 : Int32) d9_odds_2 kI_1 ?_
  obtain ⟨r1, s1, h1, hf⟩ := zbx hf
  refine z_callSi C (as := [zi x1, zi (0 : Int32), zi (1 : Int32)]) d9_odds_3 w_906 yy9_in (c9_in x.2.1 g h1) rfl rfl (Nat.le_of_ble_eq_true rfl) ⟨Nat.le_of_ble_eq_true rfl, Nat.le_of_ble_eq_true rfl⟩ ⟨Nat.zero_le _, Nat.zero_le _⟩ ?_
  refine z_if_ne C d9_odds_6 (fun c2 => ?_) (fun c2 => ?_)
  · have hf := zit c2 hf
    refine z_aload_n C d9_odds_9 rfl ?_
    refine z_ldc C (-1000000001 : Int32) d9_odds_10 w_915 ?_
    obtain ⟨r3, s3, h3, hf⟩ := zbx hf
    refine z_callVi C (as := [zi (-1000000001 : Int32)]) d9_odds_12 w_916 yy9_error (c9_error x.2.1 g h3) yc9_error kZ_103 rfl rfl (Nat.le_of_ble_eq_true rfl) ⟨Nat.le_of_ble_eq_true rfl, Nat.le_of_ble_eq_true rfl⟩ ⟨Nat.zero_le _, Nat.zero_le _⟩ ?_
    exact z_iret C d9_odds_15 hf
  · have hf := zie c2 hf
    refine z_iconst C (0 : Int32) d9_odds_16 kI_0 ?_
    refine z_istore_n C d9_odds_17 (Nat.le_of_ble_eq_true rfl) rfl (L' := [some (zr 103), some (zi x1), some (zi (0 : Int32)), none]) rfl ?_
    refine z_iconst C (0 : Int32) d9_odds_18 kI_0 ?_
    refine z_istore_n C d9_odds_19 (Nat.le_of_ble_eq_true rfl) rfl (L' := [some (zr 103), some (zi x1), some (zi (0 : Int32)), some (zi (0 : Int32))]) rfl ?_
    exact j9_odds_20l C  _ _ _ _ _ hf
theorem d9_plainParts_0 : zd b9_plainParts 0 (.aload_n 0) 1 1 := ⟨by decide +kernel, rfl⟩
theorem d9_plainParts_1 : zd b9_plainParts 1 (.bipush 13) 2 3 := ⟨by decide +kernel, rfl⟩
theorem d9_plainParts_3 : zd b9_plainParts 3 (.invokevirtual 251) 3 6 := ⟨by decide +kernel, rfl⟩
theorem d9_plainParts_6 : zd b9_plainParts 6 (.aload_n 0) 1 7 := ⟨by decide +kernel, rfl⟩
theorem d9_plainParts_7 : zd b9_plainParts 7 (.iload_n 1) 1 8 := ⟨by decide +kernel, rfl⟩
theorem d9_plainParts_8 : zd b9_plainParts 8 (.iconst 1) 1 9 := ⟨by decide +kernel, rfl⟩
theorem d9_plainParts_9 : zd b9_plainParts 9 (.invokevirtual 60) 3 12 := ⟨by decide +kernel, rfl⟩
theorem d9_plainParts_12 : zd b9_plainParts 12 (.iload_n 1) 1 13 := ⟨by decide +kernel, rfl⟩
theorem d9_plainParts_13 : zd b9_plainParts 13 .isub 1 14 := ⟨by decide +kernel, rfl⟩
theorem d9_plainParts_14 : zd b9_plainParts 14 (.istore_n 3) 1 15 := ⟨by decide +kernel, rfl⟩
theorem d9_plainParts_15 : zd b9_plainParts 15 (.aload_n 0) 1 16 := ⟨by decide +kernel, rfl⟩
theorem d9_plainParts_16 : zd b9_plainParts 16 (.iload_n 3) 1 17 := ⟨by decide +kernel, rfl⟩
theorem d9_plainParts_17 : zdb b9_plainParts 17 (.ifCond .ne 7) 7 20 24 := ⟨by decide +kernel, rfl, by decide⟩
theorem d9_plainParts_20 : zd b9_plainParts 20 (.iconst 1) 1 21 := ⟨by decide +kernel, rfl⟩
theorem d9_plainParts_21 : zdb b9_plainParts 21 (.goto 4) 4 24 25 := ⟨by decide +kernel, rfl, by decide⟩
theorem d9_plainParts_24 : zd b9_plainParts 24 (.iconst 0) 1 25 := ⟨by decide +kernel, rfl⟩
theorem d9_plainParts_25 : zd b9_plainParts 25 (.putfield 275) 3 28 := ⟨by decide +kernel, rfl⟩
theorem d9_plainParts_28 : zd b9_plainParts 28 (.aload_n 0) 1 29 := ⟨by decide +kernel, rfl⟩
theorem d9_plainParts_29 : zd b9_plainParts 29 (.getfield 275) 3 32 := ⟨by decide +kernel, rfl⟩
theorem d9_plainParts_32 : zdb b9_plainParts 32 (.ifCond .eq 7) 7 35 39 := ⟨by decide +kernel, rfl, by decide⟩
theorem d9_plainParts_35 : zd b9_plainParts 35 (.iconst 0) 1 36 := ⟨by decide +kernel, rfl⟩
theorem d9_plainParts_36 : zdb b9_plainParts 36 (.goto 6) 6 39 42 := ⟨by decide +kernel, rfl, by decide⟩
theorem d9_plainParts_39 : zd b9_plainParts 39 (.iload_n 2) 1 40 := ⟨by decide +kernel, rfl⟩
theorem d9_plainParts_40 : zd b9_plainParts 40 (.iload_n 3) 1 41 := ⟨by decide +kernel, rfl⟩
theorem d9_plainParts_41 : zd b9_plainParts 41 .idiv 1 42 := ⟨by decide +kernel, rfl⟩
theorem d9_plainParts_42 : zd b9_plainParts 42 .ireturn 1 43 := ⟨by decide +kernel, rfl⟩
def f9_plainParts (k : Nat) (x1 : Int32) (x2 : Int32) (σ : ZS) : Option (Int32 × ZS) :=
  zbd (f9_begins k (13 : Int32) σ) fun _ s1 =>
  zbd (f9_of k x1 (1 : Int32) s1) fun r2 s2 =>
  if (r2 - x1) = 0 then (
  zput (zu s2 103 26 (1 : Int32)) fun s4 =>
  if (s4 103 26) = 0 then (
  if ¬ (r2 - x1) = 0 then (
  some ((x2 / (r2 - x1)), s4)) else none)
  else (
  some ((0 : Int32), s4)))
  else (
  zput (zu s2 103 26 (0 : Int32)) fun s7 =>
  if (s7 103 26) = 0 then (
  if ¬ (r2 - x1) = 0 then (
  some ((x2 / (r2 - x1)), s7)) else none)
  else (
  some ((0 : Int32), s7)))
theorem c9_plainParts (l : Launch) (g : ZG) {k : Nat} {x1 : Int32} {x2 : Int32} {σ : ZS} {r : Int32} {σr : ZS} (hf : f9_plainParts k x1 x2 σ = some (r, σr)) : zT l g y9_plainParts b9_plainParts 4 (some .int) 2 82 [zr 103, zi x1, zi x2] σ (some (zi r)) σr := by
  unfold f9_plainParts at hf
  refine zT_start (own := R9) rfl (by decide +kernel) 1 (L := [some (zr 103), some (zi x1), some (zi x2), none]) rfl rfl (fun x hl C => ?_)
  subst hl
  refine z_aload_n C d9_plainParts_0 rfl ?_
  refine z_bipush C (13 : Int32) d9_plainParts_1 kB_13 ?_
  obtain ⟨r1, s1, h1, hf⟩ := zbx hf
  refine z_callVv C (as := [zi (13 : Int32)]) d9_plainParts_3 w_1205 yy9_begins (c9_begins x.2.1 g h1) yc9_begins kZ_103 rfl rfl (Nat.le_of_ble_eq_true rfl) ⟨Nat.le_of_ble_eq_true rfl, Nat.le_of_ble_eq_true rfl⟩ ⟨Nat.zero_le _, Nat.zero_le _⟩ ?_
  refine z_aload_n C d9_plainParts_6 rfl ?_
  refine z_iload_n C d9_plainParts_7 rfl ?_
  refine z_iconst C (1 : Int32) d9_plainParts_8 kI_1 ?_
  obtain ⟨r2, s2, h2, hf⟩ := zbx hf
  refine z_callVi C (as := [zi x1, zi (1 : Int32)]) d9_plainParts_9 w_926 yy9_of (c9_of x.2.1 g h2) yc9_of kZ_103 rfl rfl (Nat.le_of_ble_eq_true rfl) ⟨Nat.le_of_ble_eq_true rfl, Nat.le_of_ble_eq_true rfl⟩ ⟨Nat.zero_le _, Nat.zero_le _⟩ ?_
  refine z_iload_n C d9_plainParts_12 rfl ?_
  refine z_isub C d9_plainParts_13 ?_
  refine z_istore_n C d9_plainParts_14 (Nat.le_of_ble_eq_true rfl) rfl (L' := [some (zr 103), some (zi x1), some (zi x2), some (zi (r2 - x1))]) rfl ?_
  refine z_aload_n C d9_plainParts_15 rfl ?_
  refine z_iload_n C d9_plainParts_16 rfl ?_
  refine z_if_ne C d9_plainParts_17 (fun c3 => ?_) (fun c3 => ?_)
  · have hf := zit c3 hf
    refine z_iconst C (1 : Int32) d9_plainParts_20 kI_1 ?_
    refine z_goto C d9_plainParts_21 ?_
    obtain ⟨s4, e4, hf⟩ := zpx hf
    refine z_putZ C d9_plainParts_25 fl_843 ft_9_26 kZ_103 (Or.inr rfl) e4 ?_
    refine z_aload_n C d9_plainParts_28 rfl ?_
    refine z_getI C d9_plainParts_29 fl_843 kZ_103 ?_
    refine z_if_eq C d9_plainParts_32 (fun c5 => ?_) (fun c5 => ?_)
    · have hf := zit c5 hf
      refine z_iload_n C d9_plainParts_39 rfl ?_
      refine z_iload_n C d9_plainParts_40 rfl ?_
      obtain ⟨g6, hf⟩ := zgo hf
      refine z_idiv C d9_plainParts_41 g6 ?_
      exact z_iret C d9_plainParts_42 hf
    · have hf := zie c5 hf
      refine z_iconst C (0 : Int32) d9_plainParts_35 kI_0 ?_
      refine z_goto C d9_plainParts_36 ?_
      exact z_iret C d9_plainParts_42 hf
  · have hf := zie c3 hf
    refine z_iconst C (0 : Int32) d9_plainParts_24 kI_0 ?_
    obtain ⟨s7, e7, hf⟩ := zpx hf
    refine z_putZ C d9_plainParts_25 fl_843 ft_9_26 kZ_103 (Or.inl rfl) e7 ?_
    refine z_aload_n C d9_plainParts_28 rfl ?_
    refine z_getI C d9_plainParts_29 fl_843 kZ_103 ?_
    refine z_if_eq C d9_plainParts_32 (fun c8 => ?_) (fun c8 => ?_)
    · have hf := zit c8 hf
      refine z_iload_n C d9_plainParts_39 rfl ?_
      refine z_iload_n C d9_plainParts_40 rfl ?_
      obtain ⟨g9, hf⟩ := zgo hf
      refine z_idiv C d9_plainParts_41 g9 ?_
      exact z_iret C d9_plainParts_42 hf
    · have hf := zie c8 hf
      refine z_iconst C (0 : Int32) d9_plainParts_35 kI_0 ?_
      refine z_goto C d9_plainParts_36 ?_
      exact z_iret C d9_plainParts_42 hf
theorem d9_parts_0 : zd b9_parts 0 (.aload_n 0) 1 1 := ⟨by decide +kernel, rfl⟩
theorem d9_parts_1 : zd b9_parts 1 (.iload_n 1) 1 2 := ⟨by decide +kernel, rfl⟩
theorem d9_parts_2 : zd b9_parts 2 (.iconst 0) 1 3 := ⟨by decide +kernel, rfl⟩
theorem d9_parts_3 : zd b9_parts 3 (.invokevirtual 60) 3 6 := ⟨by decide +kernel, rfl⟩
theorem d9_parts_6 : zd b9_parts 6 (.iconst 1) 1 7 := ⟨by decide +kernel, rfl⟩
theorem d9_parts_7 : zdb b9_parts 7 (.if_icmp .eq 13) 13 10 20 := ⟨by decide +kernel, rfl, by decide⟩
theorem d9_parts_10 : zd b9_parts 10 (.aload_n 0) 1 11 := ⟨by decide +kernel, rfl⟩
theorem d9_parts_11 : zd b9_parts 11 (.iload_n 1) 1 12 := ⟨by decide +kernel, rfl⟩
theorem d9_parts_12 : zd b9_parts 12 (.iconst 0) 1 13 := ⟨by decide +kernel, rfl⟩
theorem d9_parts_13 : zd b9_parts 13 (.invokevirtual 60) 3 16 := ⟨by decide +kernel, rfl⟩
theorem d9_parts_16 : zd b9_parts 16 (.iconst 4) 1 17 := ⟨by decide +kernel, rfl⟩
theorem d9_parts_17 : zdb b9_parts 17 (.if_icmp .ne 36) 36 20 53 := ⟨by decide +kernel, rfl, by decide⟩
theorem d9_parts_20 : zd b9_parts 20 (.aload_n 0) 1 21 := ⟨by decide +kernel, rfl⟩
theorem d9_parts_21 : zd b9_parts 21 (.bipush 21) 2 23 := ⟨by decide +kernel, rfl⟩
theorem d9_parts_23 : zd b9_parts 23 (.invokevirtual 251) 3 26 := ⟨by decide +kernel, rfl⟩
theorem d9_parts_26 : zd b9_parts 26 (.aload_n 0) 1 27 := ⟨by decide +kernel, rfl⟩
theorem d9_parts_27 : zd b9_parts 27 (.iload_n 1) 1 28 := ⟨by decide +kernel, rfl⟩
theorem d9_parts_28 : zd b9_parts 28 (.iload_n 2) 1 29 := ⟨by decide +kernel, rfl⟩
theorem d9_parts_29 : zd b9_parts 29 (.invokevirtual 278) 3 32 := ⟨by decide +kernel, rfl⟩
theorem d9_parts_32 : zd b9_parts 32 (.istore_n 3) 1 33 := ⟨by decide +kernel, rfl⟩
theorem d9_parts_33 : zd b9_parts 33 (.aload_n 0) 1 34 := ⟨by decide +kernel, rfl⟩
theorem d9_parts_34 : zd b9_parts 34 (.getfield 275) 3 37 := ⟨by decide +kernel, rfl⟩
theorem d9_parts_37 : zdb b9_parts 37 (.ifCond .eq 7) 7 40 44 := ⟨by decide +kernel, rfl, by decide⟩
theorem d9_parts_40 : zd b9_parts 40 (.iconst 0) 1 41 := ⟨by decide +kernel, rfl⟩
theorem d9_parts_41 : zdb b9_parts 41 (.goto 11) 11 44 52 := ⟨by decide +kernel, rfl, by decide⟩
theorem d9_parts_44 : zd b9_parts 44 (.iload_n 3) 1 45 := ⟨by decide +kernel, rfl⟩
theorem d9_parts_45 : zd b9_parts 45 (.aload_n 0) 1 46 := ⟨by decide +kernel, rfl⟩
theorem d9_parts_46 : zd b9_parts 46 (.iload_n 1) 1 47 := ⟨by decide +kernel, rfl⟩
theorem d9_parts_47 : zd b9_parts 47 (.iconst 1) 1 48 := ⟨by decide +kernel, rfl⟩
theorem d9_parts_48 : zd b9_parts 48 (.invokevirtual 269) 3 51 := ⟨by decide +kernel, rfl⟩
theorem d9_parts_51 : zd b9_parts 51 .iadd 1 52 := ⟨by decide +kernel, rfl⟩
theorem d9_parts_52 : zd b9_parts 52 .ireturn 1 53 := ⟨by decide +kernel, rfl⟩
theorem d9_parts_53 : zd b9_parts 53 (.aload_n 0) 1 54 := ⟨by decide +kernel, rfl⟩
theorem d9_parts_54 : zd b9_parts 54 (.iload_n 1) 1 55 := ⟨by decide +kernel, rfl⟩
theorem d9_parts_55 : zd b9_parts 55 (.iload_n 2) 1 56 := ⟨by decide +kernel, rfl⟩
theorem d9_parts_56 : zd b9_parts 56 (.invokevirtual 278) 3 59 := ⟨by decide +kernel, rfl⟩
theorem d9_parts_59 : zd b9_parts 59 .ireturn 1 60 := ⟨by decide +kernel, rfl⟩
def b9_parts_20 (k : Nat) (x1 : Int32) (x2 : Int32) (σ : ZS) : Option (Int32 × ZS) :=
  zbd (f9_begins k (21 : Int32) σ) fun _ s1 =>
  zbd (f9_plainParts k x1 x2 s1) fun r2 s2 =>
  if (s2 103 26) = 0 then (
  zbd (f9_glints k x1 (1 : Int32) s2) fun r4 s4 =>
  some ((r2 + r4), s4))
  else (
  some ((0 : Int32), s2))
theorem j9_parts_20 {x : ZX} {g : ZG} (C : zC x g b9_parts R9 (some .int) 4 8 213) {k : Nat} {r : Int32} {σr : ZS}  {x1 : Int32} {x2 : Int32} {σ : ZS} (hf : b9_parts_20 k  x1 x2 σ = some (r, σr)) : zw x g 4 0 0 (zMQ x g (some (zi r)) σr) σ 20 [some (zr 103), some (zi x1), some (zi x2), none] [] := by
  unfold b9_parts_20 at hf
  refine z_aload_n C d9_parts_20 rfl ?_
  refine z_bipush C (21 : Int32) d9_parts_21 kB_21 ?_
  obtain ⟨r1, s1, h1, hf⟩ := zbx hf
  refine z_callVv C (as := [zi (21 : Int32)]) d9_parts_23 w_1205 yy9_begins (c9_begins x.2.1 g h1) yc9_begins kZ_103 rfl rfl (Nat.le_of_ble_eq_true rfl) ⟨Nat.le_of_ble_eq_true rfl, Nat.le_of_ble_eq_true rfl⟩ ⟨Nat.zero_le _, Nat.zero_le _⟩ ?_
  refine z_aload_n C d9_parts_26 rfl ?_
  refine z_iload_n C d9_parts_27 rfl ?_
  refine z_iload_n C d9_parts_28 rfl ?_
  obtain ⟨r2, s2, h2, hf⟩ := zbx hf
  refine z_callVi C (as := [zi x1, zi x2]) d9_parts_29 w_1237 yy9_plainParts (c9_plainParts x.2.1 g h2) yc9_plainParts kZ_103 rfl rfl (Nat.le_of_ble_eq_true rfl) ⟨Nat.le_of_ble_eq_true rfl, Nat.le_of_ble_eq_true rfl⟩ ⟨Nat.zero_le _, Nat.zero_le _⟩ ?_
  refine z_istore_n C d9_parts_32 (Nat.le_of_ble_eq_true rfl) rfl (L' := [some (zr 103), some (zi x1), some (zi x2), some (zi r2)]) rfl ?_
  refine z_aload_n C d9_parts_33 rfl ?_
  refine z_getI C d9_parts_34 fl_843 kZ_103 ?_
  refine z_if_eq C d9_parts_37 (fun c3 => ?_) (fun c3 => ?_)
  · have hf := zit c3 hf
    refine z_iload_n C d9_parts_44 rfl ?_
    refine z_aload_n C d9_parts_45 rfl ?_
    refine z_iload_n C d9_parts_46 rfl ?_
    refine z_iconst C (1 : Int32) d9_parts_47 kI_1 ?_
    obtain ⟨r4, s4, h4, hf⟩ := zbx hf
    refine z_callVi C (as := [zi x1, zi (1 : Int32)]) d9_parts_48 w_1213 yy9_glints (c9_glints x.2.1 g h4) yc9_glints kZ_103 rfl rfl (Nat.le_of_ble_eq_true rfl) ⟨Nat.le_of_ble_eq_true rfl, Nat.le_of_ble_eq_true rfl⟩ ⟨Nat.zero_le _, Nat.zero_le _⟩ ?_
    refine z_iadd C d9_parts_51 ?_
    exact z_iret C d9_parts_52 hf
  · have hf := zie c3 hf
    refine z_iconst C (0 : Int32) d9_parts_40 kI_0 ?_
    refine z_goto C d9_parts_41 ?_
    exact z_iret C d9_parts_52 hf
def f9_parts (k : Nat) (x1 : Int32) (x2 : Int32) (σ : ZS) : Option (Int32 × ZS) :=
  zbd (f9_of k x1 (0 : Int32) σ) fun r1 s1 =>
  if r1 = (1 : Int32) then (
  b9_parts_20 k  x1 x2 s1)
  else (
  zbd (f9_of k x1 (0 : Int32) s1) fun r3 s3 =>
  if r3 = (4 : Int32) then (
  b9_parts_20 k  x1 x2 s3)
  else (
  zbd (f9_plainParts k x1 x2 s3) fun r5 s5 =>
  some (r5, s5)))
theorem c9_parts (l : Launch) (g : ZG) {k : Nat} {x1 : Int32} {x2 : Int32} {σ : ZS} {r : Int32} {σr : ZS} (hf : f9_parts k x1 x2 σ = some (r, σr)) : zT l g y9_parts b9_parts 4 (some .int) 8 213 [zr 103, zi x1, zi x2] σ (some (zi r)) σr := by
  unfold f9_parts at hf
  refine zT_start (own := R9) rfl (by decide +kernel) 1 (L := [some (zr 103), some (zi x1), some (zi x2), none]) rfl rfl (fun x hl C => ?_)
  subst hl
  refine z_aload_n C d9_parts_0 rfl ?_
  refine z_iload_n C d9_parts_1 rfl ?_
  refine z_iconst C (0 : Int32) d9_parts_2 kI_0 ?_
  obtain ⟨r1, s1, h1, hf⟩ := zbx hf
  refine z_callVi C (as := [zi x1, zi (0 : Int32)]) d9_parts_3 w_926 yy9_of (c9_of x.2.1 g h1) yc9_of kZ_103 rfl rfl (Nat.le_of_ble_eq_true rfl) ⟨Nat.le_of_ble_eq_true rfl, Nat.le_of_ble_eq_true rfl⟩ ⟨Nat.zero_le _, Nat.zero_le _⟩ ?_
  refine z_iconst C (1 : Int32) d9_parts_6 kI_1 ?_
  refine z_icmp_eq C d9_parts_7 (fun c2 => ?_) (fun c2 => ?_)
  · have hf := zit c2 hf
    exact j9_parts_20 C  hf
  · have hf := zie c2 hf
    refine z_aload_n C d9_parts_10 rfl ?_
    refine z_iload_n C d9_parts_11 rfl ?_
    refine z_iconst C (0 : Int32) d9_parts_12 kI_0 ?_
    obtain ⟨r3, s3, h3, hf⟩ := zbx hf
    refine z_callVi C (as := [zi x1, zi (0 : Int32)]) d9_parts_13 w_926 yy9_of (c9_of x.2.1 g h3) yc9_of kZ_103 rfl rfl (Nat.le_of_ble_eq_true rfl) ⟨Nat.le_of_ble_eq_true rfl, Nat.le_of_ble_eq_true rfl⟩ ⟨Nat.zero_le _, Nat.zero_le _⟩ ?_
    refine z_iconst C (4 : Int32) d9_parts_16 kI_4 ?_
    refine z_icmp_ne C d9_parts_17 (fun c4 => ?_) (fun c4 => ?_)
    · have hf := zit c4 hf
      exact j9_parts_20 C  hf
    · have hf := zie c4 hf
      refine z_aload_n C d9_parts_53 rfl ?_
      refine z_iload_n C d9_parts_54 rfl ?_
      refine z_iload_n C d9_parts_55 rfl ?_
      obtain ⟨r5, s5, h5, hf⟩ := zbx hf
      refine z_callVi C (as := [zi x1, zi x2]) d9_parts_56 w_1237 yy9_plainParts (c9_plainParts x.2.1 g h5) yc9_plainParts kZ_103 rfl rfl (Nat.le_of_ble_eq_true rfl) ⟨Nat.le_of_ble_eq_true rfl, Nat.le_of_ble_eq_true rfl⟩ ⟨Nat.zero_le _, Nat.zero_le _⟩ ?_
      exact z_iret C d9_parts_59 hf
theorem d9_pay_0 : zd b9_pay 0 (.aload_n 0) 1 1 := ⟨by decide +kernel, rfl⟩
theorem d9_pay_1 : zd b9_pay 1 (.iload_n 1) 1 2 := ⟨by decide +kernel, rfl⟩
theorem d9_pay_2 : zd b9_pay 2 (.invokevirtual 143) 3 5 := ⟨by decide +kernel, rfl⟩
theorem d9_pay_5 : zdb b9_pay 5 (.ifCond .eq 13) 13 8 18 := ⟨by decide +kernel, rfl, by decide⟩
theorem d9_pay_8 : zd b9_pay 8 (.iload_n 2) 1 9 := ⟨by decide +kernel, rfl⟩
theorem d9_pay_9 : zd b9_pay 9 (.iconst 0) 1 10 := ⟨by decide +kernel, rfl⟩
theorem d9_pay_10 : zd b9_pay 10 (.ldc 152) 2 12 := ⟨by decide +kernel, rfl⟩
theorem d9_pay_12 : zd b9_pay 12 (.invokestatic 56) 3 15 := ⟨by decide +kernel, rfl⟩
theorem d9_pay_15 : zdb b9_pay 15 (.ifCond .ne 10) 10 18 25 := ⟨by decide +kernel, rfl, by decide⟩
theorem d9_pay_18 : zd b9_pay 18 (.aload_n 0) 1 19 := ⟨by decide +kernel, rfl⟩
theorem d9_pay_19 : zd b9_pay 19 (.ldc 130) 2 21 := ⟨by decide +kernel, rfl⟩
theorem d9_pay_21 : zd b9_pay 21 (.invokevirtual 131) 3 24 := ⟨by decide +kernel, rfl⟩
theorem d9_pay_24 : zd b9_pay 24 .ireturn 1 25 := ⟨by decide +kernel, rfl⟩
theorem d9_pay_25 : zd b9_pay 25 (.iload_n 2) 1 26 := ⟨by decide +kernel, rfl⟩
theorem d9_pay_26 : zd b9_pay 26 (.iconst 0) 1 27 := ⟨by decide +kernel, rfl⟩
theorem d9_pay_27 : zd b9_pay 27 (.aload_n 0) 1 28 := ⟨by decide +kernel, rfl⟩
theorem d9_pay_28 : zd b9_pay 28 (.iload_n 1) 1 29 := ⟨by decide +kernel, rfl⟩
theorem d9_pay_29 : zd b9_pay 29 (.iconst 2) 1 30 := ⟨by decide +kernel, rfl⟩
theorem d9_pay_30 : zd b9_pay 30 (.invokevirtual 109) 3 33 := ⟨by decide +kernel, rfl⟩
theorem d9_pay_33 : zd b9_pay 33 (.invokestatic 89) 3 36 := ⟨by decide +kernel, rfl⟩
theorem d9_pay_36 : zd b9_pay 36 (.istore_n 3) 1 37 := ⟨by decide +kernel, rfl⟩
theorem d9_pay_37 : zd b9_pay 37 (.aload_n 0) 1 38 := ⟨by decide +kernel, rfl⟩
theorem d9_pay_38 : zd b9_pay 38 (.getfield 9) 3 41 := ⟨by decide +kernel, rfl⟩
theorem d9_pay_41 : zd b9_pay 41 (.bipush 46) 2 43 := ⟨by decide +kernel, rfl⟩
theorem d9_pay_43 : zd b9_pay 43 (.iconst 3) 1 44 := ⟨by decide +kernel, rfl⟩
theorem d9_pay_44 : zd b9_pay 44 (.iload_n 1) 1 45 := ⟨by decide +kernel, rfl⟩
theorem d9_pay_45 : zd b9_pay 45 .imul 1 46 := ⟨by decide +kernel, rfl⟩
theorem d9_pay_46 : zd b9_pay 46 .iadd 1 47 := ⟨by decide +kernel, rfl⟩
theorem d9_pay_47 : zd b9_pay 47 (.iconst 2) 1 48 := ⟨by decide +kernel, rfl⟩
theorem d9_pay_48 : zd b9_pay 48 .iadd 1 49 := ⟨by decide +kernel, rfl⟩
theorem d9_pay_49 : zd b9_pay 49 .dup2 1 50 := ⟨by decide +kernel, rfl⟩
theorem d9_pay_50 : zd b9_pay 50 .iaload 1 51 := ⟨by decide +kernel, rfl⟩
theorem d9_pay_51 : zd b9_pay 51 (.iload_n 3) 1 52 := ⟨by decide +kernel, rfl⟩
theorem d9_pay_52 : zd b9_pay 52 .isub 1 53 := ⟨by decide +kernel, rfl⟩
theorem d9_pay_53 : zd b9_pay 53 .iastore 1 54 := ⟨by decide +kernel, rfl⟩
theorem d9_pay_54 : zd b9_pay 54 (.iload_n 3) 1 55 := ⟨by decide +kernel, rfl⟩
theorem d9_pay_55 : zd b9_pay 55 .ireturn 1 56 := ⟨by decide +kernel, rfl⟩
def f9_pay (k : Nat) (x1 : Int32) (x2 : Int32) (σ : ZS) : Option (Int32 × ZS) :=
  zbd (f9_isPerson k x1 σ) fun r1 s1 =>
  if r1 = 0 then (
  zbd (f9_error k (-1000000001 : Int32) s1) fun r3 s3 =>
  some (r3, s3))
  else (
  zbd (f9_in k x2 (0 : Int32) (99999 : Int32) s1) fun r4 s4 =>
  if r4 = 0 then (
  zbd (f9_error k (-1000000001 : Int32) s4) fun r6 s6 =>
  some (r6, s6))
  else (
  zbd (f9_about k x1 (2 : Int32) s4) fun r7 s7 =>
  zbd (f9_held k x2 (0 : Int32) r7 s7) fun r8 s8 =>
  if zin (((46 : Int32) + ((3 : Int32) * x1)) + (2 : Int32)) 390 then (
  if zin (((46 : Int32) + ((3 : Int32) * x1)) + (2 : Int32)) 390 then (
  zput (zu s8 104 ((((46 : Int32) + ((3 : Int32) * x1)) + (2 : Int32)).toNatClampNeg) ((s8 104 (((46 : Int32) + ((3 : Int32) * x1)) + (2 : Int32)).toNatClampNeg) - r8)) fun s11 =>
  some (r8, s11)) else none) else none))
theorem c9_pay (l : Launch) (g : ZG) {k : Nat} {x1 : Int32} {x2 : Int32} {σ : ZS} {r : Int32} {σr : ZS} (hf : f9_pay k x1 x2 σ = some (r, σr)) : zT l g y9_pay b9_pay 4 (some .int) 3 103 [zr 103, zi x1, zi x2] σ (some (zi r)) σr := by
  unfold f9_pay at hf
  refine zT_start (own := R9) rfl (by decide +kernel) 1 (L := [some (zr 103), some (zi x1), some (zi x2), none]) rfl rfl (fun x hl C => ?_)
  subst hl
  refine z_aload_n C d9_pay_0 rfl ?_
  refine z_iload_n C d9_pay_1 rfl ?_
  obtain ⟨r1, s1, h1, hf⟩ := zbx hf
  refine z_callVi C (as := [zi x1]) d9_pay_2 w_986 yy9_isPerson (c9_isPerson x.2.1 g h1) yc9_isPerson kZ_103 rfl rfl (Nat.le_of_ble_eq_true rfl) ⟨Nat.le_of_ble_eq_true rfl, Nat.le_of_ble_eq_true rfl⟩ ⟨Nat.zero_le _, Nat.zero_le _⟩ ?_
  refine z_if_eq C d9_pay_5 (fun c2 => ?_) (fun c2 => ?_)
  · have hf := zit c2 hf
    refine z_aload_n C d9_pay_18 rfl ?_
    refine z_ldc C (-1000000001 : Int32) d9_pay_19 w_915 ?_
    obtain ⟨r3, s3, h3, hf⟩ := zbx hf
    refine z_callVi C (as := [zi (-1000000001 : Int32)]) d9_pay_21 w_916 yy9_error (c9_error x.2.1 g h3) yc9_error kZ_103 rfl rfl (Nat.le_of_ble_eq_true rfl) ⟨Nat.le_of_ble_eq_true rfl, Nat.le_of_ble_eq_true rfl⟩ ⟨Nat.zero_le _, Nat.zero_le _⟩ ?_
    exact z_iret C d9_pay_24 hf
  · have hf := zie c2 hf
    refine z_iload_n C d9_pay_8 rfl ?_
    refine z_iconst C (0 : Int32) d9_pay_9 kI_0 ?_
    refine z_ldc C (99999 : Int32) d9_pay_10 w_1039 ?_
    obtain ⟨r4, s4, h4, hf⟩ := zbx hf
    refine z_callSi C (as := [zi x2, zi (0 : Int32), zi (99999 : Int32)]) d9_pay_12 w_906 yy9_in (c9_in x.2.1 g h4) rfl rfl (Nat.le_of_ble_eq_true rfl) ⟨Nat.le_of_ble_eq_true rfl, Nat.le_of_ble_eq_true rfl⟩ ⟨Nat.zero_le _, Nat.zero_le _⟩ ?_
    refine z_if_ne C d9_pay_15 (fun c5 => ?_) (fun c5 => ?_)
    · have hf := zit c5 hf
      refine z_aload_n C d9_pay_18 rfl ?_
      refine z_ldc C (-1000000001 : Int32) d9_pay_19 w_915 ?_
      obtain ⟨r6, s6, h6, hf⟩ := zbx hf
      refine z_callVi C (as := [zi (-1000000001 : Int32)]) d9_pay_21 w_916 yy9_error (c9_error x.2.1 g h6) yc9_error kZ_103 rfl rfl (Nat.le_of_ble_eq_true rfl) ⟨Nat.le_of_ble_eq_true rfl, Nat.le_of_ble_eq_true rfl⟩ ⟨Nat.zero_le _, Nat.zero_le _⟩ ?_
      exact z_iret C d9_pay_24 hf
    · have hf := zie c5 hf
      refine z_iload_n C d9_pay_25 rfl ?_
      refine z_iconst C (0 : Int32) d9_pay_26 kI_0 ?_
      refine z_aload_n C d9_pay_27 rfl ?_
      refine z_iload_n C d9_pay_28 rfl ?_
      refine z_iconst C (2 : Int32) d9_pay_29 kI_2 ?_
      obtain ⟨r7, s7, h7, hf⟩ := zbx hf
      refine z_callVi C (as := [zi x1, zi (2 : Int32)]) d9_pay_30 w_990 yy9_about (c9_about x.2.1 g h7) yc9_about kZ_103 rfl rfl (Nat.le_of_ble_eq_true rfl) ⟨Nat.le_of_ble_eq_true rfl, Nat.le_of_ble_eq_true rfl⟩ ⟨Nat.zero_le _, Nat.zero_le _⟩ ?_
      obtain ⟨r8, s8, h8, hf⟩ := zbx hf
      refine z_callSi C (as := [zi x2, zi (0 : Int32), zi r7]) d9_pay_33 w_1024 yy9_held (c9_held x.2.1 g h8) rfl rfl (Nat.le_of_ble_eq_true rfl) ⟨Nat.le_of_ble_eq_true rfl, Nat.le_of_ble_eq_true rfl⟩ ⟨Nat.zero_le _, Nat.zero_le _⟩ ?_
      refine z_istore_n C d9_pay_36 (Nat.le_of_ble_eq_true rfl) rfl (L' := [some (zr 103), some (zi x1), some (zi x2), some (zi r8)]) rfl ?_
      refine z_aload_n C d9_pay_37 rfl ?_
      refine z_getR C d9_pay_38 fl_817 kZ_103 104 rfl (zn0 kZ_104) ?_
      refine z_bipush C (46 : Int32) d9_pay_41 kB_46 ?_
      refine z_iconst C (3 : Int32) d9_pay_43 kI_3 ?_
      refine z_iload_n C d9_pay_44 rfl ?_
      refine z_imul C d9_pay_45 ?_
      refine z_iadd C d9_pay_46 ?_
      refine z_iconst C (2 : Int32) d9_pay_47 kI_2 ?_
      refine z_iadd C d9_pay_48 ?_
      refine z_dup2 C d9_pay_49 rfl rfl ?_
      obtain ⟨g9, hf⟩ := zgo hf
      refine z_iald C d9_pay_50 kZ_104 kL_104 g9 ((((46 : Int32) + ((3 : Int32) * x1)) + (2 : Int32)).toNatClampNeg) rfl ?_
      refine z_iload_n C d9_pay_51 rfl ?_
      refine z_isub C d9_pay_52 ?_
      obtain ⟨g10, hf⟩ := zgo hf
      obtain ⟨s11, e11, hf⟩ := zpx hf
      refine z_iast C d9_pay_53 kZ_104 kL_104 g10 rfl e11 ?_
      refine z_iload_n C d9_pay_54 rfl ?_
      exact z_iret C d9_pay_55 hf
theorem d9_person_0 : zd b9_person 0 (.iload_n 1) 1 1 := ⟨by decide +kernel, rfl⟩
theorem d9_person_1 : zd b9_person 1 (.invokestatic 124) 3 4 := ⟨by decide +kernel, rfl⟩
theorem d9_person_4 : zdb b9_person 4 (.ifCond .eq 10) 10 7 14 := ⟨by decide +kernel, rfl, by decide⟩
theorem d9_person_7 : zd b9_person 7 (.iload_n 2) 1 8 := ⟨by decide +kernel, rfl⟩
theorem d9_person_8 : zd b9_person 8 (.invokestatic 127) 3 11 := ⟨by decide +kernel, rfl⟩
theorem d9_person_11 : zdb b9_person 11 (.ifCond .ne 10) 10 14 21 := ⟨by decide +kernel, rfl, by decide⟩
theorem d9_person_14 : zd b9_person 14 (.aload_n 0) 1 15 := ⟨by decide +kernel, rfl⟩
theorem d9_person_15 : zd b9_person 15 (.ldc 130) 2 17 := ⟨by decide +kernel, rfl⟩
theorem d9_person_17 : zd b9_person 17 (.invokevirtual 131) 3 20 := ⟨by decide +kernel, rfl⟩
theorem d9_person_20 : zd b9_person 20 .ireturn 1 21 := ⟨by decide +kernel, rfl⟩
theorem d9_person_21 : zd b9_person 21 (.aload_n 0) 1 22 := ⟨by decide +kernel, rfl⟩
theorem d9_person_22 : zd b9_person 22 (.getfield 9) 3 25 := ⟨by decide +kernel, rfl⟩
theorem d9_person_25 : zd b9_person 25 (.iconst 3) 1 26 := ⟨by decide +kernel, rfl⟩
theorem d9_person_26 : zd b9_person 26 .iaload 1 27 := ⟨by decide +kernel, rfl⟩
theorem d9_person_27 : zd b9_person 27 (.istore_n 3) 1 28 := ⟨by decide +kernel, rfl⟩
theorem d9_person_28 : zd b9_person 28 (.iload_n 3) 1 29 := ⟨by decide +kernel, rfl⟩
theorem d9_person_29 : zd b9_person 29 (.bipush 6) 2 31 := ⟨by decide +kernel, rfl⟩
theorem d9_person_31 : zdb b9_person 31 (.if_icmp .ne 10) 10 34 41 := ⟨by decide +kernel, rfl, by decide⟩
theorem d9_person_34 : zd b9_person 34 (.aload_n 0) 1 35 := ⟨by decide +kernel, rfl⟩
theorem d9_person_35 : zd b9_person 35 (.ldc 134) 2 37 := ⟨by decide +kernel, rfl⟩
theorem d9_person_37 : zd b9_person 37 (.invokevirtual 131) 3 40 := ⟨by decide +kernel, rfl⟩
theorem d9_person_40 : zd b9_person 40 .ireturn 1 41 := ⟨by decide +kernel, rfl⟩
theorem d9_person_41 : zd b9_person 41 (.aload_n 0) 1 42 := ⟨by decide +kernel, rfl⟩
theorem d9_person_42 : zd b9_person 42 (.getfield 9) 3 45 := ⟨by decide +kernel, rfl⟩
theorem d9_person_45 : zd b9_person 45 (.iconst 3) 1 46 := ⟨by decide +kernel, rfl⟩
theorem d9_person_46 : zd b9_person 46 .dup2 1 47 := ⟨by decide +kernel, rfl⟩
theorem d9_person_47 : zd b9_person 47 .iaload 1 48 := ⟨by decide +kernel, rfl⟩
theorem d9_person_48 : zd b9_person 48 (.iconst 1) 1 49 := ⟨by decide +kernel, rfl⟩
theorem d9_person_49 : zd b9_person 49 .iadd 1 50 := ⟨by decide +kernel, rfl⟩
theorem d9_person_50 : zd b9_person 50 .iastore 1 51 := ⟨by decide +kernel, rfl⟩
theorem d9_person_51 : zd b9_person 51 (.aload_n 0) 1 52 := ⟨by decide +kernel, rfl⟩
theorem d9_person_52 : zd b9_person 52 (.getfield 9) 3 55 := ⟨by decide +kernel, rfl⟩
theorem d9_person_55 : zd b9_person 55 (.bipush 46) 2 57 := ⟨by decide +kernel, rfl⟩
theorem d9_person_57 : zd b9_person 57 (.iconst 3) 1 58 := ⟨by decide +kernel, rfl⟩
theorem d9_person_58 : zd b9_person 58 (.iload_n 3) 1 59 := ⟨by decide +kernel, rfl⟩
theorem d9_person_59 : zd b9_person 59 .imul 1 60 := ⟨by decide +kernel, rfl⟩
theorem d9_person_60 : zd b9_person 60 .iadd 1 61 := ⟨by decide +kernel, rfl⟩
theorem d9_person_61 : zd b9_person 61 (.iload_n 1) 1 62 := ⟨by decide +kernel, rfl⟩
theorem d9_person_62 : zd b9_person 62 .iastore 1 63 := ⟨by decide +kernel, rfl⟩
theorem d9_person_63 : zd b9_person 63 (.aload_n 0) 1 64 := ⟨by decide +kernel, rfl⟩
theorem d9_person_64 : zd b9_person 64 (.getfield 9) 3 67 := ⟨by decide +kernel, rfl⟩
theorem d9_person_67 : zd b9_person 67 (.bipush 46) 2 69 := ⟨by decide +kernel, rfl⟩
theorem d9_person_69 : zd b9_person 69 (.iconst 3) 1 70 := ⟨by decide +kernel, rfl⟩
theorem d9_person_70 : zd b9_person 70 (.iload_n 3) 1 71 := ⟨by decide +kernel, rfl⟩
theorem d9_person_71 : zd b9_person 71 .imul 1 72 := ⟨by decide +kernel, rfl⟩
theorem d9_person_72 : zd b9_person 72 .iadd 1 73 := ⟨by decide +kernel, rfl⟩
theorem d9_person_73 : zd b9_person 73 (.iconst 1) 1 74 := ⟨by decide +kernel, rfl⟩
theorem d9_person_74 : zd b9_person 74 .iadd 1 75 := ⟨by decide +kernel, rfl⟩
theorem d9_person_75 : zd b9_person 75 (.iload_n 2) 1 76 := ⟨by decide +kernel, rfl⟩
theorem d9_person_76 : zd b9_person 76 .iastore 1 77 := ⟨by decide +kernel, rfl⟩
theorem d9_person_77 : zd b9_person 77 (.aload_n 0) 1 78 := ⟨by decide +kernel, rfl⟩
theorem d9_person_78 : zd b9_person 78 (.getfield 9) 3 81 := ⟨by decide +kernel, rfl⟩
theorem d9_person_81 : zd b9_person 81 (.bipush 46) 2 83 := ⟨by decide +kernel, rfl⟩
theorem d9_person_83 : zd b9_person 83 (.iconst 3) 1 84 := ⟨by decide +kernel, rfl⟩
theorem d9_person_84 : zd b9_person 84 (.iload_n 3) 1 85 := ⟨by decide +kernel, rfl⟩
theorem d9_person_85 : zd b9_person 85 .imul 1 86 := ⟨by decide +kernel, rfl⟩
theorem d9_person_86 : zd b9_person 86 .iadd 1 87 := ⟨by decide +kernel, rfl⟩
theorem d9_person_87 : zd b9_person 87 (.iconst 2) 1 88 := ⟨by decide +kernel, rfl⟩
theorem d9_person_88 : zd b9_person 88 .iadd 1 89 := ⟨by decide +kernel, rfl⟩
theorem d9_person_89 : zd b9_person 89 (.iconst 0) 1 90 := ⟨by decide +kernel, rfl⟩
theorem d9_person_90 : zd b9_person 90 .iastore 1 91 := ⟨by decide +kernel, rfl⟩
theorem d9_person_91 : zd b9_person 91 (.iload_n 3) 1 92 := ⟨by decide +kernel, rfl⟩
theorem d9_person_92 : zd b9_person 92 .ireturn 1 93 := ⟨by decide +kernel, rfl⟩
def f9_person (k : Nat) (x1 : Int32) (x2 : Int32) (σ : ZS) : Option (Int32 × ZS) :=
  zbd (f9_isCell k x1 σ) fun r1 s1 =>
  if r1 = 0 then (
  zbd (f9_error k (-1000000001 : Int32) s1) fun r3 s3 =>
  some (r3, s3))
  else (
  zbd (f9_isFour k x2 s1) fun r4 s4 =>
  if r4 = 0 then (
  zbd (f9_error k (-1000000001 : Int32) s4) fun r6 s6 =>
  some (r6, s6))
  else (
  if (s4 104 3) = (6 : Int32) then (
  zbd (f9_error k (-1000000004 : Int32) s4) fun r8 s8 =>
  some (r8, s8))
  else (
  zput (zu s4 104 (3) ((s4 104 3) + (1 : Int32))) fun s9 =>
  if zin ((46 : Int32) + ((3 : Int32) * (s4 104 3))) 390 then (
  zput (zu s9 104 (((46 : Int32) + ((3 : Int32) * (s4 104 3))).toNatClampNeg) x1) fun s11 =>
  if zin (((46 : Int32) + ((3 : Int32) * (s4 104 3))) + (1 : Int32)) 390 then (
  zput (zu s11 104 ((((46 : Int32) + ((3 : Int32) * (s4 104 3))) + (1 : Int32)).toNatClampNeg) x2) fun s13 =>
  if zin (((46 : Int32) + ((3 : Int32) * (s4 104 3))) + (2 : Int32)) 390 then (
  zput (zu s13 104 ((((46 : Int32) + ((3 : Int32) * (s4 104 3))) + (2 : Int32)).toNatClampNeg) (0 : Int32)) fun s15 =>
  some ((s4 104 3), s15)) else none) else none) else none)))
theorem c9_person (l : Launch) (g : ZG) {k : Nat} {x1 : Int32} {x2 : Int32} {σ : ZS} {r : Int32} {σr : ZS} (hf : f9_person k x1 x2 σ = some (r, σr)) : zT l g y9_person b9_person 4 (some .int) 3 102 [zr 103, zi x1, zi x2] σ (some (zi r)) σr := by
  unfold f9_person at hf
  refine zT_start (own := R9) rfl (by decide +kernel) 1 (L := [some (zr 103), some (zi x1), some (zi x2), none]) rfl rfl (fun x hl C => ?_)
  subst hl
  refine z_iload_n C d9_person_0 rfl ?_
  obtain ⟨r1, s1, h1, hf⟩ := zbx hf
  refine z_callSi C (as := [zi x1]) d9_person_1 w_909 yy9_isCell (c9_isCell x.2.1 g h1) rfl rfl (Nat.le_of_ble_eq_true rfl) ⟨Nat.le_of_ble_eq_true rfl, Nat.le_of_ble_eq_true rfl⟩ ⟨Nat.zero_le _, Nat.zero_le _⟩ ?_
  refine z_if_eq C d9_person_4 (fun c2 => ?_) (fun c2 => ?_)
  · have hf := zit c2 hf
    refine z_aload_n C d9_person_14 rfl ?_
    refine z_ldc C (-1000000001 : Int32) d9_person_15 w_915 ?_
    obtain ⟨r3, s3, h3, hf⟩ := zbx hf
    refine z_callVi C (as := [zi (-1000000001 : Int32)]) d9_person_17 w_916 yy9_error (c9_error x.2.1 g h3) yc9_error kZ_103 rfl rfl (Nat.le_of_ble_eq_true rfl) ⟨Nat.le_of_ble_eq_true rfl, Nat.le_of_ble_eq_true rfl⟩ ⟨Nat.zero_le _, Nat.zero_le _⟩ ?_
    exact z_iret C d9_person_20 hf
  · have hf := zie c2 hf
    refine z_iload_n C d9_person_7 rfl ?_
    obtain ⟨r4, s4, h4, hf⟩ := zbx hf
    refine z_callSi C (as := [zi x2]) d9_person_8 w_912 yy9_isFour (c9_isFour x.2.1 g h4) rfl rfl (Nat.le_of_ble_eq_true rfl) ⟨Nat.le_of_ble_eq_true rfl, Nat.le_of_ble_eq_true rfl⟩ ⟨Nat.zero_le _, Nat.zero_le _⟩ ?_
    refine z_if_ne C d9_person_11 (fun c5 => ?_) (fun c5 => ?_)
    · have hf := zit c5 hf
      refine z_aload_n C d9_person_14 rfl ?_
      refine z_ldc C (-1000000001 : Int32) d9_person_15 w_915 ?_
      obtain ⟨r6, s6, h6, hf⟩ := zbx hf
      refine z_callVi C (as := [zi (-1000000001 : Int32)]) d9_person_17 w_916 yy9_error (c9_error x.2.1 g h6) yc9_error kZ_103 rfl rfl (Nat.le_of_ble_eq_true rfl) ⟨Nat.le_of_ble_eq_true rfl, Nat.le_of_ble_eq_true rfl⟩ ⟨Nat.zero_le _, Nat.zero_le _⟩ ?_
      exact z_iret C d9_person_20 hf
    · have hf := zie c5 hf
      refine z_aload_n C d9_person_21 rfl ?_
      refine z_getR C d9_person_22 fl_817 kZ_103 104 rfl (zn0 kZ_104) ?_
      refine z_iconst C (3 : Int32) d9_person_25 kI_3 ?_
      refine z_iald C d9_person_26 kZ_104 kL_104 ⟨by decide, by decide⟩ (3) kN_3 ?_
      refine z_istore_n C d9_person_27 (Nat.le_of_ble_eq_true rfl) rfl (L' := [some (zr 103), some (zi x1), some (zi x2), some (zi (s4 104 3))]) rfl ?_
      refine z_iload_n C d9_person_28 rfl ?_
      refine z_bipush C (6 : Int32) d9_person_29 kB_6 ?_
      refine z_icmp_ne C d9_person_31 (fun c7 => ?_) (fun c7 => ?_)
      · have hf := zit c7 hf
        refine z_aload_n C d9_person_34 rfl ?_
        refine z_ldc C (-1000000004 : Int32) d9_person_35 w_921 ?_
        obtain ⟨r8, s8, h8, hf⟩ := zbx hf
        refine z_callVi C (as := [zi (-1000000004 : Int32)]) d9_person_37 w_916 yy9_error (c9_error x.2.1 g h8) yc9_error kZ_103 rfl rfl (Nat.le_of_ble_eq_true rfl) ⟨Nat.le_of_ble_eq_true rfl, Nat.le_of_ble_eq_true rfl⟩ ⟨Nat.zero_le _, Nat.zero_le _⟩ ?_
        exact z_iret C d9_person_40 hf
      · have hf := zie c7 hf
        refine z_aload_n C d9_person_41 rfl ?_
        refine z_getR C d9_person_42 fl_817 kZ_103 104 rfl (zn0 kZ_104) ?_
        refine z_iconst C (3 : Int32) d9_person_45 kI_3 ?_
        refine z_dup2 C d9_person_46 rfl rfl ?_
        refine z_iald C d9_person_47 kZ_104 kL_104 ⟨by decide, by decide⟩ (3) kN_3 ?_
        refine z_iconst C (1 : Int32) d9_person_48 kI_1 ?_
        refine z_iadd C d9_person_49 ?_
        obtain ⟨s9, e9, hf⟩ := zpx hf
        refine z_iast C d9_person_50 kZ_104 kL_104 ⟨by decide, by decide⟩ kN_3 e9 ?_
        refine z_aload_n C d9_person_51 rfl ?_
        refine z_getR C d9_person_52 fl_817 kZ_103 104 rfl (zn0 kZ_104) ?_
        refine z_bipush C (46 : Int32) d9_person_55 kB_46 ?_
        refine z_iconst C (3 : Int32) d9_person_57 kI_3 ?_
        refine z_iload_n C d9_person_58 rfl ?_
        refine z_imul C d9_person_59 ?_
        refine z_iadd C d9_person_60 ?_
        refine z_iload_n C d9_person_61 rfl ?_
        obtain ⟨g10, hf⟩ := zgo hf
        obtain ⟨s11, e11, hf⟩ := zpx hf
        refine z_iast C d9_person_62 kZ_104 kL_104 g10 rfl e11 ?_
        refine z_aload_n C d9_person_63 rfl ?_
        refine z_getR C d9_person_64 fl_817 kZ_103 104 rfl (zn0 kZ_104) ?_
        refine z_bipush C (46 : Int32) d9_person_67 kB_46 ?_
        refine z_iconst C (3 : Int32) d9_person_69 kI_3 ?_
        refine z_iload_n C d9_person_70 rfl ?_
        refine z_imul C d9_person_71 ?_
        refine z_iadd C d9_person_72 ?_
        refine z_iconst C (1 : Int32) d9_person_73 kI_1 ?_
        refine z_iadd C d9_person_74 ?_
        refine z_iload_n C d9_person_75 rfl ?_
        obtain ⟨g12, hf⟩ := zgo hf
        obtain ⟨s13, e13, hf⟩ := zpx hf
        refine z_iast C d9_person_76 kZ_104 kL_104 g12 rfl e13 ?_
        refine z_aload_n C d9_person_77 rfl ?_
        refine z_getR C d9_person_78 fl_817 kZ_103 104 rfl (zn0 kZ_104) ?_
        refine z_bipush C (46 : Int32) d9_person_81 kB_46 ?_
        refine z_iconst C (3 : Int32) d9_person_83 kI_3 ?_
        refine z_iload_n C d9_person_84 rfl ?_
        refine z_imul C d9_person_85 ?_
        refine z_iadd C d9_person_86 ?_
        refine z_iconst C (2 : Int32) d9_person_87 kI_2 ?_
        refine z_iadd C d9_person_88 ?_
        refine z_iconst C (0 : Int32) d9_person_89 kI_0 ?_
        obtain ⟨g14, hf⟩ := zgo hf
        obtain ⟨s15, e15, hf⟩ := zpx hf
        refine z_iast C d9_person_90 kZ_104 kL_104 g14 rfl e15 ?_
        refine z_iload_n C d9_person_91 rfl ?_
        exact z_iret C d9_person_92 hf
theorem d9_personIs_0 : zd b9_personIs 0 (.aload_n 0) 1 1 := ⟨by decide +kernel, rfl⟩
theorem d9_personIs_1 : zd b9_personIs 1 (.iload_n 1) 1 2 := ⟨by decide +kernel, rfl⟩
theorem d9_personIs_2 : zd b9_personIs 2 (.invokevirtual 143) 3 5 := ⟨by decide +kernel, rfl⟩
theorem d9_personIs_5 : zdb b9_personIs 5 (.ifCond .eq 12) 12 8 17 := ⟨by decide +kernel, rfl, by decide⟩
theorem d9_personIs_8 : zd b9_personIs 8 (.iload_n 2) 1 9 := ⟨by decide +kernel, rfl⟩
theorem d9_personIs_9 : zd b9_personIs 9 (.iconst 0) 1 10 := ⟨by decide +kernel, rfl⟩
theorem d9_personIs_10 : zd b9_personIs 10 (.iconst 3) 1 11 := ⟨by decide +kernel, rfl⟩
theorem d9_personIs_11 : zd b9_personIs 11 (.invokestatic 56) 3 14 := ⟨by decide +kernel, rfl⟩
theorem d9_personIs_14 : zdb b9_personIs 14 (.ifCond .ne 10) 10 17 24 := ⟨by decide +kernel, rfl, by decide⟩
theorem d9_personIs_17 : zd b9_personIs 17 (.aload_n 0) 1 18 := ⟨by decide +kernel, rfl⟩
theorem d9_personIs_18 : zd b9_personIs 18 (.ldc 130) 2 20 := ⟨by decide +kernel, rfl⟩
theorem d9_personIs_20 : zd b9_personIs 20 (.invokevirtual 131) 3 23 := ⟨by decide +kernel, rfl⟩
theorem d9_personIs_23 : zd b9_personIs 23 .ireturn 1 24 := ⟨by decide +kernel, rfl⟩
theorem d9_personIs_24 : zd b9_personIs 24 (.iload_n 2) 1 25 := ⟨by decide +kernel, rfl⟩
theorem d9_personIs_25 : zd b9_personIs 25 (.iconst 3) 1 26 := ⟨by decide +kernel, rfl⟩
theorem d9_personIs_26 : zdb b9_personIs 26 (.if_icmp .ge 12) 12 29 38 := ⟨by decide +kernel, rfl, by decide⟩
theorem d9_personIs_29 : zd b9_personIs 29 (.aload_n 0) 1 30 := ⟨by decide +kernel, rfl⟩
theorem d9_personIs_30 : zd b9_personIs 30 (.iload_n 1) 1 31 := ⟨by decide +kernel, rfl⟩
theorem d9_personIs_31 : zd b9_personIs 31 (.iload_n 2) 1 32 := ⟨by decide +kernel, rfl⟩
theorem d9_personIs_32 : zd b9_personIs 32 (.invokevirtual 109) 3 35 := ⟨by decide +kernel, rfl⟩
theorem d9_personIs_35 : zdb b9_personIs 35 (.goto 8) 8 38 43 := ⟨by decide +kernel, rfl, by decide⟩
theorem d9_personIs_38 : zd b9_personIs 38 (.aload_n 0) 1 39 := ⟨by decide +kernel, rfl⟩
theorem d9_personIs_39 : zd b9_personIs 39 (.iload_n 1) 1 40 := ⟨by decide +kernel, rfl⟩
theorem d9_personIs_40 : zd b9_personIs 40 (.invokevirtual 146) 3 43 := ⟨by decide +kernel, rfl⟩
theorem d9_personIs_43 : zd b9_personIs 43 .ireturn 1 44 := ⟨by decide +kernel, rfl⟩
def f9_personIs (k : Nat) (x1 : Int32) (x2 : Int32) (σ : ZS) : Option (Int32 × ZS) :=
  zbd (f9_isPerson k x1 σ) fun r1 s1 =>
  if r1 = 0 then (
  zbd (f9_error k (-1000000001 : Int32) s1) fun r3 s3 =>
  some (r3, s3))
  else (
  zbd (f9_in k x2 (0 : Int32) (3 : Int32) s1) fun r4 s4 =>
  if r4 = 0 then (
  zbd (f9_error k (-1000000001 : Int32) s4) fun r6 s6 =>
  some (r6, s6))
  else (
  if (3 : Int32) ≤ x2 then (
  zbd (f9_dueOf k x1 s4) fun r8 s8 =>
  some (r8, s8))
  else (
  zbd (f9_about k x1 x2 s4) fun r9 s9 =>
  some (r9, s9))))
theorem c9_personIs (l : Launch) (g : ZG) {k : Nat} {x1 : Int32} {x2 : Int32} {σ : ZS} {r : Int32} {σr : ZS} (hf : f9_personIs k x1 x2 σ = some (r, σr)) : zT l g y9_personIs b9_personIs 3 (some .int) 8 222 [zr 103, zi x1, zi x2] σ (some (zi r)) σr := by
  unfold f9_personIs at hf
  refine zT_start (own := R9) rfl (by decide +kernel) 0 (L := [some (zr 103), some (zi x1), some (zi x2)]) rfl rfl (fun x hl C => ?_)
  subst hl
  refine z_aload_n C d9_personIs_0 rfl ?_
  refine z_iload_n C d9_personIs_1 rfl ?_
  obtain ⟨r1, s1, h1, hf⟩ := zbx hf
  refine z_callVi C (as := [zi x1]) d9_personIs_2 w_986 yy9_isPerson (c9_isPerson x.2.1 g h1) yc9_isPerson kZ_103 rfl rfl (Nat.le_of_ble_eq_true rfl) ⟨Nat.le_of_ble_eq_true rfl, Nat.le_of_ble_eq_true rfl⟩ ⟨Nat.zero_le _, Nat.zero_le _⟩ ?_
  refine z_if_eq C d9_personIs_5 (fun c2 => ?_) (fun c2 => ?_)
  · have hf := zit c2 hf
    refine z_aload_n C d9_personIs_17 rfl ?_
    refine z_ldc C (-1000000001 : Int32) d9_personIs_18 w_915 ?_
    obtain ⟨r3, s3, h3, hf⟩ := zbx hf
    refine z_callVi C (as := [zi (-1000000001 : Int32)]) d9_personIs_20 w_916 yy9_error (c9_error x.2.1 g h3) yc9_error kZ_103 rfl rfl (Nat.le_of_ble_eq_true rfl) ⟨Nat.le_of_ble_eq_true rfl, Nat.le_of_ble_eq_true rfl⟩ ⟨Nat.zero_le _, Nat.zero_le _⟩ ?_
    exact z_iret C d9_personIs_23 hf
  · have hf := zie c2 hf
    refine z_iload_n C d9_personIs_8 rfl ?_
    refine z_iconst C (0 : Int32) d9_personIs_9 kI_0 ?_
    refine z_iconst C (3 : Int32) d9_personIs_10 kI_3 ?_
    obtain ⟨r4, s4, h4, hf⟩ := zbx hf
    refine z_callSi C (as := [zi x2, zi (0 : Int32), zi (3 : Int32)]) d9_personIs_11 w_906 yy9_in (c9_in x.2.1 g h4) rfl rfl (Nat.le_of_ble_eq_true rfl) ⟨Nat.le_of_ble_eq_true rfl, Nat.le_of_ble_eq_true rfl⟩ ⟨Nat.zero_le _, Nat.zero_le _⟩ ?_
    refine z_if_ne C d9_personIs_14 (fun c5 => ?_) (fun c5 => ?_)
    · have hf := zit c5 hf
      refine z_aload_n C d9_personIs_17 rfl ?_
      refine z_ldc C (-1000000001 : Int32) d9_personIs_18 w_915 ?_
      obtain ⟨r6, s6, h6, hf⟩ := zbx hf
      refine z_callVi C (as := [zi (-1000000001 : Int32)]) d9_personIs_20 w_916 yy9_error (c9_error x.2.1 g h6) yc9_error kZ_103 rfl rfl (Nat.le_of_ble_eq_true rfl) ⟨Nat.le_of_ble_eq_true rfl, Nat.le_of_ble_eq_true rfl⟩ ⟨Nat.zero_le _, Nat.zero_le _⟩ ?_
      exact z_iret C d9_personIs_23 hf
    · have hf := zie c5 hf
      refine z_iload_n C d9_personIs_24 rfl ?_
      refine z_iconst C (3 : Int32) d9_personIs_25 kI_3 ?_
      refine z_icmp_ge C d9_personIs_26 (fun c7 => ?_) (fun c7 => ?_)
      · have hf := zit c7 hf
        refine z_aload_n C d9_personIs_38 rfl ?_
        refine z_iload_n C d9_personIs_39 rfl ?_
        obtain ⟨r8, s8, h8, hf⟩ := zbx hf
        refine z_callVi C (as := [zi x1]) d9_personIs_40 w_994 yy9_dueOf (c9_dueOf x.2.1 g h8) yc9_dueOf kZ_103 rfl rfl (Nat.le_of_ble_eq_true rfl) ⟨Nat.le_of_ble_eq_true rfl, Nat.le_of_ble_eq_true rfl⟩ ⟨Nat.zero_le _, Nat.zero_le _⟩ ?_
        exact z_iret C d9_personIs_43 hf
      · have hf := zie c7 hf
        refine z_aload_n C d9_personIs_29 rfl ?_
        refine z_iload_n C d9_personIs_30 rfl ?_
        refine z_iload_n C d9_personIs_31 rfl ?_
        obtain ⟨r9, s9, h9, hf⟩ := zbx hf
        refine z_callVi C (as := [zi x1, zi x2]) d9_personIs_32 w_990 yy9_about (c9_about x.2.1 g h9) yc9_about kZ_103 rfl rfl (Nat.le_of_ble_eq_true rfl) ⟨Nat.le_of_ble_eq_true rfl, Nat.le_of_ble_eq_true rfl⟩ ⟨Nat.zero_le _, Nat.zero_le _⟩ ?_
        refine z_goto C d9_personIs_35 ?_
        exact z_iret C d9_personIs_43 hf
theorem d9_put_0 : zd b9_put 0 (.aload_n 0) 1 1 := ⟨by decide +kernel, rfl⟩
theorem d9_put_1 : zd b9_put 1 (.iload_n 1) 1 2 := ⟨by decide +kernel, rfl⟩
theorem d9_put_2 : zd b9_put 2 (.invokevirtual 288) 3 5 := ⟨by decide +kernel, rfl⟩
theorem d9_put_5 : zd b9_put 5 (.istore 4) 2 7 := ⟨by decide +kernel, rfl⟩
theorem d9_put_7 : zd b9_put 7 (.iload 4) 2 9 := ⟨by decide +kernel, rfl⟩
theorem d9_put_9 : zdb b9_put 9 (.ifCond .ne 24) 24 12 33 := ⟨by decide +kernel, rfl, by decide⟩
theorem d9_put_12 : zd b9_put 12 (.iload_n 2) 1 13 := ⟨by decide +kernel, rfl⟩
theorem d9_put_13 : zd b9_put 13 (.iconst 0) 1 14 := ⟨by decide +kernel, rfl⟩
theorem d9_put_14 : zd b9_put 14 (.aload_n 0) 1 15 := ⟨by decide +kernel, rfl⟩
theorem d9_put_15 : zd b9_put 15 (.getfield 25) 3 18 := ⟨by decide +kernel, rfl⟩
theorem d9_put_18 : zd b9_put 18 (.iload_n 1) 1 19 := ⟨by decide +kernel, rfl⟩
theorem d9_put_19 : zd b9_put 19 .iaload 1 20 := ⟨by decide +kernel, rfl⟩
theorem d9_put_20 : zd b9_put 20 (.iconst 1) 1 21 := ⟨by decide +kernel, rfl⟩
theorem d9_put_21 : zd b9_put 21 .isub 1 22 := ⟨by decide +kernel, rfl⟩
theorem d9_put_22 : zd b9_put 22 (.invokestatic 56) 3 25 := ⟨by decide +kernel, rfl⟩
theorem d9_put_25 : zdb b9_put 25 (.ifCond .ne 8) 8 28 33 := ⟨by decide +kernel, rfl, by decide⟩
theorem d9_put_28 : zd b9_put 28 (.ldc 130) 2 30 := ⟨by decide +kernel, rfl⟩
theorem d9_put_30 : zdb b9_put 30 (.goto 5) 5 33 35 := ⟨by decide +kernel, rfl, by decide⟩
theorem d9_put_33 : zd b9_put 33 (.iload 4) 2 35 := ⟨by decide +kernel, rfl⟩
theorem d9_put_35 : zd b9_put 35 (.istore 4) 2 37 := ⟨by decide +kernel, rfl⟩
theorem d9_put_37 : zd b9_put 37 (.iload 4) 2 39 := ⟨by decide +kernel, rfl⟩
theorem d9_put_39 : zdb b9_put 39 (.ifCond .eq 10) 10 42 49 := ⟨by decide +kernel, rfl, by decide⟩
theorem d9_put_42 : zd b9_put 42 (.aload_n 0) 1 43 := ⟨by decide +kernel, rfl⟩
theorem d9_put_43 : zd b9_put 43 (.iload 4) 2 45 := ⟨by decide +kernel, rfl⟩
theorem d9_put_45 : zd b9_put 45 (.invokevirtual 131) 3 48 := ⟨by decide +kernel, rfl⟩
theorem d9_put_48 : zd b9_put 48 .ireturn 1 49 := ⟨by decide +kernel, rfl⟩
theorem d9_put_49 : zd b9_put 49 (.aload_n 0) 1 50 := ⟨by decide +kernel, rfl⟩
theorem d9_put_50 : zd b9_put 50 (.getfield 28) 3 53 := ⟨by decide +kernel, rfl⟩
theorem d9_put_53 : zd b9_put 53 (.bipush 24) 2 55 := ⟨by decide +kernel, rfl⟩
theorem d9_put_55 : zd b9_put 55 (.iload_n 1) 1 56 := ⟨by decide +kernel, rfl⟩
theorem d9_put_56 : zd b9_put 56 .imul 1 57 := ⟨by decide +kernel, rfl⟩
theorem d9_put_57 : zd b9_put 57 (.iload_n 2) 1 58 := ⟨by decide +kernel, rfl⟩
theorem d9_put_58 : zd b9_put 58 .iadd 1 59 := ⟨by decide +kernel, rfl⟩
theorem d9_put_59 : zd b9_put 59 (.aload_n 0) 1 60 := ⟨by decide +kernel, rfl⟩
theorem d9_put_60 : zd b9_put 60 (.getfield 22) 3 63 := ⟨by decide +kernel, rfl⟩
theorem d9_put_63 : zd b9_put 63 (.iload_n 1) 1 64 := ⟨by decide +kernel, rfl⟩
theorem d9_put_64 : zd b9_put 64 .iaload 1 65 := ⟨by decide +kernel, rfl⟩
theorem d9_put_65 : zd b9_put 65 (.bipush 8) 2 67 := ⟨by decide +kernel, rfl⟩
theorem d9_put_67 : zdb b9_put 67 (.if_icmp .ne 8) 8 70 75 := ⟨by decide +kernel, rfl, by decide⟩
theorem d9_put_70 : zd b9_put 70 (.iload_n 3) 1 71 := ⟨by decide +kernel, rfl⟩
theorem d9_put_71 : zd b9_put 71 .i2b 1 72 := ⟨by decide +kernel, rfl⟩
theorem d9_put_72 : zdb b9_put 72 (.goto 20) 20 75 92 := ⟨by decide +kernel, rfl, by decide⟩
theorem d9_put_75 : zd b9_put 75 (.aload_n 0) 1 76 := ⟨by decide +kernel, rfl⟩
theorem d9_put_76 : zd b9_put 76 (.getfield 22) 3 79 := ⟨by decide +kernel, rfl⟩
theorem d9_put_79 : zd b9_put 79 (.iload_n 1) 1 80 := ⟨by decide +kernel, rfl⟩
theorem d9_put_80 : zd b9_put 80 .iaload 1 81 := ⟨by decide +kernel, rfl⟩
theorem d9_put_81 : zd b9_put 81 (.bipush 16) 2 83 := ⟨by decide +kernel, rfl⟩
theorem d9_put_83 : zdb b9_put 83 (.if_icmp .ne 8) 8 86 91 := ⟨by decide +kernel, rfl, by decide⟩
theorem d9_put_86 : zd b9_put 86 (.iload_n 3) 1 87 := ⟨by decide +kernel, rfl⟩
theorem d9_put_87 : zd b9_put 87 .i2s 1 88 := ⟨by decide +kernel, rfl⟩
theorem d9_put_88 : zdb b9_put 88 (.goto 4) 4 91 92 := ⟨by decide +kernel, rfl, by decide⟩
theorem d9_put_91 : zd b9_put 91 (.iload_n 3) 1 92 := ⟨by decide +kernel, rfl⟩
theorem d9_put_92 : zd b9_put 92 .iastore 1 93 := ⟨by decide +kernel, rfl⟩
theorem d9_put_93 : zd b9_put 93 (.iconst 1) 1 94 := ⟨by decide +kernel, rfl⟩
theorem d9_put_94 : zd b9_put 94 .ireturn 1 95 := ⟨by decide +kernel, rfl⟩
def b9_put_35 (k : Nat) (x1 : Int32) (x2 : Int32) (x3 : Int32) (v0 : Int32) (σ : ZS) : Option (Int32 × ZS) :=
  if v0 = 0 then (
  if zin x1 4 then (
  if (σ 108 x1.toNatClampNeg) = (8 : Int32) then (
  if zin (((24 : Int32) * x1) + x2) 96 then (
  zput (zu σ 110 ((((24 : Int32) * x1) + x2).toNatClampNeg) x3.toInt8.toInt32) fun s5 =>
  some ((1 : Int32), s5)) else none)
  else (
  if zin x1 4 then (
  if (σ 108 x1.toNatClampNeg) = (16 : Int32) then (
  if zin (((24 : Int32) * x1) + x2) 96 then (
  zput (zu σ 110 ((((24 : Int32) * x1) + x2).toNatClampNeg) x3.toInt16.toInt32) fun s9 =>
  some ((1 : Int32), s9)) else none)
  else (
  if zin (((24 : Int32) * x1) + x2) 96 then (
  zput (zu σ 110 ((((24 : Int32) * x1) + x2).toNatClampNeg) x3) fun s11 =>
  some ((1 : Int32), s11)) else none)) else none)) else none)
  else (
  zbd (f9_error k v0 σ) fun r12 s12 =>
  some (r12, s12))
theorem j9_put_35 {x : ZX} {g : ZG} (C : zC x g b9_put R9 (some .int) 5 4 123) {k : Nat} {r : Int32} {σr : ZS}  {x1 : Int32} {x2 : Int32} {x3 : Int32} {v0 : Int32} {σ : ZS} (hf : b9_put_35 k  x1 x2 x3 v0 σ = some (r, σr)) : zw x g 5 0 0 (zMQ x g (some (zi r)) σr) σ 35 [some (zr 103), some (zi x1), some (zi x2), some (zi x3), none] [zi v0] := by
  unfold b9_put_35 at hf
  refine z_istore C d9_put_35 (Nat.le_of_ble_eq_true rfl) rfl (L' := [some (zr 103), some (zi x1), some (zi x2), some (zi x3), some (zi v0)]) rfl ?_
  refine z_iload C d9_put_37 rfl ?_
  refine z_if_eq C d9_put_39 (fun c1 => ?_) (fun c1 => ?_)
  · have hf := zit c1 hf
    refine z_aload_n C d9_put_49 rfl ?_
    refine z_getR C d9_put_50 fl_824 kZ_103 110 rfl (zn0 kZ_110) ?_
    refine z_bipush C (24 : Int32) d9_put_53 kB_24 ?_
    refine z_iload_n C d9_put_55 rfl ?_
    refine z_imul C d9_put_56 ?_
    refine z_iload_n C d9_put_57 rfl ?_
    refine z_iadd C d9_put_58 ?_
    refine z_aload_n C d9_put_59 rfl ?_
    refine z_getR C d9_put_60 fl_822 kZ_103 108 rfl (zn0 kZ_108) ?_
    refine z_iload_n C d9_put_63 rfl ?_
    obtain ⟨g2, hf⟩ := zgo hf
    refine z_iald C d9_put_64 kZ_108 kL_108 g2 (x1.toNatClampNeg) rfl ?_
    refine z_bipush C (8 : Int32) d9_put_65 kB_8 ?_
    refine z_icmp_ne C d9_put_67 (fun c3 => ?_) (fun c3 => ?_)
    · have hf := zit c3 hf
      refine z_iload_n C d9_put_70 rfl ?_
      refine z_i2b C d9_put_71 ?_
      refine z_goto C d9_put_72 ?_
      obtain ⟨g4, hf⟩ := zgo hf
      obtain ⟨s5, e5, hf⟩ := zpx hf
      refine z_iast C d9_put_92 kZ_110 kL_110 g4 rfl e5 ?_
      refine z_iconst C (1 : Int32) d9_put_93 kI_1 ?_
      exact z_iret C d9_put_94 hf
    · have hf := zie c3 hf
      refine z_aload_n C d9_put_75 rfl ?_
      refine z_getR C d9_put_76 fl_822 kZ_103 108 rfl (zn0 kZ_108) ?_
      refine z_iload_n C d9_put_79 rfl ?_
      obtain ⟨g6, hf⟩ := zgo hf
      refine z_iald C d9_put_80 kZ_108 kL_108 g6 (x1.toNatClampNeg) rfl ?_
      refine z_bipush C (16 : Int32) d9_put_81 kB_16 ?_
      refine z_icmp_ne C d9_put_83 (fun c7 => ?_) (fun c7 => ?_)
      · have hf := zit c7 hf
        refine z_iload_n C d9_put_86 rfl ?_
        refine z_i2s C d9_put_87 ?_
        refine z_goto C d9_put_88 ?_
        obtain ⟨g8, hf⟩ := zgo hf
        obtain ⟨s9, e9, hf⟩ := zpx hf
        refine z_iast C d9_put_92 kZ_110 kL_110 g8 rfl e9 ?_
        refine z_iconst C (1 : Int32) d9_put_93 kI_1 ?_
        exact z_iret C d9_put_94 hf
      · have hf := zie c7 hf
        refine z_iload_n C d9_put_91 rfl ?_
        obtain ⟨g10, hf⟩ := zgo hf
        obtain ⟨s11, e11, hf⟩ := zpx hf
        refine z_iast C d9_put_92 kZ_110 kL_110 g10 rfl e11 ?_
        refine z_iconst C (1 : Int32) d9_put_93 kI_1 ?_
        exact z_iret C d9_put_94 hf
  · have hf := zie c1 hf
    refine z_aload_n C d9_put_42 rfl ?_
    refine z_iload C d9_put_43 rfl ?_
    obtain ⟨r12, s12, h12, hf⟩ := zbx hf
    refine z_callVi C (as := [zi v0]) d9_put_45 w_916 yy9_error (c9_error x.2.1 g h12) yc9_error kZ_103 rfl rfl (Nat.le_of_ble_eq_true rfl) ⟨Nat.le_of_ble_eq_true rfl, Nat.le_of_ble_eq_true rfl⟩ ⟨Nat.zero_le _, Nat.zero_le _⟩ ?_
    exact z_iret C d9_put_48 hf
def f9_put (k : Nat) (x1 : Int32) (x2 : Int32) (x3 : Int32) (σ : ZS) : Option (Int32 × ZS) :=
  zbd (f9_notThere k x1 σ) fun r1 s1 =>
  if r1 = 0 then (
  if zin x1 4 then (
  zbd (f9_in k x2 (0 : Int32) ((s1 109 x1.toNatClampNeg) - (1 : Int32)) s1) fun r4 s4 =>
  if r4 = 0 then (
  b9_put_35 k  x1 x2 x3 (-1000000001 : Int32) s4)
  else (
  b9_put_35 k  x1 x2 x3 r1 s4)) else none)
  else (
  b9_put_35 k  x1 x2 x3 r1 s1)
theorem c9_put (l : Launch) (g : ZG) {k : Nat} {x1 : Int32} {x2 : Int32} {x3 : Int32} {σ : ZS} {r : Int32} {σr : ZS} (hf : f9_put k x1 x2 x3 σ = some (r, σr)) : zT l g y9_put b9_put 5 (some .int) 4 123 [zr 103, zi x1, zi x2, zi x3] σ (some (zi r)) σr := by
  unfold f9_put at hf
  refine zT_start (own := R9) rfl (by decide +kernel) 1 (L := [some (zr 103), some (zi x1), some (zi x2), some (zi x3), none]) rfl rfl (fun x hl C => ?_)
  subst hl
  refine z_aload_n C d9_put_0 rfl ?_
  refine z_iload_n C d9_put_1 rfl ?_
  obtain ⟨r1, s1, h1, hf⟩ := zbx hf
  refine z_callVi C (as := [zi x1]) d9_put_2 w_1254 yy9_notThere (c9_notThere x.2.1 g h1) yc9_notThere kZ_103 rfl rfl (Nat.le_of_ble_eq_true rfl) ⟨Nat.le_of_ble_eq_true rfl, Nat.le_of_ble_eq_true rfl⟩ ⟨Nat.zero_le _, Nat.zero_le _⟩ ?_
  refine z_istore C d9_put_5 (Nat.le_of_ble_eq_true rfl) rfl (L' := [some (zr 103), some (zi x1), some (zi x2), some (zi x3), some (zi r1)]) rfl ?_
  refine z_iload C d9_put_7 rfl ?_
  refine z_if_ne C d9_put_9 (fun c2 => ?_) (fun c2 => ?_)
  · have hf := zit c2 hf
    refine z_iload_n C d9_put_12 rfl ?_
    refine z_iconst C (0 : Int32) d9_put_13 kI_0 ?_
    refine z_aload_n C d9_put_14 rfl ?_
    refine z_getR C d9_put_15 fl_823 kZ_103 109 rfl (zn0 kZ_109) ?_
    refine z_iload_n C d9_put_18 rfl ?_
    obtain ⟨g3, hf⟩ := zgo hf
    refine z_iald C d9_put_19 kZ_109 kL_109 g3 (x1.toNatClampNeg) rfl ?_
    refine z_iconst C (1 : Int32) d9_put_20 kI_1 ?_
    refine z_isub C d9_put_21 ?_
    obtain ⟨r4, s4, h4, hf⟩ := zbx hf
    refine z_callSi C (as := [zi x2, zi (0 : Int32), zi ((s1 109 x1.toNatClampNeg) - (1 : Int32))]) d9_put_22 w_906 yy9_in (c9_in x.2.1 g h4) rfl rfl (Nat.le_of_ble_eq_true rfl) ⟨Nat.le_of_ble_eq_true rfl, Nat.le_of_ble_eq_true rfl⟩ ⟨Nat.zero_le _, Nat.zero_le _⟩ ?_
    refine z_if_ne C d9_put_25 (fun c5 => ?_) (fun c5 => ?_)
    · have hf := zit c5 hf
      refine z_ldc C (-1000000001 : Int32) d9_put_28 w_915 ?_
      refine z_goto C d9_put_30 ?_
      refine z_drop [true, true, true, true, false] (L' := [some (zr 103), some (zi x1), some (zi x2), some (zi x3), none]) rfl ?_
      exact j9_put_35 C  hf
    · have hf := zie c5 hf
      refine z_iload C d9_put_33 rfl ?_
      refine z_drop [true, true, true, true, false] (L' := [some (zr 103), some (zi x1), some (zi x2), some (zi x3), none]) rfl ?_
      exact j9_put_35 C  hf
  · have hf := zie c2 hf
    refine z_iload C d9_put_33 rfl ?_
    refine z_drop [true, true, true, true, false] (L' := [some (zr 103), some (zi x1), some (zi x2), some (zi x3), none]) rfl ?_
    exact j9_put_35 C  hf
theorem d9_putsBack_0 : zd b9_putsBack 0 (.aload_n 0) 1 1 := ⟨by decide +kernel, rfl⟩
theorem d9_putsBack_1 : zd b9_putsBack 1 (.getfield 16) 3 4 := ⟨by decide +kernel, rfl⟩
theorem d9_putsBack_4 : zd b9_putsBack 4 (.aload_n 0) 1 5 := ⟨by decide +kernel, rfl⟩
theorem d9_putsBack_5 : zd b9_putsBack 5 (.getfield 9) 3 8 := ⟨by decide +kernel, rfl⟩
theorem d9_putsBack_8 : zd b9_putsBack 8 (.invokestatic 224) 3 11 := ⟨by decide +kernel, rfl⟩
theorem d9_putsBack_11 : zd b9_putsBack 11 .return_ 1 12 := ⟨by decide +kernel, rfl⟩
def f9_putsBack (k : Nat)  (σ : ZS) : Option (Unit × ZS) :=
  zbd (f9_copyAll k 106 104 σ) fun _ s1 =>
  some ((), s1)
theorem c9_putsBack (l : Launch) (g : ZG) {k : Nat}  {σ : ZS} {r : Unit} {σr : ZS} (hf : f9_putsBack k  σ = some (r, σr)) : zT l g y9_putsBack b9_putsBack 1 none 2 82 [zr 103] σ none σr := by
  unfold f9_putsBack at hf
  refine zT_start (own := R9) rfl (by decide +kernel) 0 (L := [some (zr 103)]) rfl rfl (fun x hl C => ?_)
  subst hl
  refine z_aload_n C d9_putsBack_0 rfl ?_
  refine z_getR C d9_putsBack_1 fl_819 kZ_103 106 rfl (zn0 kZ_106) ?_
  refine z_aload_n C d9_putsBack_4 rfl ?_
  refine z_getR C d9_putsBack_5 fl_817 kZ_103 104 rfl (zn0 kZ_104) ?_
  obtain ⟨r1, s1, h1, hf⟩ := zbx hf
  refine z_callSv C (as := [zr 106, zr 104]) d9_putsBack_8 w_1155 yy9_copyAll (c9_copyAll x.2.1 g h1) rfl rfl (Nat.le_of_ble_eq_true rfl) ⟨Nat.le_of_ble_eq_true rfl, Nat.le_of_ble_eq_true rfl⟩ ⟨Nat.zero_le _, Nat.zero_le _⟩ ?_
  exact z_vret C d9_putsBack_11 hf
theorem d9_restore_0 : zd b9_restore 0 (.aload_n 0) 1 1 := ⟨by decide +kernel, rfl⟩
theorem d9_restore_1 : zd b9_restore 1 (.getfield 295) 3 4 := ⟨by decide +kernel, rfl⟩
theorem d9_restore_4 : zdb b9_restore 4 (.ifCond .ne 10) 10 7 14 := ⟨by decide +kernel, rfl, by decide⟩
theorem d9_restore_7 : zd b9_restore 7 (.aload_n 0) 1 8 := ⟨by decide +kernel, rfl⟩
theorem d9_restore_8 : zd b9_restore 8 (.ldc 220) 2 10 := ⟨by decide +kernel, rfl⟩
theorem d9_restore_10 : zd b9_restore 10 (.invokevirtual 131) 3 13 := ⟨by decide +kernel, rfl⟩
theorem d9_restore_13 : zd b9_restore 13 .ireturn 1 14 := ⟨by decide +kernel, rfl⟩
theorem d9_restore_14 : zd b9_restore 14 (.aload_n 0) 1 15 := ⟨by decide +kernel, rfl⟩
theorem d9_restore_15 : zd b9_restore 15 (.getfield 13) 3 18 := ⟨by decide +kernel, rfl⟩
theorem d9_restore_18 : zd b9_restore 18 (.aload_n 0) 1 19 := ⟨by decide +kernel, rfl⟩
theorem d9_restore_19 : zd b9_restore 19 (.getfield 9) 3 22 := ⟨by decide +kernel, rfl⟩
theorem d9_restore_22 : zd b9_restore 22 (.invokestatic 224) 3 25 := ⟨by decide +kernel, rfl⟩
theorem d9_restore_25 : zd b9_restore 25 (.aload_n 0) 1 26 := ⟨by decide +kernel, rfl⟩
theorem d9_restore_26 : zd b9_restore 26 (.getfield 9) 3 29 := ⟨by decide +kernel, rfl⟩
theorem d9_restore_29 : zd b9_restore 29 (.iconst 0) 1 30 := ⟨by decide +kernel, rfl⟩
theorem d9_restore_30 : zd b9_restore 30 .iaload 1 31 := ⟨by decide +kernel, rfl⟩
theorem d9_restore_31 : zd b9_restore 31 .ireturn 1 32 := ⟨by decide +kernel, rfl⟩
def f9_restore (k : Nat)  (σ : ZS) : Option (Int32 × ZS) :=
  if (σ 103 3) = 0 then (
  zbd (f9_error k (-1000000002 : Int32) σ) fun r2 s2 =>
  some (r2, s2))
  else (
  zbd (f9_copyAll k 105 104 σ) fun _ s3 =>
  some ((s3 104 0), s3))
theorem c9_restore (l : Launch) (g : ZG) {k : Nat}  {σ : ZS} {r : Int32} {σr : ZS} (hf : f9_restore k  σ = some (r, σr)) : zT l g y9_restore b9_restore 1 (some .int) 2 82 [zr 103] σ (some (zi r)) σr := by
  unfold f9_restore at hf
  refine zT_start (own := R9) rfl (by decide +kernel) 0 (L := [some (zr 103)]) rfl rfl (fun x hl C => ?_)
  subst hl
  refine z_aload_n C d9_restore_0 rfl ?_
  refine z_getI C d9_restore_1 fl_820 kZ_103 ?_
  refine z_if_ne C d9_restore_4 (fun c1 => ?_) (fun c1 => ?_)
  · have hf := zit c1 hf
    refine z_aload_n C d9_restore_7 rfl ?_
    refine z_ldc C (-1000000002 : Int32) d9_restore_8 w_1134 ?_
    obtain ⟨r2, s2, h2, hf⟩ := zbx hf
    refine z_callVi C (as := [zi (-1000000002 : Int32)]) d9_restore_10 w_916 yy9_error (c9_error x.2.1 g h2) yc9_error kZ_103 rfl rfl (Nat.le_of_ble_eq_true rfl) ⟨Nat.le_of_ble_eq_true rfl, Nat.le_of_ble_eq_true rfl⟩ ⟨Nat.zero_le _, Nat.zero_le _⟩ ?_
    exact z_iret C d9_restore_13 hf
  · have hf := zie c1 hf
    refine z_aload_n C d9_restore_14 rfl ?_
    refine z_getR C d9_restore_15 fl_818 kZ_103 105 rfl (zn0 kZ_105) ?_
    refine z_aload_n C d9_restore_18 rfl ?_
    refine z_getR C d9_restore_19 fl_817 kZ_103 104 rfl (zn0 kZ_104) ?_
    obtain ⟨r3, s3, h3, hf⟩ := zbx hf
    refine z_callSv C (as := [zr 105, zr 104]) d9_restore_22 w_1155 yy9_copyAll (c9_copyAll x.2.1 g h3) rfl rfl (Nat.le_of_ble_eq_true rfl) ⟨Nat.le_of_ble_eq_true rfl, Nat.le_of_ble_eq_true rfl⟩ ⟨Nat.zero_le _, Nat.zero_le _⟩ ?_
    refine z_aload_n C d9_restore_25 rfl ?_
    refine z_getR C d9_restore_26 fl_817 kZ_103 104 rfl (zn0 kZ_104) ?_
    refine z_iconst C (0 : Int32) d9_restore_29 kI_0 ?_
    refine z_iald C d9_restore_30 kZ_104 kL_104 ⟨by decide, by decide⟩ (0) kN_0 ?_
    exact z_iret C d9_restore_31 hf
theorem d9_seed_0 : zd b9_seed 0 (.aload_n 0) 1 1 := ⟨by decide +kernel, rfl⟩
theorem d9_seed_1 : zd b9_seed 1 (.iconst 1) 1 2 := ⟨by decide +kernel, rfl⟩
theorem d9_seed_2 : zd b9_seed 2 (.iload_n 1) 1 3 := ⟨by decide +kernel, rfl⟩
theorem d9_seed_3 : zd b9_seed 3 (.invokevirtual 139) 3 6 := ⟨by decide +kernel, rfl⟩
theorem d9_seed_6 : zd b9_seed 6 .ireturn 1 7 := ⟨by decide +kernel, rfl⟩
def f9_seed (k : Nat) (x1 : Int32) (σ : ZS) : Option (Int32 × ZS) :=
  zbd (f9_becomes k (1 : Int32) x1 σ) fun r1 s1 =>
  some (r1, s1)
theorem c9_seed (l : Launch) (g : ZG) {k : Nat} {x1 : Int32} {σ : ZS} {r : Int32} {σr : ZS} (hf : f9_seed k x1 σ = some (r, σr)) : zT l g y9_seed b9_seed 2 (some .int) 2 83 [zr 103, zi x1] σ (some (zi r)) σr := by
  unfold f9_seed at hf
  refine zT_start (own := R9) rfl (by decide +kernel) 0 (L := [some (zr 103), some (zi x1)]) rfl rfl (fun x hl C => ?_)
  subst hl
  refine z_aload_n C d9_seed_0 rfl ?_
  refine z_iconst C (1 : Int32) d9_seed_1 kI_1 ?_
  refine z_iload_n C d9_seed_2 rfl ?_
  obtain ⟨r1, s1, h1, hf⟩ := zbx hf
  refine z_callVi C (as := [zi (1 : Int32), zi x1]) d9_seed_3 w_961 yy9_becomes (c9_becomes x.2.1 g h1) yc9_becomes kZ_103 rfl rfl (Nat.le_of_ble_eq_true rfl) ⟨Nat.le_of_ble_eq_true rfl, Nat.le_of_ble_eq_true rfl⟩ ⟨Nat.zero_le _, Nat.zero_le _⟩ ?_
  exact z_iret C d9_seed_6 hf
theorem d9_sees_0 : zd b9_sees 0 (.aload_n 0) 1 1 := ⟨by decide +kernel, rfl⟩
theorem d9_sees_1 : zd b9_sees 1 (.iload_n 1) 1 2 := ⟨by decide +kernel, rfl⟩
theorem d9_sees_2 : zd b9_sees 2 (.invokevirtual 143) 3 5 := ⟨by decide +kernel, rfl⟩
theorem d9_sees_5 : zdb b9_sees 5 (.ifCond .ne 10) 10 8 15 := ⟨by decide +kernel, rfl, by decide⟩
theorem d9_sees_8 : zd b9_sees 8 (.aload_n 0) 1 9 := ⟨by decide +kernel, rfl⟩
theorem d9_sees_9 : zd b9_sees 9 (.ldc 130) 2 11 := ⟨by decide +kernel, rfl⟩
theorem d9_sees_11 : zd b9_sees 11 (.invokevirtual 131) 3 14 := ⟨by decide +kernel, rfl⟩
theorem d9_sees_14 : zd b9_sees 14 .ireturn 1 15 := ⟨by decide +kernel, rfl⟩
theorem d9_sees_15 : zd b9_sees 15 (.aload_n 0) 1 16 := ⟨by decide +kernel, rfl⟩
theorem d9_sees_16 : zd b9_sees 16 (.iload_n 1) 1 17 := ⟨by decide +kernel, rfl⟩
theorem d9_sees_17 : zd b9_sees 17 (.invokevirtual 116) 3 20 := ⟨by decide +kernel, rfl⟩
theorem d9_sees_20 : zd b9_sees 20 (.iconst 0) 1 21 := ⟨by decide +kernel, rfl⟩
theorem d9_sees_21 : zd b9_sees 21 (.istore_n 2) 1 22 := ⟨by decide +kernel, rfl⟩
theorem d9_sees_22 : zd b9_sees 22 (.iconst 0) 1 23 := ⟨by decide +kernel, rfl⟩
theorem d9_sees_23 : zd b9_sees 23 (.istore_n 3) 1 24 := ⟨by decide +kernel, rfl⟩
theorem d9_sees_24 : zd b9_sees 24 (.iload_n 3) 1 25 := ⟨by decide +kernel, rfl⟩
theorem d9_sees_25 : zd b9_sees 25 (.aload_n 0) 1 26 := ⟨by decide +kernel, rfl⟩
theorem d9_sees_26 : zd b9_sees 26 (.getfield 9) 3 29 := ⟨by decide +kernel, rfl⟩
theorem d9_sees_29 : zd b9_sees 29 (.iconst 3) 1 30 := ⟨by decide +kernel, rfl⟩
theorem d9_sees_30 : zd b9_sees 30 .iaload 1 31 := ⟨by decide +kernel, rfl⟩
theorem d9_sees_31 : zdb b9_sees 31 (.if_icmp .ge 32) 32 34 63 := ⟨by decide +kernel, rfl, by decide⟩
theorem d9_sees_34 : zd b9_sees 34 (.iload_n 2) 1 35 := ⟨by decide +kernel, rfl⟩
theorem d9_sees_35 : zd b9_sees 35 (.aload_n 0) 1 36 := ⟨by decide +kernel, rfl⟩
theorem d9_sees_36 : zd b9_sees 36 (.aload_n 0) 1 37 := ⟨by decide +kernel, rfl⟩
theorem d9_sees_37 : zd b9_sees 37 (.iload_n 3) 1 38 := ⟨by decide +kernel, rfl⟩
theorem d9_sees_38 : zd b9_sees 38 (.iconst 0) 1 39 := ⟨by decide +kernel, rfl⟩
theorem d9_sees_39 : zd b9_sees 39 (.invokevirtual 109) 3 42 := ⟨by decide +kernel, rfl⟩
theorem d9_sees_42 : zd b9_sees 42 (.invokevirtual 221) 3 45 := ⟨by decide +kernel, rfl⟩
theorem d9_sees_45 : zdb b9_sees 45 (.ifCond .eq 9) 9 48 54 := ⟨by decide +kernel, rfl, by decide⟩
theorem d9_sees_48 : zd b9_sees 48 (.iconst 1) 1 49 := ⟨by decide +kernel, rfl⟩
theorem d9_sees_49 : zd b9_sees 49 (.iload_n 3) 1 50 := ⟨by decide +kernel, rfl⟩
theorem d9_sees_50 : zd b9_sees 50 .ishl 1 51 := ⟨by decide +kernel, rfl⟩
theorem d9_sees_51 : zdb b9_sees 51 (.goto 4) 4 54 55 := ⟨by decide +kernel, rfl, by decide⟩
theorem d9_sees_54 : zd b9_sees 54 (.iconst 0) 1 55 := ⟨by decide +kernel, rfl⟩
theorem d9_sees_55 : zd b9_sees 55 .ior 1 56 := ⟨by decide +kernel, rfl⟩
theorem d9_sees_56 : zd b9_sees 56 (.istore_n 2) 1 57 := ⟨by decide +kernel, rfl⟩
theorem d9_sees_57 : zd b9_sees 57 (.iinc 3 1) 3 60 := ⟨by decide +kernel, rfl⟩
theorem d9_sees_60 : zdb b9_sees 60 (.goto (-36)) (-36) 63 24 := ⟨by decide +kernel, rfl, by decide⟩
theorem d9_sees_63 : zd b9_sees 63 (.iload_n 2) 1 64 := ⟨by decide +kernel, rfl⟩
theorem d9_sees_64 : zd b9_sees 64 .ireturn 1 65 := ⟨by decide +kernel, rfl⟩
def b9_sees_24 (k : Nat) (q24 : Int32 → Int32 → ZS → Option (Int32 × ZS)) (x2 : Int32) (x3 : Int32) (σ : ZS) : Option (Int32 × ZS) :=
  if (σ 104 3) ≤ x3 then (
  some (x2, σ))
  else (
  zbd (f9_about k x3 (0 : Int32) σ) fun r2 s2 =>
  zbd (f9_isSeen k r2 s2) fun r3 s3 =>
  if r3 = 0 then (
  q24 (x2 ||| (0 : Int32)) (x3 + (1 : Int32)) s3)
  else (
  q24 (x2 ||| ((1 : Int32) <<< (x3 &&& 31))) (x3 + (1 : Int32)) s3))
def f9_sees_24 (k : Nat) : Nat → Int32 → Int32 → ZS → Option (Int32 × ZS)
  | 0 => fun _ _ _ => none
  | n + 1 => b9_sees_24 k  (f9_sees_24 k  n)
theorem j9_sees_24 {x : ZX} {g : ZG} (C : zC x g b9_sees R9 (some .int) 4 7 201) {k : Nat} {r : Int32} {σr : ZS}  {q24 : Int32 → Int32 → ZS → Option (Int32 × ZS)} (hq24 : (∀ (x2 : Int32) (x3 : Int32) (σ : ZS), q24 x2 x3 σ = some (r, σr) → zw x g 4 0 0 (zMQ x g (some (zi r)) σr) σ 24 [some (zr 103), none, some (zi x2), some (zi x3)] [])) {x2 : Int32} {x3 : Int32} {σ : ZS} (hf : b9_sees_24 k q24 x2 x3 σ = some (r, σr)) : zw x g 4 0 0 (zMQ x g (some (zi r)) σr) σ 24 [some (zr 103), none, some (zi x2), some (zi x3)] [] := by
  unfold b9_sees_24 at hf
  refine z_iload_n C d9_sees_24 rfl ?_
  refine z_aload_n C d9_sees_25 rfl ?_
  refine z_getR C d9_sees_26 fl_817 kZ_103 104 rfl (zn0 kZ_104) ?_
  refine z_iconst C (3 : Int32) d9_sees_29 kI_3 ?_
  refine z_iald C d9_sees_30 kZ_104 kL_104 ⟨by decide, by decide⟩ (3) kN_3 ?_
  refine z_icmp_ge C d9_sees_31 (fun c1 => ?_) (fun c1 => ?_)
  · have hf := zit c1 hf
    refine z_iload_n C d9_sees_63 rfl ?_
    exact z_iret C d9_sees_64 hf
  · have hf := zie c1 hf
    refine z_iload_n C d9_sees_34 rfl ?_
    refine z_aload_n C d9_sees_35 rfl ?_
    refine z_aload_n C d9_sees_36 rfl ?_
    refine z_iload_n C d9_sees_37 rfl ?_
    refine z_iconst C (0 : Int32) d9_sees_38 kI_0 ?_
    obtain ⟨r2, s2, h2, hf⟩ := zbx hf
    refine z_callVi C (as := [zi x3, zi (0 : Int32)]) d9_sees_39 w_990 yy9_about (c9_about x.2.1 g h2) yc9_about kZ_103 rfl rfl (Nat.le_of_ble_eq_true rfl) ⟨Nat.le_of_ble_eq_true rfl, Nat.le_of_ble_eq_true rfl⟩ ⟨Nat.zero_le _, Nat.zero_le _⟩ ?_
    obtain ⟨r3, s3, h3, hf⟩ := zbx hf
    refine z_callVi C (as := [zi r2]) d9_sees_42 w_1143 yy9_isSeen (c9_isSeen x.2.1 g h3) yc9_isSeen kZ_103 rfl rfl (Nat.le_of_ble_eq_true rfl) ⟨Nat.le_of_ble_eq_true rfl, Nat.le_of_ble_eq_true rfl⟩ ⟨Nat.zero_le _, Nat.zero_le _⟩ ?_
    refine z_if_eq C d9_sees_45 (fun c4 => ?_) (fun c4 => ?_)
    · have hf := zit c4 hf
      refine z_iconst C (0 : Int32) d9_sees_54 kI_0 ?_
      refine z_ior C d9_sees_55 ?_
      refine z_istore_n C d9_sees_56 (Nat.le_of_ble_eq_true rfl) rfl (L' := [some (zr 103), none, some (zi (x2 ||| (0 : Int32))), some (zi x3)]) rfl ?_
      refine z_iinc C d9_sees_57 rfl kI_1 (Nat.le_of_ble_eq_true rfl) rfl (L' := [some (zr 103), none, some (zi (x2 ||| (0 : Int32))), some (zi (x3 + (1 : Int32)))]) rfl ?_
      refine z_goto C d9_sees_60 ?_
      exact hq24 _ _ _ hf
    · have hf := zie c4 hf
      refine z_iconst C (1 : Int32) d9_sees_48 kI_1 ?_
      refine z_iload_n C d9_sees_49 rfl ?_
      refine z_ishl C d9_sees_50 ?_
      refine z_goto C d9_sees_51 ?_
      refine z_ior C d9_sees_55 ?_
      refine z_istore_n C d9_sees_56 (Nat.le_of_ble_eq_true rfl) rfl (L' := [some (zr 103), none, some (zi (x2 ||| ((1 : Int32) <<< (x3 &&& 31)))), some (zi x3)]) rfl ?_
      refine z_iinc C d9_sees_57 rfl kI_1 (Nat.le_of_ble_eq_true rfl) rfl (L' := [some (zr 103), none, some (zi (x2 ||| ((1 : Int32) <<< (x3 &&& 31)))), some (zi (x3 + (1 : Int32)))]) rfl ?_
      refine z_goto C d9_sees_60 ?_
      exact hq24 _ _ _ hf
theorem j9_sees_24l {x : ZX} {g : ZG} (C : zC x g b9_sees R9 (some .int) 4 7 201) {k : Nat} {r : Int32} {σr : ZS}  : ∀ (n : Nat) (x2 : Int32) (x3 : Int32) (σ : ZS), f9_sees_24 k  n x2 x3 σ = some (r, σr) → zw x g 4 0 0 (zMQ x g (some (zi r)) σr) σ 24 [some (zr 103), none, some (zi x2), some (zi x3)] [] := by
  intro n
  induction n with
  | zero => intro x2 x3 σ hf; exact absurd (show none = some (r, σr) from hf) (fun z => by cases z)
  | succ n ih => intro x2 x3 σ hf; exact j9_sees_24 C  ih (show b9_sees_24 k  (f9_sees_24 k  n) x2 x3 σ = some (r, σr) from hf)
def f9_sees (k : Nat) (x1 : Int32) (σ : ZS) : Option (Int32 × ZS) :=
  zbd (f9_isPerson k x1 σ) fun r1 s1 =>
  if r1 = 0 then (
  zbd (f9_error k (-1000000001 : Int32) s1) fun r3 s3 =>
  some (r3, s3))
  else (
  zbd (f9_looksOf k x1 s1) fun _ s4 =>
  f9_sees_24 k  k (0 : Int32) (0 : Int32) s4)
theorem c9_sees (l : Launch) (g : ZG) {k : Nat} {x1 : Int32} {σ : ZS} {r : Int32} {σr : ZS} (hf : f9_sees k x1 σ = some (r, σr)) : zT l g y9_sees b9_sees 4 (some .int) 7 201 [zr 103, zi x1] σ (some (zi r)) σr := by
  unfold f9_sees at hf
  refine zT_start (own := R9) rfl (by decide +kernel) 2 (L := [some (zr 103), some (zi x1), none, none]) rfl rfl (fun x hl C => ?_)
  subst hl
  refine z_aload_n C d9_sees_0 rfl ?_
  refine z_iload_n C d9_sees_1 rfl ?_
  obtain ⟨r1, s1, h1, hf⟩ := zbx hf
  refine z_callVi C (as := [zi x1]) d9_sees_2 w_986 yy9_isPerson (c9_isPerson x.2.1 g h1) yc9_isPerson kZ_103 rfl rfl (Nat.le_of_ble_eq_true rfl) ⟨Nat.le_of_ble_eq_true rfl, Nat.le_of_ble_eq_true rfl⟩ ⟨Nat.zero_le _, Nat.zero_le _⟩ ?_
  refine z_if_ne C d9_sees_5 (fun c2 => ?_) (fun c2 => ?_)
  · have hf := zit c2 hf
    refine z_aload_n C d9_sees_8 rfl ?_
    refine z_ldc C (-1000000001 : Int32) d9_sees_9 w_915 ?_
    obtain ⟨r3, s3, h3, hf⟩ := zbx hf
    refine z_callVi C (as := [zi (-1000000001 : Int32)]) d9_sees_11 w_916 yy9_error (c9_error x.2.1 g h3) yc9_error kZ_103 rfl rfl (Nat.le_of_ble_eq_true rfl) ⟨Nat.le_of_ble_eq_true rfl, Nat.le_of_ble_eq_true rfl⟩ ⟨Nat.zero_le _, Nat.zero_le _⟩ ?_
    exact z_iret C d9_sees_14 hf
  · have hf := zie c2 hf
    refine z_aload_n C d9_sees_15 rfl ?_
    refine z_iload_n C d9_sees_16 rfl ?_
    obtain ⟨r4, s4, h4, hf⟩ := zbx hf
    refine z_callVv C (as := [zi x1]) d9_sees_17 w_998 yy9_looksOf (c9_looksOf x.2.1 g h4) yc9_looksOf kZ_103 rfl rfl (Nat.le_of_ble_eq_true rfl) ⟨Nat.le_of_ble_eq_true rfl, Nat.le_of_ble_eq_true rfl⟩ ⟨Nat.zero_le _, Nat.zero_le _⟩ ?_
    refine z_iconst C (0 : Int32) d9_sees_20 kI_0 ?_
    refine z_istore_n C d9_sees_21 (Nat.le_of_ble_eq_true rfl) rfl (L' := [some (zr 103), some (zi x1), some (zi (0 : Int32)), none]) rfl ?_
    refine z_iconst C (0 : Int32) d9_sees_22 kI_0 ?_
    refine z_istore_n C d9_sees_23 (Nat.le_of_ble_eq_true rfl) rfl (L' := [some (zr 103), some (zi x1), some (zi (0 : Int32)), some (zi (0 : Int32))]) rfl ?_
    refine z_drop [true, false, true, true] (L' := [some (zr 103), none, some (zi (0 : Int32)), some (zi (0 : Int32))]) rfl ?_
    exact j9_sees_24l C  _ _ _ _ hf
theorem d9_sheet_0 : zd b9_sheet 0 (.iload_n 1) 1 1 := ⟨by decide +kernel, rfl⟩
theorem d9_sheet_1 : zd b9_sheet 1 (.invokestatic 242) 3 4 := ⟨by decide +kernel, rfl⟩
theorem d9_sheet_4 : zdb b9_sheet 4 (.ifCond .eq 25) 25 7 29 := ⟨by decide +kernel, rfl, by decide⟩
theorem d9_sheet_7 : zd b9_sheet 7 (.iload_n 2) 1 8 := ⟨by decide +kernel, rfl⟩
theorem d9_sheet_8 : zdb b9_sheet 8 (.ifCond .eq 28) 28 11 36 := ⟨by decide +kernel, rfl, by decide⟩
theorem d9_sheet_11 : zd b9_sheet 11 (.iload_n 2) 1 12 := ⟨by decide +kernel, rfl⟩
theorem d9_sheet_12 : zd b9_sheet 12 (.bipush 8) 2 14 := ⟨by decide +kernel, rfl⟩
theorem d9_sheet_14 : zdb b9_sheet 14 (.if_icmp .eq 22) 22 17 36 := ⟨by decide +kernel, rfl, by decide⟩
theorem d9_sheet_17 : zd b9_sheet 17 (.iload_n 2) 1 18 := ⟨by decide +kernel, rfl⟩
theorem d9_sheet_18 : zd b9_sheet 18 (.bipush 16) 2 20 := ⟨by decide +kernel, rfl⟩
theorem d9_sheet_20 : zdb b9_sheet 20 (.if_icmp .eq 16) 16 23 36 := ⟨by decide +kernel, rfl, by decide⟩
theorem d9_sheet_23 : zd b9_sheet 23 (.iload_n 2) 1 24 := ⟨by decide +kernel, rfl⟩
theorem d9_sheet_24 : zd b9_sheet 24 (.bipush 32) 2 26 := ⟨by decide +kernel, rfl⟩
theorem d9_sheet_26 : zdb b9_sheet 26 (.if_icmp .eq 10) 10 29 36 := ⟨by decide +kernel, rfl, by decide⟩
theorem d9_sheet_29 : zd b9_sheet 29 (.aload_n 0) 1 30 := ⟨by decide +kernel, rfl⟩
theorem d9_sheet_30 : zd b9_sheet 30 (.ldc 130) 2 32 := ⟨by decide +kernel, rfl⟩
theorem d9_sheet_32 : zd b9_sheet 32 (.invokevirtual 131) 3 35 := ⟨by decide +kernel, rfl⟩
theorem d9_sheet_35 : zd b9_sheet 35 .ireturn 1 36 := ⟨by decide +kernel, rfl⟩
theorem d9_sheet_36 : zd b9_sheet 36 (.iload_n 2) 1 37 := ⟨by decide +kernel, rfl⟩
theorem d9_sheet_37 : zdb b9_sheet 37 (.ifCond .le 14) 14 40 51 := ⟨by decide +kernel, rfl, by decide⟩
theorem d9_sheet_40 : zd b9_sheet 40 (.iload_n 3) 1 41 := ⟨by decide +kernel, rfl⟩
theorem d9_sheet_41 : zdb b9_sheet 41 (.ifCond .ge 10) 10 44 51 := ⟨by decide +kernel, rfl, by decide⟩
theorem d9_sheet_44 : zd b9_sheet 44 (.aload_n 0) 1 45 := ⟨by decide +kernel, rfl⟩
theorem d9_sheet_45 : zd b9_sheet 45 (.ldc 135) 2 47 := ⟨by decide +kernel, rfl⟩
theorem d9_sheet_47 : zd b9_sheet 47 (.invokevirtual 131) 3 50 := ⟨by decide +kernel, rfl⟩
theorem d9_sheet_50 : zd b9_sheet 50 .ireturn 1 51 := ⟨by decide +kernel, rfl⟩
theorem d9_sheet_51 : zd b9_sheet 51 (.iload_n 2) 1 52 := ⟨by decide +kernel, rfl⟩
theorem d9_sheet_52 : zdb b9_sheet 52 (.ifCond .le 16) 16 55 68 := ⟨by decide +kernel, rfl, by decide⟩
theorem d9_sheet_55 : zd b9_sheet 55 (.iload_n 3) 1 56 := ⟨by decide +kernel, rfl⟩
theorem d9_sheet_56 : zd b9_sheet 56 (.bipush 24) 2 58 := ⟨by decide +kernel, rfl⟩
theorem d9_sheet_58 : zdb b9_sheet 58 (.if_icmp .le 10) 10 61 68 := ⟨by decide +kernel, rfl, by decide⟩
theorem d9_sheet_61 : zd b9_sheet 61 (.aload_n 0) 1 62 := ⟨by decide +kernel, rfl⟩
theorem d9_sheet_62 : zd b9_sheet 62 (.ldc 130) 2 64 := ⟨by decide +kernel, rfl⟩
theorem d9_sheet_64 : zd b9_sheet 64 (.invokevirtual 131) 3 67 := ⟨by decide +kernel, rfl⟩
theorem d9_sheet_67 : zd b9_sheet 67 .ireturn 1 68 := ⟨by decide +kernel, rfl⟩
theorem d9_sheet_68 : zd b9_sheet 68 (.aload_n 0) 1 69 := ⟨by decide +kernel, rfl⟩
theorem d9_sheet_69 : zd b9_sheet 69 (.getfield 22) 3 72 := ⟨by decide +kernel, rfl⟩
theorem d9_sheet_72 : zd b9_sheet 72 (.iload_n 1) 1 73 := ⟨by decide +kernel, rfl⟩
theorem d9_sheet_73 : zd b9_sheet 73 (.iload_n 2) 1 74 := ⟨by decide +kernel, rfl⟩
theorem d9_sheet_74 : zd b9_sheet 74 .iastore 1 75 := ⟨by decide +kernel, rfl⟩
theorem d9_sheet_75 : zd b9_sheet 75 (.aload_n 0) 1 76 := ⟨by decide +kernel, rfl⟩
theorem d9_sheet_76 : zd b9_sheet 76 (.getfield 25) 3 79 := ⟨by decide +kernel, rfl⟩
theorem d9_sheet_79 : zd b9_sheet 79 (.iload_n 1) 1 80 := ⟨by decide +kernel, rfl⟩
theorem d9_sheet_80 : zd b9_sheet 80 (.iload_n 2) 1 81 := ⟨by decide +kernel, rfl⟩
theorem d9_sheet_81 : zdb b9_sheet 81 (.ifCond .ne 7) 7 84 88 := ⟨by decide +kernel, rfl, by decide⟩
theorem d9_sheet_84 : zd b9_sheet 84 (.iconst 0) 1 85 := ⟨by decide +kernel, rfl⟩
theorem d9_sheet_85 : zdb b9_sheet 85 (.goto 4) 4 88 89 := ⟨by decide +kernel, rfl, by decide⟩
theorem d9_sheet_88 : zd b9_sheet 88 (.iload_n 3) 1 89 := ⟨by decide +kernel, rfl⟩
theorem d9_sheet_89 : zd b9_sheet 89 .iastore 1 90 := ⟨by decide +kernel, rfl⟩
theorem d9_sheet_90 : zd b9_sheet 90 (.iconst 0) 1 91 := ⟨by decide +kernel, rfl⟩
theorem d9_sheet_91 : zd b9_sheet 91 (.istore 4) 2 93 := ⟨by decide +kernel, rfl⟩
theorem d9_sheet_93 : zd b9_sheet 93 (.iload 4) 2 95 := ⟨by decide +kernel, rfl⟩
theorem d9_sheet_95 : zd b9_sheet 95 (.bipush 24) 2 97 := ⟨by decide +kernel, rfl⟩
theorem d9_sheet_97 : zdb b9_sheet 97 (.if_icmp .ge 22) 22 100 119 := ⟨by decide +kernel, rfl, by decide⟩
theorem d9_sheet_100 : zd b9_sheet 100 (.aload_n 0) 1 101 := ⟨by decide +kernel, rfl⟩
theorem d9_sheet_101 : zd b9_sheet 101 (.getfield 28) 3 104 := ⟨by decide +kernel, rfl⟩
theorem d9_sheet_104 : zd b9_sheet 104 (.bipush 24) 2 106 := ⟨by decide +kernel, rfl⟩
theorem d9_sheet_106 : zd b9_sheet 106 (.iload_n 1) 1 107 := ⟨by decide +kernel, rfl⟩
theorem d9_sheet_107 : zd b9_sheet 107 .imul 1 108 := ⟨by decide +kernel, rfl⟩
theorem d9_sheet_108 : zd b9_sheet 108 (.iload 4) 2 110 := ⟨by decide +kernel, rfl⟩
theorem d9_sheet_110 : zd b9_sheet 110 .iadd 1 111 := ⟨by decide +kernel, rfl⟩
theorem d9_sheet_111 : zd b9_sheet 111 (.iconst 0) 1 112 := ⟨by decide +kernel, rfl⟩
theorem d9_sheet_112 : zd b9_sheet 112 .iastore 1 113 := ⟨by decide +kernel, rfl⟩
theorem d9_sheet_113 : zd b9_sheet 113 (.iinc 4 1) 3 116 := ⟨by decide +kernel, rfl⟩
theorem d9_sheet_116 : zdb b9_sheet 116 (.goto (-23)) (-23) 119 93 := ⟨by decide +kernel, rfl, by decide⟩
theorem d9_sheet_119 : zd b9_sheet 119 (.iconst 1) 1 120 := ⟨by decide +kernel, rfl⟩
theorem d9_sheet_120 : zd b9_sheet 120 .ireturn 1 121 := ⟨by decide +kernel, rfl⟩
def b9_sheet_93 (k : Nat) (q93 : Int32 → Int32 → ZS → Option (Int32 × ZS)) (x1 : Int32) (x4 : Int32) (σ : ZS) : Option (Int32 × ZS) :=
  if (24 : Int32) ≤ x4 then (
  some ((1 : Int32), σ))
  else (
  if zin (((24 : Int32) * x1) + x4) 96 then (
  zput (zu σ 110 ((((24 : Int32) * x1) + x4).toNatClampNeg) (0 : Int32)) fun s3 =>
  q93 x1 (x4 + (1 : Int32)) s3) else none)
def f9_sheet_93 (k : Nat) : Nat → Int32 → Int32 → ZS → Option (Int32 × ZS)
  | 0 => fun _ _ _ => none
  | n + 1 => b9_sheet_93 k  (f9_sheet_93 k  n)
theorem j9_sheet_93 {x : ZX} {g : ZG} (C : zC x g b9_sheet R9 (some .int) 5 3 102) {k : Nat} {r : Int32} {σr : ZS}  {q93 : Int32 → Int32 → ZS → Option (Int32 × ZS)} (hq93 : (∀ (x1 : Int32) (x4 : Int32) (σ : ZS), q93 x1 x4 σ = some (r, σr) → zw x g 5 0 0 (zMQ x g (some (zi r)) σr) σ 93 [some (zr 103), some (zi x1), none, none, some (zi x4)] [])) {x1 : Int32} {x4 : Int32} {σ : ZS} (hf : b9_sheet_93 k q93 x1 x4 σ = some (r, σr)) : zw x g 5 0 0 (zMQ x g (some (zi r)) σr) σ 93 [some (zr 103), some (zi x1), none, none, some (zi x4)] [] := by
  unfold b9_sheet_93 at hf
  refine z_iload C d9_sheet_93 rfl ?_
  refine z_bipush C (24 : Int32) d9_sheet_95 kB_24 ?_
  refine z_icmp_ge C d9_sheet_97 (fun c1 => ?_) (fun c1 => ?_)
  · have hf := zit c1 hf
    refine z_iconst C (1 : Int32) d9_sheet_119 kI_1 ?_
    exact z_iret C d9_sheet_120 hf
  · have hf := zie c1 hf
    refine z_aload_n C d9_sheet_100 rfl ?_
    refine z_getR C d9_sheet_101 fl_824 kZ_103 110 rfl (zn0 kZ_110) ?_
    refine z_bipush C (24 : Int32) d9_sheet_104 kB_24 ?_
    refine z_iload_n C d9_sheet_106 rfl ?_
    refine z_imul C d9_sheet_107 ?_
    refine z_iload C d9_sheet_108 rfl ?_
    refine z_iadd C d9_sheet_110 ?_
    refine z_iconst C (0 : Int32) d9_sheet_111 kI_0 ?_
    obtain ⟨g2, hf⟩ := zgo hf
    obtain ⟨s3, e3, hf⟩ := zpx hf
    refine z_iast C d9_sheet_112 kZ_110 kL_110 g2 rfl e3 ?_
    refine z_iinc C d9_sheet_113 rfl kI_1 (Nat.le_of_ble_eq_true rfl) rfl (L' := [some (zr 103), some (zi x1), none, none, some (zi (x4 + (1 : Int32)))]) rfl ?_
    refine z_goto C d9_sheet_116 ?_
    exact hq93 _ _ _ hf
theorem j9_sheet_93l {x : ZX} {g : ZG} (C : zC x g b9_sheet R9 (some .int) 5 3 102) {k : Nat} {r : Int32} {σr : ZS}  : ∀ (n : Nat) (x1 : Int32) (x4 : Int32) (σ : ZS), f9_sheet_93 k  n x1 x4 σ = some (r, σr) → zw x g 5 0 0 (zMQ x g (some (zi r)) σr) σ 93 [some (zr 103), some (zi x1), none, none, some (zi x4)] [] := by
  intro n
  induction n with
  | zero => intro x1 x4 σ hf; exact absurd (show none = some (r, σr) from hf) (fun z => by cases z)
  | succ n ih => intro x1 x4 σ hf; exact j9_sheet_93 C  ih (show b9_sheet_93 k  (f9_sheet_93 k  n) x1 x4 σ = some (r, σr) from hf)
def b9_sheet_68 (k : Nat) (x1 : Int32) (x2 : Int32) (x3 : Int32) (σ : ZS) : Option (Int32 × ZS) :=
  if zin x1 4 then (
  zput (zu σ 108 (x1.toNatClampNeg) x2) fun s2 =>
  if x2 = 0 then (
  if zin x1 4 then (
  zput (zu s2 109 (x1.toNatClampNeg) (0 : Int32)) fun s5 =>
  f9_sheet_93 k  k x1 (0 : Int32) s5) else none)
  else (
  if zin x1 4 then (
  zput (zu s2 109 (x1.toNatClampNeg) x3) fun s7 =>
  f9_sheet_93 k  k x1 (0 : Int32) s7) else none)) else none
theorem j9_sheet_68 {x : ZX} {g : ZG} (C : zC x g b9_sheet R9 (some .int) 5 3 102) {k : Nat} {r : Int32} {σr : ZS}  {x1 : Int32} {x2 : Int32} {x3 : Int32} {σ : ZS} (hf : b9_sheet_68 k  x1 x2 x3 σ = some (r, σr)) : zw x g 5 0 0 (zMQ x g (some (zi r)) σr) σ 68 [some (zr 103), some (zi x1), some (zi x2), some (zi x3), none] [] := by
  unfold b9_sheet_68 at hf
  refine z_aload_n C d9_sheet_68 rfl ?_
  refine z_getR C d9_sheet_69 fl_822 kZ_103 108 rfl (zn0 kZ_108) ?_
  refine z_iload_n C d9_sheet_72 rfl ?_
  refine z_iload_n C d9_sheet_73 rfl ?_
  obtain ⟨g1, hf⟩ := zgo hf
  obtain ⟨s2, e2, hf⟩ := zpx hf
  refine z_iast C d9_sheet_74 kZ_108 kL_108 g1 rfl e2 ?_
  refine z_aload_n C d9_sheet_75 rfl ?_
  refine z_getR C d9_sheet_76 fl_823 kZ_103 109 rfl (zn0 kZ_109) ?_
  refine z_iload_n C d9_sheet_79 rfl ?_
  refine z_iload_n C d9_sheet_80 rfl ?_
  refine z_if_ne C d9_sheet_81 (fun c3 => ?_) (fun c3 => ?_)
  · have hf := zit c3 hf
    refine z_iconst C (0 : Int32) d9_sheet_84 kI_0 ?_
    refine z_goto C d9_sheet_85 ?_
    obtain ⟨g4, hf⟩ := zgo hf
    obtain ⟨s5, e5, hf⟩ := zpx hf
    refine z_iast C d9_sheet_89 kZ_109 kL_109 g4 rfl e5 ?_
    refine z_iconst C (0 : Int32) d9_sheet_90 kI_0 ?_
    refine z_istore C d9_sheet_91 (Nat.le_of_ble_eq_true rfl) rfl (L' := [some (zr 103), some (zi x1), some (zi x2), some (zi x3), some (zi (0 : Int32))]) rfl ?_
    refine z_drop [true, true, false, false, true] (L' := [some (zr 103), some (zi x1), none, none, some (zi (0 : Int32))]) rfl ?_
    exact j9_sheet_93l C  _ _ _ _ hf
  · have hf := zie c3 hf
    refine z_iload_n C d9_sheet_88 rfl ?_
    obtain ⟨g6, hf⟩ := zgo hf
    obtain ⟨s7, e7, hf⟩ := zpx hf
    refine z_iast C d9_sheet_89 kZ_109 kL_109 g6 rfl e7 ?_
    refine z_iconst C (0 : Int32) d9_sheet_90 kI_0 ?_
    refine z_istore C d9_sheet_91 (Nat.le_of_ble_eq_true rfl) rfl (L' := [some (zr 103), some (zi x1), some (zi x2), some (zi x3), some (zi (0 : Int32))]) rfl ?_
    refine z_drop [true, true, false, false, true] (L' := [some (zr 103), some (zi x1), none, none, some (zi (0 : Int32))]) rfl ?_
    exact j9_sheet_93l C  _ _ _ _ hf
def b9_sheet_36 (k : Nat) (x1 : Int32) (x2 : Int32) (x3 : Int32) (σ : ZS) : Option (Int32 × ZS) :=
  if x2 ≤ 0 then (
  if x2 ≤ 0 then (
  b9_sheet_68 k  x1 x2 x3 σ)
  else (
  if x3 ≤ (24 : Int32) then (
  b9_sheet_68 k  x1 x2 x3 σ)
  else (
  zbd (f9_error k (-1000000001 : Int32) σ) fun r4 s4 =>
  some (r4, s4))))
  else (
  if 0 ≤ x3 then (
  if x2 ≤ 0 then (
  b9_sheet_68 k  x1 x2 x3 σ)
  else (
  if x3 ≤ (24 : Int32) then (
  b9_sheet_68 k  x1 x2 x3 σ)
  else (
  zbd (f9_error k (-1000000001 : Int32) σ) fun r8 s8 =>
  some (r8, s8))))
  else (
  zbd (f9_error k (-1000000003 : Int32) σ) fun r9 s9 =>
  some (r9, s9)))
theorem j9_sheet_36 {x : ZX} {g : ZG} (C : zC x g b9_sheet R9 (some .int) 5 3 102) {k : Nat} {r : Int32} {σr : ZS}  {x1 : Int32} {x2 : Int32} {x3 : Int32} {σ : ZS} (hf : b9_sheet_36 k  x1 x2 x3 σ = some (r, σr)) : zw x g 5 0 0 (zMQ x g (some (zi r)) σr) σ 36 [some (zr 103), some (zi x1), some (zi x2), some (zi x3), none] [] := by
  unfold b9_sheet_36 at hf
  refine z_iload_n C d9_sheet_36 rfl ?_
  refine z_if_le C d9_sheet_37 (fun c1 => ?_) (fun c1 => ?_)
  · have hf := zit c1 hf
    refine z_iload_n C d9_sheet_51 rfl ?_
    refine z_if_le C d9_sheet_52 (fun c2 => ?_) (fun c2 => ?_)
    · have hf := zit c2 hf
      exact j9_sheet_68 C  hf
    · have hf := zie c2 hf
      refine z_iload_n C d9_sheet_55 rfl ?_
      refine z_bipush C (24 : Int32) d9_sheet_56 kB_24 ?_
      refine z_icmp_le C d9_sheet_58 (fun c3 => ?_) (fun c3 => ?_)
      · have hf := zit c3 hf
        exact j9_sheet_68 C  hf
      · have hf := zie c3 hf
        refine z_aload_n C d9_sheet_61 rfl ?_
        refine z_ldc C (-1000000001 : Int32) d9_sheet_62 w_915 ?_
        obtain ⟨r4, s4, h4, hf⟩ := zbx hf
        refine z_callVi C (as := [zi (-1000000001 : Int32)]) d9_sheet_64 w_916 yy9_error (c9_error x.2.1 g h4) yc9_error kZ_103 rfl rfl (Nat.le_of_ble_eq_true rfl) ⟨Nat.le_of_ble_eq_true rfl, Nat.le_of_ble_eq_true rfl⟩ ⟨Nat.zero_le _, Nat.zero_le _⟩ ?_
        exact z_iret C d9_sheet_67 hf
  · have hf := zie c1 hf
    refine z_iload_n C d9_sheet_40 rfl ?_
    refine z_if_ge C d9_sheet_41 (fun c5 => ?_) (fun c5 => ?_)
    · have hf := zit c5 hf
      refine z_iload_n C d9_sheet_51 rfl ?_
      refine z_if_le C d9_sheet_52 (fun c6 => ?_) (fun c6 => ?_)
      · have hf := zit c6 hf
        exact j9_sheet_68 C  hf
      · have hf := zie c6 hf
        refine z_iload_n C d9_sheet_55 rfl ?_
        refine z_bipush C (24 : Int32) d9_sheet_56 kB_24 ?_
        refine z_icmp_le C d9_sheet_58 (fun c7 => ?_) (fun c7 => ?_)
        · have hf := zit c7 hf
          exact j9_sheet_68 C  hf
        · have hf := zie c7 hf
          refine z_aload_n C d9_sheet_61 rfl ?_
          refine z_ldc C (-1000000001 : Int32) d9_sheet_62 w_915 ?_
          obtain ⟨r8, s8, h8, hf⟩ := zbx hf
          refine z_callVi C (as := [zi (-1000000001 : Int32)]) d9_sheet_64 w_916 yy9_error (c9_error x.2.1 g h8) yc9_error kZ_103 rfl rfl (Nat.le_of_ble_eq_true rfl) ⟨Nat.le_of_ble_eq_true rfl, Nat.le_of_ble_eq_true rfl⟩ ⟨Nat.zero_le _, Nat.zero_le _⟩ ?_
          exact z_iret C d9_sheet_67 hf
    · have hf := zie c5 hf
      refine z_aload_n C d9_sheet_44 rfl ?_
      refine z_ldc C (-1000000003 : Int32) d9_sheet_45 w_930 ?_
      obtain ⟨r9, s9, h9, hf⟩ := zbx hf
      refine z_callVi C (as := [zi (-1000000003 : Int32)]) d9_sheet_47 w_916 yy9_error (c9_error x.2.1 g h9) yc9_error kZ_103 rfl rfl (Nat.le_of_ble_eq_true rfl) ⟨Nat.le_of_ble_eq_true rfl, Nat.le_of_ble_eq_true rfl⟩ ⟨Nat.zero_le _, Nat.zero_le _⟩ ?_
      exact z_iret C d9_sheet_50 hf
def f9_sheet (k : Nat) (x1 : Int32) (x2 : Int32) (x3 : Int32) (σ : ZS) : Option (Int32 × ZS) :=
  zbd (f9_isSheet k x1 σ) fun r1 s1 =>
  if r1 = 0 then (
  zbd (f9_error k (-1000000001 : Int32) s1) fun r3 s3 =>
  some (r3, s3))
  else (
  if x2 = 0 then (
  b9_sheet_36 k  x1 x2 x3 s1)
  else (
  if x2 = (8 : Int32) then (
  b9_sheet_36 k  x1 x2 x3 s1)
  else (
  if x2 = (16 : Int32) then (
  b9_sheet_36 k  x1 x2 x3 s1)
  else (
  if x2 = (32 : Int32) then (
  b9_sheet_36 k  x1 x2 x3 s1)
  else (
  zbd (f9_error k (-1000000001 : Int32) s1) fun r8 s8 =>
  some (r8, s8))))))
theorem c9_sheet (l : Launch) (g : ZG) {k : Nat} {x1 : Int32} {x2 : Int32} {x3 : Int32} {σ : ZS} {r : Int32} {σr : ZS} (hf : f9_sheet k x1 x2 x3 σ = some (r, σr)) : zT l g y9_sheet b9_sheet 5 (some .int) 3 102 [zr 103, zi x1, zi x2, zi x3] σ (some (zi r)) σr := by
  unfold f9_sheet at hf
  refine zT_start (own := R9) rfl (by decide +kernel) 1 (L := [some (zr 103), some (zi x1), some (zi x2), some (zi x3), none]) rfl rfl (fun x hl C => ?_)
  subst hl
  refine z_iload_n C d9_sheet_0 rfl ?_
  obtain ⟨r1, s1, h1, hf⟩ := zbx hf
  refine z_callSi C (as := [zi x1]) d9_sheet_1 w_1186 yy9_isSheet (c9_isSheet x.2.1 g h1) rfl rfl (Nat.le_of_ble_eq_true rfl) ⟨Nat.le_of_ble_eq_true rfl, Nat.le_of_ble_eq_true rfl⟩ ⟨Nat.zero_le _, Nat.zero_le _⟩ ?_
  refine z_if_eq C d9_sheet_4 (fun c2 => ?_) (fun c2 => ?_)
  · have hf := zit c2 hf
    refine z_aload_n C d9_sheet_29 rfl ?_
    refine z_ldc C (-1000000001 : Int32) d9_sheet_30 w_915 ?_
    obtain ⟨r3, s3, h3, hf⟩ := zbx hf
    refine z_callVi C (as := [zi (-1000000001 : Int32)]) d9_sheet_32 w_916 yy9_error (c9_error x.2.1 g h3) yc9_error kZ_103 rfl rfl (Nat.le_of_ble_eq_true rfl) ⟨Nat.le_of_ble_eq_true rfl, Nat.le_of_ble_eq_true rfl⟩ ⟨Nat.zero_le _, Nat.zero_le _⟩ ?_
    exact z_iret C d9_sheet_35 hf
  · have hf := zie c2 hf
    refine z_iload_n C d9_sheet_7 rfl ?_
    refine z_if_eq C d9_sheet_8 (fun c4 => ?_) (fun c4 => ?_)
    · have hf := zit c4 hf
      exact j9_sheet_36 C  hf
    · have hf := zie c4 hf
      refine z_iload_n C d9_sheet_11 rfl ?_
      refine z_bipush C (8 : Int32) d9_sheet_12 kB_8 ?_
      refine z_icmp_eq C d9_sheet_14 (fun c5 => ?_) (fun c5 => ?_)
      · have hf := zit c5 hf
        exact j9_sheet_36 C  hf
      · have hf := zie c5 hf
        refine z_iload_n C d9_sheet_17 rfl ?_
        refine z_bipush C (16 : Int32) d9_sheet_18 kB_16 ?_
        refine z_icmp_eq C d9_sheet_20 (fun c6 => ?_) (fun c6 => ?_)
        · have hf := zit c6 hf
          exact j9_sheet_36 C  hf
        · have hf := zie c6 hf
          refine z_iload_n C d9_sheet_23 rfl ?_
          refine z_bipush C (32 : Int32) d9_sheet_24 kB_32 ?_
          refine z_icmp_eq C d9_sheet_26 (fun c7 => ?_) (fun c7 => ?_)
          · have hf := zit c7 hf
            exact j9_sheet_36 C  hf
          · have hf := zie c7 hf
            refine z_aload_n C d9_sheet_29 rfl ?_
            refine z_ldc C (-1000000001 : Int32) d9_sheet_30 w_915 ?_
            obtain ⟨r8, s8, h8, hf⟩ := zbx hf
            refine z_callVi C (as := [zi (-1000000001 : Int32)]) d9_sheet_32 w_916 yy9_error (c9_error x.2.1 g h8) yc9_error kZ_103 rfl rfl (Nat.le_of_ble_eq_true rfl) ⟨Nat.le_of_ble_eq_true rfl, Nat.le_of_ble_eq_true rfl⟩ ⟨Nat.zero_le _, Nat.zero_le _⟩ ?_
            exact z_iret C d9_sheet_35 hf
theorem d9_spin_0 : zd b9_spin 0 (.aload_n 0) 1 1 := ⟨by decide +kernel, rfl⟩
theorem d9_spin_1 : zd b9_spin 1 (.iload_n 1) 1 2 := ⟨by decide +kernel, rfl⟩
theorem d9_spin_2 : zd b9_spin 2 (.invokevirtual 136) 3 5 := ⟨by decide +kernel, rfl⟩
theorem d9_spin_5 : zdb b9_spin 5 (.ifCond .eq 26) 26 8 31 := ⟨by decide +kernel, rfl, by decide⟩
theorem d9_spin_8 : zd b9_spin 8 (.iload_n 2) 1 9 := ⟨by decide +kernel, rfl⟩
theorem d9_spin_9 : zd b9_spin 9 (.invokestatic 127) 3 12 := ⟨by decide +kernel, rfl⟩
theorem d9_spin_12 : zdb b9_spin 12 (.ifCond .eq 19) 19 15 31 := ⟨by decide +kernel, rfl, by decide⟩
theorem d9_spin_15 : zd b9_spin 15 (.aload_n 0) 1 16 := ⟨by decide +kernel, rfl⟩
theorem d9_spin_16 : zd b9_spin 16 (.bipush 6) 2 18 := ⟨by decide +kernel, rfl⟩
theorem d9_spin_18 : zd b9_spin 18 (.iconst 5) 1 19 := ⟨by decide +kernel, rfl⟩
theorem d9_spin_19 : zd b9_spin 19 (.iload_n 1) 1 20 := ⟨by decide +kernel, rfl⟩
theorem d9_spin_20 : zd b9_spin 20 .imul 1 21 := ⟨by decide +kernel, rfl⟩
theorem d9_spin_21 : zd b9_spin 21 .iadd 1 22 := ⟨by decide +kernel, rfl⟩
theorem d9_spin_22 : zd b9_spin 22 (.iconst 3) 1 23 := ⟨by decide +kernel, rfl⟩
theorem d9_spin_23 : zd b9_spin 23 .iadd 1 24 := ⟨by decide +kernel, rfl⟩
theorem d9_spin_24 : zd b9_spin 24 (.iload_n 2) 1 25 := ⟨by decide +kernel, rfl⟩
theorem d9_spin_25 : zd b9_spin 25 (.invokevirtual 139) 3 28 := ⟨by decide +kernel, rfl⟩
theorem d9_spin_28 : zdb b9_spin 28 (.goto 9) 9 31 37 := ⟨by decide +kernel, rfl, by decide⟩
theorem d9_spin_31 : zd b9_spin 31 (.aload_n 0) 1 32 := ⟨by decide +kernel, rfl⟩
theorem d9_spin_32 : zd b9_spin 32 (.ldc 130) 2 34 := ⟨by decide +kernel, rfl⟩
theorem d9_spin_34 : zd b9_spin 34 (.invokevirtual 131) 3 37 := ⟨by decide +kernel, rfl⟩
theorem d9_spin_37 : zd b9_spin 37 .ireturn 1 38 := ⟨by decide +kernel, rfl⟩
def f9_spin (k : Nat) (x1 : Int32) (x2 : Int32) (σ : ZS) : Option (Int32 × ZS) :=
  zbd (f9_isGlass k x1 σ) fun r1 s1 =>
  if r1 = 0 then (
  zbd (f9_error k (-1000000001 : Int32) s1) fun r3 s3 =>
  some (r3, s3))
  else (
  zbd (f9_isFour k x2 s1) fun r4 s4 =>
  if r4 = 0 then (
  zbd (f9_error k (-1000000001 : Int32) s4) fun r6 s6 =>
  some (r6, s6))
  else (
  zbd (f9_becomes k (((6 : Int32) + ((5 : Int32) * x1)) + (3 : Int32)) x2 s4) fun r7 s7 =>
  some (r7, s7)))
theorem c9_spin (l : Launch) (g : ZG) {k : Nat} {x1 : Int32} {x2 : Int32} {σ : ZS} {r : Int32} {σr : ZS} (hf : f9_spin k x1 x2 σ = some (r, σr)) : zT l g y9_spin b9_spin 3 (some .int) 3 103 [zr 103, zi x1, zi x2] σ (some (zi r)) σr := by
  unfold f9_spin at hf
  refine zT_start (own := R9) rfl (by decide +kernel) 0 (L := [some (zr 103), some (zi x1), some (zi x2)]) rfl rfl (fun x hl C => ?_)
  subst hl
  refine z_aload_n C d9_spin_0 rfl ?_
  refine z_iload_n C d9_spin_1 rfl ?_
  obtain ⟨r1, s1, h1, hf⟩ := zbx hf
  refine z_callVi C (as := [zi x1]) d9_spin_2 w_935 yy9_isGlass (c9_isGlass x.2.1 g h1) yc9_isGlass kZ_103 rfl rfl (Nat.le_of_ble_eq_true rfl) ⟨Nat.le_of_ble_eq_true rfl, Nat.le_of_ble_eq_true rfl⟩ ⟨Nat.zero_le _, Nat.zero_le _⟩ ?_
  refine z_if_eq C d9_spin_5 (fun c2 => ?_) (fun c2 => ?_)
  · have hf := zit c2 hf
    refine z_aload_n C d9_spin_31 rfl ?_
    refine z_ldc C (-1000000001 : Int32) d9_spin_32 w_915 ?_
    obtain ⟨r3, s3, h3, hf⟩ := zbx hf
    refine z_callVi C (as := [zi (-1000000001 : Int32)]) d9_spin_34 w_916 yy9_error (c9_error x.2.1 g h3) yc9_error kZ_103 rfl rfl (Nat.le_of_ble_eq_true rfl) ⟨Nat.le_of_ble_eq_true rfl, Nat.le_of_ble_eq_true rfl⟩ ⟨Nat.zero_le _, Nat.zero_le _⟩ ?_
    exact z_iret C d9_spin_37 hf
  · have hf := zie c2 hf
    refine z_iload_n C d9_spin_8 rfl ?_
    obtain ⟨r4, s4, h4, hf⟩ := zbx hf
    refine z_callSi C (as := [zi x2]) d9_spin_9 w_912 yy9_isFour (c9_isFour x.2.1 g h4) rfl rfl (Nat.le_of_ble_eq_true rfl) ⟨Nat.le_of_ble_eq_true rfl, Nat.le_of_ble_eq_true rfl⟩ ⟨Nat.zero_le _, Nat.zero_le _⟩ ?_
    refine z_if_eq C d9_spin_12 (fun c5 => ?_) (fun c5 => ?_)
    · have hf := zit c5 hf
      refine z_aload_n C d9_spin_31 rfl ?_
      refine z_ldc C (-1000000001 : Int32) d9_spin_32 w_915 ?_
      obtain ⟨r6, s6, h6, hf⟩ := zbx hf
      refine z_callVi C (as := [zi (-1000000001 : Int32)]) d9_spin_34 w_916 yy9_error (c9_error x.2.1 g h6) yc9_error kZ_103 rfl rfl (Nat.le_of_ble_eq_true rfl) ⟨Nat.le_of_ble_eq_true rfl, Nat.le_of_ble_eq_true rfl⟩ ⟨Nat.zero_le _, Nat.zero_le _⟩ ?_
      exact z_iret C d9_spin_37 hf
    · have hf := zie c5 hf
      refine z_aload_n C d9_spin_15 rfl ?_
      refine z_bipush C (6 : Int32) d9_spin_16 kB_6 ?_
      refine z_iconst C (5 : Int32) d9_spin_18 kI_5 ?_
      refine z_iload_n C d9_spin_19 rfl ?_
      refine z_imul C d9_spin_20 ?_
      refine z_iadd C d9_spin_21 ?_
      refine z_iconst C (3 : Int32) d9_spin_22 kI_3 ?_
      refine z_iadd C d9_spin_23 ?_
      refine z_iload_n C d9_spin_24 rfl ?_
      obtain ⟨r7, s7, h7, hf⟩ := zbx hf
      refine z_callVi C (as := [zi (((6 : Int32) + ((5 : Int32) * x1)) + (3 : Int32)), zi x2]) d9_spin_25 w_961 yy9_becomes (c9_becomes x.2.1 g h7) yc9_becomes kZ_103 rfl rfl (Nat.le_of_ble_eq_true rfl) ⟨Nat.le_of_ble_eq_true rfl, Nat.le_of_ble_eq_true rfl⟩ ⟨Nat.zero_le _, Nat.zero_le _⟩ ?_
      refine z_goto C d9_spin_28 ?_
      exact z_iret C d9_spin_37 hf
