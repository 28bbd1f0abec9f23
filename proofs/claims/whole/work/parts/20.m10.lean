/-! methods, printed by wip/whole/gen: GlassTaxModel.spins, GlassTaxModel.stands, GlassTaxModel.stand, GlassTaxModel.starts, GlassTaxModel.tell, GlassTaxModel.text, GlassTaxModel.thinks, GlassTaxModel.then, GlassTaxModel.throwsOn, GlassTaxModel.told, GlassTaxModel.turnsOf, GlassTaxModel.untell, GlassTaxModel.voice -/
theorem d9_spins_0 : zd b9_spins 0 (.aload_n 0) 1 1 := ⟨by decide +kernel, rfl⟩
theorem d9_spins_1 : zd b9_spins 1 (.iload_n 1) 1 2 := ⟨by decide +kernel, rfl⟩
theorem d9_spins_2 : zd b9_spins 2 (.invokevirtual 143) 3 5 := ⟨by decide +kernel, rfl⟩
theorem d9_spins_5 : zdb b9_spins 5 (.ifCond .eq 19) 19 8 24 := ⟨by decide +kernel, rfl, by decide⟩
theorem d9_spins_8 : zd b9_spins 8 (.iload_n 2) 1 9 := ⟨by decide +kernel, rfl⟩
theorem d9_spins_9 : zd b9_spins 9 (.invokestatic 124) 3 12 := ⟨by decide +kernel, rfl⟩
theorem d9_spins_12 : zdb b9_spins 12 (.ifCond .eq 12) 12 15 24 := ⟨by decide +kernel, rfl, by decide⟩
theorem d9_spins_15 : zd b9_spins 15 (.iload_n 3) 1 16 := ⟨by decide +kernel, rfl⟩
theorem d9_spins_16 : zd b9_spins 16 (.iconst (-1)) 1 17 := ⟨by decide +kernel, rfl⟩
theorem d9_spins_17 : zd b9_spins 17 (.iconst 3) 1 18 := ⟨by decide +kernel, rfl⟩
theorem d9_spins_18 : zd b9_spins 18 (.invokestatic 56) 3 21 := ⟨by decide +kernel, rfl⟩
theorem d9_spins_21 : zdb b9_spins 21 (.ifCond .ne 10) 10 24 31 := ⟨by decide +kernel, rfl, by decide⟩
theorem d9_spins_24 : zd b9_spins 24 (.aload_n 0) 1 25 := ⟨by decide +kernel, rfl⟩
theorem d9_spins_25 : zd b9_spins 25 (.ldc 130) 2 27 := ⟨by decide +kernel, rfl⟩
theorem d9_spins_27 : zd b9_spins 27 (.invokevirtual 131) 3 30 := ⟨by decide +kernel, rfl⟩
theorem d9_spins_30 : zd b9_spins 30 .ireturn 1 31 := ⟨by decide +kernel, rfl⟩
theorem d9_spins_31 : zd b9_spins 31 (.iconst 0) 1 32 := ⟨by decide +kernel, rfl⟩
theorem d9_spins_32 : zd b9_spins 32 (.istore 4) 2 34 := ⟨by decide +kernel, rfl⟩
theorem d9_spins_34 : zd b9_spins 34 (.iload 4) 2 36 := ⟨by decide +kernel, rfl⟩
theorem d9_spins_36 : zd b9_spins 36 (.iconst 2) 1 37 := ⟨by decide +kernel, rfl⟩
theorem d9_spins_37 : zdb b9_spins 37 (.if_icmp .gt 66) 66 40 103 := ⟨by decide +kernel, rfl, by decide⟩
theorem d9_spins_40 : zd b9_spins 40 (.aload_n 0) 1 41 := ⟨by decide +kernel, rfl⟩
theorem d9_spins_41 : zd b9_spins 41 (.iload_n 1) 1 42 := ⟨by decide +kernel, rfl⟩
theorem d9_spins_42 : zd b9_spins 42 (.iload_n 2) 1 43 := ⟨by decide +kernel, rfl⟩
theorem d9_spins_43 : zd b9_spins 43 (.iload 4) 2 45 := ⟨by decide +kernel, rfl⟩
theorem d9_spins_45 : zd b9_spins 45 (.iconst 0) 1 46 := ⟨by decide +kernel, rfl⟩
theorem d9_spins_46 : zd b9_spins 46 (.invokevirtual 238) 3 49 := ⟨by decide +kernel, rfl⟩
theorem d9_spins_49 : zdb b9_spins 49 (.ifCond .eq 48) 48 52 97 := ⟨by decide +kernel, rfl, by decide⟩
theorem d9_spins_52 : zd b9_spins 52 (.iconst 2) 1 53 := ⟨by decide +kernel, rfl⟩
theorem d9_spins_53 : zd b9_spins 53 (.iload 4) 2 55 := ⟨by decide +kernel, rfl⟩
theorem d9_spins_55 : zd b9_spins 55 (.iconst 1) 1 56 := ⟨by decide +kernel, rfl⟩
theorem d9_spins_56 : zd b9_spins 56 .isub 1 57 := ⟨by decide +kernel, rfl⟩
theorem d9_spins_57 : zd b9_spins 57 (.iload_n 3) 1 58 := ⟨by decide +kernel, rfl⟩
theorem d9_spins_58 : zd b9_spins 58 (.iconst 2) 1 59 := ⟨by decide +kernel, rfl⟩
theorem d9_spins_59 : zd b9_spins 59 .idiv 1 60 := ⟨by decide +kernel, rfl⟩
theorem d9_spins_60 : zd b9_spins 60 .isub 1 61 := ⟨by decide +kernel, rfl⟩
theorem d9_spins_61 : zd b9_spins 61 .imul 1 62 := ⟨by decide +kernel, rfl⟩
theorem d9_spins_62 : zd b9_spins 62 (.iload_n 3) 1 63 := ⟨by decide +kernel, rfl⟩
theorem d9_spins_63 : zd b9_spins 63 (.iconst 2) 1 64 := ⟨by decide +kernel, rfl⟩
theorem d9_spins_64 : zd b9_spins 64 .irem 1 65 := ⟨by decide +kernel, rfl⟩
theorem d9_spins_65 : zd b9_spins 65 .iadd 1 66 := ⟨by decide +kernel, rfl⟩
theorem d9_spins_66 : zd b9_spins 66 (.istore 5) 2 68 := ⟨by decide +kernel, rfl⟩
theorem d9_spins_68 : zd b9_spins 68 (.iload_n 3) 1 69 := ⟨by decide +kernel, rfl⟩
theorem d9_spins_69 : zdb b9_spins 69 (.ifCond .ge 8) 8 72 77 := ⟨by decide +kernel, rfl, by decide⟩
theorem d9_spins_72 : zd b9_spins 72 (.iload 4) 2 74 := ⟨by decide +kernel, rfl⟩
theorem d9_spins_74 : zdb b9_spins 74 (.goto 22) 22 77 96 := ⟨by decide +kernel, rfl, by decide⟩
theorem d9_spins_77 : zd b9_spins 77 (.iload_n 3) 1 78 := ⟨by decide +kernel, rfl⟩
theorem d9_spins_78 : zd b9_spins 78 (.iconst 2) 1 79 := ⟨by decide +kernel, rfl⟩
theorem d9_spins_79 : zd b9_spins 79 (.iload 4) 2 81 := ⟨by decide +kernel, rfl⟩
theorem d9_spins_81 : zd b9_spins 81 .imul 1 82 := ⟨by decide +kernel, rfl⟩
theorem d9_spins_82 : zdb b9_spins 82 (.if_icmp .lt 7) 7 85 89 := ⟨by decide +kernel, rfl, by decide⟩
theorem d9_spins_85 : zd b9_spins 85 (.iconst (-1)) 1 86 := ⟨by decide +kernel, rfl⟩
theorem d9_spins_86 : zdb b9_spins 86 (.goto 10) 10 89 96 := ⟨by decide +kernel, rfl, by decide⟩
theorem d9_spins_89 : zd b9_spins 89 (.aload_n 0) 1 90 := ⟨by decide +kernel, rfl⟩
theorem d9_spins_90 : zd b9_spins 90 (.getfield 49) 3 93 := ⟨by decide +kernel, rfl⟩
theorem d9_spins_93 : zd b9_spins 93 (.iload 5) 2 95 := ⟨by decide +kernel, rfl⟩
theorem d9_spins_95 : zd b9_spins 95 .iaload 1 96 := ⟨by decide +kernel, rfl⟩
theorem d9_spins_96 : zd b9_spins 96 .ireturn 1 97 := ⟨by decide +kernel, rfl⟩
theorem d9_spins_97 : zd b9_spins 97 (.iinc 4 1) 3 100 := ⟨by decide +kernel, rfl⟩
theorem d9_spins_100 : zdb b9_spins 100 (.goto (-66)) (-66) 103 34 := ⟨by decide +kernel, rfl, by decide⟩
theorem d9_spins_103 : zd b9_spins 103 (.aload_n 0) 1 104 := ⟨by decide +kernel, rfl⟩
theorem d9_spins_104 : zd b9_spins 104 (.ldc 220) 2 106 := ⟨by decide +kernel, rfl⟩
theorem d9_spins_106 : zd b9_spins 106 (.invokevirtual 131) 3 109 := ⟨by decide +kernel, rfl⟩
theorem d9_spins_109 : zd b9_spins 109 .ireturn 1 110 := ⟨by decide +kernel, rfl⟩
def b9_spins_34 (k : Nat) (q34 : Int32 → Int32 → Int32 → Int32 → ZS → Option (Int32 × ZS)) (x1 : Int32) (x2 : Int32) (x3 : Int32) (x4 : Int32) (σ : ZS) : Option (Int32 × ZS) :=
  if (2 : Int32) < x4 then (
  zbd (f9_error k (-1000000002 : Int32) σ) fun r2 s2 =>
  some (r2, s2))
  else (
  zbd (f9_canSeex k x1 x2 x4 (0 : Int32) σ) fun r3 s3 =>
  if r3 = 0 then (
  q34 x1 x2 x3 (x4 + (1 : Int32)) s3)
  else (
  if 0 ≤ x3 then (
  if x3 < ((2 : Int32) * x4) then (
  if zin (((2 : Int32) * ((x4 - (1 : Int32)) - (x3 / (2 : Int32)))) + (x3 % (2 : Int32))) 4 then (
  some ((s3 117 (((2 : Int32) * ((x4 - (1 : Int32)) - (x3 / (2 : Int32)))) + (x3 % (2 : Int32))).toNatClampNeg), s3)) else none)
  else (
  some ((-1 : Int32), s3)))
  else (
  some (x4, s3))))
def f9_spins_34 (k : Nat) : Nat → Int32 → Int32 → Int32 → Int32 → ZS → Option (Int32 × ZS)
  | 0 => fun _ _ _ _ _ => none
  | n + 1 => b9_spins_34 k  (f9_spins_34 k  n)
theorem j9_spins_34 {x : ZX} {g : ZG} (C : zC x g b9_spins R9 (some .int) 6 15 419) {k : Nat} {r : Int32} {σr : ZS}  {q34 : Int32 → Int32 → Int32 → Int32 → ZS → Option (Int32 × ZS)} (hq34 : (∀ (x1 : Int32) (x2 : Int32) (x3 : Int32) (x4 : Int32) (σ : ZS), q34 x1 x2 x3 x4 σ = some (r, σr) → zw x g 6 0 0 (zMQ x g (some (zi r)) σr) σ 34 [some (zr 103), some (zi x1), some (zi x2), some (zi x3), some (zi x4), none] [])) {x1 : Int32} {x2 : Int32} {x3 : Int32} {x4 : Int32} {σ : ZS} (hf : b9_spins_34 k q34 x1 x2 x3 x4 σ = some (r, σr)) : zw x g 6 0 0 (zMQ x g (some (zi r)) σr) σ 34 [some (zr 103), some (zi x1), some (zi x2), some (zi x3), some (zi x4), none] [] := by
  unfold b9_spins_34 at hf
  refine z_iload C d9_spins_34 rfl ?_
  refine z_iconst C (2 : Int32) d9_spins_36 kI_2 ?_
  refine z_icmp_gt C d9_spins_37 (fun c1 => ?_) (fun c1 => ?_)
  · have hf := zit c1 hf
    refine z_aload_n C d9_spins_103 rfl ?_
    refine z_ldc C (-1000000002 : Int32) d9_spins_104 w_1134 ?_
    obtain ⟨r2, s2, h2, hf⟩ := zbx hf
    refine z_callVi C (as := [zi (-1000000002 : Int32)]) d9_spins_106 w_916 yy9_error (c9_error x.2.1 g h2) yc9_error kZ_103 rfl rfl (Nat.le_of_ble_eq_true rfl) ⟨Nat.le_of_ble_eq_true rfl, Nat.le_of_ble_eq_true rfl⟩ ⟨Nat.zero_le _, Nat.zero_le _⟩ ?_
    exact z_iret C d9_spins_109 hf
  · have hf := zie c1 hf
    refine z_aload_n C d9_spins_40 rfl ?_
    refine z_iload_n C d9_spins_41 rfl ?_
    refine z_iload_n C d9_spins_42 rfl ?_
    refine z_iload C d9_spins_43 rfl ?_
    refine z_iconst C (0 : Int32) d9_spins_45 kI_0 ?_
    obtain ⟨r3, s3, h3, hf⟩ := zbx hf
    refine z_callVi C (as := [zi x1, zi x2, zi x4, zi (0 : Int32)]) d9_spins_46 w_1170 yy9_canSee (c9_canSeex x.2.1 g h3) yc9_canSee kZ_103 rfl rfl (Nat.le_of_ble_eq_true rfl) ⟨Nat.le_of_ble_eq_true rfl, Nat.le_of_ble_eq_true rfl⟩ ⟨Nat.zero_le _, Nat.zero_le _⟩ ?_
    refine z_if_eq C d9_spins_49 (fun c4 => ?_) (fun c4 => ?_)
    · have hf := zit c4 hf
      refine z_iinc C d9_spins_97 rfl kI_1 (Nat.le_of_ble_eq_true rfl) rfl (L' := [some (zr 103), some (zi x1), some (zi x2), some (zi x3), some (zi (x4 + (1 : Int32))), none]) rfl ?_
      refine z_goto C d9_spins_100 ?_
      exact hq34 _ _ _ _ _ hf
    · have hf := zie c4 hf
      refine z_iconst C (2 : Int32) d9_spins_52 kI_2 ?_
      refine z_iload C d9_spins_53 rfl ?_
      refine z_iconst C (1 : Int32) d9_spins_55 kI_1 ?_
      refine z_isub C d9_spins_56 ?_
      refine z_iload_n C d9_spins_57 rfl ?_
      refine z_iconst C (2 : Int32) d9_spins_58 kI_2 ?_
      refine z_idiv C d9_spins_59 (by decide) ?_
      refine z_isub C d9_spins_60 ?_
      refine z_imul C d9_spins_61 ?_
      refine z_iload_n C d9_spins_62 rfl ?_
      refine z_iconst C (2 : Int32) d9_spins_63 kI_2 ?_
      refine z_irem C d9_spins_64 (by decide) ?_
      refine z_iadd C d9_spins_65 ?_
      refine z_istore C d9_spins_66 (Nat.le_of_ble_eq_true rfl) rfl (L' := [some (zr 103), some (zi x1), some (zi x2), some (zi x3), some (zi x4), some (zi (((2 : Int32) * ((x4 - (1 : Int32)) - (x3 / (2 : Int32)))) + (x3 % (2 : Int32))))]) rfl ?_
      refine z_iload_n C d9_spins_68 rfl ?_
      refine z_if_ge C d9_spins_69 (fun c5 => ?_) (fun c5 => ?_)
      · have hf := zit c5 hf
        refine z_iload_n C d9_spins_77 rfl ?_
        refine z_iconst C (2 : Int32) d9_spins_78 kI_2 ?_
        refine z_iload C d9_spins_79 rfl ?_
        refine z_imul C d9_spins_81 ?_
        refine z_icmp_lt C d9_spins_82 (fun c6 => ?_) (fun c6 => ?_)
        · have hf := zit c6 hf
          refine z_aload_n C d9_spins_89 rfl ?_
          refine z_getR C d9_spins_90 fl_840 kZ_103 117 rfl (zn0 kZ_117) ?_
          refine z_iload C d9_spins_93 rfl ?_
          obtain ⟨g7, hf⟩ := zgo hf
          refine z_iald C d9_spins_95 kZ_117 kL_117 g7 ((((2 : Int32) * ((x4 - (1 : Int32)) - (x3 / (2 : Int32)))) + (x3 % (2 : Int32))).toNatClampNeg) rfl ?_
          exact z_iret C d9_spins_96 hf
        · have hf := zie c6 hf
          refine z_iconst C (-1 : Int32) d9_spins_85 kI_m1 ?_
          refine z_goto C d9_spins_86 ?_
          exact z_iret C d9_spins_96 hf
      · have hf := zie c5 hf
        refine z_iload C d9_spins_72 rfl ?_
        refine z_goto C d9_spins_74 ?_
        exact z_iret C d9_spins_96 hf
theorem j9_spins_34l {x : ZX} {g : ZG} (C : zC x g b9_spins R9 (some .int) 6 15 419) {k : Nat} {r : Int32} {σr : ZS}  : ∀ (n : Nat) (x1 : Int32) (x2 : Int32) (x3 : Int32) (x4 : Int32) (σ : ZS), f9_spins_34 k  n x1 x2 x3 x4 σ = some (r, σr) → zw x g 6 0 0 (zMQ x g (some (zi r)) σr) σ 34 [some (zr 103), some (zi x1), some (zi x2), some (zi x3), some (zi x4), none] [] := by
  intro n
  induction n with
  | zero => intro x1 x2 x3 x4 σ hf; exact absurd (show none = some (r, σr) from hf) (fun z => by cases z)
  | succ n ih => intro x1 x2 x3 x4 σ hf; exact j9_spins_34 C  ih (show b9_spins_34 k  (f9_spins_34 k  n) x1 x2 x3 x4 σ = some (r, σr) from hf)
def f9_spins (k : Nat) (x1 : Int32) (x2 : Int32) (x3 : Int32) (σ : ZS) : Option (Int32 × ZS) :=
  zbd (f9_isPerson k x1 σ) fun r1 s1 =>
  if r1 = 0 then (
  zbd (f9_error k (-1000000001 : Int32) s1) fun r3 s3 =>
  some (r3, s3))
  else (
  zbd (f9_isCell k x2 s1) fun r4 s4 =>
  if r4 = 0 then (
  zbd (f9_error k (-1000000001 : Int32) s4) fun r6 s6 =>
  some (r6, s6))
  else (
  zbd (f9_in k x3 (-1 : Int32) (3 : Int32) s4) fun r7 s7 =>
  if r7 = 0 then (
  zbd (f9_error k (-1000000001 : Int32) s7) fun r9 s9 =>
  some (r9, s9))
  else (
  f9_spins_34 k  k x1 x2 x3 (0 : Int32) s7)))
theorem c9_spins (l : Launch) (g : ZG) {k : Nat} {x1 : Int32} {x2 : Int32} {x3 : Int32} {σ : ZS} {r : Int32} {σr : ZS} (hf : f9_spins k x1 x2 x3 σ = some (r, σr)) : zT l g y9_spins b9_spins 6 (some .int) 15 419 [zr 103, zi x1, zi x2, zi x3] σ (some (zi r)) σr := by
  unfold f9_spins at hf
  refine zT_start (own := R9) rfl (by decide +kernel) 2 (L := [some (zr 103), some (zi x1), some (zi x2), some (zi x3), none, none]) rfl rfl (fun x hl C => ?_)
  subst hl
  refine z_aload_n C d9_spins_0 rfl ?_
  refine z_iload_n C d9_spins_1 rfl ?_
  obtain ⟨r1, s1, h1, hf⟩ := zbx hf
  refine z_callVi C (as := [zi x1]) d9_spins_2 w_986 yy9_isPerson (c9_isPerson x.2.1 g h1) yc9_isPerson kZ_103 rfl rfl (Nat.le_of_ble_eq_true rfl) ⟨Nat.le_of_ble_eq_true rfl, Nat.le_of_ble_eq_true rfl⟩ ⟨Nat.zero_le _, Nat.zero_le _⟩ ?_
  refine z_if_eq C d9_spins_5 (fun c2 => ?_) (fun c2 => ?_)
  · have hf := zit c2 hf
    refine z_aload_n C d9_spins_24 rfl ?_
    refine z_ldc C (-1000000001 : Int32) d9_spins_25 w_915 ?_
    obtain ⟨r3, s3, h3, hf⟩ := zbx hf
    refine z_callVi C (as := [zi (-1000000001 : Int32)]) d9_spins_27 w_916 yy9_error (c9_error x.2.1 g h3) yc9_error kZ_103 rfl rfl (Nat.le_of_ble_eq_true rfl) ⟨Nat.le_of_ble_eq_true rfl, Nat.le_of_ble_eq_true rfl⟩ ⟨Nat.zero_le _, Nat.zero_le _⟩ ?_
    exact z_iret C d9_spins_30 hf
  · have hf := zie c2 hf
    refine z_iload_n C d9_spins_8 rfl ?_
    obtain ⟨r4, s4, h4, hf⟩ := zbx hf
    refine z_callSi C (as := [zi x2]) d9_spins_9 w_909 yy9_isCell (c9_isCell x.2.1 g h4) rfl rfl (Nat.le_of_ble_eq_true rfl) ⟨Nat.le_of_ble_eq_true rfl, Nat.le_of_ble_eq_true rfl⟩ ⟨Nat.zero_le _, Nat.zero_le _⟩ ?_
    refine z_if_eq C d9_spins_12 (fun c5 => ?_) (fun c5 => ?_)
    · have hf := zit c5 hf
      refine z_aload_n C d9_spins_24 rfl ?_
      refine z_ldc C (-1000000001 : Int32) d9_spins_25 w_915 ?_
      obtain ⟨r6, s6, h6, hf⟩ := zbx hf
      refine z_callVi C (as := [zi (-1000000001 : Int32)]) d9_spins_27 w_916 yy9_error (c9_error x.2.1 g h6) yc9_error kZ_103 rfl rfl (Nat.le_of_ble_eq_true rfl) ⟨Nat.le_of_ble_eq_true rfl, Nat.le_of_ble_eq_true rfl⟩ ⟨Nat.zero_le _, Nat.zero_le _⟩ ?_
      exact z_iret C d9_spins_30 hf
    · have hf := zie c5 hf
      refine z_iload_n C d9_spins_15 rfl ?_
      refine z_iconst C (-1 : Int32) d9_spins_16 kI_m1 ?_
      refine z_iconst C (3 : Int32) d9_spins_17 kI_3 ?_
      obtain ⟨r7, s7, h7, hf⟩ := zbx hf
      refine z_callSi C (as := [zi x3, zi (-1 : Int32), zi (3 : Int32)]) d9_spins_18 w_906 yy9_in (c9_in x.2.1 g h7) rfl rfl (Nat.le_of_ble_eq_true rfl) ⟨Nat.le_of_ble_eq_true rfl, Nat.le_of_ble_eq_true rfl⟩ ⟨Nat.zero_le _, Nat.zero_le _⟩ ?_
      refine z_if_ne C d9_spins_21 (fun c8 => ?_) (fun c8 => ?_)
      · have hf := zit c8 hf
        refine z_aload_n C d9_spins_24 rfl ?_
        refine z_ldc C (-1000000001 : Int32) d9_spins_25 w_915 ?_
        obtain ⟨r9, s9, h9, hf⟩ := zbx hf
        refine z_callVi C (as := [zi (-1000000001 : Int32)]) d9_spins_27 w_916 yy9_error (c9_error x.2.1 g h9) yc9_error kZ_103 rfl rfl (Nat.le_of_ble_eq_true rfl) ⟨Nat.le_of_ble_eq_true rfl, Nat.le_of_ble_eq_true rfl⟩ ⟨Nat.zero_le _, Nat.zero_le _⟩ ?_
        exact z_iret C d9_spins_30 hf
      · have hf := zie c8 hf
        refine z_iconst C (0 : Int32) d9_spins_31 kI_0 ?_
        refine z_istore C d9_spins_32 (Nat.le_of_ble_eq_true rfl) rfl (L' := [some (zr 103), some (zi x1), some (zi x2), some (zi x3), some (zi (0 : Int32)), none]) rfl ?_
        exact j9_spins_34l C  _ _ _ _ _ _ hf
theorem d9_stands_0 : zd b9_stands 0 (.iconst 4) 1 1 := ⟨by decide +kernel, rfl⟩
theorem d9_stands_1 : zd b9_stands 1 (.aload_n 0) 1 2 := ⟨by decide +kernel, rfl⟩
theorem d9_stands_2 : zd b9_stands 2 (.iload_n 1) 1 3 := ⟨by decide +kernel, rfl⟩
theorem d9_stands_3 : zd b9_stands 3 (.iconst 0) 1 4 := ⟨by decide +kernel, rfl⟩
theorem d9_stands_4 : zd b9_stands 4 (.invokevirtual 109) 3 7 := ⟨by decide +kernel, rfl⟩
theorem d9_stands_7 : zd b9_stands 7 .imul 1 8 := ⟨by decide +kernel, rfl⟩
theorem d9_stands_8 : zd b9_stands 8 (.aload_n 0) 1 9 := ⟨by decide +kernel, rfl⟩
theorem d9_stands_9 : zd b9_stands 9 (.iload_n 1) 1 10 := ⟨by decide +kernel, rfl⟩
theorem d9_stands_10 : zd b9_stands 10 (.iconst 1) 1 11 := ⟨by decide +kernel, rfl⟩
theorem d9_stands_11 : zd b9_stands 11 (.invokevirtual 109) 3 14 := ⟨by decide +kernel, rfl⟩
theorem d9_stands_14 : zd b9_stands 14 .iadd 1 15 := ⟨by decide +kernel, rfl⟩
theorem d9_stands_15 : zd b9_stands 15 (.istore 4) 2 17 := ⟨by decide +kernel, rfl⟩
theorem d9_stands_17 : zd b9_stands 17 (.aload_n 0) 1 18 := ⟨by decide +kernel, rfl⟩
theorem d9_stands_18 : zd b9_stands 18 (.getfield 9) 3 21 := ⟨by decide +kernel, rfl⟩
theorem d9_stands_21 : zd b9_stands 21 (.bipush 46) 2 23 := ⟨by decide +kernel, rfl⟩
theorem d9_stands_23 : zd b9_stands 23 (.iconst 3) 1 24 := ⟨by decide +kernel, rfl⟩
theorem d9_stands_24 : zd b9_stands 24 (.iload_n 1) 1 25 := ⟨by decide +kernel, rfl⟩
theorem d9_stands_25 : zd b9_stands 25 .imul 1 26 := ⟨by decide +kernel, rfl⟩
theorem d9_stands_26 : zd b9_stands 26 .iadd 1 27 := ⟨by decide +kernel, rfl⟩
theorem d9_stands_27 : zd b9_stands 27 (.iload_n 2) 1 28 := ⟨by decide +kernel, rfl⟩
theorem d9_stands_28 : zd b9_stands 28 .iastore 1 29 := ⟨by decide +kernel, rfl⟩
theorem d9_stands_29 : zd b9_stands 29 (.aload_n 0) 1 30 := ⟨by decide +kernel, rfl⟩
theorem d9_stands_30 : zd b9_stands 30 (.getfield 9) 3 33 := ⟨by decide +kernel, rfl⟩
theorem d9_stands_33 : zd b9_stands 33 (.bipush 46) 2 35 := ⟨by decide +kernel, rfl⟩
theorem d9_stands_35 : zd b9_stands 35 (.iconst 3) 1 36 := ⟨by decide +kernel, rfl⟩
theorem d9_stands_36 : zd b9_stands 36 (.iload_n 1) 1 37 := ⟨by decide +kernel, rfl⟩
theorem d9_stands_37 : zd b9_stands 37 .imul 1 38 := ⟨by decide +kernel, rfl⟩
theorem d9_stands_38 : zd b9_stands 38 .iadd 1 39 := ⟨by decide +kernel, rfl⟩
theorem d9_stands_39 : zd b9_stands 39 (.iconst 1) 1 40 := ⟨by decide +kernel, rfl⟩
theorem d9_stands_40 : zd b9_stands 40 .iadd 1 41 := ⟨by decide +kernel, rfl⟩
theorem d9_stands_41 : zd b9_stands 41 (.iload_n 3) 1 42 := ⟨by decide +kernel, rfl⟩
theorem d9_stands_42 : zd b9_stands 42 .iastore 1 43 := ⟨by decide +kernel, rfl⟩
theorem d9_stands_43 : zd b9_stands 43 (.iload 4) 2 45 := ⟨by decide +kernel, rfl⟩
theorem d9_stands_45 : zd b9_stands 45 .ireturn 1 46 := ⟨by decide +kernel, rfl⟩
def f9_stands (k : Nat) (x1 : Int32) (x2 : Int32) (x3 : Int32) (σ : ZS) : Option (Int32 × ZS) :=
  zbd (f9_about k x1 (0 : Int32) σ) fun r1 s1 =>
  zbd (f9_about k x1 (1 : Int32) s1) fun r2 s2 =>
  if zin ((46 : Int32) + ((3 : Int32) * x1)) 390 then (
  zput (zu s2 104 (((46 : Int32) + ((3 : Int32) * x1)).toNatClampNeg) x2) fun s4 =>
  if zin (((46 : Int32) + ((3 : Int32) * x1)) + (1 : Int32)) 390 then (
  zput (zu s4 104 ((((46 : Int32) + ((3 : Int32) * x1)) + (1 : Int32)).toNatClampNeg) x3) fun s6 =>
  some ((((4 : Int32) * r1) + r2), s6)) else none) else none
theorem c9_stands (l : Launch) (g : ZG) {k : Nat} {x1 : Int32} {x2 : Int32} {x3 : Int32} {σ : ZS} {r : Int32} {σr : ZS} (hf : f9_stands k x1 x2 x3 σ = some (r, σr)) : zT l g y9_stands b9_stands 5 (some .int) 2 82 [zr 103, zi x1, zi x2, zi x3] σ (some (zi r)) σr := by
  unfold f9_stands at hf
  refine zT_start (own := R9) rfl (by decide +kernel) 1 (L := [some (zr 103), some (zi x1), some (zi x2), some (zi x3), none]) rfl rfl (fun x hl C => ?_)
  subst hl
  refine z_iconst C (4 : Int32) d9_stands_0 kI_4 ?_
  refine z_aload_n C d9_stands_1 rfl ?_
  refine z_iload_n C d9_stands_2 rfl ?_
  refine z_iconst C (0 : Int32) d9_stands_3 kI_0 ?_
  obtain ⟨r1, s1, h1, hf⟩ := zbx hf
  refine z_callVi C (as := [zi x1, zi (0 : Int32)]) d9_stands_4 w_990 yy9_about (c9_about x.2.1 g h1) yc9_about kZ_103 rfl rfl (Nat.le_of_ble_eq_true rfl) ⟨Nat.le_of_ble_eq_true rfl, Nat.le_of_ble_eq_true rfl⟩ ⟨Nat.zero_le _, Nat.zero_le _⟩ ?_
  refine z_imul C d9_stands_7 ?_
  refine z_aload_n C d9_stands_8 rfl ?_
  refine z_iload_n C d9_stands_9 rfl ?_
  refine z_iconst C (1 : Int32) d9_stands_10 kI_1 ?_
  obtain ⟨r2, s2, h2, hf⟩ := zbx hf
  refine z_callVi C (as := [zi x1, zi (1 : Int32)]) d9_stands_11 w_990 yy9_about (c9_about x.2.1 g h2) yc9_about kZ_103 rfl rfl (Nat.le_of_ble_eq_true rfl) ⟨Nat.le_of_ble_eq_true rfl, Nat.le_of_ble_eq_true rfl⟩ ⟨Nat.zero_le _, Nat.zero_le _⟩ ?_
  refine z_iadd C d9_stands_14 ?_
  refine z_istore C d9_stands_15 (Nat.le_of_ble_eq_true rfl) rfl (L' := [some (zr 103), some (zi x1), some (zi x2), some (zi x3), some (zi (((4 : Int32) * r1) + r2))]) rfl ?_
  refine z_aload_n C d9_stands_17 rfl ?_
  refine z_getR C d9_stands_18 fl_817 kZ_103 104 rfl (zn0 kZ_104) ?_
  refine z_bipush C (46 : Int32) d9_stands_21 kB_46 ?_
  refine z_iconst C (3 : Int32) d9_stands_23 kI_3 ?_
  refine z_iload_n C d9_stands_24 rfl ?_
  refine z_imul C d9_stands_25 ?_
  refine z_iadd C d9_stands_26 ?_
  refine z_iload_n C d9_stands_27 rfl ?_
  obtain ⟨g3, hf⟩ := zgo hf
  obtain ⟨s4, e4, hf⟩ := zpx hf
  refine z_iast C d9_stands_28 kZ_104 kL_104 g3 rfl e4 ?_
  refine z_aload_n C d9_stands_29 rfl ?_
  refine z_getR C d9_stands_30 fl_817 kZ_103 104 rfl (zn0 kZ_104) ?_
  refine z_bipush C (46 : Int32) d9_stands_33 kB_46 ?_
  refine z_iconst C (3 : Int32) d9_stands_35 kI_3 ?_
  refine z_iload_n C d9_stands_36 rfl ?_
  refine z_imul C d9_stands_37 ?_
  refine z_iadd C d9_stands_38 ?_
  refine z_iconst C (1 : Int32) d9_stands_39 kI_1 ?_
  refine z_iadd C d9_stands_40 ?_
  refine z_iload_n C d9_stands_41 rfl ?_
  obtain ⟨g5, hf⟩ := zgo hf
  obtain ⟨s6, e6, hf⟩ := zpx hf
  refine z_iast C d9_stands_42 kZ_104 kL_104 g5 rfl e6 ?_
  refine z_iload C d9_stands_43 rfl ?_
  exact z_iret C d9_stands_45 hf
theorem d9_stand_0 : zd b9_stand 0 (.aload_n 0) 1 1 := ⟨by decide +kernel, rfl⟩
theorem d9_stand_1 : zd b9_stand 1 (.iload_n 1) 1 2 := ⟨by decide +kernel, rfl⟩
theorem d9_stand_2 : zd b9_stand 2 (.invokevirtual 143) 3 5 := ⟨by decide +kernel, rfl⟩
theorem d9_stand_5 : zdb b9_stand 5 (.ifCond .eq 27) 27 8 32 := ⟨by decide +kernel, rfl, by decide⟩
theorem d9_stand_8 : zd b9_stand 8 (.iload_n 2) 1 9 := ⟨by decide +kernel, rfl⟩
theorem d9_stand_9 : zd b9_stand 9 (.invokestatic 124) 3 12 := ⟨by decide +kernel, rfl⟩
theorem d9_stand_12 : zdb b9_stand 12 (.ifCond .eq 20) 20 15 32 := ⟨by decide +kernel, rfl, by decide⟩
theorem d9_stand_15 : zd b9_stand 15 (.iload_n 3) 1 16 := ⟨by decide +kernel, rfl⟩
theorem d9_stand_16 : zd b9_stand 16 (.invokestatic 127) 3 19 := ⟨by decide +kernel, rfl⟩
theorem d9_stand_19 : zdb b9_stand 19 (.ifCond .eq 13) 13 22 32 := ⟨by decide +kernel, rfl, by decide⟩
theorem d9_stand_22 : zd b9_stand 22 (.aload_n 0) 1 23 := ⟨by decide +kernel, rfl⟩
theorem d9_stand_23 : zd b9_stand 23 (.iload_n 1) 1 24 := ⟨by decide +kernel, rfl⟩
theorem d9_stand_24 : zd b9_stand 24 (.iload_n 2) 1 25 := ⟨by decide +kernel, rfl⟩
theorem d9_stand_25 : zd b9_stand 25 (.iload_n 3) 1 26 := ⟨by decide +kernel, rfl⟩
theorem d9_stand_26 : zd b9_stand 26 (.invokevirtual 149) 3 29 := ⟨by decide +kernel, rfl⟩
theorem d9_stand_29 : zdb b9_stand 29 (.goto 9) 9 32 38 := ⟨by decide +kernel, rfl, by decide⟩
theorem d9_stand_32 : zd b9_stand 32 (.aload_n 0) 1 33 := ⟨by decide +kernel, rfl⟩
theorem d9_stand_33 : zd b9_stand 33 (.ldc 130) 2 35 := ⟨by decide +kernel, rfl⟩
theorem d9_stand_35 : zd b9_stand 35 (.invokevirtual 131) 3 38 := ⟨by decide +kernel, rfl⟩
theorem d9_stand_38 : zd b9_stand 38 .ireturn 1 39 := ⟨by decide +kernel, rfl⟩
def f9_stand (k : Nat) (x1 : Int32) (x2 : Int32) (x3 : Int32) (σ : ZS) : Option (Int32 × ZS) :=
  zbd (f9_isPerson k x1 σ) fun r1 s1 =>
  if r1 = 0 then (
  zbd (f9_error k (-1000000001 : Int32) s1) fun r3 s3 =>
  some (r3, s3))
  else (
  zbd (f9_isCell k x2 s1) fun r4 s4 =>
  if r4 = 0 then (
  zbd (f9_error k (-1000000001 : Int32) s4) fun r6 s6 =>
  some (r6, s6))
  else (
  zbd (f9_isFour k x3 s4) fun r7 s7 =>
  if r7 = 0 then (
  zbd (f9_error k (-1000000001 : Int32) s7) fun r9 s9 =>
  some (r9, s9))
  else (
  zbd (f9_stands k x1 x2 x3 s7) fun r10 s10 =>
  some (r10, s10))))
theorem c9_stand (l : Launch) (g : ZG) {k : Nat} {x1 : Int32} {x2 : Int32} {x3 : Int32} {σ : ZS} {r : Int32} {σr : ZS} (hf : f9_stand k x1 x2 x3 σ = some (r, σr)) : zT l g y9_stand b9_stand 4 (some .int) 3 106 [zr 103, zi x1, zi x2, zi x3] σ (some (zi r)) σr := by
  unfold f9_stand at hf
  refine zT_start (own := R9) rfl (by decide +kernel) 0 (L := [some (zr 103), some (zi x1), some (zi x2), some (zi x3)]) rfl rfl (fun x hl C => ?_)
  subst hl
  refine z_aload_n C d9_stand_0 rfl ?_
  refine z_iload_n C d9_stand_1 rfl ?_
  obtain ⟨r1, s1, h1, hf⟩ := zbx hf
  refine z_callVi C (as := [zi x1]) d9_stand_2 w_986 yy9_isPerson (c9_isPerson x.2.1 g h1) yc9_isPerson kZ_103 rfl rfl (Nat.le_of_ble_eq_true rfl) ⟨Nat.le_of_ble_eq_true rfl, Nat.le_of_ble_eq_true rfl⟩ ⟨Nat.zero_le _, Nat.zero_le _⟩ ?_
  refine z_if_eq C d9_stand_5 (fun c2 => ?_) (fun c2 => ?_)
  · have hf := zit c2 hf
    refine z_aload_n C d9_stand_32 rfl ?_
    refine z_ldc C (-1000000001 : Int32) d9_stand_33 w_915 ?_
    obtain ⟨r3, s3, h3, hf⟩ := zbx hf
    refine z_callVi C (as := [zi (-1000000001 : Int32)]) d9_stand_35 w_916 yy9_error (c9_error x.2.1 g h3) yc9_error kZ_103 rfl rfl (Nat.le_of_ble_eq_true rfl) ⟨Nat.le_of_ble_eq_true rfl, Nat.le_of_ble_eq_true rfl⟩ ⟨Nat.zero_le _, Nat.zero_le _⟩ ?_
    exact z_iret C d9_stand_38 hf
  · have hf := zie c2 hf
    refine z_iload_n C d9_stand_8 rfl ?_
    obtain ⟨r4, s4, h4, hf⟩ := zbx hf
    refine z_callSi C (as := [zi x2]) d9_stand_9 w_909 yy9_isCell (c9_isCell x.2.1 g h4) rfl rfl (Nat.le_of_ble_eq_true rfl) ⟨Nat.le_of_ble_eq_true rfl, Nat.le_of_ble_eq_true rfl⟩ ⟨Nat.zero_le _, Nat.zero_le _⟩ ?_
    refine z_if_eq C d9_stand_12 (fun c5 => ?_) (fun c5 => ?_)
    · have hf := zit c5 hf
      refine z_aload_n C d9_stand_32 rfl ?_
      refine z_ldc C (-1000000001 : Int32) d9_stand_33 w_915 ?_
      obtain ⟨r6, s6, h6, hf⟩ := zbx hf
      refine z_callVi C (as := [zi (-1000000001 : Int32)]) d9_stand_35 w_916 yy9_error (c9_error x.2.1 g h6) yc9_error kZ_103 rfl rfl (Nat.le_of_ble_eq_true rfl) ⟨Nat.le_of_ble_eq_true rfl, Nat.le_of_ble_eq_true rfl⟩ ⟨Nat.zero_le _, Nat.zero_le _⟩ ?_
      exact z_iret C d9_stand_38 hf
    · have hf := zie c5 hf
      refine z_iload_n C d9_stand_15 rfl ?_
      obtain ⟨r7, s7, h7, hf⟩ := zbx hf
      refine z_callSi C (as := [zi x3]) d9_stand_16 w_912 yy9_isFour (c9_isFour x.2.1 g h7) rfl rfl (Nat.le_of_ble_eq_true rfl) ⟨Nat.le_of_ble_eq_true rfl, Nat.le_of_ble_eq_true rfl⟩ ⟨Nat.zero_le _, Nat.zero_le _⟩ ?_
      refine z_if_eq C d9_stand_19 (fun c8 => ?_) (fun c8 => ?_)
      · have hf := zit c8 hf
        refine z_aload_n C d9_stand_32 rfl ?_
        refine z_ldc C (-1000000001 : Int32) d9_stand_33 w_915 ?_
        obtain ⟨r9, s9, h9, hf⟩ := zbx hf
        refine z_callVi C (as := [zi (-1000000001 : Int32)]) d9_stand_35 w_916 yy9_error (c9_error x.2.1 g h9) yc9_error kZ_103 rfl rfl (Nat.le_of_ble_eq_true rfl) ⟨Nat.le_of_ble_eq_true rfl, Nat.le_of_ble_eq_true rfl⟩ ⟨Nat.zero_le _, Nat.zero_le _⟩ ?_
        exact z_iret C d9_stand_38 hf
      · have hf := zie c8 hf
        refine z_aload_n C d9_stand_22 rfl ?_
        refine z_iload_n C d9_stand_23 rfl ?_
        refine z_iload_n C d9_stand_24 rfl ?_
        refine z_iload_n C d9_stand_25 rfl ?_
        obtain ⟨r10, s10, h10, hf⟩ := zbx hf
        refine z_callVi C (as := [zi x1, zi x2, zi x3]) d9_stand_26 w_1031 yy9_stands (c9_stands x.2.1 g h10) yc9_stands kZ_103 rfl rfl (Nat.le_of_ble_eq_true rfl) ⟨Nat.le_of_ble_eq_true rfl, Nat.le_of_ble_eq_true rfl⟩ ⟨Nat.zero_le _, Nat.zero_le _⟩ ?_
        refine z_goto C d9_stand_29 ?_
        exact z_iret C d9_stand_38 hf
theorem d9_starts_0 : zd b9_starts 0 (.iload_n 1) 1 1 := ⟨by decide +kernel, rfl⟩
theorem d9_starts_1 : zd b9_starts 1 (.invokestatic 124) 3 4 := ⟨by decide +kernel, rfl⟩
theorem d9_starts_4 : zdb b9_starts 4 (.ifCond .eq 12) 12 7 16 := ⟨by decide +kernel, rfl, by decide⟩
theorem d9_starts_7 : zd b9_starts 7 (.iload_n 2) 1 8 := ⟨by decide +kernel, rfl⟩
theorem d9_starts_8 : zd b9_starts 8 (.iconst 0) 1 9 := ⟨by decide +kernel, rfl⟩
theorem d9_starts_9 : zd b9_starts 9 (.iconst 1) 1 10 := ⟨by decide +kernel, rfl⟩
theorem d9_starts_10 : zd b9_starts 10 (.invokestatic 56) 3 13 := ⟨by decide +kernel, rfl⟩
theorem d9_starts_13 : zdb b9_starts 13 (.ifCond .ne 10) 10 16 23 := ⟨by decide +kernel, rfl, by decide⟩
theorem d9_starts_16 : zd b9_starts 16 (.aload_n 0) 1 17 := ⟨by decide +kernel, rfl⟩
theorem d9_starts_17 : zd b9_starts 17 (.ldc 130) 2 19 := ⟨by decide +kernel, rfl⟩
theorem d9_starts_19 : zd b9_starts 19 (.invokevirtual 131) 3 22 := ⟨by decide +kernel, rfl⟩
theorem d9_starts_22 : zd b9_starts 22 .ireturn 1 23 := ⟨by decide +kernel, rfl⟩
theorem d9_starts_23 : zd b9_starts 23 (.iconst 0) 1 24 := ⟨by decide +kernel, rfl⟩
theorem d9_starts_24 : zd b9_starts 24 (.istore_n 3) 1 25 := ⟨by decide +kernel, rfl⟩
theorem d9_starts_25 : zd b9_starts 25 (.iconst (-1)) 1 26 := ⟨by decide +kernel, rfl⟩
theorem d9_starts_26 : zd b9_starts 26 (.istore 4) 2 28 := ⟨by decide +kernel, rfl⟩
theorem d9_starts_28 : zd b9_starts 28 (.sipush 255) 3 31 := ⟨by decide +kernel, rfl⟩
theorem d9_starts_31 : zd b9_starts 31 (.istore 5) 2 33 := ⟨by decide +kernel, rfl⟩
theorem d9_starts_33 : zd b9_starts 33 (.iload 5) 2 35 := ⟨by decide +kernel, rfl⟩
theorem d9_starts_35 : zdb b9_starts 35 (.ifCond .lt 63) 63 38 98 := ⟨by decide +kernel, rfl, by decide⟩
theorem d9_starts_38 : zd b9_starts 38 (.iload 5) 2 40 := ⟨by decide +kernel, rfl⟩
theorem d9_starts_40 : zd b9_starts 40 (.iconst 4) 1 41 := ⟨by decide +kernel, rfl⟩
theorem d9_starts_41 : zd b9_starts 41 .idiv 1 42 := ⟨by decide +kernel, rfl⟩
theorem d9_starts_42 : zd b9_starts 42 (.iload_n 1) 1 43 := ⟨by decide +kernel, rfl⟩
theorem d9_starts_43 : zdb b9_starts 43 (.if_icmp .eq 49) 49 46 92 := ⟨by decide +kernel, rfl, by decide⟩
theorem d9_starts_46 : zd b9_starts 46 (.aload_n 0) 1 47 := ⟨by decide +kernel, rfl⟩
theorem d9_starts_47 : zd b9_starts 47 (.iload 5) 2 49 := ⟨by decide +kernel, rfl⟩
theorem d9_starts_49 : zd b9_starts 49 (.iconst 4) 1 50 := ⟨by decide +kernel, rfl⟩
theorem d9_starts_50 : zd b9_starts 50 .idiv 1 51 := ⟨by decide +kernel, rfl⟩
theorem d9_starts_51 : zd b9_starts 51 (.iload 5) 2 53 := ⟨by decide +kernel, rfl⟩
theorem d9_starts_53 : zd b9_starts 53 (.iconst 4) 1 54 := ⟨by decide +kernel, rfl⟩
theorem d9_starts_54 : zd b9_starts 54 .irem 1 55 := ⟨by decide +kernel, rfl⟩
theorem d9_starts_55 : zd b9_starts 55 (.invokevirtual 112) 3 58 := ⟨by decide +kernel, rfl⟩
theorem d9_starts_58 : zd b9_starts 58 (.aload_n 0) 1 59 := ⟨by decide +kernel, rfl⟩
theorem d9_starts_59 : zd b9_starts 59 (.iload_n 1) 1 60 := ⟨by decide +kernel, rfl⟩
theorem d9_starts_60 : zd b9_starts 60 (.invokevirtual 221) 3 63 := ⟨by decide +kernel, rfl⟩
theorem d9_starts_63 : zd b9_starts 63 (.istore 6) 2 65 := ⟨by decide +kernel, rfl⟩
theorem d9_starts_65 : zd b9_starts 65 (.iload_n 3) 1 66 := ⟨by decide +kernel, rfl⟩
theorem d9_starts_66 : zd b9_starts 66 (.iload 6) 2 68 := ⟨by decide +kernel, rfl⟩
theorem d9_starts_68 : zdb b9_starts 68 (.ifCond .eq 7) 7 71 75 := ⟨by decide +kernel, rfl, by decide⟩
theorem d9_starts_71 : zd b9_starts 71 (.iconst 1) 1 72 := ⟨by decide +kernel, rfl⟩
theorem d9_starts_72 : zdb b9_starts 72 (.goto 4) 4 75 76 := ⟨by decide +kernel, rfl, by decide⟩
theorem d9_starts_75 : zd b9_starts 75 (.iconst 0) 1 76 := ⟨by decide +kernel, rfl⟩
theorem d9_starts_76 : zd b9_starts 76 .iadd 1 77 := ⟨by decide +kernel, rfl⟩
theorem d9_starts_77 : zd b9_starts 77 (.istore_n 3) 1 78 := ⟨by decide +kernel, rfl⟩
theorem d9_starts_78 : zd b9_starts 78 (.iload 6) 2 80 := ⟨by decide +kernel, rfl⟩
theorem d9_starts_80 : zdb b9_starts 80 (.ifCond .eq 8) 8 83 88 := ⟨by decide +kernel, rfl, by decide⟩
theorem d9_starts_83 : zd b9_starts 83 (.iload 5) 2 85 := ⟨by decide +kernel, rfl⟩
theorem d9_starts_85 : zdb b9_starts 85 (.goto 5) 5 88 90 := ⟨by decide +kernel, rfl, by decide⟩
theorem d9_starts_88 : zd b9_starts 88 (.iload 4) 2 90 := ⟨by decide +kernel, rfl⟩
theorem d9_starts_90 : zd b9_starts 90 (.istore 4) 2 92 := ⟨by decide +kernel, rfl⟩
theorem d9_starts_92 : zd b9_starts 92 (.iinc 5 (-1)) 3 95 := ⟨by decide +kernel, rfl⟩
theorem d9_starts_95 : zdb b9_starts 95 (.goto (-62)) (-62) 98 33 := ⟨by decide +kernel, rfl, by decide⟩
theorem d9_starts_98 : zd b9_starts 98 (.iload_n 2) 1 99 := ⟨by decide +kernel, rfl⟩
theorem d9_starts_99 : zdb b9_starts 99 (.ifCond .ne 7) 7 102 106 := ⟨by decide +kernel, rfl, by decide⟩
theorem d9_starts_102 : zd b9_starts 102 (.iload_n 3) 1 103 := ⟨by decide +kernel, rfl⟩
theorem d9_starts_103 : zdb b9_starts 103 (.goto 19) 19 106 122 := ⟨by decide +kernel, rfl, by decide⟩
theorem d9_starts_106 : zd b9_starts 106 (.iload 4) 2 108 := ⟨by decide +kernel, rfl⟩
theorem d9_starts_108 : zdb b9_starts 108 (.ifCond .ge 12) 12 111 120 := ⟨by decide +kernel, rfl, by decide⟩
theorem d9_starts_111 : zd b9_starts 111 (.aload_n 0) 1 112 := ⟨by decide +kernel, rfl⟩
theorem d9_starts_112 : zd b9_starts 112 (.ldc 220) 2 114 := ⟨by decide +kernel, rfl⟩
theorem d9_starts_114 : zd b9_starts 114 (.invokevirtual 131) 3 117 := ⟨by decide +kernel, rfl⟩
theorem d9_starts_117 : zdb b9_starts 117 (.goto 5) 5 120 122 := ⟨by decide +kernel, rfl, by decide⟩
theorem d9_starts_120 : zd b9_starts 120 (.iload 4) 2 122 := ⟨by decide +kernel, rfl⟩
theorem d9_starts_122 : zd b9_starts 122 .ireturn 1 123 := ⟨by decide +kernel, rfl⟩
def b9_starts_76 (k : Nat) (q33 : Int32 → Int32 → Int32 → Int32 → Int32 → ZS → Option (Int32 × ZS)) (x1 : Int32) (x2 : Int32) (x4 : Int32) (x5 : Int32) (x6 : Int32) (v0 : Int32) (v1 : Int32) (σ : ZS) : Option (Int32 × ZS) :=
  if x6 = 0 then (
  q33 x1 x2 (v0 + v1) x4 (x5 + (-1 : Int32)) σ)
  else (
  q33 x1 x2 (v0 + v1) x5 (x5 + (-1 : Int32)) σ)
theorem j9_starts_76 {x : ZX} {g : ZG} (C : zC x g b9_starts R9 (some .int) 7 6 180) {k : Nat} {r : Int32} {σr : ZS}  {q33 : Int32 → Int32 → Int32 → Int32 → Int32 → ZS → Option (Int32 × ZS)} (hq33 : (∀ (x1 : Int32) (x2 : Int32) (x3 : Int32) (x4 : Int32) (x5 : Int32) (σ : ZS), q33 x1 x2 x3 x4 x5 σ = some (r, σr) → zw x g 7 0 0 (zMQ x g (some (zi r)) σr) σ 33 [some (zr 103), some (zi x1), some (zi x2), some (zi x3), some (zi x4), some (zi x5), none] [])) {x1 : Int32} {x2 : Int32} {x4 : Int32} {x5 : Int32} {x6 : Int32} {v0 : Int32} {v1 : Int32} {σ : ZS} (hf : b9_starts_76 k q33 x1 x2 x4 x5 x6 v0 v1 σ = some (r, σr)) : zw x g 7 0 0 (zMQ x g (some (zi r)) σr) σ 76 [some (zr 103), some (zi x1), some (zi x2), none, some (zi x4), some (zi x5), some (zi x6)] [zi v1, zi v0] := by
  unfold b9_starts_76 at hf
  refine z_iadd C d9_starts_76 ?_
  refine z_istore_n C d9_starts_77 (Nat.le_of_ble_eq_true rfl) rfl (L' := [some (zr 103), some (zi x1), some (zi x2), some (zi (v0 + v1)), some (zi x4), some (zi x5), some (zi x6)]) rfl ?_
  refine z_iload C d9_starts_78 rfl ?_
  refine z_if_eq C d9_starts_80 (fun c1 => ?_) (fun c1 => ?_)
  · have hf := zit c1 hf
    refine z_iload C d9_starts_88 rfl ?_
    refine z_istore C d9_starts_90 (Nat.le_of_ble_eq_true rfl) rfl (L' := [some (zr 103), some (zi x1), some (zi x2), some (zi (v0 + v1)), some (zi x4), some (zi x5), some (zi x6)]) rfl ?_
    refine z_iinc C d9_starts_92 rfl kI_m1 (Nat.le_of_ble_eq_true rfl) rfl (L' := [some (zr 103), some (zi x1), some (zi x2), some (zi (v0 + v1)), some (zi x4), some (zi (x5 + (-1 : Int32))), some (zi x6)]) rfl ?_
    refine z_goto C d9_starts_95 ?_
    refine z_drop [true, true, true, true, true, true, false] (L' := [some (zr 103), some (zi x1), some (zi x2), some (zi (v0 + v1)), some (zi x4), some (zi (x5 + (-1 : Int32))), none]) rfl ?_
    exact hq33 _ _ _ _ _ _ hf
  · have hf := zie c1 hf
    refine z_iload C d9_starts_83 rfl ?_
    refine z_goto C d9_starts_85 ?_
    refine z_istore C d9_starts_90 (Nat.le_of_ble_eq_true rfl) rfl (L' := [some (zr 103), some (zi x1), some (zi x2), some (zi (v0 + v1)), some (zi x5), some (zi x5), some (zi x6)]) rfl ?_
    refine z_iinc C d9_starts_92 rfl kI_m1 (Nat.le_of_ble_eq_true rfl) rfl (L' := [some (zr 103), some (zi x1), some (zi x2), some (zi (v0 + v1)), some (zi x5), some (zi (x5 + (-1 : Int32))), some (zi x6)]) rfl ?_
    refine z_goto C d9_starts_95 ?_
    refine z_drop [true, true, true, true, true, true, false] (L' := [some (zr 103), some (zi x1), some (zi x2), some (zi (v0 + v1)), some (zi x5), some (zi (x5 + (-1 : Int32))), none]) rfl ?_
    exact hq33 _ _ _ _ _ _ hf
def b9_starts_33 (k : Nat) (q33 : Int32 → Int32 → Int32 → Int32 → Int32 → ZS → Option (Int32 × ZS)) (x1 : Int32) (x2 : Int32) (x3 : Int32) (x4 : Int32) (x5 : Int32) (σ : ZS) : Option (Int32 × ZS) :=
  if x5 < 0 then (
  if x2 = 0 then (
  some (x3, σ))
  else (
  if 0 ≤ x4 then (
  some (x4, σ))
  else (
  zbd (f9_error k (-1000000002 : Int32) σ) fun r4 s4 =>
  some (r4, s4))))
  else (
  if (x5 / (4 : Int32)) = x1 then (
  q33 x1 x2 x3 x4 (x5 + (-1 : Int32)) σ)
  else (
  zbd (f9_looks k (x5 / (4 : Int32)) (x5 % (4 : Int32)) σ) fun _ s6 =>
  zbd (f9_isSeen k x1 s6) fun r7 s7 =>
  if r7 = 0 then (
  b9_starts_76 k q33 x1 x2 x4 x5 r7 x3 (0 : Int32) s7)
  else (
  b9_starts_76 k q33 x1 x2 x4 x5 r7 x3 (1 : Int32) s7)))
def f9_starts_33 (k : Nat) : Nat → Int32 → Int32 → Int32 → Int32 → Int32 → ZS → Option (Int32 × ZS)
  | 0 => fun _ _ _ _ _ _ => none
  | n + 1 => b9_starts_33 k  (f9_starts_33 k  n)
theorem j9_starts_33 {x : ZX} {g : ZG} (C : zC x g b9_starts R9 (some .int) 7 6 180) {k : Nat} {r : Int32} {σr : ZS}  {q33 : Int32 → Int32 → Int32 → Int32 → Int32 → ZS → Option (Int32 × ZS)} (hq33 : (∀ (x1 : Int32) (x2 : Int32) (x3 : Int32) (x4 : Int32) (x5 : Int32) (σ : ZS), q33 x1 x2 x3 x4 x5 σ = some (r, σr) → zw x g 7 0 0 (zMQ x g (some (zi r)) σr) σ 33 [some (zr 103), some (zi x1), some (zi x2), some (zi x3), some (zi x4), some (zi x5), none] [])) {x1 : Int32} {x2 : Int32} {x3 : Int32} {x4 : Int32} {x5 : Int32} {σ : ZS} (hf : b9_starts_33 k q33 x1 x2 x3 x4 x5 σ = some (r, σr)) : zw x g 7 0 0 (zMQ x g (some (zi r)) σr) σ 33 [some (zr 103), some (zi x1), some (zi x2), some (zi x3), some (zi x4), some (zi x5), none] [] := by
  unfold b9_starts_33 at hf
  refine z_iload C d9_starts_33 rfl ?_
  refine z_if_lt C d9_starts_35 (fun c1 => ?_) (fun c1 => ?_)
  · have hf := zit c1 hf
    refine z_iload_n C d9_starts_98 rfl ?_
    refine z_if_ne C d9_starts_99 (fun c2 => ?_) (fun c2 => ?_)
    · have hf := zit c2 hf
      refine z_iload_n C d9_starts_102 rfl ?_
      refine z_goto C d9_starts_103 ?_
      exact z_iret C d9_starts_122 hf
    · have hf := zie c2 hf
      refine z_iload C d9_starts_106 rfl ?_
      refine z_if_ge C d9_starts_108 (fun c3 => ?_) (fun c3 => ?_)
      · have hf := zit c3 hf
        refine z_iload C d9_starts_120 rfl ?_
        exact z_iret C d9_starts_122 hf
      · have hf := zie c3 hf
        refine z_aload_n C d9_starts_111 rfl ?_
        refine z_ldc C (-1000000002 : Int32) d9_starts_112 w_1134 ?_
        obtain ⟨r4, s4, h4, hf⟩ := zbx hf
        refine z_callVi C (as := [zi (-1000000002 : Int32)]) d9_starts_114 w_916 yy9_error (c9_error x.2.1 g h4) yc9_error kZ_103 rfl rfl (Nat.le_of_ble_eq_true rfl) ⟨Nat.le_of_ble_eq_true rfl, Nat.le_of_ble_eq_true rfl⟩ ⟨Nat.zero_le _, Nat.zero_le _⟩ ?_
        refine z_goto C d9_starts_117 ?_
        exact z_iret C d9_starts_122 hf
  · have hf := zie c1 hf
    refine z_iload C d9_starts_38 rfl ?_
    refine z_iconst C (4 : Int32) d9_starts_40 kI_4 ?_
    refine z_idiv C d9_starts_41 (by decide) ?_
    refine z_iload_n C d9_starts_42 rfl ?_
    refine z_icmp_eq C d9_starts_43 (fun c5 => ?_) (fun c5 => ?_)
    · have hf := zit c5 hf
      refine z_iinc C d9_starts_92 rfl kI_m1 (Nat.le_of_ble_eq_true rfl) rfl (L' := [some (zr 103), some (zi x1), some (zi x2), some (zi x3), some (zi x4), some (zi (x5 + (-1 : Int32))), none]) rfl ?_
      refine z_goto C d9_starts_95 ?_
      exact hq33 _ _ _ _ _ _ hf
    · have hf := zie c5 hf
      refine z_aload_n C d9_starts_46 rfl ?_
      refine z_iload C d9_starts_47 rfl ?_
      refine z_iconst C (4 : Int32) d9_starts_49 kI_4 ?_
      refine z_idiv C d9_starts_50 (by decide) ?_
      refine z_iload C d9_starts_51 rfl ?_
      refine z_iconst C (4 : Int32) d9_starts_53 kI_4 ?_
      refine z_irem C d9_starts_54 (by decide) ?_
      obtain ⟨r6, s6, h6, hf⟩ := zbx hf
      refine z_callVv C (as := [zi (x5 / (4 : Int32)), zi (x5 % (4 : Int32))]) d9_starts_55 w_1002 yy9_looks (c9_looks x.2.1 g h6) yc9_looks kZ_103 rfl rfl (Nat.le_of_ble_eq_true rfl) ⟨Nat.le_of_ble_eq_true rfl, Nat.le_of_ble_eq_true rfl⟩ ⟨Nat.zero_le _, Nat.zero_le _⟩ ?_
      refine z_aload_n C d9_starts_58 rfl ?_
      refine z_iload_n C d9_starts_59 rfl ?_
      obtain ⟨r7, s7, h7, hf⟩ := zbx hf
      refine z_callVi C (as := [zi x1]) d9_starts_60 w_1143 yy9_isSeen (c9_isSeen x.2.1 g h7) yc9_isSeen kZ_103 rfl rfl (Nat.le_of_ble_eq_true rfl) ⟨Nat.le_of_ble_eq_true rfl, Nat.le_of_ble_eq_true rfl⟩ ⟨Nat.zero_le _, Nat.zero_le _⟩ ?_
      refine z_istore C d9_starts_63 (Nat.le_of_ble_eq_true rfl) rfl (L' := [some (zr 103), some (zi x1), some (zi x2), some (zi x3), some (zi x4), some (zi x5), some (zi r7)]) rfl ?_
      refine z_iload_n C d9_starts_65 rfl ?_
      refine z_iload C d9_starts_66 rfl ?_
      refine z_if_eq C d9_starts_68 (fun c8 => ?_) (fun c8 => ?_)
      · have hf := zit c8 hf
        refine z_iconst C (0 : Int32) d9_starts_75 kI_0 ?_
        refine z_drop [true, true, true, false, true, true, true] (L' := [some (zr 103), some (zi x1), some (zi x2), none, some (zi x4), some (zi x5), some (zi r7)]) rfl ?_
        exact j9_starts_76 C hq33 hf
      · have hf := zie c8 hf
        refine z_iconst C (1 : Int32) d9_starts_71 kI_1 ?_
        refine z_goto C d9_starts_72 ?_
        refine z_drop [true, true, true, false, true, true, true] (L' := [some (zr 103), some (zi x1), some (zi x2), none, some (zi x4), some (zi x5), some (zi r7)]) rfl ?_
        exact j9_starts_76 C hq33 hf
theorem j9_starts_33l {x : ZX} {g : ZG} (C : zC x g b9_starts R9 (some .int) 7 6 180) {k : Nat} {r : Int32} {σr : ZS}  : ∀ (n : Nat) (x1 : Int32) (x2 : Int32) (x3 : Int32) (x4 : Int32) (x5 : Int32) (σ : ZS), f9_starts_33 k  n x1 x2 x3 x4 x5 σ = some (r, σr) → zw x g 7 0 0 (zMQ x g (some (zi r)) σr) σ 33 [some (zr 103), some (zi x1), some (zi x2), some (zi x3), some (zi x4), some (zi x5), none] [] := by
  intro n
  induction n with
  | zero => intro x1 x2 x3 x4 x5 σ hf; exact absurd (show none = some (r, σr) from hf) (fun z => by cases z)
  | succ n ih => intro x1 x2 x3 x4 x5 σ hf; exact j9_starts_33 C  ih (show b9_starts_33 k  (f9_starts_33 k  n) x1 x2 x3 x4 x5 σ = some (r, σr) from hf)
def f9_starts (k : Nat) (x1 : Int32) (x2 : Int32) (σ : ZS) : Option (Int32 × ZS) :=
  zbd (f9_isCell k x1 σ) fun r1 s1 =>
  if r1 = 0 then (
  zbd (f9_error k (-1000000001 : Int32) s1) fun r3 s3 =>
  some (r3, s3))
  else (
  zbd (f9_in k x2 (0 : Int32) (1 : Int32) s1) fun r4 s4 =>
  if r4 = 0 then (
  zbd (f9_error k (-1000000001 : Int32) s4) fun r6 s6 =>
  some (r6, s6))
  else (
  f9_starts_33 k  k x1 x2 (0 : Int32) (-1 : Int32) (255 : Int32) s4))
theorem c9_starts (l : Launch) (g : ZG) {k : Nat} {x1 : Int32} {x2 : Int32} {σ : ZS} {r : Int32} {σr : ZS} (hf : f9_starts k x1 x2 σ = some (r, σr)) : zT l g y9_starts b9_starts 7 (some .int) 6 180 [zr 103, zi x1, zi x2] σ (some (zi r)) σr := by
  unfold f9_starts at hf
  refine zT_start (own := R9) rfl (by decide +kernel) 4 (L := [some (zr 103), some (zi x1), some (zi x2), none, none, none, none]) rfl rfl (fun x hl C => ?_)
  subst hl
  refine z_iload_n C d9_starts_0 rfl ?_
  obtain ⟨r1, s1, h1, hf⟩ := zbx hf
  refine z_callSi C (as := [zi x1]) d9_starts_1 w_909 yy9_isCell (c9_isCell x.2.1 g h1) rfl rfl (Nat.le_of_ble_eq_true rfl) ⟨Nat.le_of_ble_eq_true rfl, Nat.le_of_ble_eq_true rfl⟩ ⟨Nat.zero_le _, Nat.zero_le _⟩ ?_
  refine z_if_eq C d9_starts_4 (fun c2 => ?_) (fun c2 => ?_)
  · have hf := zit c2 hf
    refine z_aload_n C d9_starts_16 rfl ?_
    refine z_ldc C (-1000000001 : Int32) d9_starts_17 w_915 ?_
    obtain ⟨r3, s3, h3, hf⟩ := zbx hf
    refine z_callVi C (as := [zi (-1000000001 : Int32)]) d9_starts_19 w_916 yy9_error (c9_error x.2.1 g h3) yc9_error kZ_103 rfl rfl (Nat.le_of_ble_eq_true rfl) ⟨Nat.le_of_ble_eq_true rfl, Nat.le_of_ble_eq_true rfl⟩ ⟨Nat.zero_le _, Nat.zero_le _⟩ ?_
    exact z_iret C d9_starts_22 hf
  · have hf := zie c2 hf
    refine z_iload_n C d9_starts_7 rfl ?_
    refine z_iconst C (0 : Int32) d9_starts_8 kI_0 ?_
    refine z_iconst C (1 : Int32) d9_starts_9 kI_1 ?_
    obtain ⟨r4, s4, h4, hf⟩ := zbx hf
    refine z_callSi C (as := [zi x2, zi (0 : Int32), zi (1 : Int32)]) d9_starts_10 w_906 yy9_in (c9_in x.2.1 g h4) rfl rfl (Nat.le_of_ble_eq_true rfl) ⟨Nat.le_of_ble_eq_true rfl, Nat.le_of_ble_eq_true rfl⟩ ⟨Nat.zero_le _, Nat.zero_le _⟩ ?_
    refine z_if_ne C d9_starts_13 (fun c5 => ?_) (fun c5 => ?_)
    · have hf := zit c5 hf
      refine z_aload_n C d9_starts_16 rfl ?_
      refine z_ldc C (-1000000001 : Int32) d9_starts_17 w_915 ?_
      obtain ⟨r6, s6, h6, hf⟩ := zbx hf
      refine z_callVi C (as := [zi (-1000000001 : Int32)]) d9_starts_19 w_916 yy9_error (c9_error x.2.1 g h6) yc9_error kZ_103 rfl rfl (Nat.le_of_ble_eq_true rfl) ⟨Nat.le_of_ble_eq_true rfl, Nat.le_of_ble_eq_true rfl⟩ ⟨Nat.zero_le _, Nat.zero_le _⟩ ?_
      exact z_iret C d9_starts_22 hf
    · have hf := zie c5 hf
      refine z_iconst C (0 : Int32) d9_starts_23 kI_0 ?_
      refine z_istore_n C d9_starts_24 (Nat.le_of_ble_eq_true rfl) rfl (L' := [some (zr 103), some (zi x1), some (zi x2), some (zi (0 : Int32)), none, none, none]) rfl ?_
      refine z_iconst C (-1 : Int32) d9_starts_25 kI_m1 ?_
      refine z_istore C d9_starts_26 (Nat.le_of_ble_eq_true rfl) rfl (L' := [some (zr 103), some (zi x1), some (zi x2), some (zi (0 : Int32)), some (zi (-1 : Int32)), none, none]) rfl ?_
      refine z_sipush C (255 : Int32) d9_starts_28 kS_255 ?_
      refine z_istore C d9_starts_31 (Nat.le_of_ble_eq_true rfl) rfl (L' := [some (zr 103), some (zi x1), some (zi x2), some (zi (0 : Int32)), some (zi (-1 : Int32)), some (zi (255 : Int32)), none]) rfl ?_
      exact j9_starts_33l C  _ _ _ _ _ _ _ hf
theorem d9_tell_0 : zd b9_tell 0 (.aload_n 0) 1 1 := ⟨by decide +kernel, rfl⟩
theorem d9_tell_1 : zd b9_tell 1 (.getfield 9) 3 4 := ⟨by decide +kernel, rfl⟩
theorem d9_tell_4 : zd b9_tell 4 (.iconst 5) 1 5 := ⟨by decide +kernel, rfl⟩
theorem d9_tell_5 : zd b9_tell 5 .iaload 1 6 := ⟨by decide +kernel, rfl⟩
theorem d9_tell_6 : zd b9_tell 6 (.bipush 24) 2 8 := ⟨by decide +kernel, rfl⟩
theorem d9_tell_8 : zdb b9_tell 8 (.if_icmp .ne 10) 10 11 18 := ⟨by decide +kernel, rfl, by decide⟩
theorem d9_tell_11 : zd b9_tell 11 (.aload_n 0) 1 12 := ⟨by decide +kernel, rfl⟩
theorem d9_tell_12 : zd b9_tell 12 (.ldc 134) 2 14 := ⟨by decide +kernel, rfl⟩
theorem d9_tell_14 : zd b9_tell 14 (.invokevirtual 131) 3 17 := ⟨by decide +kernel, rfl⟩
theorem d9_tell_17 : zd b9_tell 17 .ireturn 1 18 := ⟨by decide +kernel, rfl⟩
theorem d9_tell_18 : zd b9_tell 18 (.aload_n 0) 1 19 := ⟨by decide +kernel, rfl⟩
theorem d9_tell_19 : zd b9_tell 19 (.getfield 9) 3 22 := ⟨by decide +kernel, rfl⟩
theorem d9_tell_22 : zd b9_tell 22 (.bipush 124) 2 24 := ⟨by decide +kernel, rfl⟩
theorem d9_tell_24 : zd b9_tell 24 (.aload_n 0) 1 25 := ⟨by decide +kernel, rfl⟩
theorem d9_tell_25 : zd b9_tell 25 (.getfield 9) 3 28 := ⟨by decide +kernel, rfl⟩
theorem d9_tell_28 : zd b9_tell 28 (.iconst 5) 1 29 := ⟨by decide +kernel, rfl⟩
theorem d9_tell_29 : zd b9_tell 29 .iaload 1 30 := ⟨by decide +kernel, rfl⟩
theorem d9_tell_30 : zd b9_tell 30 .iadd 1 31 := ⟨by decide +kernel, rfl⟩
theorem d9_tell_31 : zd b9_tell 31 (.iload_n 1) 1 32 := ⟨by decide +kernel, rfl⟩
theorem d9_tell_32 : zd b9_tell 32 .iastore 1 33 := ⟨by decide +kernel, rfl⟩
theorem d9_tell_33 : zd b9_tell 33 (.aload_n 0) 1 34 := ⟨by decide +kernel, rfl⟩
theorem d9_tell_34 : zd b9_tell 34 (.getfield 9) 3 37 := ⟨by decide +kernel, rfl⟩
theorem d9_tell_37 : zd b9_tell 37 (.iconst 5) 1 38 := ⟨by decide +kernel, rfl⟩
theorem d9_tell_38 : zd b9_tell 38 .dup2 1 39 := ⟨by decide +kernel, rfl⟩
theorem d9_tell_39 : zd b9_tell 39 .iaload 1 40 := ⟨by decide +kernel, rfl⟩
theorem d9_tell_40 : zd b9_tell 40 (.iconst 1) 1 41 := ⟨by decide +kernel, rfl⟩
theorem d9_tell_41 : zd b9_tell 41 .iadd 1 42 := ⟨by decide +kernel, rfl⟩
theorem d9_tell_42 : zd b9_tell 42 .iastore 1 43 := ⟨by decide +kernel, rfl⟩
theorem d9_tell_43 : zd b9_tell 43 (.aload_n 0) 1 44 := ⟨by decide +kernel, rfl⟩
theorem d9_tell_44 : zd b9_tell 44 (.getfield 9) 3 47 := ⟨by decide +kernel, rfl⟩
theorem d9_tell_47 : zd b9_tell 47 (.iconst 5) 1 48 := ⟨by decide +kernel, rfl⟩
theorem d9_tell_48 : zd b9_tell 48 .iaload 1 49 := ⟨by decide +kernel, rfl⟩
theorem d9_tell_49 : zd b9_tell 49 .ireturn 1 50 := ⟨by decide +kernel, rfl⟩
def f9_tell (k : Nat) (x1 : Int32) (σ : ZS) : Option (Int32 × ZS) :=
  if (σ 104 5) = (24 : Int32) then (
  zbd (f9_error k (-1000000004 : Int32) σ) fun r2 s2 =>
  some (r2, s2))
  else (
  if zin ((124 : Int32) + (σ 104 5)) 390 then (
  zput (zu σ 104 (((124 : Int32) + (σ 104 5)).toNatClampNeg) x1) fun s4 =>
  zput (zu s4 104 (5) ((s4 104 5) + (1 : Int32))) fun s5 =>
  some ((s5 104 5), s5)) else none)
theorem c9_tell (l : Launch) (g : ZG) {k : Nat} {x1 : Int32} {σ : ZS} {r : Int32} {σr : ZS} (hf : f9_tell k x1 σ = some (r, σr)) : zT l g y9_tell b9_tell 2 (some .int) 2 81 [zr 103, zi x1] σ (some (zi r)) σr := by
  unfold f9_tell at hf
  refine zT_start (own := R9) rfl (by decide +kernel) 0 (L := [some (zr 103), some (zi x1)]) rfl rfl (fun x hl C => ?_)
  subst hl
  refine z_aload_n C d9_tell_0 rfl ?_
  refine z_getR C d9_tell_1 fl_817 kZ_103 104 rfl (zn0 kZ_104) ?_
  refine z_iconst C (5 : Int32) d9_tell_4 kI_5 ?_
  refine z_iald C d9_tell_5 kZ_104 kL_104 ⟨by decide, by decide⟩ (5) kN_5 ?_
  refine z_bipush C (24 : Int32) d9_tell_6 kB_24 ?_
  refine z_icmp_ne C d9_tell_8 (fun c1 => ?_) (fun c1 => ?_)
  · have hf := zit c1 hf
    refine z_aload_n C d9_tell_11 rfl ?_
    refine z_ldc C (-1000000004 : Int32) d9_tell_12 w_921 ?_
    obtain ⟨r2, s2, h2, hf⟩ := zbx hf
    refine z_callVi C (as := [zi (-1000000004 : Int32)]) d9_tell_14 w_916 yy9_error (c9_error x.2.1 g h2) yc9_error kZ_103 rfl rfl (Nat.le_of_ble_eq_true rfl) ⟨Nat.le_of_ble_eq_true rfl, Nat.le_of_ble_eq_true rfl⟩ ⟨Nat.zero_le _, Nat.zero_le _⟩ ?_
    exact z_iret C d9_tell_17 hf
  · have hf := zie c1 hf
    refine z_aload_n C d9_tell_18 rfl ?_
    refine z_getR C d9_tell_19 fl_817 kZ_103 104 rfl (zn0 kZ_104) ?_
    refine z_bipush C (124 : Int32) d9_tell_22 kB_124 ?_
    refine z_aload_n C d9_tell_24 rfl ?_
    refine z_getR C d9_tell_25 fl_817 kZ_103 104 rfl (zn0 kZ_104) ?_
    refine z_iconst C (5 : Int32) d9_tell_28 kI_5 ?_
    refine z_iald C d9_tell_29 kZ_104 kL_104 ⟨by decide, by decide⟩ (5) kN_5 ?_
    refine z_iadd C d9_tell_30 ?_
    refine z_iload_n C d9_tell_31 rfl ?_
    obtain ⟨g3, hf⟩ := zgo hf
    obtain ⟨s4, e4, hf⟩ := zpx hf
    refine z_iast C d9_tell_32 kZ_104 kL_104 g3 rfl e4 ?_
    refine z_aload_n C d9_tell_33 rfl ?_
    refine z_getR C d9_tell_34 fl_817 kZ_103 104 rfl (zn0 kZ_104) ?_
    refine z_iconst C (5 : Int32) d9_tell_37 kI_5 ?_
    refine z_dup2 C d9_tell_38 rfl rfl ?_
    refine z_iald C d9_tell_39 kZ_104 kL_104 ⟨by decide, by decide⟩ (5) kN_5 ?_
    refine z_iconst C (1 : Int32) d9_tell_40 kI_1 ?_
    refine z_iadd C d9_tell_41 ?_
    obtain ⟨s5, e5, hf⟩ := zpx hf
    refine z_iast C d9_tell_42 kZ_104 kL_104 ⟨by decide, by decide⟩ kN_5 e5 ?_
    refine z_aload_n C d9_tell_43 rfl ?_
    refine z_getR C d9_tell_44 fl_817 kZ_103 104 rfl (zn0 kZ_104) ?_
    refine z_iconst C (5 : Int32) d9_tell_47 kI_5 ?_
    refine z_iald C d9_tell_48 kZ_104 kL_104 ⟨by decide, by decide⟩ (5) kN_5 ?_
    exact z_iret C d9_tell_49 hf
theorem d9_text_0 : zd b9_text 0 (.iload_n 1) 1 1 := ⟨by decide +kernel, rfl⟩
theorem d9_text_1 : zd b9_text 1 (.iconst 0) 1 2 := ⟨by decide +kernel, rfl⟩
theorem d9_text_2 : zd b9_text 2 (.iconst 1) 1 3 := ⟨by decide +kernel, rfl⟩
theorem d9_text_3 : zd b9_text 3 (.invokestatic 56) 3 6 := ⟨by decide +kernel, rfl⟩
theorem d9_text_6 : zdb b9_text 6 (.ifCond .ne 10) 10 9 16 := ⟨by decide +kernel, rfl, by decide⟩
theorem d9_text_9 : zd b9_text 9 (.aload_n 0) 1 10 := ⟨by decide +kernel, rfl⟩
theorem d9_text_10 : zd b9_text 10 (.ldc 130) 2 12 := ⟨by decide +kernel, rfl⟩
theorem d9_text_12 : zd b9_text 12 (.invokevirtual 131) 3 15 := ⟨by decide +kernel, rfl⟩
theorem d9_text_15 : zd b9_text 15 .ireturn 1 16 := ⟨by decide +kernel, rfl⟩
theorem d9_text_16 : zd b9_text 16 (.aload_n 0) 1 17 := ⟨by decide +kernel, rfl⟩
theorem d9_text_17 : zd b9_text 17 (.iload_n 1) 1 18 := ⟨by decide +kernel, rfl⟩
theorem d9_text_18 : zd b9_text 18 (.putfield 161) 3 21 := ⟨by decide +kernel, rfl⟩
theorem d9_text_21 : zd b9_text 21 (.aload_n 0) 1 22 := ⟨by decide +kernel, rfl⟩
theorem d9_text_22 : zd b9_text 22 (.iconst 0) 1 23 := ⟨by decide +kernel, rfl⟩
theorem d9_text_23 : zd b9_text 23 (.putfield 158) 3 26 := ⟨by decide +kernel, rfl⟩
theorem d9_text_26 : zd b9_text 26 (.aload_n 0) 1 27 := ⟨by decide +kernel, rfl⟩
theorem d9_text_27 : zd b9_text 27 (.iconst 0) 1 28 := ⟨by decide +kernel, rfl⟩
theorem d9_text_28 : zd b9_text 28 (.putfield 155) 3 31 := ⟨by decide +kernel, rfl⟩
theorem d9_text_31 : zd b9_text 31 (.aload_n 0) 1 32 := ⟨by decide +kernel, rfl⟩
theorem d9_text_32 : zd b9_text 32 (.iconst 0) 1 33 := ⟨by decide +kernel, rfl⟩
theorem d9_text_33 : zd b9_text 33 (.putfield 174) 3 36 := ⟨by decide +kernel, rfl⟩
theorem d9_text_36 : zd b9_text 36 (.aload_n 0) 1 37 := ⟨by decide +kernel, rfl⟩
theorem d9_text_37 : zd b9_text 37 (.iconst 0) 1 38 := ⟨by decide +kernel, rfl⟩
theorem d9_text_38 : zd b9_text 38 (.putfield 168) 3 41 := ⟨by decide +kernel, rfl⟩
theorem d9_text_41 : zd b9_text 41 (.aload_n 0) 1 42 := ⟨by decide +kernel, rfl⟩
theorem d9_text_42 : zd b9_text 42 (.invokevirtual 180) 3 45 := ⟨by decide +kernel, rfl⟩
theorem d9_text_45 : zd b9_text 45 (.aload_n 0) 1 46 := ⟨by decide +kernel, rfl⟩
theorem d9_text_46 : zd b9_text 46 (.aload_n 0) 1 47 := ⟨by decide +kernel, rfl⟩
theorem d9_text_47 : zd b9_text 47 (.getfield 168) 3 50 := ⟨by decide +kernel, rfl⟩
theorem d9_text_50 : zdb b9_text 50 (.ifCond .ne 16) 16 53 66 := ⟨by decide +kernel, rfl, by decide⟩
theorem d9_text_53 : zd b9_text 53 (.aload_n 0) 1 54 := ⟨by decide +kernel, rfl⟩
theorem d9_text_54 : zd b9_text 54 (.getfield 155) 3 57 := ⟨by decide +kernel, rfl⟩
theorem d9_text_57 : zd b9_text 57 (.aload_n 0) 1 58 := ⟨by decide +kernel, rfl⟩
theorem d9_text_58 : zd b9_text 58 (.getfield 9) 3 61 := ⟨by decide +kernel, rfl⟩
theorem d9_text_61 : zd b9_text 61 (.iconst 4) 1 62 := ⟨by decide +kernel, rfl⟩
theorem d9_text_62 : zd b9_text 62 .iaload 1 63 := ⟨by decide +kernel, rfl⟩
theorem d9_text_63 : zdb b9_text 63 (.if_icmp .ge 7) 7 66 70 := ⟨by decide +kernel, rfl, by decide⟩
theorem d9_text_66 : zd b9_text 66 (.iconst 1) 1 67 := ⟨by decide +kernel, rfl⟩
theorem d9_text_67 : zdb b9_text 67 (.goto 4) 4 70 71 := ⟨by decide +kernel, rfl, by decide⟩
theorem d9_text_70 : zd b9_text 70 (.iconst 0) 1 71 := ⟨by decide +kernel, rfl⟩
theorem d9_text_71 : zd b9_text 71 (.putfield 168) 3 74 := ⟨by decide +kernel, rfl⟩
theorem d9_text_74 : zd b9_text 74 (.aload_n 0) 1 75 := ⟨by decide +kernel, rfl⟩
theorem d9_text_75 : zd b9_text 75 (.getfield 9) 3 78 := ⟨by decide +kernel, rfl⟩
theorem d9_text_78 : zd b9_text 78 (.iconst 4) 1 79 := ⟨by decide +kernel, rfl⟩
theorem d9_text_79 : zd b9_text 79 (.iconst 0) 1 80 := ⟨by decide +kernel, rfl⟩
theorem d9_text_80 : zd b9_text 80 .iastore 1 81 := ⟨by decide +kernel, rfl⟩
theorem d9_text_81 : zd b9_text 81 (.aload_n 0) 1 82 := ⟨by decide +kernel, rfl⟩
theorem d9_text_82 : zd b9_text 82 (.getfield 168) 3 85 := ⟨by decide +kernel, rfl⟩
theorem d9_text_85 : zdb b9_text 85 (.ifCond .eq 11) 11 88 96 := ⟨by decide +kernel, rfl, by decide⟩
theorem d9_text_88 : zd b9_text 88 (.bipush (-10)) 2 90 := ⟨by decide +kernel, rfl⟩
theorem d9_text_90 : zd b9_text 90 (.aload_n 0) 1 91 := ⟨by decide +kernel, rfl⟩
theorem d9_text_91 : zd b9_text 91 (.getfield 155) 3 94 := ⟨by decide +kernel, rfl⟩
theorem d9_text_94 : zd b9_text 94 .isub 1 95 := ⟨by decide +kernel, rfl⟩
theorem d9_text_95 : zd b9_text 95 .ireturn 1 96 := ⟨by decide +kernel, rfl⟩
theorem d9_text_96 : zd b9_text 96 (.sipush 148) 3 99 := ⟨by decide +kernel, rfl⟩
theorem d9_text_99 : zd b9_text 99 (.bipush 121) 2 101 := ⟨by decide +kernel, rfl⟩
theorem d9_text_101 : zd b9_text 101 (.iload_n 1) 1 102 := ⟨by decide +kernel, rfl⟩
theorem d9_text_102 : zd b9_text 102 .imul 1 103 := ⟨by decide +kernel, rfl⟩
theorem d9_text_103 : zd b9_text 103 .iadd 1 104 := ⟨by decide +kernel, rfl⟩
theorem d9_text_104 : zd b9_text 104 (.istore_n 2) 1 105 := ⟨by decide +kernel, rfl⟩
theorem d9_text_105 : zd b9_text 105 (.aload_n 0) 1 106 := ⟨by decide +kernel, rfl⟩
theorem d9_text_106 : zd b9_text 106 (.getfield 9) 3 109 := ⟨by decide +kernel, rfl⟩
theorem d9_text_109 : zd b9_text 109 (.iload_n 2) 1 110 := ⟨by decide +kernel, rfl⟩
theorem d9_text_110 : zd b9_text 110 (.aload_n 0) 1 111 := ⟨by decide +kernel, rfl⟩
theorem d9_text_111 : zd b9_text 111 (.getfield 158) 3 114 := ⟨by decide +kernel, rfl⟩
theorem d9_text_114 : zd b9_text 114 .iastore 1 115 := ⟨by decide +kernel, rfl⟩
theorem d9_text_115 : zd b9_text 115 (.iconst 0) 1 116 := ⟨by decide +kernel, rfl⟩
theorem d9_text_116 : zd b9_text 116 (.istore_n 3) 1 117 := ⟨by decide +kernel, rfl⟩
theorem d9_text_117 : zd b9_text 117 (.iload_n 3) 1 118 := ⟨by decide +kernel, rfl⟩
theorem d9_text_118 : zd b9_text 118 (.aload_n 0) 1 119 := ⟨by decide +kernel, rfl⟩
theorem d9_text_119 : zd b9_text 119 (.getfield 158) 3 122 := ⟨by decide +kernel, rfl⟩
theorem d9_text_122 : zdb b9_text 122 (.if_icmp .ge 42) 42 125 164 := ⟨by decide +kernel, rfl, by decide⟩
theorem d9_text_125 : zd b9_text 125 (.aload_n 0) 1 126 := ⟨by decide +kernel, rfl⟩
theorem d9_text_126 : zd b9_text 126 (.getfield 9) 3 129 := ⟨by decide +kernel, rfl⟩
theorem d9_text_129 : zd b9_text 129 (.iload_n 2) 1 130 := ⟨by decide +kernel, rfl⟩
theorem d9_text_130 : zd b9_text 130 (.iconst 1) 1 131 := ⟨by decide +kernel, rfl⟩
theorem d9_text_131 : zd b9_text 131 .iadd 1 132 := ⟨by decide +kernel, rfl⟩
theorem d9_text_132 : zd b9_text 132 (.iload_n 3) 1 133 := ⟨by decide +kernel, rfl⟩
theorem d9_text_133 : zd b9_text 133 .iadd 1 134 := ⟨by decide +kernel, rfl⟩
theorem d9_text_134 : zd b9_text 134 (.aload_n 0) 1 135 := ⟨by decide +kernel, rfl⟩
theorem d9_text_135 : zd b9_text 135 (.getfield 37) 3 138 := ⟨by decide +kernel, rfl⟩
theorem d9_text_138 : zd b9_text 138 (.iload_n 3) 1 139 := ⟨by decide +kernel, rfl⟩
theorem d9_text_139 : zd b9_text 139 .iaload 1 140 := ⟨by decide +kernel, rfl⟩
theorem d9_text_140 : zd b9_text 140 .iastore 1 141 := ⟨by decide +kernel, rfl⟩
theorem d9_text_141 : zd b9_text 141 (.aload_n 0) 1 142 := ⟨by decide +kernel, rfl⟩
theorem d9_text_142 : zd b9_text 142 (.getfield 9) 3 145 := ⟨by decide +kernel, rfl⟩
theorem d9_text_145 : zd b9_text 145 (.iload_n 2) 1 146 := ⟨by decide +kernel, rfl⟩
theorem d9_text_146 : zd b9_text 146 (.bipush 61) 2 148 := ⟨by decide +kernel, rfl⟩
theorem d9_text_148 : zd b9_text 148 .iadd 1 149 := ⟨by decide +kernel, rfl⟩
theorem d9_text_149 : zd b9_text 149 (.iload_n 3) 1 150 := ⟨by decide +kernel, rfl⟩
theorem d9_text_150 : zd b9_text 150 .iadd 1 151 := ⟨by decide +kernel, rfl⟩
theorem d9_text_151 : zd b9_text 151 (.aload_n 0) 1 152 := ⟨by decide +kernel, rfl⟩
theorem d9_text_152 : zd b9_text 152 (.getfield 40) 3 155 := ⟨by decide +kernel, rfl⟩
theorem d9_text_155 : zd b9_text 155 (.iload_n 3) 1 156 := ⟨by decide +kernel, rfl⟩
theorem d9_text_156 : zd b9_text 156 .iaload 1 157 := ⟨by decide +kernel, rfl⟩
theorem d9_text_157 : zd b9_text 157 .iastore 1 158 := ⟨by decide +kernel, rfl⟩
theorem d9_text_158 : zd b9_text 158 (.iinc 3 1) 3 161 := ⟨by decide +kernel, rfl⟩
theorem d9_text_161 : zdb b9_text 161 (.goto (-44)) (-44) 164 117 := ⟨by decide +kernel, rfl, by decide⟩
theorem d9_text_164 : zd b9_text 164 (.iconst 1) 1 165 := ⟨by decide +kernel, rfl⟩
theorem d9_text_165 : zd b9_text 165 .ireturn 1 166 := ⟨by decide +kernel, rfl⟩
def b9_text_117 (k : Nat) (q117 : Int32 → Int32 → ZS → Option (Int32 × ZS)) (x2 : Int32) (x3 : Int32) (σ : ZS) : Option (Int32 × ZS) :=
  if (σ 103 18) ≤ x3 then (
  some ((1 : Int32), σ))
  else (
  if zin x3 60 then (
  if zin ((x2 + (1 : Int32)) + x3) 390 then (
  zput (zu σ 104 (((x2 + (1 : Int32)) + x3).toNatClampNeg) (σ 113 x3.toNatClampNeg)) fun s4 =>
  if zin x3 60 then (
  if zin ((x2 + (61 : Int32)) + x3) 390 then (
  zput (zu s4 104 (((x2 + (61 : Int32)) + x3).toNatClampNeg) (s4 114 x3.toNatClampNeg)) fun s7 =>
  q117 x2 (x3 + (1 : Int32)) s7) else none) else none) else none) else none)
def f9_text_117 (k : Nat) : Nat → Int32 → Int32 → ZS → Option (Int32 × ZS)
  | 0 => fun _ _ _ => none
  | n + 1 => b9_text_117 k  (f9_text_117 k  n)
theorem j9_text_117 {x : ZX} {g : ZG} (C : zC x g b9_text R9 (some .int) 4 84 1884) {k : Nat} {r : Int32} {σr : ZS}  {q117 : Int32 → Int32 → ZS → Option (Int32 × ZS)} (hq117 : (∀ (x2 : Int32) (x3 : Int32) (σ : ZS), q117 x2 x3 σ = some (r, σr) → zw x g 4 0 0 (zMQ x g (some (zi r)) σr) σ 117 [some (zr 103), none, some (zi x2), some (zi x3)] [])) {x2 : Int32} {x3 : Int32} {σ : ZS} (hf : b9_text_117 k q117 x2 x3 σ = some (r, σr)) : zw x g 4 0 0 (zMQ x g (some (zi r)) σr) σ 117 [some (zr 103), none, some (zi x2), some (zi x3)] [] := by
  unfold b9_text_117 at hf
  refine z_iload_n C d9_text_117 rfl ?_
  refine z_aload_n C d9_text_118 rfl ?_
  refine z_getI C d9_text_119 fl_835 kZ_103 ?_
  refine z_icmp_ge C d9_text_122 (fun c1 => ?_) (fun c1 => ?_)
  · have hf := zit c1 hf
    refine z_iconst C (1 : Int32) d9_text_164 kI_1 ?_
    exact z_iret C d9_text_165 hf
  · have hf := zie c1 hf
    refine z_aload_n C d9_text_125 rfl ?_
    refine z_getR C d9_text_126 fl_817 kZ_103 104 rfl (zn0 kZ_104) ?_
    refine z_iload_n C d9_text_129 rfl ?_
    refine z_iconst C (1 : Int32) d9_text_130 kI_1 ?_
    refine z_iadd C d9_text_131 ?_
    refine z_iload_n C d9_text_132 rfl ?_
    refine z_iadd C d9_text_133 ?_
    refine z_aload_n C d9_text_134 rfl ?_
    refine z_getR C d9_text_135 fl_831 kZ_103 113 rfl (zn0 kZ_113) ?_
    refine z_iload_n C d9_text_138 rfl ?_
    obtain ⟨g2, hf⟩ := zgo hf
    refine z_iald C d9_text_139 kZ_113 kL_113 g2 (x3.toNatClampNeg) rfl ?_
    obtain ⟨g3, hf⟩ := zgo hf
    obtain ⟨s4, e4, hf⟩ := zpx hf
    refine z_iast C d9_text_140 kZ_104 kL_104 g3 rfl e4 ?_
    refine z_aload_n C d9_text_141 rfl ?_
    refine z_getR C d9_text_142 fl_817 kZ_103 104 rfl (zn0 kZ_104) ?_
    refine z_iload_n C d9_text_145 rfl ?_
    refine z_bipush C (61 : Int32) d9_text_146 kB_61 ?_
    refine z_iadd C d9_text_148 ?_
    refine z_iload_n C d9_text_149 rfl ?_
    refine z_iadd C d9_text_150 ?_
    refine z_aload_n C d9_text_151 rfl ?_
    refine z_getR C d9_text_152 fl_832 kZ_103 114 rfl (zn0 kZ_114) ?_
    refine z_iload_n C d9_text_155 rfl ?_
    obtain ⟨g5, hf⟩ := zgo hf
    refine z_iald C d9_text_156 kZ_114 kL_114 g5 (x3.toNatClampNeg) rfl ?_
    obtain ⟨g6, hf⟩ := zgo hf
    obtain ⟨s7, e7, hf⟩ := zpx hf
    refine z_iast C d9_text_157 kZ_104 kL_104 g6 rfl e7 ?_
    refine z_iinc C d9_text_158 rfl kI_1 (Nat.le_of_ble_eq_true rfl) rfl (L' := [some (zr 103), none, some (zi x2), some (zi (x3 + (1 : Int32)))]) rfl ?_
    refine z_goto C d9_text_161 ?_
    exact hq117 _ _ _ hf
theorem j9_text_117l {x : ZX} {g : ZG} (C : zC x g b9_text R9 (some .int) 4 84 1884) {k : Nat} {r : Int32} {σr : ZS}  : ∀ (n : Nat) (x2 : Int32) (x3 : Int32) (σ : ZS), f9_text_117 k  n x2 x3 σ = some (r, σr) → zw x g 4 0 0 (zMQ x g (some (zi r)) σr) σ 117 [some (zr 103), none, some (zi x2), some (zi x3)] [] := by
  intro n
  induction n with
  | zero => intro x2 x3 σ hf; exact absurd (show none = some (r, σr) from hf) (fun z => by cases z)
  | succ n ih => intro x2 x3 σ hf; exact j9_text_117 C  ih (show b9_text_117 k  (f9_text_117 k  n) x2 x3 σ = some (r, σr) from hf)
def b9_text_71 (k : Nat) (x1 : Int32) (v0 : Nat) (v1 : Int32) (σ : ZS) : Option (Int32 × ZS) :=
  if zsh v0 = 10 then (
  if zbo v1 then (
  zput (zu σ v0 21 v1) fun s3 =>
  zput (zu s3 104 (4) (0 : Int32)) fun s4 =>
  if (s4 103 21) = 0 then (
  if zin ((148 : Int32) + ((121 : Int32) * x1)) 390 then (
  zput (zu s4 104 (((148 : Int32) + ((121 : Int32) * x1)).toNatClampNeg) (s4 103 18)) fun s7 =>
  f9_text_117 k  k ((148 : Int32) + ((121 : Int32) * x1)) (0 : Int32) s7) else none)
  else (
  some (((-10 : Int32) - (s4 103 19)), s4))) else none) else none
theorem j9_text_71 {x : ZX} {g : ZG} (C : zC x g b9_text R9 (some .int) 4 84 1884) {k : Nat} {r : Int32} {σr : ZS}  {x1 : Int32} {v0 : Nat} {v1 : Int32} {σ : ZS} (hf : b9_text_71 k  x1 v0 v1 σ = some (r, σr)) : zw x g 4 0 0 (zMQ x g (some (zi r)) σr) σ 71 [some (zr 103), some (zi x1), none, none] [zi v1, zr v0] := by
  unfold b9_text_71 at hf
  obtain ⟨g1, hf⟩ := zgo hf
  obtain ⟨g2, hf⟩ := zgo hf
  obtain ⟨s3, e3, hf⟩ := zpx hf
  refine z_putZ C d9_text_71 fl_838 ft_9_21 g1 g2 e3 ?_
  refine z_aload_n C d9_text_74 rfl ?_
  refine z_getR C d9_text_75 fl_817 kZ_103 104 rfl (zn0 kZ_104) ?_
  refine z_iconst C (4 : Int32) d9_text_78 kI_4 ?_
  refine z_iconst C (0 : Int32) d9_text_79 kI_0 ?_
  obtain ⟨s4, e4, hf⟩ := zpx hf
  refine z_iast C d9_text_80 kZ_104 kL_104 ⟨by decide, by decide⟩ kN_4 e4 ?_
  refine z_aload_n C d9_text_81 rfl ?_
  refine z_getI C d9_text_82 fl_838 kZ_103 ?_
  refine z_if_eq C d9_text_85 (fun c5 => ?_) (fun c5 => ?_)
  · have hf := zit c5 hf
    refine z_sipush C (148 : Int32) d9_text_96 kS_148 ?_
    refine z_bipush C (121 : Int32) d9_text_99 kB_121 ?_
    refine z_iload_n C d9_text_101 rfl ?_
    refine z_imul C d9_text_102 ?_
    refine z_iadd C d9_text_103 ?_
    refine z_istore_n C d9_text_104 (Nat.le_of_ble_eq_true rfl) rfl (L' := [some (zr 103), some (zi x1), some (zi ((148 : Int32) + ((121 : Int32) * x1))), none]) rfl ?_
    refine z_aload_n C d9_text_105 rfl ?_
    refine z_getR C d9_text_106 fl_817 kZ_103 104 rfl (zn0 kZ_104) ?_
    refine z_iload_n C d9_text_109 rfl ?_
    refine z_aload_n C d9_text_110 rfl ?_
    refine z_getI C d9_text_111 fl_835 kZ_103 ?_
    obtain ⟨g6, hf⟩ := zgo hf
    obtain ⟨s7, e7, hf⟩ := zpx hf
    refine z_iast C d9_text_114 kZ_104 kL_104 g6 rfl e7 ?_
    refine z_iconst C (0 : Int32) d9_text_115 kI_0 ?_
    refine z_istore_n C d9_text_116 (Nat.le_of_ble_eq_true rfl) rfl (L' := [some (zr 103), some (zi x1), some (zi ((148 : Int32) + ((121 : Int32) * x1))), some (zi (0 : Int32))]) rfl ?_
    refine z_drop [true, false, true, true] (L' := [some (zr 103), none, some (zi ((148 : Int32) + ((121 : Int32) * x1))), some (zi (0 : Int32))]) rfl ?_
    exact j9_text_117l C  _ _ _ _ hf
  · have hf := zie c5 hf
    refine z_bipush C (-10 : Int32) d9_text_88 kB_m10 ?_
    refine z_aload_n C d9_text_90 rfl ?_
    refine z_getI C d9_text_91 fl_836 kZ_103 ?_
    refine z_isub C d9_text_94 ?_
    exact z_iret C d9_text_95 hf
def f9_text (k : Nat) (x1 : Int32) (σ : ZS) : Option (Int32 × ZS) :=
  zbd (f9_in k x1 (0 : Int32) (1 : Int32) σ) fun r1 s1 =>
  if r1 = 0 then (
  zbd (f9_error k (-1000000001 : Int32) s1) fun r3 s3 =>
  some (r3, s3))
  else (
  zput (zu s1 103 22 x1) fun s4 =>
  zput (zu s4 103 18 (0 : Int32)) fun s5 =>
  zput (zu s5 103 19 (0 : Int32)) fun s6 =>
  zput (zu s6 103 20 (0 : Int32)) fun s7 =>
  zput (zu s7 103 21 (0 : Int32)) fun s8 =>
  zbd (f9_anyx k s8) fun _ s9 =>
  if (s9 103 21) = 0 then (
  if (s9 104 4) ≤ (s9 103 19) then (
  b9_text_71 k  x1 103 (0 : Int32) s9)
  else (
  b9_text_71 k  x1 103 (1 : Int32) s9))
  else (
  b9_text_71 k  x1 103 (1 : Int32) s9))
theorem c9_text (l : Launch) (g : ZG) {k : Nat} {x1 : Int32} {σ : ZS} {r : Int32} {σr : ZS} (hf : f9_text k x1 σ = some (r, σr)) : zT l g y9_text b9_text 4 (some .int) 84 1884 [zr 103, zi x1] σ (some (zi r)) σr := by
  unfold f9_text at hf
  refine zT_start (own := R9) rfl (by decide +kernel) 2 (L := [some (zr 103), some (zi x1), none, none]) rfl rfl (fun x hl C => ?_)
  subst hl
  refine z_iload_n C d9_text_0 rfl ?_
  refine z_iconst C (0 : Int32) d9_text_1 kI_0 ?_
  refine z_iconst C (1 : Int32) d9_text_2 kI_1 ?_
  obtain ⟨r1, s1, h1, hf⟩ := zbx hf
  refine z_callSi C (as := [zi x1, zi (0 : Int32), zi (1 : Int32)]) d9_text_3 w_906 yy9_in (c9_in x.2.1 g h1) rfl rfl (Nat.le_of_ble_eq_true rfl) ⟨Nat.le_of_ble_eq_true rfl, Nat.le_of_ble_eq_true rfl⟩ ⟨Nat.zero_le _, Nat.zero_le _⟩ ?_
  refine z_if_ne C d9_text_6 (fun c2 => ?_) (fun c2 => ?_)
  · have hf := zit c2 hf
    refine z_aload_n C d9_text_9 rfl ?_
    refine z_ldc C (-1000000001 : Int32) d9_text_10 w_915 ?_
    obtain ⟨r3, s3, h3, hf⟩ := zbx hf
    refine z_callVi C (as := [zi (-1000000001 : Int32)]) d9_text_12 w_916 yy9_error (c9_error x.2.1 g h3) yc9_error kZ_103 rfl rfl (Nat.le_of_ble_eq_true rfl) ⟨Nat.le_of_ble_eq_true rfl, Nat.le_of_ble_eq_true rfl⟩ ⟨Nat.zero_le _, Nat.zero_le _⟩ ?_
    exact z_iret C d9_text_15 hf
  · have hf := zie c2 hf
    refine z_aload_n C d9_text_16 rfl ?_
    refine z_iload_n C d9_text_17 rfl ?_
    obtain ⟨s4, e4, hf⟩ := zpx hf
    refine z_putI C d9_text_18 fl_839 ft_9_22 kZ_103 e4 ?_
    refine z_aload_n C d9_text_21 rfl ?_
    refine z_iconst C (0 : Int32) d9_text_22 kI_0 ?_
    obtain ⟨s5, e5, hf⟩ := zpx hf
    refine z_putI C d9_text_23 fl_835 ft_9_18 kZ_103 e5 ?_
    refine z_aload_n C d9_text_26 rfl ?_
    refine z_iconst C (0 : Int32) d9_text_27 kI_0 ?_
    obtain ⟨s6, e6, hf⟩ := zpx hf
    refine z_putI C d9_text_28 fl_836 ft_9_19 kZ_103 e6 ?_
    refine z_aload_n C d9_text_31 rfl ?_
    refine z_iconst C (0 : Int32) d9_text_32 kI_0 ?_
    obtain ⟨s7, e7, hf⟩ := zpx hf
    refine z_putI C d9_text_33 fl_837 ft_9_20 kZ_103 e7 ?_
    refine z_aload_n C d9_text_36 rfl ?_
    refine z_iconst C (0 : Int32) d9_text_37 kI_0 ?_
    obtain ⟨s8, e8, hf⟩ := zpx hf
    refine z_putZ C d9_text_38 fl_838 ft_9_21 kZ_103 (Or.inl rfl) e8 ?_
    refine z_aload_n C d9_text_41 rfl ?_
    obtain ⟨r9, s9, h9, hf⟩ := zbx hf
    refine z_callVv C (as := []) d9_text_42 w_1053 yy9_any (c9_anyx x.2.1 g h9) yc9_any kZ_103 rfl rfl (Nat.le_of_ble_eq_true rfl) ⟨Nat.le_of_ble_eq_true rfl, Nat.le_of_ble_eq_true rfl⟩ ⟨Nat.zero_le _, Nat.zero_le _⟩ ?_
    refine z_aload_n C d9_text_45 rfl ?_
    refine z_aload_n C d9_text_46 rfl ?_
    refine z_getI C d9_text_47 fl_838 kZ_103 ?_
    refine z_if_ne C d9_text_50 (fun c10 => ?_) (fun c10 => ?_)
    · have hf := zit c10 hf
      refine z_aload_n C d9_text_53 rfl ?_
      refine z_getI C d9_text_54 fl_836 kZ_103 ?_
      refine z_aload_n C d9_text_57 rfl ?_
      refine z_getR C d9_text_58 fl_817 kZ_103 104 rfl (zn0 kZ_104) ?_
      refine z_iconst C (4 : Int32) d9_text_61 kI_4 ?_
      refine z_iald C d9_text_62 kZ_104 kL_104 ⟨by decide, by decide⟩ (4) kN_4 ?_
      refine z_icmp_ge C d9_text_63 (fun c11 => ?_) (fun c11 => ?_)
      · have hf := zit c11 hf
        refine z_iconst C (0 : Int32) d9_text_70 kI_0 ?_
        exact j9_text_71 C  hf
      · have hf := zie c11 hf
        refine z_iconst C (1 : Int32) d9_text_66 kI_1 ?_
        refine z_goto C d9_text_67 ?_
        exact j9_text_71 C  hf
    · have hf := zie c10 hf
      refine z_iconst C (1 : Int32) d9_text_66 kI_1 ?_
      refine z_goto C d9_text_67 ?_
      exact j9_text_71 C  hf
theorem d9_thinks_0 : zd b9_thinks 0 (.aload_n 0) 1 1 := ⟨by decide +kernel, rfl⟩
theorem d9_thinks_1 : zd b9_thinks 1 (.getfield 9) 3 4 := ⟨by decide +kernel, rfl⟩
theorem d9_thinks_4 : zd b9_thinks 4 (.aload_n 0) 1 5 := ⟨by decide +kernel, rfl⟩
theorem d9_thinks_5 : zd b9_thinks 5 (.getfield 16) 3 8 := ⟨by decide +kernel, rfl⟩
theorem d9_thinks_8 : zd b9_thinks 8 (.invokestatic 224) 3 11 := ⟨by decide +kernel, rfl⟩
theorem d9_thinks_11 : zd b9_thinks 11 .return_ 1 12 := ⟨by decide +kernel, rfl⟩
def f9_thinks (k : Nat)  (σ : ZS) : Option (Unit × ZS) :=
  zbd (f9_copyAll k 104 106 σ) fun _ s1 =>
  some ((), s1)
theorem c9_thinks (l : Launch) (g : ZG) {k : Nat}  {σ : ZS} {r : Unit} {σr : ZS} (hf : f9_thinks k  σ = some (r, σr)) : zT l g y9_thinks b9_thinks 1 none 2 82 [zr 103] σ none σr := by
  unfold f9_thinks at hf
  refine zT_start (own := R9) rfl (by decide +kernel) 0 (L := [some (zr 103)]) rfl rfl (fun x hl C => ?_)
  subst hl
  refine z_aload_n C d9_thinks_0 rfl ?_
  refine z_getR C d9_thinks_1 fl_817 kZ_103 104 rfl (zn0 kZ_104) ?_
  refine z_aload_n C d9_thinks_4 rfl ?_
  refine z_getR C d9_thinks_5 fl_819 kZ_103 106 rfl (zn0 kZ_106) ?_
  obtain ⟨r1, s1, h1, hf⟩ := zbx hf
  refine z_callSv C (as := [zr 104, zr 106]) d9_thinks_8 w_1155 yy9_copyAll (c9_copyAll x.2.1 g h1) rfl rfl (Nat.le_of_ble_eq_true rfl) ⟨Nat.le_of_ble_eq_true rfl, Nat.le_of_ble_eq_true rfl⟩ ⟨Nat.zero_le _, Nat.zero_le _⟩ ?_
  exact z_vret C d9_thinks_11 hf
theorem d9_then_0 : zd b9_then 0 (.aload_n 0) 1 1 := ⟨by decide +kernel, rfl⟩
theorem d9_then_1 : zd b9_then 1 (.iload_n 1) 1 2 := ⟨by decide +kernel, rfl⟩
theorem d9_then_2 : zd b9_then 2 (.invokevirtual 143) 3 5 := ⟨by decide +kernel, rfl⟩
theorem d9_then_5 : zdb b9_then 5 (.ifCond .eq 13) 13 8 18 := ⟨by decide +kernel, rfl, by decide⟩
theorem d9_then_8 : zd b9_then 8 (.iload_n 2) 1 9 := ⟨by decide +kernel, rfl⟩
theorem d9_then_9 : zd b9_then 9 (.iconst 0) 1 10 := ⟨by decide +kernel, rfl⟩
theorem d9_then_10 : zd b9_then 10 (.bipush 48) 2 12 := ⟨by decide +kernel, rfl⟩
theorem d9_then_12 : zd b9_then 12 (.invokestatic 56) 3 15 := ⟨by decide +kernel, rfl⟩
theorem d9_then_15 : zdb b9_then 15 (.ifCond .ne 10) 10 18 25 := ⟨by decide +kernel, rfl, by decide⟩
theorem d9_then_18 : zd b9_then 18 (.aload_n 0) 1 19 := ⟨by decide +kernel, rfl⟩
theorem d9_then_19 : zd b9_then 19 (.ldc 130) 2 21 := ⟨by decide +kernel, rfl⟩
theorem d9_then_21 : zd b9_then 21 (.invokevirtual 131) 3 24 := ⟨by decide +kernel, rfl⟩
theorem d9_then_24 : zd b9_then 24 .ireturn 1 25 := ⟨by decide +kernel, rfl⟩
theorem d9_then_25 : zd b9_then 25 (.aload_n 0) 1 26 := ⟨by decide +kernel, rfl⟩
theorem d9_then_26 : zd b9_then 26 (.invokevirtual 228) 3 29 := ⟨by decide +kernel, rfl⟩
theorem d9_then_29 : zd b9_then 29 (.iconst 0) 1 30 := ⟨by decide +kernel, rfl⟩
theorem d9_then_30 : zd b9_then 30 (.istore_n 3) 1 31 := ⟨by decide +kernel, rfl⟩
theorem d9_then_31 : zd b9_then 31 (.iload_n 3) 1 32 := ⟨by decide +kernel, rfl⟩
theorem d9_then_32 : zd b9_then 32 (.iload_n 2) 1 33 := ⟨by decide +kernel, rfl⟩
theorem d9_then_33 : zdb b9_then 33 (.if_icmp .ge 13) 13 36 46 := ⟨by decide +kernel, rfl, by decide⟩
theorem d9_then_36 : zd b9_then 36 (.aload_n 0) 1 37 := ⟨by decide +kernel, rfl⟩
theorem d9_then_37 : zd b9_then 37 (.invokevirtual 210) 3 40 := ⟨by decide +kernel, rfl⟩
theorem d9_then_40 : zd b9_then 40 (.iinc 3 1) 3 43 := ⟨by decide +kernel, rfl⟩
theorem d9_then_43 : zdb b9_then 43 (.goto (-12)) (-12) 46 31 := ⟨by decide +kernel, rfl, by decide⟩
theorem d9_then_46 : zd b9_then 46 (.aload_n 0) 1 47 := ⟨by decide +kernel, rfl⟩
theorem d9_then_47 : zd b9_then 47 (.iload_n 1) 1 48 := ⟨by decide +kernel, rfl⟩
theorem d9_then_48 : zd b9_then 48 (.iconst 2) 1 49 := ⟨by decide +kernel, rfl⟩
theorem d9_then_49 : zd b9_then 49 (.invokevirtual 109) 3 52 := ⟨by decide +kernel, rfl⟩
theorem d9_then_52 : zd b9_then 52 (.istore_n 3) 1 53 := ⟨by decide +kernel, rfl⟩
theorem d9_then_53 : zd b9_then 53 (.aload_n 0) 1 54 := ⟨by decide +kernel, rfl⟩
theorem d9_then_54 : zd b9_then 54 (.invokevirtual 231) 3 57 := ⟨by decide +kernel, rfl⟩
theorem d9_then_57 : zd b9_then 57 (.iload_n 3) 1 58 := ⟨by decide +kernel, rfl⟩
theorem d9_then_58 : zd b9_then 58 .ireturn 1 59 := ⟨by decide +kernel, rfl⟩
def b9_then_31 (k : Nat) (q31 : Int32 → Int32 → Int32 → ZS → Option (Int32 × ZS)) (x1 : Int32) (x2 : Int32) (x3 : Int32) (σ : ZS) : Option (Int32 × ZS) :=
  if x2 ≤ x3 then (
  zbd (f9_about k x1 (2 : Int32) σ) fun r2 s2 =>
  zbd (f9_putsBack k s2) fun _ s3 =>
  some (r2, s3))
  else (
  zbd (f9_goes k σ) fun _ s4 =>
  q31 x1 x2 (x3 + (1 : Int32)) s4)
def f9_then_31 (k : Nat) : Nat → Int32 → Int32 → Int32 → ZS → Option (Int32 × ZS)
  | 0 => fun _ _ _ _ => none
  | n + 1 => b9_then_31 k  (f9_then_31 k  n)
theorem j9_then_31 {x : ZX} {g : ZG} (C : zC x g b9_then R9 (some .int) 4 9 244) {k : Nat} {r : Int32} {σr : ZS}  {q31 : Int32 → Int32 → Int32 → ZS → Option (Int32 × ZS)} (hq31 : (∀ (x1 : Int32) (x2 : Int32) (x3 : Int32) (σ : ZS), q31 x1 x2 x3 σ = some (r, σr) → zw x g 4 0 0 (zMQ x g (some (zi r)) σr) σ 31 [some (zr 103), some (zi x1), some (zi x2), some (zi x3)] [])) {x1 : Int32} {x2 : Int32} {x3 : Int32} {σ : ZS} (hf : b9_then_31 k q31 x1 x2 x3 σ = some (r, σr)) : zw x g 4 0 0 (zMQ x g (some (zi r)) σr) σ 31 [some (zr 103), some (zi x1), some (zi x2), some (zi x3)] [] := by
  unfold b9_then_31 at hf
  refine z_iload_n C d9_then_31 rfl ?_
  refine z_iload_n C d9_then_32 rfl ?_
  refine z_icmp_ge C d9_then_33 (fun c1 => ?_) (fun c1 => ?_)
  · have hf := zit c1 hf
    refine z_aload_n C d9_then_46 rfl ?_
    refine z_iload_n C d9_then_47 rfl ?_
    refine z_iconst C (2 : Int32) d9_then_48 kI_2 ?_
    obtain ⟨r2, s2, h2, hf⟩ := zbx hf
    refine z_callVi C (as := [zi x1, zi (2 : Int32)]) d9_then_49 w_990 yy9_about (c9_about x.2.1 g h2) yc9_about kZ_103 rfl rfl (Nat.le_of_ble_eq_true rfl) ⟨Nat.le_of_ble_eq_true rfl, Nat.le_of_ble_eq_true rfl⟩ ⟨Nat.zero_le _, Nat.zero_le _⟩ ?_
    refine z_istore_n C d9_then_52 (Nat.le_of_ble_eq_true rfl) rfl (L' := [some (zr 103), some (zi x1), some (zi x2), some (zi r2)]) rfl ?_
    refine z_aload_n C d9_then_53 rfl ?_
    obtain ⟨r3, s3, h3, hf⟩ := zbx hf
    refine z_callVv C (as := []) d9_then_54 w_1158 yy9_putsBack (c9_putsBack x.2.1 g h3) yc9_putsBack kZ_103 rfl rfl (Nat.le_of_ble_eq_true rfl) ⟨Nat.le_of_ble_eq_true rfl, Nat.le_of_ble_eq_true rfl⟩ ⟨Nat.zero_le _, Nat.zero_le _⟩ ?_
    refine z_iload_n C d9_then_57 rfl ?_
    exact z_iret C d9_then_58 hf
  · have hf := zie c1 hf
    refine z_aload_n C d9_then_36 rfl ?_
    obtain ⟨r4, s4, h4, hf⟩ := zbx hf
    refine z_callVv C (as := []) d9_then_37 w_1109 yy9_goes (c9_goes x.2.1 g h4) yc9_goes kZ_103 rfl rfl (Nat.le_of_ble_eq_true rfl) ⟨Nat.le_of_ble_eq_true rfl, Nat.le_of_ble_eq_true rfl⟩ ⟨Nat.zero_le _, Nat.zero_le _⟩ ?_
    refine z_iinc C d9_then_40 rfl kI_1 (Nat.le_of_ble_eq_true rfl) rfl (L' := [some (zr 103), some (zi x1), some (zi x2), some (zi (x3 + (1 : Int32)))]) rfl ?_
    refine z_goto C d9_then_43 ?_
    exact hq31 _ _ _ _ hf
theorem j9_then_31l {x : ZX} {g : ZG} (C : zC x g b9_then R9 (some .int) 4 9 244) {k : Nat} {r : Int32} {σr : ZS}  : ∀ (n : Nat) (x1 : Int32) (x2 : Int32) (x3 : Int32) (σ : ZS), f9_then_31 k  n x1 x2 x3 σ = some (r, σr) → zw x g 4 0 0 (zMQ x g (some (zi r)) σr) σ 31 [some (zr 103), some (zi x1), some (zi x2), some (zi x3)] [] := by
  intro n
  induction n with
  | zero => intro x1 x2 x3 σ hf; exact absurd (show none = some (r, σr) from hf) (fun z => by cases z)
  | succ n ih => intro x1 x2 x3 σ hf; exact j9_then_31 C  ih (show b9_then_31 k  (f9_then_31 k  n) x1 x2 x3 σ = some (r, σr) from hf)
def f9_then (k : Nat) (x1 : Int32) (x2 : Int32) (σ : ZS) : Option (Int32 × ZS) :=
  zbd (f9_isPerson k x1 σ) fun r1 s1 =>
  if r1 = 0 then (
  zbd (f9_error k (-1000000001 : Int32) s1) fun r3 s3 =>
  some (r3, s3))
  else (
  zbd (f9_in k x2 (0 : Int32) (48 : Int32) s1) fun r4 s4 =>
  if r4 = 0 then (
  zbd (f9_error k (-1000000001 : Int32) s4) fun r6 s6 =>
  some (r6, s6))
  else (
  zbd (f9_thinks k s4) fun _ s7 =>
  f9_then_31 k  k x1 x2 (0 : Int32) s7))
theorem c9_then (l : Launch) (g : ZG) {k : Nat} {x1 : Int32} {x2 : Int32} {σ : ZS} {r : Int32} {σr : ZS} (hf : f9_then k x1 x2 σ = some (r, σr)) : zT l g y9_then b9_then 4 (some .int) 9 244 [zr 103, zi x1, zi x2] σ (some (zi r)) σr := by
  unfold f9_then at hf
  refine zT_start (own := R9) rfl (by decide +kernel) 1 (L := [some (zr 103), some (zi x1), some (zi x2), none]) rfl rfl (fun x hl C => ?_)
  subst hl
  refine z_aload_n C d9_then_0 rfl ?_
  refine z_iload_n C d9_then_1 rfl ?_
  obtain ⟨r1, s1, h1, hf⟩ := zbx hf
  refine z_callVi C (as := [zi x1]) d9_then_2 w_986 yy9_isPerson (c9_isPerson x.2.1 g h1) yc9_isPerson kZ_103 rfl rfl (Nat.le_of_ble_eq_true rfl) ⟨Nat.le_of_ble_eq_true rfl, Nat.le_of_ble_eq_true rfl⟩ ⟨Nat.zero_le _, Nat.zero_le _⟩ ?_
  refine z_if_eq C d9_then_5 (fun c2 => ?_) (fun c2 => ?_)
  · have hf := zit c2 hf
    refine z_aload_n C d9_then_18 rfl ?_
    refine z_ldc C (-1000000001 : Int32) d9_then_19 w_915 ?_
    obtain ⟨r3, s3, h3, hf⟩ := zbx hf
    refine z_callVi C (as := [zi (-1000000001 : Int32)]) d9_then_21 w_916 yy9_error (c9_error x.2.1 g h3) yc9_error kZ_103 rfl rfl (Nat.le_of_ble_eq_true rfl) ⟨Nat.le_of_ble_eq_true rfl, Nat.le_of_ble_eq_true rfl⟩ ⟨Nat.zero_le _, Nat.zero_le _⟩ ?_
    exact z_iret C d9_then_24 hf
  · have hf := zie c2 hf
    refine z_iload_n C d9_then_8 rfl ?_
    refine z_iconst C (0 : Int32) d9_then_9 kI_0 ?_
    refine z_bipush C (48 : Int32) d9_then_10 kB_48 ?_
    obtain ⟨r4, s4, h4, hf⟩ := zbx hf
    refine z_callSi C (as := [zi x2, zi (0 : Int32), zi (48 : Int32)]) d9_then_12 w_906 yy9_in (c9_in x.2.1 g h4) rfl rfl (Nat.le_of_ble_eq_true rfl) ⟨Nat.le_of_ble_eq_true rfl, Nat.le_of_ble_eq_true rfl⟩ ⟨Nat.zero_le _, Nat.zero_le _⟩ ?_
    refine z_if_ne C d9_then_15 (fun c5 => ?_) (fun c5 => ?_)
    · have hf := zit c5 hf
      refine z_aload_n C d9_then_18 rfl ?_
      refine z_ldc C (-1000000001 : Int32) d9_then_19 w_915 ?_
      obtain ⟨r6, s6, h6, hf⟩ := zbx hf
      refine z_callVi C (as := [zi (-1000000001 : Int32)]) d9_then_21 w_916 yy9_error (c9_error x.2.1 g h6) yc9_error kZ_103 rfl rfl (Nat.le_of_ble_eq_true rfl) ⟨Nat.le_of_ble_eq_true rfl, Nat.le_of_ble_eq_true rfl⟩ ⟨Nat.zero_le _, Nat.zero_le _⟩ ?_
      exact z_iret C d9_then_24 hf
    · have hf := zie c5 hf
      refine z_aload_n C d9_then_25 rfl ?_
      obtain ⟨r7, s7, h7, hf⟩ := zbx hf
      refine z_callVv C (as := []) d9_then_26 w_1151 yy9_thinks (c9_thinks x.2.1 g h7) yc9_thinks kZ_103 rfl rfl (Nat.le_of_ble_eq_true rfl) ⟨Nat.le_of_ble_eq_true rfl, Nat.le_of_ble_eq_true rfl⟩ ⟨Nat.zero_le _, Nat.zero_le _⟩ ?_
      refine z_iconst C (0 : Int32) d9_then_29 kI_0 ?_
      refine z_istore_n C d9_then_30 (Nat.le_of_ble_eq_true rfl) rfl (L' := [some (zr 103), some (zi x1), some (zi x2), some (zi (0 : Int32))]) rfl ?_
      exact j9_then_31l C  _ _ _ _ _ hf
theorem d9_throwsOn_0 : zd b9_throwsOn 0 (.aload_n 0) 1 1 := ⟨by decide +kernel, rfl⟩
theorem d9_throwsOn_1 : zd b9_throwsOn 1 (.iload_n 1) 1 2 := ⟨by decide +kernel, rfl⟩
theorem d9_throwsOn_2 : zd b9_throwsOn 2 (.invokevirtual 136) 3 5 := ⟨by decide +kernel, rfl⟩
theorem d9_throwsOn_5 : zdb b9_throwsOn 5 (.ifCond .eq 19) 19 8 24 := ⟨by decide +kernel, rfl, by decide⟩
theorem d9_throwsOn_8 : zd b9_throwsOn 8 (.iload_n 2) 1 9 := ⟨by decide +kernel, rfl⟩
theorem d9_throwsOn_9 : zd b9_throwsOn 9 (.invokestatic 127) 3 12 := ⟨by decide +kernel, rfl⟩
theorem d9_throwsOn_12 : zdb b9_throwsOn 12 (.ifCond .eq 12) 12 15 24 := ⟨by decide +kernel, rfl, by decide⟩
theorem d9_throwsOn_15 : zd b9_throwsOn 15 (.aload_n 0) 1 16 := ⟨by decide +kernel, rfl⟩
theorem d9_throwsOn_16 : zd b9_throwsOn 16 (.iload_n 1) 1 17 := ⟨by decide +kernel, rfl⟩
theorem d9_throwsOn_17 : zd b9_throwsOn 17 (.iload_n 2) 1 18 := ⟨by decide +kernel, rfl⟩
theorem d9_throwsOn_18 : zd b9_throwsOn 18 (.invokevirtual 75) 3 21 := ⟨by decide +kernel, rfl⟩
theorem d9_throwsOn_21 : zdb b9_throwsOn 21 (.goto 9) 9 24 30 := ⟨by decide +kernel, rfl, by decide⟩
theorem d9_throwsOn_24 : zd b9_throwsOn 24 (.aload_n 0) 1 25 := ⟨by decide +kernel, rfl⟩
theorem d9_throwsOn_25 : zd b9_throwsOn 25 (.ldc 130) 2 27 := ⟨by decide +kernel, rfl⟩
theorem d9_throwsOn_27 : zd b9_throwsOn 27 (.invokevirtual 131) 3 30 := ⟨by decide +kernel, rfl⟩
theorem d9_throwsOn_30 : zd b9_throwsOn 30 .ireturn 1 31 := ⟨by decide +kernel, rfl⟩
def f9_throwsOn (k : Nat) (x1 : Int32) (x2 : Int32) (σ : ZS) : Option (Int32 × ZS) :=
  zbd (f9_isGlass k x1 σ) fun r1 s1 =>
  if r1 = 0 then (
  zbd (f9_error k (-1000000001 : Int32) s1) fun r3 s3 =>
  some (r3, s3))
  else (
  zbd (f9_isFour k x2 s1) fun r4 s4 =>
  if r4 = 0 then (
  zbd (f9_error k (-1000000001 : Int32) s4) fun r6 s6 =>
  some (r6, s6))
  else (
  zbd (f9_onward k x1 x2 s4) fun r7 s7 =>
  some (r7, s7)))
theorem c9_throwsOn (l : Launch) (g : ZG) {k : Nat} {x1 : Int32} {x2 : Int32} {σ : ZS} {r : Int32} {σr : ZS} (hf : f9_throwsOn k x1 x2 σ = some (r, σr)) : zT l g y9_throwsOn b9_throwsOn 3 (some .int) 4 124 [zr 103, zi x1, zi x2] σ (some (zi r)) σr := by
  unfold f9_throwsOn at hf
  refine zT_start (own := R9) rfl (by decide +kernel) 0 (L := [some (zr 103), some (zi x1), some (zi x2)]) rfl rfl (fun x hl C => ?_)
  subst hl
  refine z_aload_n C d9_throwsOn_0 rfl ?_
  refine z_iload_n C d9_throwsOn_1 rfl ?_
  obtain ⟨r1, s1, h1, hf⟩ := zbx hf
  refine z_callVi C (as := [zi x1]) d9_throwsOn_2 w_935 yy9_isGlass (c9_isGlass x.2.1 g h1) yc9_isGlass kZ_103 rfl rfl (Nat.le_of_ble_eq_true rfl) ⟨Nat.le_of_ble_eq_true rfl, Nat.le_of_ble_eq_true rfl⟩ ⟨Nat.zero_le _, Nat.zero_le _⟩ ?_
  refine z_if_eq C d9_throwsOn_5 (fun c2 => ?_) (fun c2 => ?_)
  · have hf := zit c2 hf
    refine z_aload_n C d9_throwsOn_24 rfl ?_
    refine z_ldc C (-1000000001 : Int32) d9_throwsOn_25 w_915 ?_
    obtain ⟨r3, s3, h3, hf⟩ := zbx hf
    refine z_callVi C (as := [zi (-1000000001 : Int32)]) d9_throwsOn_27 w_916 yy9_error (c9_error x.2.1 g h3) yc9_error kZ_103 rfl rfl (Nat.le_of_ble_eq_true rfl) ⟨Nat.le_of_ble_eq_true rfl, Nat.le_of_ble_eq_true rfl⟩ ⟨Nat.zero_le _, Nat.zero_le _⟩ ?_
    exact z_iret C d9_throwsOn_30 hf
  · have hf := zie c2 hf
    refine z_iload_n C d9_throwsOn_8 rfl ?_
    obtain ⟨r4, s4, h4, hf⟩ := zbx hf
    refine z_callSi C (as := [zi x2]) d9_throwsOn_9 w_912 yy9_isFour (c9_isFour x.2.1 g h4) rfl rfl (Nat.le_of_ble_eq_true rfl) ⟨Nat.le_of_ble_eq_true rfl, Nat.le_of_ble_eq_true rfl⟩ ⟨Nat.zero_le _, Nat.zero_le _⟩ ?_
    refine z_if_eq C d9_throwsOn_12 (fun c5 => ?_) (fun c5 => ?_)
    · have hf := zit c5 hf
      refine z_aload_n C d9_throwsOn_24 rfl ?_
      refine z_ldc C (-1000000001 : Int32) d9_throwsOn_25 w_915 ?_
      obtain ⟨r6, s6, h6, hf⟩ := zbx hf
      refine z_callVi C (as := [zi (-1000000001 : Int32)]) d9_throwsOn_27 w_916 yy9_error (c9_error x.2.1 g h6) yc9_error kZ_103 rfl rfl (Nat.le_of_ble_eq_true rfl) ⟨Nat.le_of_ble_eq_true rfl, Nat.le_of_ble_eq_true rfl⟩ ⟨Nat.zero_le _, Nat.zero_le _⟩ ?_
      exact z_iret C d9_throwsOn_30 hf
    · have hf := zie c5 hf
      refine z_aload_n C d9_throwsOn_15 rfl ?_
      refine z_iload_n C d9_throwsOn_16 rfl ?_
      refine z_iload_n C d9_throwsOn_17 rfl ?_
      obtain ⟨r7, s7, h7, hf⟩ := zbx hf
      refine z_callVi C (as := [zi x1, zi x2]) d9_throwsOn_18 w_943 yy9_onward (c9_onward x.2.1 g h7) yc9_onward kZ_103 rfl rfl (Nat.le_of_ble_eq_true rfl) ⟨Nat.le_of_ble_eq_true rfl, Nat.le_of_ble_eq_true rfl⟩ ⟨Nat.zero_le _, Nat.zero_le _⟩ ?_
      refine z_goto C d9_throwsOn_21 ?_
      exact z_iret C d9_throwsOn_30 hf
theorem d9_told_0 : zd b9_told 0 (.iload_n 1) 1 1 := ⟨by decide +kernel, rfl⟩
theorem d9_told_1 : zd b9_told 1 (.iconst 1) 1 2 := ⟨by decide +kernel, rfl⟩
theorem d9_told_2 : zd b9_told 2 (.bipush 6) 2 4 := ⟨by decide +kernel, rfl⟩
theorem d9_told_4 : zd b9_told 4 (.invokestatic 56) 3 7 := ⟨by decide +kernel, rfl⟩
theorem d9_told_7 : zdb b9_told 7 (.ifCond .eq 12) 12 10 19 := ⟨by decide +kernel, rfl, by decide⟩
theorem d9_told_10 : zd b9_told 10 (.aload_n 0) 1 11 := ⟨by decide +kernel, rfl⟩
theorem d9_told_11 : zd b9_told 11 (.getfield 19) 3 14 := ⟨by decide +kernel, rfl⟩
theorem d9_told_14 : zd b9_told 14 (.iload_n 1) 1 15 := ⟨by decide +kernel, rfl⟩
theorem d9_told_15 : zd b9_told 15 .iaload 1 16 := ⟨by decide +kernel, rfl⟩
theorem d9_told_16 : zdb b9_told 16 (.goto 9) 9 19 25 := ⟨by decide +kernel, rfl, by decide⟩
theorem d9_told_19 : zd b9_told 19 (.aload_n 0) 1 20 := ⟨by decide +kernel, rfl⟩
theorem d9_told_20 : zd b9_told 20 (.ldc 130) 2 22 := ⟨by decide +kernel, rfl⟩
theorem d9_told_22 : zd b9_told 22 (.invokevirtual 131) 3 25 := ⟨by decide +kernel, rfl⟩
theorem d9_told_25 : zd b9_told 25 .ireturn 1 26 := ⟨by decide +kernel, rfl⟩
def f9_told (k : Nat) (x1 : Int32) (σ : ZS) : Option (Int32 × ZS) :=
  zbd (f9_in k x1 (1 : Int32) (6 : Int32) σ) fun r1 s1 =>
  if r1 = 0 then (
  zbd (f9_error k (-1000000001 : Int32) s1) fun r3 s3 =>
  some (r3, s3))
  else (
  if zin x1 7 then (
  some ((s1 107 x1.toNatClampNeg), s1)) else none)
theorem c9_told (l : Launch) (g : ZG) {k : Nat} {x1 : Int32} {σ : ZS} {r : Int32} {σr : ZS} (hf : f9_told k x1 σ = some (r, σr)) : zT l g y9_told b9_told 2 (some .int) 2 82 [zr 103, zi x1] σ (some (zi r)) σr := by
  unfold f9_told at hf
  refine zT_start (own := R9) rfl (by decide +kernel) 0 (L := [some (zr 103), some (zi x1)]) rfl rfl (fun x hl C => ?_)
  subst hl
  refine z_iload_n C d9_told_0 rfl ?_
  refine z_iconst C (1 : Int32) d9_told_1 kI_1 ?_
  refine z_bipush C (6 : Int32) d9_told_2 kB_6 ?_
  obtain ⟨r1, s1, h1, hf⟩ := zbx hf
  refine z_callSi C (as := [zi x1, zi (1 : Int32), zi (6 : Int32)]) d9_told_4 w_906 yy9_in (c9_in x.2.1 g h1) rfl rfl (Nat.le_of_ble_eq_true rfl) ⟨Nat.le_of_ble_eq_true rfl, Nat.le_of_ble_eq_true rfl⟩ ⟨Nat.zero_le _, Nat.zero_le _⟩ ?_
  refine z_if_eq C d9_told_7 (fun c2 => ?_) (fun c2 => ?_)
  · have hf := zit c2 hf
    refine z_aload_n C d9_told_19 rfl ?_
    refine z_ldc C (-1000000001 : Int32) d9_told_20 w_915 ?_
    obtain ⟨r3, s3, h3, hf⟩ := zbx hf
    refine z_callVi C (as := [zi (-1000000001 : Int32)]) d9_told_22 w_916 yy9_error (c9_error x.2.1 g h3) yc9_error kZ_103 rfl rfl (Nat.le_of_ble_eq_true rfl) ⟨Nat.le_of_ble_eq_true rfl, Nat.le_of_ble_eq_true rfl⟩ ⟨Nat.zero_le _, Nat.zero_le _⟩ ?_
    exact z_iret C d9_told_25 hf
  · have hf := zie c2 hf
    refine z_aload_n C d9_told_10 rfl ?_
    refine z_getR C d9_told_11 fl_821 kZ_103 107 rfl (zn0 kZ_107) ?_
    refine z_iload_n C d9_told_14 rfl ?_
    obtain ⟨g4, hf⟩ := zgo hf
    refine z_iald C d9_told_15 kZ_107 kL_107 g4 (x1.toNatClampNeg) rfl ?_
    refine z_goto C d9_told_16 ?_
    exact z_iret C d9_told_25 hf
theorem d9_turnsOf_0 : zd b9_turnsOf 0 (.aload_n 0) 1 1 := ⟨by decide +kernel, rfl⟩
theorem d9_turnsOf_1 : zd b9_turnsOf 1 (.iload_n 1) 1 2 := ⟨by decide +kernel, rfl⟩
theorem d9_turnsOf_2 : zd b9_turnsOf 2 (.invokevirtual 288) 3 5 := ⟨by decide +kernel, rfl⟩
theorem d9_turnsOf_5 : zd b9_turnsOf 5 (.istore_n 2) 1 6 := ⟨by decide +kernel, rfl⟩
theorem d9_turnsOf_6 : zd b9_turnsOf 6 (.iload_n 2) 1 7 := ⟨by decide +kernel, rfl⟩
theorem d9_turnsOf_7 : zdb b9_turnsOf 7 (.ifCond .eq 9) 9 10 16 := ⟨by decide +kernel, rfl, by decide⟩
theorem d9_turnsOf_10 : zd b9_turnsOf 10 (.aload_n 0) 1 11 := ⟨by decide +kernel, rfl⟩
theorem d9_turnsOf_11 : zd b9_turnsOf 11 (.iload_n 2) 1 12 := ⟨by decide +kernel, rfl⟩
theorem d9_turnsOf_12 : zd b9_turnsOf 12 (.invokevirtual 131) 3 15 := ⟨by decide +kernel, rfl⟩
theorem d9_turnsOf_15 : zd b9_turnsOf 15 .ireturn 1 16 := ⟨by decide +kernel, rfl⟩
theorem d9_turnsOf_16 : zd b9_turnsOf 16 (.iconst 0) 1 17 := ⟨by decide +kernel, rfl⟩
theorem d9_turnsOf_17 : zd b9_turnsOf 17 (.istore_n 3) 1 18 := ⟨by decide +kernel, rfl⟩
theorem d9_turnsOf_18 : zd b9_turnsOf 18 (.iload_n 3) 1 19 := ⟨by decide +kernel, rfl⟩
theorem d9_turnsOf_19 : zd b9_turnsOf 19 (.aload_n 0) 1 20 := ⟨by decide +kernel, rfl⟩
theorem d9_turnsOf_20 : zd b9_turnsOf 20 (.getfield 25) 3 23 := ⟨by decide +kernel, rfl⟩
theorem d9_turnsOf_23 : zd b9_turnsOf 23 (.iload_n 1) 1 24 := ⟨by decide +kernel, rfl⟩
theorem d9_turnsOf_24 : zd b9_turnsOf 24 .iaload 1 25 := ⟨by decide +kernel, rfl⟩
theorem d9_turnsOf_25 : zdb b9_turnsOf 25 (.if_icmp .ge 60) 60 28 85 := ⟨by decide +kernel, rfl, by decide⟩
theorem d9_turnsOf_28 : zd b9_turnsOf 28 (.iload_n 3) 1 29 := ⟨by decide +kernel, rfl⟩
theorem d9_turnsOf_29 : zd b9_turnsOf 29 (.aload_n 0) 1 30 := ⟨by decide +kernel, rfl⟩
theorem d9_turnsOf_30 : zd b9_turnsOf 30 (.getfield 9) 3 33 := ⟨by decide +kernel, rfl⟩
theorem d9_turnsOf_33 : zd b9_turnsOf 33 (.iconst 2) 1 34 := ⟨by decide +kernel, rfl⟩
theorem d9_turnsOf_34 : zd b9_turnsOf 34 .iaload 1 35 := ⟨by decide +kernel, rfl⟩
theorem d9_turnsOf_35 : zdb b9_turnsOf 35 (.if_icmp .ge 50) 50 38 85 := ⟨by decide +kernel, rfl, by decide⟩
theorem d9_turnsOf_38 : zd b9_turnsOf 38 (.aload_n 0) 1 39 := ⟨by decide +kernel, rfl⟩
theorem d9_turnsOf_39 : zd b9_turnsOf 39 (.getfield 28) 3 42 := ⟨by decide +kernel, rfl⟩
theorem d9_turnsOf_42 : zd b9_turnsOf 42 (.bipush 24) 2 44 := ⟨by decide +kernel, rfl⟩
theorem d9_turnsOf_44 : zd b9_turnsOf 44 (.iload_n 1) 1 45 := ⟨by decide +kernel, rfl⟩
theorem d9_turnsOf_45 : zd b9_turnsOf 45 .imul 1 46 := ⟨by decide +kernel, rfl⟩
theorem d9_turnsOf_46 : zd b9_turnsOf 46 (.iload_n 3) 1 47 := ⟨by decide +kernel, rfl⟩
theorem d9_turnsOf_47 : zd b9_turnsOf 47 .iadd 1 48 := ⟨by decide +kernel, rfl⟩
theorem d9_turnsOf_48 : zd b9_turnsOf 48 .iaload 1 49 := ⟨by decide +kernel, rfl⟩
theorem d9_turnsOf_49 : zd b9_turnsOf 49 (.invokestatic 127) 3 52 := ⟨by decide +kernel, rfl⟩
theorem d9_turnsOf_52 : zdb b9_turnsOf 52 (.ifCond .eq 33) 33 55 85 := ⟨by decide +kernel, rfl, by decide⟩
theorem d9_turnsOf_55 : zd b9_turnsOf 55 (.aload_n 0) 1 56 := ⟨by decide +kernel, rfl⟩
theorem d9_turnsOf_56 : zd b9_turnsOf 56 (.getfield 9) 3 59 := ⟨by decide +kernel, rfl⟩
theorem d9_turnsOf_59 : zd b9_turnsOf 59 (.bipush 6) 2 61 := ⟨by decide +kernel, rfl⟩
theorem d9_turnsOf_61 : zd b9_turnsOf 61 (.iconst 5) 1 62 := ⟨by decide +kernel, rfl⟩
theorem d9_turnsOf_62 : zd b9_turnsOf 62 (.iload_n 3) 1 63 := ⟨by decide +kernel, rfl⟩
theorem d9_turnsOf_63 : zd b9_turnsOf 63 .imul 1 64 := ⟨by decide +kernel, rfl⟩
theorem d9_turnsOf_64 : zd b9_turnsOf 64 .iadd 1 65 := ⟨by decide +kernel, rfl⟩
theorem d9_turnsOf_65 : zd b9_turnsOf 65 (.iconst 3) 1 66 := ⟨by decide +kernel, rfl⟩
theorem d9_turnsOf_66 : zd b9_turnsOf 66 .iadd 1 67 := ⟨by decide +kernel, rfl⟩
theorem d9_turnsOf_67 : zd b9_turnsOf 67 (.aload_n 0) 1 68 := ⟨by decide +kernel, rfl⟩
theorem d9_turnsOf_68 : zd b9_turnsOf 68 (.getfield 28) 3 71 := ⟨by decide +kernel, rfl⟩
theorem d9_turnsOf_71 : zd b9_turnsOf 71 (.bipush 24) 2 73 := ⟨by decide +kernel, rfl⟩
theorem d9_turnsOf_73 : zd b9_turnsOf 73 (.iload_n 1) 1 74 := ⟨by decide +kernel, rfl⟩
theorem d9_turnsOf_74 : zd b9_turnsOf 74 .imul 1 75 := ⟨by decide +kernel, rfl⟩
theorem d9_turnsOf_75 : zd b9_turnsOf 75 (.iload_n 3) 1 76 := ⟨by decide +kernel, rfl⟩
theorem d9_turnsOf_76 : zd b9_turnsOf 76 .iadd 1 77 := ⟨by decide +kernel, rfl⟩
theorem d9_turnsOf_77 : zd b9_turnsOf 77 .iaload 1 78 := ⟨by decide +kernel, rfl⟩
theorem d9_turnsOf_78 : zd b9_turnsOf 78 .iastore 1 79 := ⟨by decide +kernel, rfl⟩
theorem d9_turnsOf_79 : zd b9_turnsOf 79 (.iinc 3 1) 3 82 := ⟨by decide +kernel, rfl⟩
theorem d9_turnsOf_82 : zdb b9_turnsOf 82 (.goto (-64)) (-64) 85 18 := ⟨by decide +kernel, rfl, by decide⟩
theorem d9_turnsOf_85 : zd b9_turnsOf 85 (.iload_n 3) 1 86 := ⟨by decide +kernel, rfl⟩
theorem d9_turnsOf_86 : zd b9_turnsOf 86 .ireturn 1 87 := ⟨by decide +kernel, rfl⟩
def b9_turnsOf_18 (k : Nat) (q18 : Int32 → Int32 → ZS → Option (Int32 × ZS)) (x1 : Int32) (x3 : Int32) (σ : ZS) : Option (Int32 × ZS) :=
  if zin x1 4 then (
  if (σ 109 x1.toNatClampNeg) ≤ x3 then (
  some (x3, σ))
  else (
  if (σ 104 2) ≤ x3 then (
  some (x3, σ))
  else (
  if zin (((24 : Int32) * x1) + x3) 96 then (
  zbd (f9_isFour k (σ 110 (((24 : Int32) * x1) + x3).toNatClampNeg) σ) fun r5 s5 =>
  if r5 = 0 then (
  some (x3, s5))
  else (
  if zin (((24 : Int32) * x1) + x3) 96 then (
  if zin (((6 : Int32) + ((5 : Int32) * x3)) + (3 : Int32)) 390 then (
  zput (zu s5 104 ((((6 : Int32) + ((5 : Int32) * x3)) + (3 : Int32)).toNatClampNeg) (s5 110 (((24 : Int32) * x1) + x3).toNatClampNeg)) fun s9 =>
  q18 x1 (x3 + (1 : Int32)) s9) else none) else none)) else none))) else none
def f9_turnsOf_18 (k : Nat) : Nat → Int32 → Int32 → ZS → Option (Int32 × ZS)
  | 0 => fun _ _ _ => none
  | n + 1 => b9_turnsOf_18 k  (f9_turnsOf_18 k  n)
theorem j9_turnsOf_18 {x : ZX} {g : ZG} (C : zC x g b9_turnsOf R9 (some .int) 4 4 123) {k : Nat} {r : Int32} {σr : ZS}  {q18 : Int32 → Int32 → ZS → Option (Int32 × ZS)} (hq18 : (∀ (x1 : Int32) (x3 : Int32) (σ : ZS), q18 x1 x3 σ = some (r, σr) → zw x g 4 0 0 (zMQ x g (some (zi r)) σr) σ 18 [some (zr 103), some (zi x1), none, some (zi x3)] [])) {x1 : Int32} {x3 : Int32} {σ : ZS} (hf : b9_turnsOf_18 k q18 x1 x3 σ = some (r, σr)) : zw x g 4 0 0 (zMQ x g (some (zi r)) σr) σ 18 [some (zr 103), some (zi x1), none, some (zi x3)] [] := by
  unfold b9_turnsOf_18 at hf
  refine z_iload_n C d9_turnsOf_18 rfl ?_
  refine z_aload_n C d9_turnsOf_19 rfl ?_
  refine z_getR C d9_turnsOf_20 fl_823 kZ_103 109 rfl (zn0 kZ_109) ?_
  refine z_iload_n C d9_turnsOf_23 rfl ?_
  obtain ⟨g1, hf⟩ := zgo hf
  refine z_iald C d9_turnsOf_24 kZ_109 kL_109 g1 (x1.toNatClampNeg) rfl ?_
  refine z_icmp_ge C d9_turnsOf_25 (fun c2 => ?_) (fun c2 => ?_)
  · have hf := zit c2 hf
    refine z_iload_n C d9_turnsOf_85 rfl ?_
    exact z_iret C d9_turnsOf_86 hf
  · have hf := zie c2 hf
    refine z_iload_n C d9_turnsOf_28 rfl ?_
    refine z_aload_n C d9_turnsOf_29 rfl ?_
    refine z_getR C d9_turnsOf_30 fl_817 kZ_103 104 rfl (zn0 kZ_104) ?_
    refine z_iconst C (2 : Int32) d9_turnsOf_33 kI_2 ?_
    refine z_iald C d9_turnsOf_34 kZ_104 kL_104 ⟨by decide, by decide⟩ (2) kN_2 ?_
    refine z_icmp_ge C d9_turnsOf_35 (fun c3 => ?_) (fun c3 => ?_)
    · have hf := zit c3 hf
      refine z_iload_n C d9_turnsOf_85 rfl ?_
      exact z_iret C d9_turnsOf_86 hf
    · have hf := zie c3 hf
      refine z_aload_n C d9_turnsOf_38 rfl ?_
      refine z_getR C d9_turnsOf_39 fl_824 kZ_103 110 rfl (zn0 kZ_110) ?_
      refine z_bipush C (24 : Int32) d9_turnsOf_42 kB_24 ?_
      refine z_iload_n C d9_turnsOf_44 rfl ?_
      refine z_imul C d9_turnsOf_45 ?_
      refine z_iload_n C d9_turnsOf_46 rfl ?_
      refine z_iadd C d9_turnsOf_47 ?_
      obtain ⟨g4, hf⟩ := zgo hf
      refine z_iald C d9_turnsOf_48 kZ_110 kL_110 g4 ((((24 : Int32) * x1) + x3).toNatClampNeg) rfl ?_
      obtain ⟨r5, s5, h5, hf⟩ := zbx hf
      refine z_callSi C (as := [zi (σ 110 (((24 : Int32) * x1) + x3).toNatClampNeg)]) d9_turnsOf_49 w_912 yy9_isFour (c9_isFour x.2.1 g h5) rfl rfl (Nat.le_of_ble_eq_true rfl) ⟨Nat.le_of_ble_eq_true rfl, Nat.le_of_ble_eq_true rfl⟩ ⟨Nat.zero_le _, Nat.zero_le _⟩ ?_
      refine z_if_eq C d9_turnsOf_52 (fun c6 => ?_) (fun c6 => ?_)
      · have hf := zit c6 hf
        refine z_iload_n C d9_turnsOf_85 rfl ?_
        exact z_iret C d9_turnsOf_86 hf
      · have hf := zie c6 hf
        refine z_aload_n C d9_turnsOf_55 rfl ?_
        refine z_getR C d9_turnsOf_56 fl_817 kZ_103 104 rfl (zn0 kZ_104) ?_
        refine z_bipush C (6 : Int32) d9_turnsOf_59 kB_6 ?_
        refine z_iconst C (5 : Int32) d9_turnsOf_61 kI_5 ?_
        refine z_iload_n C d9_turnsOf_62 rfl ?_
        refine z_imul C d9_turnsOf_63 ?_
        refine z_iadd C d9_turnsOf_64 ?_
        refine z_iconst C (3 : Int32) d9_turnsOf_65 kI_3 ?_
        refine z_iadd C d9_turnsOf_66 ?_
        refine z_aload_n C d9_turnsOf_67 rfl ?_
        refine z_getR C d9_turnsOf_68 fl_824 kZ_103 110 rfl (zn0 kZ_110) ?_
        refine z_bipush C (24 : Int32) d9_turnsOf_71 kB_24 ?_
        refine z_iload_n C d9_turnsOf_73 rfl ?_
        refine z_imul C d9_turnsOf_74 ?_
        refine z_iload_n C d9_turnsOf_75 rfl ?_
        refine z_iadd C d9_turnsOf_76 ?_
        obtain ⟨g7, hf⟩ := zgo hf
        refine z_iald C d9_turnsOf_77 kZ_110 kL_110 g7 ((((24 : Int32) * x1) + x3).toNatClampNeg) rfl ?_
        obtain ⟨g8, hf⟩ := zgo hf
        obtain ⟨s9, e9, hf⟩ := zpx hf
        refine z_iast C d9_turnsOf_78 kZ_104 kL_104 g8 rfl e9 ?_
        refine z_iinc C d9_turnsOf_79 rfl kI_1 (Nat.le_of_ble_eq_true rfl) rfl (L' := [some (zr 103), some (zi x1), none, some (zi (x3 + (1 : Int32)))]) rfl ?_
        refine z_goto C d9_turnsOf_82 ?_
        exact hq18 _ _ _ hf
theorem j9_turnsOf_18l {x : ZX} {g : ZG} (C : zC x g b9_turnsOf R9 (some .int) 4 4 123) {k : Nat} {r : Int32} {σr : ZS}  : ∀ (n : Nat) (x1 : Int32) (x3 : Int32) (σ : ZS), f9_turnsOf_18 k  n x1 x3 σ = some (r, σr) → zw x g 4 0 0 (zMQ x g (some (zi r)) σr) σ 18 [some (zr 103), some (zi x1), none, some (zi x3)] [] := by
  intro n
  induction n with
  | zero => intro x1 x3 σ hf; exact absurd (show none = some (r, σr) from hf) (fun z => by cases z)
  | succ n ih => intro x1 x3 σ hf; exact j9_turnsOf_18 C  ih (show b9_turnsOf_18 k  (f9_turnsOf_18 k  n) x1 x3 σ = some (r, σr) from hf)
def f9_turnsOf (k : Nat) (x1 : Int32) (σ : ZS) : Option (Int32 × ZS) :=
  zbd (f9_notThere k x1 σ) fun r1 s1 =>
  if r1 = 0 then (
  f9_turnsOf_18 k  k x1 (0 : Int32) s1)
  else (
  zbd (f9_error k r1 s1) fun r3 s3 =>
  some (r3, s3))
theorem c9_turnsOf (l : Launch) (g : ZG) {k : Nat} {x1 : Int32} {σ : ZS} {r : Int32} {σr : ZS} (hf : f9_turnsOf k x1 σ = some (r, σr)) : zT l g y9_turnsOf b9_turnsOf 4 (some .int) 4 123 [zr 103, zi x1] σ (some (zi r)) σr := by
  unfold f9_turnsOf at hf
  refine zT_start (own := R9) rfl (by decide +kernel) 2 (L := [some (zr 103), some (zi x1), none, none]) rfl rfl (fun x hl C => ?_)
  subst hl
  refine z_aload_n C d9_turnsOf_0 rfl ?_
  refine z_iload_n C d9_turnsOf_1 rfl ?_
  obtain ⟨r1, s1, h1, hf⟩ := zbx hf
  refine z_callVi C (as := [zi x1]) d9_turnsOf_2 w_1254 yy9_notThere (c9_notThere x.2.1 g h1) yc9_notThere kZ_103 rfl rfl (Nat.le_of_ble_eq_true rfl) ⟨Nat.le_of_ble_eq_true rfl, Nat.le_of_ble_eq_true rfl⟩ ⟨Nat.zero_le _, Nat.zero_le _⟩ ?_
  refine z_istore_n C d9_turnsOf_5 (Nat.le_of_ble_eq_true rfl) rfl (L' := [some (zr 103), some (zi x1), some (zi r1), none]) rfl ?_
  refine z_iload_n C d9_turnsOf_6 rfl ?_
  refine z_if_eq C d9_turnsOf_7 (fun c2 => ?_) (fun c2 => ?_)
  · have hf := zit c2 hf
    refine z_iconst C (0 : Int32) d9_turnsOf_16 kI_0 ?_
    refine z_istore_n C d9_turnsOf_17 (Nat.le_of_ble_eq_true rfl) rfl (L' := [some (zr 103), some (zi x1), some (zi r1), some (zi (0 : Int32))]) rfl ?_
    refine z_drop [true, true, false, true] (L' := [some (zr 103), some (zi x1), none, some (zi (0 : Int32))]) rfl ?_
    exact j9_turnsOf_18l C  _ _ _ _ hf
  · have hf := zie c2 hf
    refine z_aload_n C d9_turnsOf_10 rfl ?_
    refine z_iload_n C d9_turnsOf_11 rfl ?_
    obtain ⟨r3, s3, h3, hf⟩ := zbx hf
    refine z_callVi C (as := [zi r1]) d9_turnsOf_12 w_916 yy9_error (c9_error x.2.1 g h3) yc9_error kZ_103 rfl rfl (Nat.le_of_ble_eq_true rfl) ⟨Nat.le_of_ble_eq_true rfl, Nat.le_of_ble_eq_true rfl⟩ ⟨Nat.zero_le _, Nat.zero_le _⟩ ?_
    exact z_iret C d9_turnsOf_15 hf
theorem d9_untell_0 : zd b9_untell 0 (.iload_n 1) 1 1 := ⟨by decide +kernel, rfl⟩
theorem d9_untell_1 : zd b9_untell 1 (.iconst 0) 1 2 := ⟨by decide +kernel, rfl⟩
theorem d9_untell_2 : zd b9_untell 2 (.iconst 1) 1 3 := ⟨by decide +kernel, rfl⟩
theorem d9_untell_3 : zd b9_untell 3 (.invokestatic 56) 3 6 := ⟨by decide +kernel, rfl⟩
theorem d9_untell_6 : zdb b9_untell 6 (.ifCond .ne 10) 10 9 16 := ⟨by decide +kernel, rfl, by decide⟩
theorem d9_untell_9 : zd b9_untell 9 (.aload_n 0) 1 10 := ⟨by decide +kernel, rfl⟩
theorem d9_untell_10 : zd b9_untell 10 (.ldc 130) 2 12 := ⟨by decide +kernel, rfl⟩
theorem d9_untell_12 : zd b9_untell 12 (.invokevirtual 131) 3 15 := ⟨by decide +kernel, rfl⟩
theorem d9_untell_15 : zd b9_untell 15 .ireturn 1 16 := ⟨by decide +kernel, rfl⟩
theorem d9_untell_16 : zd b9_untell 16 (.aload_n 0) 1 17 := ⟨by decide +kernel, rfl⟩
theorem d9_untell_17 : zd b9_untell 17 (.sipush 148) 3 20 := ⟨by decide +kernel, rfl⟩
theorem d9_untell_20 : zd b9_untell 20 (.bipush 121) 2 22 := ⟨by decide +kernel, rfl⟩
theorem d9_untell_22 : zd b9_untell 22 (.iload_n 1) 1 23 := ⟨by decide +kernel, rfl⟩
theorem d9_untell_23 : zd b9_untell 23 .imul 1 24 := ⟨by decide +kernel, rfl⟩
theorem d9_untell_24 : zd b9_untell 24 .iadd 1 25 := ⟨by decide +kernel, rfl⟩
theorem d9_untell_25 : zd b9_untell 25 (.iconst 0) 1 26 := ⟨by decide +kernel, rfl⟩
theorem d9_untell_26 : zd b9_untell 26 (.invokevirtual 139) 3 29 := ⟨by decide +kernel, rfl⟩
theorem d9_untell_29 : zdb b9_untell 29 (.ifCond .le 7) 7 32 36 := ⟨by decide +kernel, rfl, by decide⟩
theorem d9_untell_32 : zd b9_untell 32 (.iconst 1) 1 33 := ⟨by decide +kernel, rfl⟩
theorem d9_untell_33 : zdb b9_untell 33 (.goto 4) 4 36 37 := ⟨by decide +kernel, rfl, by decide⟩
theorem d9_untell_36 : zd b9_untell 36 (.iconst 0) 1 37 := ⟨by decide +kernel, rfl⟩
theorem d9_untell_37 : zd b9_untell 37 .ireturn 1 38 := ⟨by decide +kernel, rfl⟩
def f9_untell (k : Nat) (x1 : Int32) (σ : ZS) : Option (Int32 × ZS) :=
  zbd (f9_in k x1 (0 : Int32) (1 : Int32) σ) fun r1 s1 =>
  if r1 = 0 then (
  zbd (f9_error k (-1000000001 : Int32) s1) fun r3 s3 =>
  some (r3, s3))
  else (
  zbd (f9_becomes k ((148 : Int32) + ((121 : Int32) * x1)) (0 : Int32) s1) fun r4 s4 =>
  if r4 ≤ 0 then (
  some ((0 : Int32), s4))
  else (
  some ((1 : Int32), s4)))
theorem c9_untell (l : Launch) (g : ZG) {k : Nat} {x1 : Int32} {σ : ZS} {r : Int32} {σr : ZS} (hf : f9_untell k x1 σ = some (r, σr)) : zT l g y9_untell b9_untell 2 (some .int) 2 83 [zr 103, zi x1] σ (some (zi r)) σr := by
  unfold f9_untell at hf
  refine zT_start (own := R9) rfl (by decide +kernel) 0 (L := [some (zr 103), some (zi x1)]) rfl rfl (fun x hl C => ?_)
  subst hl
  refine z_iload_n C d9_untell_0 rfl ?_
  refine z_iconst C (0 : Int32) d9_untell_1 kI_0 ?_
  refine z_iconst C (1 : Int32) d9_untell_2 kI_1 ?_
  obtain ⟨r1, s1, h1, hf⟩ := zbx hf
  refine z_callSi C (as := [zi x1, zi (0 : Int32), zi (1 : Int32)]) d9_untell_3 w_906 yy9_in (c9_in x.2.1 g h1) rfl rfl (Nat.le_of_ble_eq_true rfl) ⟨Nat.le_of_ble_eq_true rfl, Nat.le_of_ble_eq_true rfl⟩ ⟨Nat.zero_le _, Nat.zero_le _⟩ ?_
  refine z_if_ne C d9_untell_6 (fun c2 => ?_) (fun c2 => ?_)
  · have hf := zit c2 hf
    refine z_aload_n C d9_untell_9 rfl ?_
    refine z_ldc C (-1000000001 : Int32) d9_untell_10 w_915 ?_
    obtain ⟨r3, s3, h3, hf⟩ := zbx hf
    refine z_callVi C (as := [zi (-1000000001 : Int32)]) d9_untell_12 w_916 yy9_error (c9_error x.2.1 g h3) yc9_error kZ_103 rfl rfl (Nat.le_of_ble_eq_true rfl) ⟨Nat.le_of_ble_eq_true rfl, Nat.le_of_ble_eq_true rfl⟩ ⟨Nat.zero_le _, Nat.zero_le _⟩ ?_
    exact z_iret C d9_untell_15 hf
  · have hf := zie c2 hf
    refine z_aload_n C d9_untell_16 rfl ?_
    refine z_sipush C (148 : Int32) d9_untell_17 kS_148 ?_
    refine z_bipush C (121 : Int32) d9_untell_20 kB_121 ?_
    refine z_iload_n C d9_untell_22 rfl ?_
    refine z_imul C d9_untell_23 ?_
    refine z_iadd C d9_untell_24 ?_
    refine z_iconst C (0 : Int32) d9_untell_25 kI_0 ?_
    obtain ⟨r4, s4, h4, hf⟩ := zbx hf
    refine z_callVi C (as := [zi ((148 : Int32) + ((121 : Int32) * x1)), zi (0 : Int32)]) d9_untell_26 w_961 yy9_becomes (c9_becomes x.2.1 g h4) yc9_becomes kZ_103 rfl rfl (Nat.le_of_ble_eq_true rfl) ⟨Nat.le_of_ble_eq_true rfl, Nat.le_of_ble_eq_true rfl⟩ ⟨Nat.zero_le _, Nat.zero_le _⟩ ?_
    refine z_if_le C d9_untell_29 (fun c5 => ?_) (fun c5 => ?_)
    · have hf := zit c5 hf
      refine z_iconst C (0 : Int32) d9_untell_36 kI_0 ?_
      exact z_iret C d9_untell_37 hf
    · have hf := zie c5 hf
      refine z_iconst C (1 : Int32) d9_untell_32 kI_1 ?_
      refine z_goto C d9_untell_33 ?_
      exact z_iret C d9_untell_37 hf
theorem d9_voice_0 : zd b9_voice 0 (.aload_n 0) 1 1 := ⟨by decide +kernel, rfl⟩
theorem d9_voice_1 : zd b9_voice 1 (.iload_n 1) 1 2 := ⟨by decide +kernel, rfl⟩
theorem d9_voice_2 : zd b9_voice 2 (.invokevirtual 136) 3 5 := ⟨by decide +kernel, rfl⟩
theorem d9_voice_5 : zdb b9_voice 5 (.ifCond .eq 12) 12 8 17 := ⟨by decide +kernel, rfl, by decide⟩
theorem d9_voice_8 : zd b9_voice 8 (.iload_n 2) 1 9 := ⟨by decide +kernel, rfl⟩
theorem d9_voice_9 : zd b9_voice 9 (.iconst 0) 1 10 := ⟨by decide +kernel, rfl⟩
theorem d9_voice_10 : zd b9_voice 10 (.iconst 3) 1 11 := ⟨by decide +kernel, rfl⟩
theorem d9_voice_11 : zd b9_voice 11 (.invokestatic 56) 3 14 := ⟨by decide +kernel, rfl⟩
theorem d9_voice_14 : zdb b9_voice 14 (.ifCond .ne 10) 10 17 24 := ⟨by decide +kernel, rfl, by decide⟩
theorem d9_voice_17 : zd b9_voice 17 (.aload_n 0) 1 18 := ⟨by decide +kernel, rfl⟩
theorem d9_voice_18 : zd b9_voice 18 (.ldc 130) 2 20 := ⟨by decide +kernel, rfl⟩
theorem d9_voice_20 : zd b9_voice 20 (.invokevirtual 131) 3 23 := ⟨by decide +kernel, rfl⟩
theorem d9_voice_23 : zd b9_voice 23 .ireturn 1 24 := ⟨by decide +kernel, rfl⟩
theorem d9_voice_24 : zd b9_voice 24 (.aload_n 0) 1 25 := ⟨by decide +kernel, rfl⟩
theorem d9_voice_25 : zd b9_voice 25 (.iconst 0) 1 26 := ⟨by decide +kernel, rfl⟩
theorem d9_voice_26 : zd b9_voice 26 (.putfield 248) 3 29 := ⟨by decide +kernel, rfl⟩
theorem d9_voice_29 : zd b9_voice 29 (.aload_n 0) 1 30 := ⟨by decide +kernel, rfl⟩
theorem d9_voice_30 : zd b9_voice 30 (.iconst 0) 1 31 := ⟨by decide +kernel, rfl⟩
theorem d9_voice_31 : zd b9_voice 31 (.putfield 275) 3 34 := ⟨by decide +kernel, rfl⟩
theorem d9_voice_34 : zd b9_voice 34 (.iload_n 2) 1 35 := ⟨by decide +kernel, rfl⟩
theorem d9_voice_35 : zdb b9_voice 35 (.ifCond .ne 12) 12 38 47 := ⟨by decide +kernel, rfl, by decide⟩
theorem d9_voice_38 : zd b9_voice 38 (.aload_n 0) 1 39 := ⟨by decide +kernel, rfl⟩
theorem d9_voice_39 : zd b9_voice 39 (.iload_n 1) 1 40 := ⟨by decide +kernel, rfl⟩
theorem d9_voice_40 : zd b9_voice 40 (.iload_n 3) 1 41 := ⟨by decide +kernel, rfl⟩
theorem d9_voice_41 : zd b9_voice 41 (.invokevirtual 260) 3 44 := ⟨by decide +kernel, rfl⟩
theorem d9_voice_44 : zdb b9_voice 44 (.goto 37) 37 47 81 := ⟨by decide +kernel, rfl, by decide⟩
theorem d9_voice_47 : zd b9_voice 47 (.iload_n 2) 1 48 := ⟨by decide +kernel, rfl⟩
theorem d9_voice_48 : zd b9_voice 48 (.iconst 1) 1 49 := ⟨by decide +kernel, rfl⟩
theorem d9_voice_49 : zdb b9_voice 49 (.if_icmp .ne 12) 12 52 61 := ⟨by decide +kernel, rfl, by decide⟩
theorem d9_voice_52 : zd b9_voice 52 (.aload_n 0) 1 53 := ⟨by decide +kernel, rfl⟩
theorem d9_voice_53 : zd b9_voice 53 (.iload_n 1) 1 54 := ⟨by decide +kernel, rfl⟩
theorem d9_voice_54 : zd b9_voice 54 (.iload_n 3) 1 55 := ⟨by decide +kernel, rfl⟩
theorem d9_voice_55 : zd b9_voice 55 (.invokevirtual 269) 3 58 := ⟨by decide +kernel, rfl⟩
theorem d9_voice_58 : zdb b9_voice 58 (.goto 23) 23 61 81 := ⟨by decide +kernel, rfl, by decide⟩
theorem d9_voice_61 : zd b9_voice 61 (.iload_n 2) 1 62 := ⟨by decide +kernel, rfl⟩
theorem d9_voice_62 : zd b9_voice 62 (.iconst 2) 1 63 := ⟨by decide +kernel, rfl⟩
theorem d9_voice_63 : zdb b9_voice 63 (.if_icmp .ne 12) 12 66 75 := ⟨by decide +kernel, rfl, by decide⟩
theorem d9_voice_66 : zd b9_voice 66 (.aload_n 0) 1 67 := ⟨by decide +kernel, rfl⟩
theorem d9_voice_67 : zd b9_voice 67 (.iload_n 1) 1 68 := ⟨by decide +kernel, rfl⟩
theorem d9_voice_68 : zd b9_voice 68 (.iload_n 3) 1 69 := ⟨by decide +kernel, rfl⟩
theorem d9_voice_69 : zd b9_voice 69 (.invokevirtual 281) 3 72 := ⟨by decide +kernel, rfl⟩
theorem d9_voice_72 : zdb b9_voice 72 (.goto 9) 9 75 81 := ⟨by decide +kernel, rfl, by decide⟩
theorem d9_voice_75 : zd b9_voice 75 (.aload_n 0) 1 76 := ⟨by decide +kernel, rfl⟩
theorem d9_voice_76 : zd b9_voice 76 (.iload_n 1) 1 77 := ⟨by decide +kernel, rfl⟩
theorem d9_voice_77 : zd b9_voice 77 (.iload_n 3) 1 78 := ⟨by decide +kernel, rfl⟩
theorem d9_voice_78 : zd b9_voice 78 (.invokevirtual 284) 3 81 := ⟨by decide +kernel, rfl⟩
theorem d9_voice_81 : zd b9_voice 81 (.istore 4) 2 83 := ⟨by decide +kernel, rfl⟩
theorem d9_voice_83 : zd b9_voice 83 (.aload_n 0) 1 84 := ⟨by decide +kernel, rfl⟩
theorem d9_voice_84 : zd b9_voice 84 (.getfield 275) 3 87 := ⟨by decide +kernel, rfl⟩
theorem d9_voice_87 : zdb b9_voice 87 (.ifCond .eq 13) 13 90 100 := ⟨by decide +kernel, rfl, by decide⟩
theorem d9_voice_90 : zd b9_voice 90 (.aload_n 0) 1 91 := ⟨by decide +kernel, rfl⟩
theorem d9_voice_91 : zd b9_voice 91 (.ldc_w 287) 3 94 := ⟨by decide +kernel, rfl⟩
theorem d9_voice_94 : zd b9_voice 94 (.invokevirtual 131) 3 97 := ⟨by decide +kernel, rfl⟩
theorem d9_voice_97 : zdb b9_voice 97 (.goto 5) 5 100 102 := ⟨by decide +kernel, rfl, by decide⟩
theorem d9_voice_100 : zd b9_voice 100 (.iload 4) 2 102 := ⟨by decide +kernel, rfl⟩
theorem d9_voice_102 : zd b9_voice 102 .ireturn 1 103 := ⟨by decide +kernel, rfl⟩
def f9_voice (k : Nat) (x1 : Int32) (x2 : Int32) (x3 : Int32) (σ : ZS) : Option (Int32 × ZS) :=
  zbd (f9_isGlass k x1 σ) fun r1 s1 =>
  if r1 = 0 then (
  zbd (f9_error k (-1000000001 : Int32) s1) fun r3 s3 =>
  some (r3, s3))
  else (
  zbd (f9_in k x2 (0 : Int32) (3 : Int32) s1) fun r4 s4 =>
  if r4 = 0 then (
  zbd (f9_error k (-1000000001 : Int32) s4) fun r6 s6 =>
  some (r6, s6))
  else (
  zput (zu s4 103 25 (0 : Int32)) fun s7 =>
  zput (zu s7 103 26 (0 : Int32)) fun s8 =>
  if x2 = 0 then (
  zbd (f9_gleams k x1 x3 s8) fun r10 s10 =>
  if (s10 103 26) = 0 then (
  some (r10, s10))
  else (
  zbd (f9_error k (-1000000006 : Int32) s10) fun r12 s12 =>
  some (r12, s12)))
  else (
  if x2 = (1 : Int32) then (
  zbd (f9_glints k x1 x3 s8) fun r14 s14 =>
  if (s14 103 26) = 0 then (
  some (r14, s14))
  else (
  zbd (f9_error k (-1000000006 : Int32) s14) fun r16 s16 =>
  some (r16, s16)))
  else (
  if x2 = (2 : Int32) then (
  zbd (f9_fades k x1 x3 s8) fun r18 s18 =>
  if (s18 103 26) = 0 then (
  some (r18, s18))
  else (
  zbd (f9_error k (-1000000006 : Int32) s18) fun r20 s20 =>
  some (r20, s20)))
  else (
  zbd (f9_parts k x1 x3 s8) fun r21 s21 =>
  if (s21 103 26) = 0 then (
  some (r21, s21))
  else (
  zbd (f9_error k (-1000000006 : Int32) s21) fun r23 s23 =>
  some (r23, s23)))))))
theorem c9_voice (l : Launch) (g : ZG) {k : Nat} {x1 : Int32} {x2 : Int32} {x3 : Int32} {σ : ZS} {r : Int32} {σr : ZS} (hf : f9_voice k x1 x2 x3 σ = some (r, σr)) : zT l g y9_voice b9_voice 5 (some .int) 10 257 [zr 103, zi x1, zi x2, zi x3] σ (some (zi r)) σr := by
  unfold f9_voice at hf
  refine zT_start (own := R9) rfl (by decide +kernel) 1 (L := [some (zr 103), some (zi x1), some (zi x2), some (zi x3), none]) rfl rfl (fun x hl C => ?_)
  subst hl
  refine z_aload_n C d9_voice_0 rfl ?_
  refine z_iload_n C d9_voice_1 rfl ?_
  obtain ⟨r1, s1, h1, hf⟩ := zbx hf
  refine z_callVi C (as := [zi x1]) d9_voice_2 w_935 yy9_isGlass (c9_isGlass x.2.1 g h1) yc9_isGlass kZ_103 rfl rfl (Nat.le_of_ble_eq_true rfl) ⟨Nat.le_of_ble_eq_true rfl, Nat.le_of_ble_eq_true rfl⟩ ⟨Nat.zero_le _, Nat.zero_le _⟩ ?_
  refine z_if_eq C d9_voice_5 (fun c2 => ?_) (fun c2 => ?_)
  · have hf := zit c2 hf
    refine z_aload_n C d9_voice_17 rfl ?_
    refine z_ldc C (-1000000001 : Int32) d9_voice_18 w_915 ?_
    obtain ⟨r3, s3, h3, hf⟩ := zbx hf
    refine z_callVi C (as := [zi (-1000000001 : Int32)]) d9_voice_20 w_916 yy9_error (c9_error x.2.1 g h3) yc9_error kZ_103 rfl rfl (Nat.le_of_ble_eq_true rfl) ⟨Nat.le_of_ble_eq_true rfl, Nat.le_of_ble_eq_true rfl⟩ ⟨Nat.zero_le _, Nat.zero_le _⟩ ?_
    exact z_iret C d9_voice_23 hf
  · have hf := zie c2 hf
    refine z_iload_n C d9_voice_8 rfl ?_
    refine z_iconst C (0 : Int32) d9_voice_9 kI_0 ?_
    refine z_iconst C (3 : Int32) d9_voice_10 kI_3 ?_
    obtain ⟨r4, s4, h4, hf⟩ := zbx hf
    refine z_callSi C (as := [zi x2, zi (0 : Int32), zi (3 : Int32)]) d9_voice_11 w_906 yy9_in (c9_in x.2.1 g h4) rfl rfl (Nat.le_of_ble_eq_true rfl) ⟨Nat.le_of_ble_eq_true rfl, Nat.le_of_ble_eq_true rfl⟩ ⟨Nat.zero_le _, Nat.zero_le _⟩ ?_
    refine z_if_ne C d9_voice_14 (fun c5 => ?_) (fun c5 => ?_)
    · have hf := zit c5 hf
      refine z_aload_n C d9_voice_17 rfl ?_
      refine z_ldc C (-1000000001 : Int32) d9_voice_18 w_915 ?_
      obtain ⟨r6, s6, h6, hf⟩ := zbx hf
      refine z_callVi C (as := [zi (-1000000001 : Int32)]) d9_voice_20 w_916 yy9_error (c9_error x.2.1 g h6) yc9_error kZ_103 rfl rfl (Nat.le_of_ble_eq_true rfl) ⟨Nat.le_of_ble_eq_true rfl, Nat.le_of_ble_eq_true rfl⟩ ⟨Nat.zero_le _, Nat.zero_le _⟩ ?_
      exact z_iret C d9_voice_23 hf
    · have hf := zie c5 hf
      refine z_aload_n C d9_voice_24 rfl ?_
      refine z_iconst C (0 : Int32) d9_voice_25 kI_0 ?_
      obtain ⟨s7, e7, hf⟩ := zpx hf
      refine z_putI C d9_voice_26 fl_842 ft_9_25 kZ_103 e7 ?_
      refine z_aload_n C d9_voice_29 rfl ?_
      refine z_iconst C (0 : Int32) d9_voice_30 kI_0 ?_
      obtain ⟨s8, e8, hf⟩ := zpx hf
      refine z_putZ C d9_voice_31 fl_843 ft_9_26 kZ_103 (Or.inl rfl) e8 ?_
      refine z_iload_n C d9_voice_34 rfl ?_
      refine z_if_ne C d9_voice_35 (fun c9 => ?_) (fun c9 => ?_)
      · have hf := zit c9 hf
        refine z_aload_n C d9_voice_38 rfl ?_
        refine z_iload_n C d9_voice_39 rfl ?_
        refine z_iload_n C d9_voice_40 rfl ?_
        obtain ⟨r10, s10, h10, hf⟩ := zbx hf
        refine z_callVi C (as := [zi x1, zi x3]) d9_voice_41 w_1197 yy9_gleams (c9_gleams x.2.1 g h10) yc9_gleams kZ_103 rfl rfl (Nat.le_of_ble_eq_true rfl) ⟨Nat.le_of_ble_eq_true rfl, Nat.le_of_ble_eq_true rfl⟩ ⟨Nat.zero_le _, Nat.zero_le _⟩ ?_
        refine z_goto C d9_voice_44 ?_
        refine z_istore C d9_voice_81 (Nat.le_of_ble_eq_true rfl) rfl (L' := [some (zr 103), some (zi x1), some (zi x2), some (zi x3), some (zi r10)]) rfl ?_
        refine z_aload_n C d9_voice_83 rfl ?_
        refine z_getI C d9_voice_84 fl_843 kZ_103 ?_
        refine z_if_eq C d9_voice_87 (fun c11 => ?_) (fun c11 => ?_)
        · have hf := zit c11 hf
          refine z_iload C d9_voice_100 rfl ?_
          exact z_iret C d9_voice_102 hf
        · have hf := zie c11 hf
          refine z_aload_n C d9_voice_90 rfl ?_
          refine z_ldcw C (-1000000006 : Int32) d9_voice_91 w_1241 ?_
          obtain ⟨r12, s12, h12, hf⟩ := zbx hf
          refine z_callVi C (as := [zi (-1000000006 : Int32)]) d9_voice_94 w_916 yy9_error (c9_error x.2.1 g h12) yc9_error kZ_103 rfl rfl (Nat.le_of_ble_eq_true rfl) ⟨Nat.le_of_ble_eq_true rfl, Nat.le_of_ble_eq_true rfl⟩ ⟨Nat.zero_le _, Nat.zero_le _⟩ ?_
          refine z_goto C d9_voice_97 ?_
          exact z_iret C d9_voice_102 hf
      · have hf := zie c9 hf
        refine z_iload_n C d9_voice_47 rfl ?_
        refine z_iconst C (1 : Int32) d9_voice_48 kI_1 ?_
        refine z_icmp_ne C d9_voice_49 (fun c13 => ?_) (fun c13 => ?_)
        · have hf := zit c13 hf
          refine z_aload_n C d9_voice_52 rfl ?_
          refine z_iload_n C d9_voice_53 rfl ?_
          refine z_iload_n C d9_voice_54 rfl ?_
          obtain ⟨r14, s14, h14, hf⟩ := zbx hf
          refine z_callVi C (as := [zi x1, zi x3]) d9_voice_55 w_1213 yy9_glints (c9_glints x.2.1 g h14) yc9_glints kZ_103 rfl rfl (Nat.le_of_ble_eq_true rfl) ⟨Nat.le_of_ble_eq_true rfl, Nat.le_of_ble_eq_true rfl⟩ ⟨Nat.zero_le _, Nat.zero_le _⟩ ?_
          refine z_goto C d9_voice_58 ?_
          refine z_istore C d9_voice_81 (Nat.le_of_ble_eq_true rfl) rfl (L' := [some (zr 103), some (zi x1), some (zi x2), some (zi x3), some (zi r14)]) rfl ?_
          refine z_aload_n C d9_voice_83 rfl ?_
          refine z_getI C d9_voice_84 fl_843 kZ_103 ?_
          refine z_if_eq C d9_voice_87 (fun c15 => ?_) (fun c15 => ?_)
          · have hf := zit c15 hf
            refine z_iload C d9_voice_100 rfl ?_
            exact z_iret C d9_voice_102 hf
          · have hf := zie c15 hf
            refine z_aload_n C d9_voice_90 rfl ?_
            refine z_ldcw C (-1000000006 : Int32) d9_voice_91 w_1241 ?_
            obtain ⟨r16, s16, h16, hf⟩ := zbx hf
            refine z_callVi C (as := [zi (-1000000006 : Int32)]) d9_voice_94 w_916 yy9_error (c9_error x.2.1 g h16) yc9_error kZ_103 rfl rfl (Nat.le_of_ble_eq_true rfl) ⟨Nat.le_of_ble_eq_true rfl, Nat.le_of_ble_eq_true rfl⟩ ⟨Nat.zero_le _, Nat.zero_le _⟩ ?_
            refine z_goto C d9_voice_97 ?_
            exact z_iret C d9_voice_102 hf
        · have hf := zie c13 hf
          refine z_iload_n C d9_voice_61 rfl ?_
          refine z_iconst C (2 : Int32) d9_voice_62 kI_2 ?_
          refine z_icmp_ne C d9_voice_63 (fun c17 => ?_) (fun c17 => ?_)
          · have hf := zit c17 hf
            refine z_aload_n C d9_voice_66 rfl ?_
            refine z_iload_n C d9_voice_67 rfl ?_
            refine z_iload_n C d9_voice_68 rfl ?_
            obtain ⟨r18, s18, h18, hf⟩ := zbx hf
            refine z_callVi C (as := [zi x1, zi x3]) d9_voice_69 w_1225 yy9_fades (c9_fades x.2.1 g h18) yc9_fades kZ_103 rfl rfl (Nat.le_of_ble_eq_true rfl) ⟨Nat.le_of_ble_eq_true rfl, Nat.le_of_ble_eq_true rfl⟩ ⟨Nat.zero_le _, Nat.zero_le _⟩ ?_
            refine z_goto C d9_voice_72 ?_
            refine z_istore C d9_voice_81 (Nat.le_of_ble_eq_true rfl) rfl (L' := [some (zr 103), some (zi x1), some (zi x2), some (zi x3), some (zi r18)]) rfl ?_
            refine z_aload_n C d9_voice_83 rfl ?_
            refine z_getI C d9_voice_84 fl_843 kZ_103 ?_
            refine z_if_eq C d9_voice_87 (fun c19 => ?_) (fun c19 => ?_)
            · have hf := zit c19 hf
              refine z_iload C d9_voice_100 rfl ?_
              exact z_iret C d9_voice_102 hf
            · have hf := zie c19 hf
              refine z_aload_n C d9_voice_90 rfl ?_
              refine z_ldcw C (-1000000006 : Int32) d9_voice_91 w_1241 ?_
              obtain ⟨r20, s20, h20, hf⟩ := zbx hf
              refine z_callVi C (as := [zi (-1000000006 : Int32)]) d9_voice_94 w_916 yy9_error (c9_error x.2.1 g h20) yc9_error kZ_103 rfl rfl (Nat.le_of_ble_eq_true rfl) ⟨Nat.le_of_ble_eq_true rfl, Nat.le_of_ble_eq_true rfl⟩ ⟨Nat.zero_le _, Nat.zero_le _⟩ ?_
              refine z_goto C d9_voice_97 ?_
              exact z_iret C d9_voice_102 hf
          · have hf := zie c17 hf
            refine z_aload_n C d9_voice_75 rfl ?_
            refine z_iload_n C d9_voice_76 rfl ?_
            refine z_iload_n C d9_voice_77 rfl ?_
            obtain ⟨r21, s21, h21, hf⟩ := zbx hf
            refine z_callVi C (as := [zi x1, zi x3]) d9_voice_78 w_1233 yy9_parts (c9_parts x.2.1 g h21) yc9_parts kZ_103 rfl rfl (Nat.le_of_ble_eq_true rfl) ⟨Nat.le_of_ble_eq_true rfl, Nat.le_of_ble_eq_true rfl⟩ ⟨Nat.zero_le _, Nat.zero_le _⟩ ?_
            refine z_istore C d9_voice_81 (Nat.le_of_ble_eq_true rfl) rfl (L' := [some (zr 103), some (zi x1), some (zi x2), some (zi x3), some (zi r21)]) rfl ?_
            refine z_aload_n C d9_voice_83 rfl ?_
            refine z_getI C d9_voice_84 fl_843 kZ_103 ?_
            refine z_if_eq C d9_voice_87 (fun c22 => ?_) (fun c22 => ?_)
            · have hf := zit c22 hf
              refine z_iload C d9_voice_100 rfl ?_
              exact z_iret C d9_voice_102 hf
            · have hf := zie c22 hf
              refine z_aload_n C d9_voice_90 rfl ?_
              refine z_ldcw C (-1000000006 : Int32) d9_voice_91 w_1241 ?_
              obtain ⟨r23, s23, h23, hf⟩ := zbx hf
              refine z_callVi C (as := [zi (-1000000006 : Int32)]) d9_voice_94 w_916 yy9_error (c9_error x.2.1 g h23) yc9_error kZ_103 rfl rfl (Nat.le_of_ble_eq_true rfl) ⟨Nat.le_of_ble_eq_true rfl, Nat.le_of_ble_eq_true rfl⟩ ⟨Nat.zero_le _, Nat.zero_le _⟩ ?_
              refine z_goto C d9_voice_97 ?_
              exact z_iret C d9_voice_102 hf
