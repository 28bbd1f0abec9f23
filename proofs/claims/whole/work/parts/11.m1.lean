/-! methods, printed by wip/whole/gen: GlassTax.isSeenByOneSpin, GlassTax.isSeenByTwoSpins, GlassTax.fewestSpins, GlassTax$Sheet.numberAt, GlassTax.isLook, GlassTax.manyOrLeast, GlassTax.sheetOf, GlassTax.fits, GlassTax.isNoTurn, GlassTax$Street.hangGlass, GlassTax$Street.addGlass, GlassTax.glass, GlassTax.glassIs, GlassTax.hang, GlassTax.hour, GlassTax$Look.metAt, GlassTax$Street.countMeetings, GlassTax$Street.textOf, GlassTax$Text.joined -/
theorem d8_isSeenByOneSpin_0 : zd b8_isSeenByOneSpin 0 (.iload_n 3) 1 1 := ⟨by decide +kernel, rfl⟩
theorem d8_isSeenByOneSpin_1 : zd b8_isSeenByOneSpin 1 (.istore 5) 2 3 := ⟨by decide +kernel, rfl⟩
theorem d8_isSeenByOneSpin_3 : zd b8_isSeenByOneSpin 3 (.iload 5) 2 5 := ⟨by decide +kernel, rfl⟩
theorem d8_isSeenByOneSpin_5 : zd b8_isSeenByOneSpin 5 (.aload_n 0) 1 6 := ⟨by decide +kernel, rfl⟩
theorem d8_isSeenByOneSpin_6 : zd b8_isSeenByOneSpin 6 (.getfield 19) 3 9 := ⟨by decide +kernel, rfl⟩
theorem d8_isSeenByOneSpin_9 : zd b8_isSeenByOneSpin 9 (.getfield 71) 3 12 := ⟨by decide +kernel, rfl⟩
theorem d8_isSeenByOneSpin_12 : zdb b8_isSeenByOneSpin 12 (.if_icmp .ge 119) 119 15 131 := ⟨by decide +kernel, rfl, by decide⟩
theorem d8_isSeenByOneSpin_15 : zd b8_isSeenByOneSpin 15 (.aload_n 0) 1 16 := ⟨by decide +kernel, rfl⟩
theorem d8_isSeenByOneSpin_16 : zd b8_isSeenByOneSpin 16 (.getfield 19) 3 19 := ⟨by decide +kernel, rfl⟩
theorem d8_isSeenByOneSpin_19 : zd b8_isSeenByOneSpin 19 (.iload 5) 2 21 := ⟨by decide +kernel, rfl⟩
theorem d8_isSeenByOneSpin_21 : zd b8_isSeenByOneSpin 21 (.invokevirtual 82) 3 24 := ⟨by decide +kernel, rfl⟩
theorem d8_isSeenByOneSpin_24 : zd b8_isSeenByOneSpin 24 (.astore 6) 2 26 := ⟨by decide +kernel, rfl⟩
theorem d8_isSeenByOneSpin_26 : zd b8_isSeenByOneSpin 26 (.aload 6) 2 28 := ⟨by decide +kernel, rfl⟩
theorem d8_isSeenByOneSpin_28 : zdb b8_isSeenByOneSpin 28 (.ifnonnull 7) 7 31 35 := ⟨by decide +kernel, rfl, by decide⟩
theorem d8_isSeenByOneSpin_31 : zd b8_isSeenByOneSpin 31 (.iconst 0) 1 32 := ⟨by decide +kernel, rfl⟩
theorem d8_isSeenByOneSpin_32 : zdb b8_isSeenByOneSpin 32 (.goto 8) 8 35 40 := ⟨by decide +kernel, rfl, by decide⟩
theorem d8_isSeenByOneSpin_35 : zd b8_isSeenByOneSpin 35 (.aload 6) 2 37 := ⟨by decide +kernel, rfl⟩
theorem d8_isSeenByOneSpin_37 : zd b8_isSeenByOneSpin 37 (.getfield 97) 3 40 := ⟨by decide +kernel, rfl⟩
theorem d8_isSeenByOneSpin_40 : zd b8_isSeenByOneSpin 40 (.istore 7) 2 42 := ⟨by decide +kernel, rfl⟩
theorem d8_isSeenByOneSpin_42 : zd b8_isSeenByOneSpin 42 (.iconst 0) 1 43 := ⟨by decide +kernel, rfl⟩
theorem d8_isSeenByOneSpin_43 : zd b8_isSeenByOneSpin 43 (.istore 8) 2 45 := ⟨by decide +kernel, rfl⟩
theorem d8_isSeenByOneSpin_45 : zd b8_isSeenByOneSpin 45 (.iload 8) 2 47 := ⟨by decide +kernel, rfl⟩
theorem d8_isSeenByOneSpin_47 : zd b8_isSeenByOneSpin 47 (.iconst 4) 1 48 := ⟨by decide +kernel, rfl⟩
theorem d8_isSeenByOneSpin_48 : zdb b8_isSeenByOneSpin 48 (.if_icmp .ge 77) 77 51 125 := ⟨by decide +kernel, rfl, by decide⟩
theorem d8_isSeenByOneSpin_51 : zd b8_isSeenByOneSpin 51 (.aload 6) 2 53 := ⟨by decide +kernel, rfl⟩
theorem d8_isSeenByOneSpin_53 : zdb b8_isSeenByOneSpin 53 (.ifnull 72) 72 56 125 := ⟨by decide +kernel, rfl, by decide⟩
theorem d8_isSeenByOneSpin_56 : zd b8_isSeenByOneSpin 56 (.aload 6) 2 58 := ⟨by decide +kernel, rfl⟩
theorem d8_isSeenByOneSpin_58 : zd b8_isSeenByOneSpin 58 (.iload 8) 2 60 := ⟨by decide +kernel, rfl⟩
theorem d8_isSeenByOneSpin_60 : zd b8_isSeenByOneSpin 60 (.putfield 97) 3 63 := ⟨by decide +kernel, rfl⟩
theorem d8_isSeenByOneSpin_63 : zd b8_isSeenByOneSpin 63 (.aload_n 0) 1 64 := ⟨by decide +kernel, rfl⟩
theorem d8_isSeenByOneSpin_64 : zd b8_isSeenByOneSpin 64 (.getfield 25) 3 67 := ⟨by decide +kernel, rfl⟩
theorem d8_isSeenByOneSpin_67 : zd b8_isSeenByOneSpin 67 (.aload_n 0) 1 68 := ⟨by decide +kernel, rfl⟩
theorem d8_isSeenByOneSpin_68 : zd b8_isSeenByOneSpin 68 (.getfield 19) 3 71 := ⟨by decide +kernel, rfl⟩
theorem d8_isSeenByOneSpin_71 : zd b8_isSeenByOneSpin 71 (.aload_n 1) 1 72 := ⟨by decide +kernel, rfl⟩
theorem d8_isSeenByOneSpin_72 : zd b8_isSeenByOneSpin 72 (.getfield 132) 3 75 := ⟨by decide +kernel, rfl⟩
theorem d8_isSeenByOneSpin_75 : zd b8_isSeenByOneSpin 75 (.aload_n 1) 1 76 := ⟨by decide +kernel, rfl⟩
theorem d8_isSeenByOneSpin_76 : zd b8_isSeenByOneSpin 76 (.getfield 135) 3 79 := ⟨by decide +kernel, rfl⟩
theorem d8_isSeenByOneSpin_79 : zd b8_isSeenByOneSpin 79 (.invokevirtual 200) 3 82 := ⟨by decide +kernel, rfl⟩
theorem d8_isSeenByOneSpin_82 : zd b8_isSeenByOneSpin 82 (.iload 8) 2 84 := ⟨by decide +kernel, rfl⟩
theorem d8_isSeenByOneSpin_84 : zd b8_isSeenByOneSpin 84 (.iload 7) 2 86 := ⟨by decide +kernel, rfl⟩
theorem d8_isSeenByOneSpin_86 : zdb b8_isSeenByOneSpin 86 (.if_icmp .eq 26) 26 89 112 := ⟨by decide +kernel, rfl, by decide⟩
theorem d8_isSeenByOneSpin_89 : zd b8_isSeenByOneSpin 89 (.aload_n 0) 1 90 := ⟨by decide +kernel, rfl⟩
theorem d8_isSeenByOneSpin_90 : zd b8_isSeenByOneSpin 90 (.getfield 25) 3 93 := ⟨by decide +kernel, rfl⟩
theorem d8_isSeenByOneSpin_93 : zd b8_isSeenByOneSpin 93 (.iload_n 2) 1 94 := ⟨by decide +kernel, rfl⟩
theorem d8_isSeenByOneSpin_94 : zd b8_isSeenByOneSpin 94 (.invokevirtual 220) 3 97 := ⟨by decide +kernel, rfl⟩
theorem d8_isSeenByOneSpin_97 : zdb b8_isSeenByOneSpin 97 (.ifCond .eq 15) 15 100 112 := ⟨by decide +kernel, rfl, by decide⟩
theorem d8_isSeenByOneSpin_100 : zd b8_isSeenByOneSpin 100 (.aload_n 0) 1 101 := ⟨by decide +kernel, rfl⟩
theorem d8_isSeenByOneSpin_101 : zd b8_isSeenByOneSpin 101 (.iload 4) 2 103 := ⟨by decide +kernel, rfl⟩
theorem d8_isSeenByOneSpin_103 : zd b8_isSeenByOneSpin 103 (.iload 5) 2 105 := ⟨by decide +kernel, rfl⟩
theorem d8_isSeenByOneSpin_105 : zd b8_isSeenByOneSpin 105 (.iload 8) 2 107 := ⟨by decide +kernel, rfl⟩
theorem d8_isSeenByOneSpin_107 : zd b8_isSeenByOneSpin 107 (.invokevirtual 304) 3 110 := ⟨by decide +kernel, rfl⟩
theorem d8_isSeenByOneSpin_110 : zd b8_isSeenByOneSpin 110 (.iconst 1) 1 111 := ⟨by decide +kernel, rfl⟩
theorem d8_isSeenByOneSpin_111 : zd b8_isSeenByOneSpin 111 .ireturn 1 112 := ⟨by decide +kernel, rfl⟩
theorem d8_isSeenByOneSpin_112 : zd b8_isSeenByOneSpin 112 (.aload 6) 2 114 := ⟨by decide +kernel, rfl⟩
theorem d8_isSeenByOneSpin_114 : zd b8_isSeenByOneSpin 114 (.iload 7) 2 116 := ⟨by decide +kernel, rfl⟩
theorem d8_isSeenByOneSpin_116 : zd b8_isSeenByOneSpin 116 (.putfield 97) 3 119 := ⟨by decide +kernel, rfl⟩
theorem d8_isSeenByOneSpin_119 : zd b8_isSeenByOneSpin 119 (.iinc 8 1) 3 122 := ⟨by decide +kernel, rfl⟩
theorem d8_isSeenByOneSpin_122 : zdb b8_isSeenByOneSpin 122 (.goto (-77)) (-77) 125 45 := ⟨by decide +kernel, rfl, by decide⟩
theorem d8_isSeenByOneSpin_125 : zd b8_isSeenByOneSpin 125 (.iinc 5 1) 3 128 := ⟨by decide +kernel, rfl⟩
theorem d8_isSeenByOneSpin_128 : zdb b8_isSeenByOneSpin 128 (.goto (-125)) (-125) 131 3 := ⟨by decide +kernel, rfl, by decide⟩
theorem d8_isSeenByOneSpin_131 : zd b8_isSeenByOneSpin 131 (.iconst 0) 1 132 := ⟨by decide +kernel, rfl⟩
theorem d8_isSeenByOneSpin_132 : zd b8_isSeenByOneSpin 132 .ireturn 1 133 := ⟨by decide +kernel, rfl⟩
def b8_isSeenByOneSpin_45 (k : Nat) (q3 : Nat → Int32 → Int32 → Int32 → ZS → Option (Int32 × ZS)) (q45 : Nat → Int32 → Int32 → Int32 → Nat → Int32 → Int32 → ZS → Option (Int32 × ZS)) (x1 : Nat) (x2 : Int32) (x4 : Int32) (x5 : Int32) (x6 : Nat) (x7 : Int32) (x8 : Int32) (σ : ZS) : Option (Int32 × ZS) :=
  if (4 : Int32) ≤ x8 then (
  q3 x1 x2 x4 (x5 + (1 : Int32)) σ)
  else (
  if x6 = 0 then (
  q3 x1 x2 x4 (x5 + (1 : Int32)) σ)
  else (
  if zsh x6 = 1 then (
  zput (zu σ x6 3 x8) fun s4 =>
  if zsh x1 = 3 then (
  zbd (f1_follow k 56 (s4 x1 0) (s4 x1 1) s4) fun _ s6 =>
  if x8 = x7 then (
  zput (zu s6 x6 3 x7) fun s8 =>
  q45 x1 x2 x4 x5 x6 x7 (x8 + (1 : Int32)) s8)
  else (
  zbd (f1_seesCell k x2 s6) fun r9 s9 =>
  if r9 = 0 then (
  zput (zu s9 x6 3 x7) fun s11 =>
  q45 x1 x2 x4 x5 x6 x7 (x8 + (1 : Int32)) s11)
  else (
  zbd (f8_writeSpin k x4 x5 x8 s9) fun _ s12 =>
  some ((1 : Int32), s12)))) else none) else none))
def f8_isSeenByOneSpin_45 (k : Nat) (q3 : Nat → Int32 → Int32 → Int32 → ZS → Option (Int32 × ZS)) : Nat → Nat → Int32 → Int32 → Int32 → Nat → Int32 → Int32 → ZS → Option (Int32 × ZS)
  | 0 => fun _ _ _ _ _ _ _ _ => none
  | n + 1 => b8_isSeenByOneSpin_45 k q3 (f8_isSeenByOneSpin_45 k q3 n)
theorem j8_isSeenByOneSpin_45 {x : ZX} {g : ZG} (C : zC x g b8_isSeenByOneSpin R8 (some .boolean) 9 5 153) {k : Nat} {r : Int32} {σr : ZS}  {q3 : Nat → Int32 → Int32 → Int32 → ZS → Option (Int32 × ZS)} (hq3 : (∀ (x1 : Nat) (x2 : Int32) (x4 : Int32) (x5 : Int32) (σ : ZS), q3 x1 x2 x4 x5 σ = some (r, σr) → zw x g 9 0 0 (zMQ x g (some (zi r)) σr) σ 3 [some (zr 1), some (zr x1), some (zi x2), none, some (zi x4), some (zi x5), none, none, none] [])) {q45 : Nat → Int32 → Int32 → Int32 → Nat → Int32 → Int32 → ZS → Option (Int32 × ZS)} (hq45 : (∀ (x1 : Nat) (x2 : Int32) (x4 : Int32) (x5 : Int32) (x6 : Nat) (x7 : Int32) (x8 : Int32) (σ : ZS), q45 x1 x2 x4 x5 x6 x7 x8 σ = some (r, σr) → zw x g 9 0 0 (zMQ x g (some (zi r)) σr) σ 45 [some (zr 1), some (zr x1), some (zi x2), none, some (zi x4), some (zi x5), some (zr x6), some (zi x7), some (zi x8)] [])) {x1 : Nat} {x2 : Int32} {x4 : Int32} {x5 : Int32} {x6 : Nat} {x7 : Int32} {x8 : Int32} {σ : ZS} (hf : b8_isSeenByOneSpin_45 k q3 q45 x1 x2 x4 x5 x6 x7 x8 σ = some (r, σr)) : zw x g 9 0 0 (zMQ x g (some (zi r)) σr) σ 45 [some (zr 1), some (zr x1), some (zi x2), none, some (zi x4), some (zi x5), some (zr x6), some (zi x7), some (zi x8)] [] := by
  unfold b8_isSeenByOneSpin_45 at hf
  refine z_iload C d8_isSeenByOneSpin_45 rfl ?_
  refine z_iconst C (4 : Int32) d8_isSeenByOneSpin_47 kI_4 ?_
  refine z_icmp_ge C d8_isSeenByOneSpin_48 (fun c1 => ?_) (fun c1 => ?_)
  · have hf := zit c1 hf
    refine z_iinc C d8_isSeenByOneSpin_125 rfl kI_1 (Nat.le_of_ble_eq_true rfl) rfl (L' := [some (zr 1), some (zr x1), some (zi x2), none, some (zi x4), some (zi (x5 + (1 : Int32))), some (zr x6), some (zi x7), some (zi x8)]) rfl ?_
    refine z_goto C d8_isSeenByOneSpin_128 ?_
    refine z_drop [true, true, true, false, true, true, false, false, false] (L' := [some (zr 1), some (zr x1), some (zi x2), none, some (zi x4), some (zi (x5 + (1 : Int32))), none, none, none]) rfl ?_
    exact hq3 _ _ _ _ _ hf
  · have hf := zie c1 hf
    refine z_aload C d8_isSeenByOneSpin_51 rfl ?_
    refine z_ifnull C d8_isSeenByOneSpin_53 (fun c2 => ?_) (fun c2 => ?_)
    · have hf := zit c2 hf
      refine z_iinc C d8_isSeenByOneSpin_125 rfl kI_1 (Nat.le_of_ble_eq_true rfl) rfl (L' := [some (zr 1), some (zr x1), some (zi x2), none, some (zi x4), some (zi (x5 + (1 : Int32))), some (zr x6), some (zi x7), some (zi x8)]) rfl ?_
      refine z_goto C d8_isSeenByOneSpin_128 ?_
      refine z_drop [true, true, true, false, true, true, false, false, false] (L' := [some (zr 1), some (zr x1), some (zi x2), none, some (zi x4), some (zi (x5 + (1 : Int32))), none, none, none]) rfl ?_
      exact hq3 _ _ _ _ _ hf
    · have hf := zie c2 hf
      refine z_aload C d8_isSeenByOneSpin_56 rfl ?_
      refine z_iload C d8_isSeenByOneSpin_58 rfl ?_
      obtain ⟨g3, hf⟩ := zgo hf
      obtain ⟨s4, e4, hf⟩ := zpx hf
      refine z_putI C d8_isSeenByOneSpin_60 fl_58 ft_0_3 g3 e4 ?_
      refine z_aload_n C d8_isSeenByOneSpin_63 rfl ?_
      refine z_getR C d8_isSeenByOneSpin_64 fl_264 kZ_1 83 rfl (zn0 kZ_83) ?_
      refine z_aload_n C d8_isSeenByOneSpin_67 rfl ?_
      refine z_getR C d8_isSeenByOneSpin_68 fl_263 kZ_1 56 rfl (zn0 kZ_56) ?_
      refine z_aload_n C d8_isSeenByOneSpin_71 rfl ?_
      obtain ⟨g5, hf⟩ := zgo hf
      refine z_getI C d8_isSeenByOneSpin_72 fl_82 g5 ?_
      refine z_aload_n C d8_isSeenByOneSpin_75 rfl ?_
      refine z_getI C d8_isSeenByOneSpin_76 fl_85 g5 ?_
      obtain ⟨r6, s6, h6, hf⟩ := zbx hf
      refine z_callVv C (as := [zr 56, zi (s4 x1 0), zi (s4 x1 1)]) d8_isSeenByOneSpin_79 w_615 yy1_follow (c1_follow x.2.1 g h6) yc1_follow kZ_83 rfl rfl (Nat.le_of_ble_eq_true rfl) ⟨Nat.le_of_ble_eq_true rfl, Nat.le_of_ble_eq_true rfl⟩ ⟨Nat.zero_le _, Nat.zero_le _⟩ ?_
      refine z_iload C d8_isSeenByOneSpin_82 rfl ?_
      refine z_iload C d8_isSeenByOneSpin_84 rfl ?_
      refine z_icmp_eq C d8_isSeenByOneSpin_86 (fun c7 => ?_) (fun c7 => ?_)
      · have hf := zit c7 hf
        refine z_aload C d8_isSeenByOneSpin_112 rfl ?_
        refine z_iload C d8_isSeenByOneSpin_114 rfl ?_
        obtain ⟨s8, e8, hf⟩ := zpx hf
        refine z_putI C d8_isSeenByOneSpin_116 fl_58 ft_0_3 g3 e8 ?_
        refine z_iinc C d8_isSeenByOneSpin_119 rfl kI_1 (Nat.le_of_ble_eq_true rfl) rfl (L' := [some (zr 1), some (zr x1), some (zi x2), none, some (zi x4), some (zi x5), some (zr x6), some (zi x7), some (zi (x8 + (1 : Int32)))]) rfl ?_
        refine z_goto C d8_isSeenByOneSpin_122 ?_
        exact hq45 _ _ _ _ _ _ _ _ hf
      · have hf := zie c7 hf
        refine z_aload_n C d8_isSeenByOneSpin_89 rfl ?_
        refine z_getR C d8_isSeenByOneSpin_90 fl_264 kZ_1 83 rfl (zn0 kZ_83) ?_
        refine z_iload_n C d8_isSeenByOneSpin_93 rfl ?_
        obtain ⟨r9, s9, h9, hf⟩ := zbx hf
        refine z_callVi C (as := [zi x2]) d8_isSeenByOneSpin_94 w_629 yy1_seesCell (c1_seesCell x.2.1 g h9) yc1_seesCell kZ_83 rfl rfl (Nat.le_of_ble_eq_true rfl) ⟨Nat.le_of_ble_eq_true rfl, Nat.le_of_ble_eq_true rfl⟩ ⟨Nat.zero_le _, Nat.zero_le _⟩ ?_
        refine z_if_eq C d8_isSeenByOneSpin_97 (fun c10 => ?_) (fun c10 => ?_)
        · have hf := zit c10 hf
          refine z_aload C d8_isSeenByOneSpin_112 rfl ?_
          refine z_iload C d8_isSeenByOneSpin_114 rfl ?_
          obtain ⟨s11, e11, hf⟩ := zpx hf
          refine z_putI C d8_isSeenByOneSpin_116 fl_58 ft_0_3 g3 e11 ?_
          refine z_iinc C d8_isSeenByOneSpin_119 rfl kI_1 (Nat.le_of_ble_eq_true rfl) rfl (L' := [some (zr 1), some (zr x1), some (zi x2), none, some (zi x4), some (zi x5), some (zr x6), some (zi x7), some (zi (x8 + (1 : Int32)))]) rfl ?_
          refine z_goto C d8_isSeenByOneSpin_122 ?_
          exact hq45 _ _ _ _ _ _ _ _ hf
        · have hf := zie c10 hf
          refine z_aload_n C d8_isSeenByOneSpin_100 rfl ?_
          refine z_iload C d8_isSeenByOneSpin_101 rfl ?_
          refine z_iload C d8_isSeenByOneSpin_103 rfl ?_
          refine z_iload C d8_isSeenByOneSpin_105 rfl ?_
          obtain ⟨r12, s12, h12, hf⟩ := zbx hf
          refine z_callVv C (as := [zi x4, zi x5, zi x8]) d8_isSeenByOneSpin_107 w_671 yy8_writeSpin (c8_writeSpin x.2.1 g h12) yc8_writeSpin kZ_1 rfl rfl (Nat.le_of_ble_eq_true rfl) ⟨Nat.le_of_ble_eq_true rfl, Nat.le_of_ble_eq_true rfl⟩ ⟨Nat.zero_le _, Nat.zero_le _⟩ ?_
          refine z_iconst C (1 : Int32) d8_isSeenByOneSpin_110 kI_1 ?_
          exact z_zret C d8_isSeenByOneSpin_111 (Or.inr rfl) hf
theorem j8_isSeenByOneSpin_45l {x : ZX} {g : ZG} (C : zC x g b8_isSeenByOneSpin R8 (some .boolean) 9 5 153) {k : Nat} {r : Int32} {σr : ZS}  {q3 : Nat → Int32 → Int32 → Int32 → ZS → Option (Int32 × ZS)} (hq3 : (∀ (x1 : Nat) (x2 : Int32) (x4 : Int32) (x5 : Int32) (σ : ZS), q3 x1 x2 x4 x5 σ = some (r, σr) → zw x g 9 0 0 (zMQ x g (some (zi r)) σr) σ 3 [some (zr 1), some (zr x1), some (zi x2), none, some (zi x4), some (zi x5), none, none, none] [])) : ∀ (n : Nat) (x1 : Nat) (x2 : Int32) (x4 : Int32) (x5 : Int32) (x6 : Nat) (x7 : Int32) (x8 : Int32) (σ : ZS), f8_isSeenByOneSpin_45 k q3 n x1 x2 x4 x5 x6 x7 x8 σ = some (r, σr) → zw x g 9 0 0 (zMQ x g (some (zi r)) σr) σ 45 [some (zr 1), some (zr x1), some (zi x2), none, some (zi x4), some (zi x5), some (zr x6), some (zi x7), some (zi x8)] [] := by
  intro n
  induction n with
  | zero => intro x1 x2 x4 x5 x6 x7 x8 σ hf; exact absurd (show none = some (r, σr) from hf) (fun z => by cases z)
  | succ n ih => intro x1 x2 x4 x5 x6 x7 x8 σ hf; exact j8_isSeenByOneSpin_45 C hq3 ih (show b8_isSeenByOneSpin_45 k q3 (f8_isSeenByOneSpin_45 k q3 n) x1 x2 x4 x5 x6 x7 x8 σ = some (r, σr) from hf)
def b8_isSeenByOneSpin_3 (k : Nat) (q3 : Nat → Int32 → Int32 → Int32 → ZS → Option (Int32 × ZS)) (x1 : Nat) (x2 : Int32) (x4 : Int32) (x5 : Int32) (σ : ZS) : Option (Int32 × ZS) :=
  if (σ 56 6) ≤ x5 then (
  some ((0 : Int32), σ))
  else (
  zbd (f5_glassOf k 56 x5 σ) fun r2 s2 =>
  if r2 = 0 then (
  f8_isSeenByOneSpin_45 k q3 k x1 x2 x4 x5 r2 (0 : Int32) (0 : Int32) s2)
  else (
  if zsh r2 = 1 then (
  f8_isSeenByOneSpin_45 k q3 k x1 x2 x4 x5 r2 (s2 r2 3) (0 : Int32) s2) else none))
def f8_isSeenByOneSpin_3 (k : Nat) : Nat → Nat → Int32 → Int32 → Int32 → ZS → Option (Int32 × ZS)
  | 0 => fun _ _ _ _ _ => none
  | n + 1 => b8_isSeenByOneSpin_3 k  (f8_isSeenByOneSpin_3 k  n)
theorem j8_isSeenByOneSpin_3 {x : ZX} {g : ZG} (C : zC x g b8_isSeenByOneSpin R8 (some .boolean) 9 5 153) {k : Nat} {r : Int32} {σr : ZS}  {q3 : Nat → Int32 → Int32 → Int32 → ZS → Option (Int32 × ZS)} (hq3 : (∀ (x1 : Nat) (x2 : Int32) (x4 : Int32) (x5 : Int32) (σ : ZS), q3 x1 x2 x4 x5 σ = some (r, σr) → zw x g 9 0 0 (zMQ x g (some (zi r)) σr) σ 3 [some (zr 1), some (zr x1), some (zi x2), none, some (zi x4), some (zi x5), none, none, none] [])) {x1 : Nat} {x2 : Int32} {x4 : Int32} {x5 : Int32} {σ : ZS} (hf : b8_isSeenByOneSpin_3 k q3 x1 x2 x4 x5 σ = some (r, σr)) : zw x g 9 0 0 (zMQ x g (some (zi r)) σr) σ 3 [some (zr 1), some (zr x1), some (zi x2), none, some (zi x4), some (zi x5), none, none, none] [] := by
  unfold b8_isSeenByOneSpin_3 at hf
  refine z_iload C d8_isSeenByOneSpin_3 rfl ?_
  refine z_aload_n C d8_isSeenByOneSpin_5 rfl ?_
  refine z_getR C d8_isSeenByOneSpin_6 fl_263 kZ_1 56 rfl (zn0 kZ_56) ?_
  refine z_getI C d8_isSeenByOneSpin_9 fl_125 kZ_56 ?_
  refine z_icmp_ge C d8_isSeenByOneSpin_12 (fun c1 => ?_) (fun c1 => ?_)
  · have hf := zit c1 hf
    refine z_iconst C (0 : Int32) d8_isSeenByOneSpin_131 kI_0 ?_
    exact z_zret C d8_isSeenByOneSpin_132 (Or.inl rfl) hf
  · have hf := zie c1 hf
    refine z_aload_n C d8_isSeenByOneSpin_15 rfl ?_
    refine z_getR C d8_isSeenByOneSpin_16 fl_263 kZ_1 56 rfl (zn0 kZ_56) ?_
    refine z_iload C d8_isSeenByOneSpin_19 rfl ?_
    obtain ⟨r2, s2, h2, hf⟩ := zbx hf
    refine z_callVr C (as := [zi x5]) d8_isSeenByOneSpin_21 w_334 yy5_glassOf (c5_glassOf x.2.1 g h2) yc5_glassOf kZ_56 rfl rfl (Nat.le_of_ble_eq_true rfl) ⟨Nat.le_of_ble_eq_true rfl, Nat.le_of_ble_eq_true rfl⟩ ⟨Nat.zero_le _, Nat.zero_le _⟩ ?_
    refine z_astore C d8_isSeenByOneSpin_24 (Nat.le_of_ble_eq_true rfl) rfl (L' := [some (zr 1), some (zr x1), some (zi x2), none, some (zi x4), some (zi x5), some (zr r2), none, none]) rfl ?_
    refine z_aload C d8_isSeenByOneSpin_26 rfl ?_
    refine z_ifnonnull C d8_isSeenByOneSpin_28 (fun c3 => ?_) (fun c3 => ?_)
    · have hf := zit c3 hf
      refine z_iconst C (0 : Int32) d8_isSeenByOneSpin_31 kI_0 ?_
      refine z_goto C d8_isSeenByOneSpin_32 ?_
      refine z_istore C d8_isSeenByOneSpin_40 (Nat.le_of_ble_eq_true rfl) rfl (L' := [some (zr 1), some (zr x1), some (zi x2), none, some (zi x4), some (zi x5), some (zr r2), some (zi (0 : Int32)), none]) rfl ?_
      refine z_iconst C (0 : Int32) d8_isSeenByOneSpin_42 kI_0 ?_
      refine z_istore C d8_isSeenByOneSpin_43 (Nat.le_of_ble_eq_true rfl) rfl (L' := [some (zr 1), some (zr x1), some (zi x2), none, some (zi x4), some (zi x5), some (zr r2), some (zi (0 : Int32)), some (zi (0 : Int32))]) rfl ?_
      exact j8_isSeenByOneSpin_45l C hq3 _ _ _ _ _ _ _ _ _ hf
    · have hf := zie c3 hf
      refine z_aload C d8_isSeenByOneSpin_35 rfl ?_
      obtain ⟨g4, hf⟩ := zgo hf
      refine z_getI C d8_isSeenByOneSpin_37 fl_58 g4 ?_
      refine z_istore C d8_isSeenByOneSpin_40 (Nat.le_of_ble_eq_true rfl) rfl (L' := [some (zr 1), some (zr x1), some (zi x2), none, some (zi x4), some (zi x5), some (zr r2), some (zi (s2 r2 3)), none]) rfl ?_
      refine z_iconst C (0 : Int32) d8_isSeenByOneSpin_42 kI_0 ?_
      refine z_istore C d8_isSeenByOneSpin_43 (Nat.le_of_ble_eq_true rfl) rfl (L' := [some (zr 1), some (zr x1), some (zi x2), none, some (zi x4), some (zi x5), some (zr r2), some (zi (s2 r2 3)), some (zi (0 : Int32))]) rfl ?_
      exact j8_isSeenByOneSpin_45l C hq3 _ _ _ _ _ _ _ _ _ hf
theorem j8_isSeenByOneSpin_3l {x : ZX} {g : ZG} (C : zC x g b8_isSeenByOneSpin R8 (some .boolean) 9 5 153) {k : Nat} {r : Int32} {σr : ZS}  : ∀ (n : Nat) (x1 : Nat) (x2 : Int32) (x4 : Int32) (x5 : Int32) (σ : ZS), f8_isSeenByOneSpin_3 k  n x1 x2 x4 x5 σ = some (r, σr) → zw x g 9 0 0 (zMQ x g (some (zi r)) σr) σ 3 [some (zr 1), some (zr x1), some (zi x2), none, some (zi x4), some (zi x5), none, none, none] [] := by
  intro n
  induction n with
  | zero => intro x1 x2 x4 x5 σ hf; exact absurd (show none = some (r, σr) from hf) (fun z => by cases z)
  | succ n ih => intro x1 x2 x4 x5 σ hf; exact j8_isSeenByOneSpin_3 C  ih (show b8_isSeenByOneSpin_3 k  (f8_isSeenByOneSpin_3 k  n) x1 x2 x4 x5 σ = some (r, σr) from hf)
def f8_isSeenByOneSpin (k : Nat) (x1 : Nat) (x2 : Int32) (x3 : Int32) (x4 : Int32) (σ : ZS) : Option (Int32 × ZS) :=
  f8_isSeenByOneSpin_3 k  k x1 x2 x4 x3 σ
theorem c8_isSeenByOneSpin (l : Launch) (g : ZG) {k : Nat} {x1 : Nat} {x2 : Int32} {x3 : Int32} {x4 : Int32} {σ : ZS} {r : Int32} {σr : ZS} (hf : f8_isSeenByOneSpin k x1 x2 x3 x4 σ = some (r, σr)) : zT l g y8_isSeenByOneSpin b8_isSeenByOneSpin 9 (some .boolean) 5 153 [zr 1, zr x1, zi x2, zi x3, zi x4] σ (some (zi r)) σr := by
  unfold f8_isSeenByOneSpin at hf
  refine zT_start (own := R8) rfl (by decide +kernel) 4 (L := [some (zr 1), some (zr x1), some (zi x2), some (zi x3), some (zi x4), none, none, none, none]) rfl rfl (fun x hl C => ?_)
  subst hl
  refine z_iload_n C d8_isSeenByOneSpin_0 rfl ?_
  refine z_istore C d8_isSeenByOneSpin_1 (Nat.le_of_ble_eq_true rfl) rfl (L' := [some (zr 1), some (zr x1), some (zi x2), some (zi x3), some (zi x4), some (zi x3), none, none, none]) rfl ?_
  refine z_drop [true, true, true, false, true, true, false, false, false] (L' := [some (zr 1), some (zr x1), some (zi x2), none, some (zi x4), some (zi x3), none, none, none]) rfl ?_
  exact j8_isSeenByOneSpin_3l C  _ _ _ _ _ _ hf
theorem d8_isSeenByTwoSpins_0 : zd b8_isSeenByTwoSpins 0 (.iconst 0) 1 1 := ⟨by decide +kernel, rfl⟩
theorem d8_isSeenByTwoSpins_1 : zd b8_isSeenByTwoSpins 1 (.istore_n 3) 1 2 := ⟨by decide +kernel, rfl⟩
theorem d8_isSeenByTwoSpins_2 : zd b8_isSeenByTwoSpins 2 (.iload_n 3) 1 3 := ⟨by decide +kernel, rfl⟩
theorem d8_isSeenByTwoSpins_3 : zd b8_isSeenByTwoSpins 3 (.aload_n 0) 1 4 := ⟨by decide +kernel, rfl⟩
theorem d8_isSeenByTwoSpins_4 : zd b8_isSeenByTwoSpins 4 (.getfield 19) 3 7 := ⟨by decide +kernel, rfl⟩
theorem d8_isSeenByTwoSpins_7 : zd b8_isSeenByTwoSpins 7 (.getfield 71) 3 10 := ⟨by decide +kernel, rfl⟩
theorem d8_isSeenByTwoSpins_10 : zdb b8_isSeenByTwoSpins 10 (.if_icmp .ge 106) 106 13 116 := ⟨by decide +kernel, rfl, by decide⟩
theorem d8_isSeenByTwoSpins_13 : zd b8_isSeenByTwoSpins 13 (.aload_n 0) 1 14 := ⟨by decide +kernel, rfl⟩
theorem d8_isSeenByTwoSpins_14 : zd b8_isSeenByTwoSpins 14 (.getfield 19) 3 17 := ⟨by decide +kernel, rfl⟩
theorem d8_isSeenByTwoSpins_17 : zd b8_isSeenByTwoSpins 17 (.iload_n 3) 1 18 := ⟨by decide +kernel, rfl⟩
theorem d8_isSeenByTwoSpins_18 : zd b8_isSeenByTwoSpins 18 (.invokevirtual 82) 3 21 := ⟨by decide +kernel, rfl⟩
theorem d8_isSeenByTwoSpins_21 : zd b8_isSeenByTwoSpins 21 (.astore 4) 2 23 := ⟨by decide +kernel, rfl⟩
theorem d8_isSeenByTwoSpins_23 : zd b8_isSeenByTwoSpins 23 (.aload 4) 2 25 := ⟨by decide +kernel, rfl⟩
theorem d8_isSeenByTwoSpins_25 : zdb b8_isSeenByTwoSpins 25 (.ifnonnull 7) 7 28 32 := ⟨by decide +kernel, rfl, by decide⟩
theorem d8_isSeenByTwoSpins_28 : zd b8_isSeenByTwoSpins 28 (.iconst 0) 1 29 := ⟨by decide +kernel, rfl⟩
theorem d8_isSeenByTwoSpins_29 : zdb b8_isSeenByTwoSpins 29 (.goto 8) 8 32 37 := ⟨by decide +kernel, rfl, by decide⟩
theorem d8_isSeenByTwoSpins_32 : zd b8_isSeenByTwoSpins 32 (.aload 4) 2 34 := ⟨by decide +kernel, rfl⟩
theorem d8_isSeenByTwoSpins_34 : zd b8_isSeenByTwoSpins 34 (.getfield 97) 3 37 := ⟨by decide +kernel, rfl⟩
theorem d8_isSeenByTwoSpins_37 : zd b8_isSeenByTwoSpins 37 (.istore 5) 2 39 := ⟨by decide +kernel, rfl⟩
theorem d8_isSeenByTwoSpins_39 : zd b8_isSeenByTwoSpins 39 (.iconst 0) 1 40 := ⟨by decide +kernel, rfl⟩
theorem d8_isSeenByTwoSpins_40 : zd b8_isSeenByTwoSpins 40 (.istore 6) 2 42 := ⟨by decide +kernel, rfl⟩
theorem d8_isSeenByTwoSpins_42 : zd b8_isSeenByTwoSpins 42 (.iload 6) 2 44 := ⟨by decide +kernel, rfl⟩
theorem d8_isSeenByTwoSpins_44 : zd b8_isSeenByTwoSpins 44 (.iconst 4) 1 45 := ⟨by decide +kernel, rfl⟩
theorem d8_isSeenByTwoSpins_45 : zdb b8_isSeenByTwoSpins 45 (.if_icmp .ge 65) 65 48 110 := ⟨by decide +kernel, rfl, by decide⟩
theorem d8_isSeenByTwoSpins_48 : zd b8_isSeenByTwoSpins 48 (.aload 4) 2 50 := ⟨by decide +kernel, rfl⟩
theorem d8_isSeenByTwoSpins_50 : zdb b8_isSeenByTwoSpins 50 (.ifnull 60) 60 53 110 := ⟨by decide +kernel, rfl, by decide⟩
theorem d8_isSeenByTwoSpins_53 : zd b8_isSeenByTwoSpins 53 (.aload 4) 2 55 := ⟨by decide +kernel, rfl⟩
theorem d8_isSeenByTwoSpins_55 : zd b8_isSeenByTwoSpins 55 (.iload 6) 2 57 := ⟨by decide +kernel, rfl⟩
theorem d8_isSeenByTwoSpins_57 : zd b8_isSeenByTwoSpins 57 (.putfield 97) 3 60 := ⟨by decide +kernel, rfl⟩
theorem d8_isSeenByTwoSpins_60 : zd b8_isSeenByTwoSpins 60 (.iload 6) 2 62 := ⟨by decide +kernel, rfl⟩
theorem d8_isSeenByTwoSpins_62 : zd b8_isSeenByTwoSpins 62 (.iload 5) 2 64 := ⟨by decide +kernel, rfl⟩
theorem d8_isSeenByTwoSpins_64 : zdb b8_isSeenByTwoSpins 64 (.if_icmp .eq 33) 33 67 97 := ⟨by decide +kernel, rfl, by decide⟩
theorem d8_isSeenByTwoSpins_67 : zd b8_isSeenByTwoSpins 67 (.aload_n 0) 1 68 := ⟨by decide +kernel, rfl⟩
theorem d8_isSeenByTwoSpins_68 : zd b8_isSeenByTwoSpins 68 (.aload_n 1) 1 69 := ⟨by decide +kernel, rfl⟩
theorem d8_isSeenByTwoSpins_69 : zd b8_isSeenByTwoSpins 69 (.iload_n 2) 1 70 := ⟨by decide +kernel, rfl⟩
theorem d8_isSeenByTwoSpins_70 : zd b8_isSeenByTwoSpins 70 (.iload_n 3) 1 71 := ⟨by decide +kernel, rfl⟩
theorem d8_isSeenByTwoSpins_71 : zd b8_isSeenByTwoSpins 71 (.iconst 1) 1 72 := ⟨by decide +kernel, rfl⟩
theorem d8_isSeenByTwoSpins_72 : zd b8_isSeenByTwoSpins 72 .iadd 1 73 := ⟨by decide +kernel, rfl⟩
theorem d8_isSeenByTwoSpins_73 : zd b8_isSeenByTwoSpins 73 (.iconst 2) 1 74 := ⟨by decide +kernel, rfl⟩
theorem d8_isSeenByTwoSpins_74 : zd b8_isSeenByTwoSpins 74 (.invokevirtual 296) 3 77 := ⟨by decide +kernel, rfl⟩
theorem d8_isSeenByTwoSpins_77 : zdb b8_isSeenByTwoSpins 77 (.ifCond .eq 20) 20 80 97 := ⟨by decide +kernel, rfl, by decide⟩
theorem d8_isSeenByTwoSpins_80 : zd b8_isSeenByTwoSpins 80 (.aload_n 0) 1 81 := ⟨by decide +kernel, rfl⟩
theorem d8_isSeenByTwoSpins_81 : zd b8_isSeenByTwoSpins 81 (.getfield 49) 3 84 := ⟨by decide +kernel, rfl⟩
theorem d8_isSeenByTwoSpins_84 : zd b8_isSeenByTwoSpins 84 (.iconst 0) 1 85 := ⟨by decide +kernel, rfl⟩
theorem d8_isSeenByTwoSpins_85 : zd b8_isSeenByTwoSpins 85 (.iload_n 3) 1 86 := ⟨by decide +kernel, rfl⟩
theorem d8_isSeenByTwoSpins_86 : zd b8_isSeenByTwoSpins 86 .iastore 1 87 := ⟨by decide +kernel, rfl⟩
theorem d8_isSeenByTwoSpins_87 : zd b8_isSeenByTwoSpins 87 (.aload_n 0) 1 88 := ⟨by decide +kernel, rfl⟩
theorem d8_isSeenByTwoSpins_88 : zd b8_isSeenByTwoSpins 88 (.getfield 49) 3 91 := ⟨by decide +kernel, rfl⟩
theorem d8_isSeenByTwoSpins_91 : zd b8_isSeenByTwoSpins 91 (.iconst 1) 1 92 := ⟨by decide +kernel, rfl⟩
theorem d8_isSeenByTwoSpins_92 : zd b8_isSeenByTwoSpins 92 (.iload 6) 2 94 := ⟨by decide +kernel, rfl⟩
theorem d8_isSeenByTwoSpins_94 : zd b8_isSeenByTwoSpins 94 .iastore 1 95 := ⟨by decide +kernel, rfl⟩
theorem d8_isSeenByTwoSpins_95 : zd b8_isSeenByTwoSpins 95 (.iconst 1) 1 96 := ⟨by decide +kernel, rfl⟩
theorem d8_isSeenByTwoSpins_96 : zd b8_isSeenByTwoSpins 96 .ireturn 1 97 := ⟨by decide +kernel, rfl⟩
theorem d8_isSeenByTwoSpins_97 : zd b8_isSeenByTwoSpins 97 (.aload 4) 2 99 := ⟨by decide +kernel, rfl⟩
theorem d8_isSeenByTwoSpins_99 : zd b8_isSeenByTwoSpins 99 (.iload 5) 2 101 := ⟨by decide +kernel, rfl⟩
theorem d8_isSeenByTwoSpins_101 : zd b8_isSeenByTwoSpins 101 (.putfield 97) 3 104 := ⟨by decide +kernel, rfl⟩
theorem d8_isSeenByTwoSpins_104 : zd b8_isSeenByTwoSpins 104 (.iinc 6 1) 3 107 := ⟨by decide +kernel, rfl⟩
theorem d8_isSeenByTwoSpins_107 : zdb b8_isSeenByTwoSpins 107 (.goto (-65)) (-65) 110 42 := ⟨by decide +kernel, rfl, by decide⟩
theorem d8_isSeenByTwoSpins_110 : zd b8_isSeenByTwoSpins 110 (.iinc 3 1) 3 113 := ⟨by decide +kernel, rfl⟩
theorem d8_isSeenByTwoSpins_113 : zdb b8_isSeenByTwoSpins 113 (.goto (-111)) (-111) 116 2 := ⟨by decide +kernel, rfl, by decide⟩
theorem d8_isSeenByTwoSpins_116 : zd b8_isSeenByTwoSpins 116 (.iconst 0) 1 117 := ⟨by decide +kernel, rfl⟩
theorem d8_isSeenByTwoSpins_117 : zd b8_isSeenByTwoSpins 117 .ireturn 1 118 := ⟨by decide +kernel, rfl⟩
def b8_isSeenByTwoSpins_42 (k : Nat) (q2 : Nat → Int32 → Int32 → ZS → Option (Int32 × ZS)) (q42 : Nat → Int32 → Int32 → Nat → Int32 → Int32 → ZS → Option (Int32 × ZS)) (x1 : Nat) (x2 : Int32) (x3 : Int32) (x4 : Nat) (x5 : Int32) (x6 : Int32) (σ : ZS) : Option (Int32 × ZS) :=
  if (4 : Int32) ≤ x6 then (
  q2 x1 x2 (x3 + (1 : Int32)) σ)
  else (
  if x4 = 0 then (
  q2 x1 x2 (x3 + (1 : Int32)) σ)
  else (
  if zsh x4 = 1 then (
  zput (zu σ x4 3 x6) fun s4 =>
  if x6 = x5 then (
  zput (zu s4 x4 3 x5) fun s6 =>
  q42 x1 x2 x3 x4 x5 (x6 + (1 : Int32)) s6)
  else (
  zbd (f8_isSeenByOneSpin k x1 x2 (x3 + (1 : Int32)) (2 : Int32) s4) fun r7 s7 =>
  if r7 = 0 then (
  zput (zu s7 x4 3 x5) fun s9 =>
  q42 x1 x2 x3 x4 x5 (x6 + (1 : Int32)) s9)
  else (
  zput (zu s7 93 (0) x3) fun s10 =>
  zput (zu s10 93 (1) x6) fun s11 =>
  some ((1 : Int32), s11)))) else none))
def f8_isSeenByTwoSpins_42 (k : Nat) (q2 : Nat → Int32 → Int32 → ZS → Option (Int32 × ZS)) : Nat → Nat → Int32 → Int32 → Nat → Int32 → Int32 → ZS → Option (Int32 × ZS)
  | 0 => fun _ _ _ _ _ _ _ => none
  | n + 1 => b8_isSeenByTwoSpins_42 k q2 (f8_isSeenByTwoSpins_42 k q2 n)
theorem j8_isSeenByTwoSpins_42 {x : ZX} {g : ZG} (C : zC x g b8_isSeenByTwoSpins R8 (some .boolean) 7 6 181) {k : Nat} {r : Int32} {σr : ZS}  {q2 : Nat → Int32 → Int32 → ZS → Option (Int32 × ZS)} (hq2 : (∀ (x1 : Nat) (x2 : Int32) (x3 : Int32) (σ : ZS), q2 x1 x2 x3 σ = some (r, σr) → zw x g 7 0 0 (zMQ x g (some (zi r)) σr) σ 2 [some (zr 1), some (zr x1), some (zi x2), some (zi x3), none, none, none] [])) {q42 : Nat → Int32 → Int32 → Nat → Int32 → Int32 → ZS → Option (Int32 × ZS)} (hq42 : (∀ (x1 : Nat) (x2 : Int32) (x3 : Int32) (x4 : Nat) (x5 : Int32) (x6 : Int32) (σ : ZS), q42 x1 x2 x3 x4 x5 x6 σ = some (r, σr) → zw x g 7 0 0 (zMQ x g (some (zi r)) σr) σ 42 [some (zr 1), some (zr x1), some (zi x2), some (zi x3), some (zr x4), some (zi x5), some (zi x6)] [])) {x1 : Nat} {x2 : Int32} {x3 : Int32} {x4 : Nat} {x5 : Int32} {x6 : Int32} {σ : ZS} (hf : b8_isSeenByTwoSpins_42 k q2 q42 x1 x2 x3 x4 x5 x6 σ = some (r, σr)) : zw x g 7 0 0 (zMQ x g (some (zi r)) σr) σ 42 [some (zr 1), some (zr x1), some (zi x2), some (zi x3), some (zr x4), some (zi x5), some (zi x6)] [] := by
  unfold b8_isSeenByTwoSpins_42 at hf
  refine z_iload C d8_isSeenByTwoSpins_42 rfl ?_
  refine z_iconst C (4 : Int32) d8_isSeenByTwoSpins_44 kI_4 ?_
  refine z_icmp_ge C d8_isSeenByTwoSpins_45 (fun c1 => ?_) (fun c1 => ?_)
  · have hf := zit c1 hf
    refine z_iinc C d8_isSeenByTwoSpins_110 rfl kI_1 (Nat.le_of_ble_eq_true rfl) rfl (L' := [some (zr 1), some (zr x1), some (zi x2), some (zi (x3 + (1 : Int32))), some (zr x4), some (zi x5), some (zi x6)]) rfl ?_
    refine z_goto C d8_isSeenByTwoSpins_113 ?_
    refine z_drop [true, true, true, true, false, false, false] (L' := [some (zr 1), some (zr x1), some (zi x2), some (zi (x3 + (1 : Int32))), none, none, none]) rfl ?_
    exact hq2 _ _ _ _ hf
  · have hf := zie c1 hf
    refine z_aload C d8_isSeenByTwoSpins_48 rfl ?_
    refine z_ifnull C d8_isSeenByTwoSpins_50 (fun c2 => ?_) (fun c2 => ?_)
    · have hf := zit c2 hf
      refine z_iinc C d8_isSeenByTwoSpins_110 rfl kI_1 (Nat.le_of_ble_eq_true rfl) rfl (L' := [some (zr 1), some (zr x1), some (zi x2), some (zi (x3 + (1 : Int32))), some (zr x4), some (zi x5), some (zi x6)]) rfl ?_
      refine z_goto C d8_isSeenByTwoSpins_113 ?_
      refine z_drop [true, true, true, true, false, false, false] (L' := [some (zr 1), some (zr x1), some (zi x2), some (zi (x3 + (1 : Int32))), none, none, none]) rfl ?_
      exact hq2 _ _ _ _ hf
    · have hf := zie c2 hf
      refine z_aload C d8_isSeenByTwoSpins_53 rfl ?_
      refine z_iload C d8_isSeenByTwoSpins_55 rfl ?_
      obtain ⟨g3, hf⟩ := zgo hf
      obtain ⟨s4, e4, hf⟩ := zpx hf
      refine z_putI C d8_isSeenByTwoSpins_57 fl_58 ft_0_3 g3 e4 ?_
      refine z_iload C d8_isSeenByTwoSpins_60 rfl ?_
      refine z_iload C d8_isSeenByTwoSpins_62 rfl ?_
      refine z_icmp_eq C d8_isSeenByTwoSpins_64 (fun c5 => ?_) (fun c5 => ?_)
      · have hf := zit c5 hf
        refine z_aload C d8_isSeenByTwoSpins_97 rfl ?_
        refine z_iload C d8_isSeenByTwoSpins_99 rfl ?_
        obtain ⟨s6, e6, hf⟩ := zpx hf
        refine z_putI C d8_isSeenByTwoSpins_101 fl_58 ft_0_3 g3 e6 ?_
        refine z_iinc C d8_isSeenByTwoSpins_104 rfl kI_1 (Nat.le_of_ble_eq_true rfl) rfl (L' := [some (zr 1), some (zr x1), some (zi x2), some (zi x3), some (zr x4), some (zi x5), some (zi (x6 + (1 : Int32)))]) rfl ?_
        refine z_goto C d8_isSeenByTwoSpins_107 ?_
        exact hq42 _ _ _ _ _ _ _ hf
      · have hf := zie c5 hf
        refine z_aload_n C d8_isSeenByTwoSpins_67 rfl ?_
        refine z_aload_n C d8_isSeenByTwoSpins_68 rfl ?_
        refine z_iload_n C d8_isSeenByTwoSpins_69 rfl ?_
        refine z_iload_n C d8_isSeenByTwoSpins_70 rfl ?_
        refine z_iconst C (1 : Int32) d8_isSeenByTwoSpins_71 kI_1 ?_
        refine z_iadd C d8_isSeenByTwoSpins_72 ?_
        refine z_iconst C (2 : Int32) d8_isSeenByTwoSpins_73 kI_2 ?_
        obtain ⟨r7, s7, h7, hf⟩ := zbx hf
        refine z_callVi C (as := [zr x1, zi x2, zi (x3 + (1 : Int32)), zi (2 : Int32)]) d8_isSeenByTwoSpins_74 w_667 yy8_isSeenByOneSpin (c8_isSeenByOneSpin x.2.1 g h7) yc8_isSeenByOneSpin kZ_1 rfl rfl (Nat.le_of_ble_eq_true rfl) ⟨Nat.le_of_ble_eq_true rfl, Nat.le_of_ble_eq_true rfl⟩ ⟨Nat.zero_le _, Nat.zero_le _⟩ ?_
        refine z_if_eq C d8_isSeenByTwoSpins_77 (fun c8 => ?_) (fun c8 => ?_)
        · have hf := zit c8 hf
          refine z_aload C d8_isSeenByTwoSpins_97 rfl ?_
          refine z_iload C d8_isSeenByTwoSpins_99 rfl ?_
          obtain ⟨s9, e9, hf⟩ := zpx hf
          refine z_putI C d8_isSeenByTwoSpins_101 fl_58 ft_0_3 g3 e9 ?_
          refine z_iinc C d8_isSeenByTwoSpins_104 rfl kI_1 (Nat.le_of_ble_eq_true rfl) rfl (L' := [some (zr 1), some (zr x1), some (zi x2), some (zi x3), some (zr x4), some (zi x5), some (zi (x6 + (1 : Int32)))]) rfl ?_
          refine z_goto C d8_isSeenByTwoSpins_107 ?_
          exact hq42 _ _ _ _ _ _ _ hf
        · have hf := zie c8 hf
          refine z_aload_n C d8_isSeenByTwoSpins_80 rfl ?_
          refine z_getR C d8_isSeenByTwoSpins_81 fl_268 kZ_1 93 rfl (zn0 kZ_93) ?_
          refine z_iconst C (0 : Int32) d8_isSeenByTwoSpins_84 kI_0 ?_
          refine z_iload_n C d8_isSeenByTwoSpins_85 rfl ?_
          obtain ⟨s10, e10, hf⟩ := zpx hf
          refine z_iast C d8_isSeenByTwoSpins_86 kZ_93 kL_93 ⟨by decide, by decide⟩ kN_0 e10 ?_
          refine z_aload_n C d8_isSeenByTwoSpins_87 rfl ?_
          refine z_getR C d8_isSeenByTwoSpins_88 fl_268 kZ_1 93 rfl (zn0 kZ_93) ?_
          refine z_iconst C (1 : Int32) d8_isSeenByTwoSpins_91 kI_1 ?_
          refine z_iload C d8_isSeenByTwoSpins_92 rfl ?_
          obtain ⟨s11, e11, hf⟩ := zpx hf
          refine z_iast C d8_isSeenByTwoSpins_94 kZ_93 kL_93 ⟨by decide, by decide⟩ kN_1 e11 ?_
          refine z_iconst C (1 : Int32) d8_isSeenByTwoSpins_95 kI_1 ?_
          exact z_zret C d8_isSeenByTwoSpins_96 (Or.inr rfl) hf
theorem j8_isSeenByTwoSpins_42l {x : ZX} {g : ZG} (C : zC x g b8_isSeenByTwoSpins R8 (some .boolean) 7 6 181) {k : Nat} {r : Int32} {σr : ZS}  {q2 : Nat → Int32 → Int32 → ZS → Option (Int32 × ZS)} (hq2 : (∀ (x1 : Nat) (x2 : Int32) (x3 : Int32) (σ : ZS), q2 x1 x2 x3 σ = some (r, σr) → zw x g 7 0 0 (zMQ x g (some (zi r)) σr) σ 2 [some (zr 1), some (zr x1), some (zi x2), some (zi x3), none, none, none] [])) : ∀ (n : Nat) (x1 : Nat) (x2 : Int32) (x3 : Int32) (x4 : Nat) (x5 : Int32) (x6 : Int32) (σ : ZS), f8_isSeenByTwoSpins_42 k q2 n x1 x2 x3 x4 x5 x6 σ = some (r, σr) → zw x g 7 0 0 (zMQ x g (some (zi r)) σr) σ 42 [some (zr 1), some (zr x1), some (zi x2), some (zi x3), some (zr x4), some (zi x5), some (zi x6)] [] := by
  intro n
  induction n with
  | zero => intro x1 x2 x3 x4 x5 x6 σ hf; exact absurd (show none = some (r, σr) from hf) (fun z => by cases z)
  | succ n ih => intro x1 x2 x3 x4 x5 x6 σ hf; exact j8_isSeenByTwoSpins_42 C hq2 ih (show b8_isSeenByTwoSpins_42 k q2 (f8_isSeenByTwoSpins_42 k q2 n) x1 x2 x3 x4 x5 x6 σ = some (r, σr) from hf)
def b8_isSeenByTwoSpins_2 (k : Nat) (q2 : Nat → Int32 → Int32 → ZS → Option (Int32 × ZS)) (x1 : Nat) (x2 : Int32) (x3 : Int32) (σ : ZS) : Option (Int32 × ZS) :=
  if (σ 56 6) ≤ x3 then (
  some ((0 : Int32), σ))
  else (
  zbd (f5_glassOf k 56 x3 σ) fun r2 s2 =>
  if r2 = 0 then (
  f8_isSeenByTwoSpins_42 k q2 k x1 x2 x3 r2 (0 : Int32) (0 : Int32) s2)
  else (
  if zsh r2 = 1 then (
  f8_isSeenByTwoSpins_42 k q2 k x1 x2 x3 r2 (s2 r2 3) (0 : Int32) s2) else none))
def f8_isSeenByTwoSpins_2 (k : Nat) : Nat → Nat → Int32 → Int32 → ZS → Option (Int32 × ZS)
  | 0 => fun _ _ _ _ => none
  | n + 1 => b8_isSeenByTwoSpins_2 k  (f8_isSeenByTwoSpins_2 k  n)
theorem j8_isSeenByTwoSpins_2 {x : ZX} {g : ZG} (C : zC x g b8_isSeenByTwoSpins R8 (some .boolean) 7 6 181) {k : Nat} {r : Int32} {σr : ZS}  {q2 : Nat → Int32 → Int32 → ZS → Option (Int32 × ZS)} (hq2 : (∀ (x1 : Nat) (x2 : Int32) (x3 : Int32) (σ : ZS), q2 x1 x2 x3 σ = some (r, σr) → zw x g 7 0 0 (zMQ x g (some (zi r)) σr) σ 2 [some (zr 1), some (zr x1), some (zi x2), some (zi x3), none, none, none] [])) {x1 : Nat} {x2 : Int32} {x3 : Int32} {σ : ZS} (hf : b8_isSeenByTwoSpins_2 k q2 x1 x2 x3 σ = some (r, σr)) : zw x g 7 0 0 (zMQ x g (some (zi r)) σr) σ 2 [some (zr 1), some (zr x1), some (zi x2), some (zi x3), none, none, none] [] := by
  unfold b8_isSeenByTwoSpins_2 at hf
  refine z_iload_n C d8_isSeenByTwoSpins_2 rfl ?_
  refine z_aload_n C d8_isSeenByTwoSpins_3 rfl ?_
  refine z_getR C d8_isSeenByTwoSpins_4 fl_263 kZ_1 56 rfl (zn0 kZ_56) ?_
  refine z_getI C d8_isSeenByTwoSpins_7 fl_125 kZ_56 ?_
  refine z_icmp_ge C d8_isSeenByTwoSpins_10 (fun c1 => ?_) (fun c1 => ?_)
  · have hf := zit c1 hf
    refine z_iconst C (0 : Int32) d8_isSeenByTwoSpins_116 kI_0 ?_
    exact z_zret C d8_isSeenByTwoSpins_117 (Or.inl rfl) hf
  · have hf := zie c1 hf
    refine z_aload_n C d8_isSeenByTwoSpins_13 rfl ?_
    refine z_getR C d8_isSeenByTwoSpins_14 fl_263 kZ_1 56 rfl (zn0 kZ_56) ?_
    refine z_iload_n C d8_isSeenByTwoSpins_17 rfl ?_
    obtain ⟨r2, s2, h2, hf⟩ := zbx hf
    refine z_callVr C (as := [zi x3]) d8_isSeenByTwoSpins_18 w_334 yy5_glassOf (c5_glassOf x.2.1 g h2) yc5_glassOf kZ_56 rfl rfl (Nat.le_of_ble_eq_true rfl) ⟨Nat.le_of_ble_eq_true rfl, Nat.le_of_ble_eq_true rfl⟩ ⟨Nat.zero_le _, Nat.zero_le _⟩ ?_
    refine z_astore C d8_isSeenByTwoSpins_21 (Nat.le_of_ble_eq_true rfl) rfl (L' := [some (zr 1), some (zr x1), some (zi x2), some (zi x3), some (zr r2), none, none]) rfl ?_
    refine z_aload C d8_isSeenByTwoSpins_23 rfl ?_
    refine z_ifnonnull C d8_isSeenByTwoSpins_25 (fun c3 => ?_) (fun c3 => ?_)
    · have hf := zit c3 hf
      refine z_iconst C (0 : Int32) d8_isSeenByTwoSpins_28 kI_0 ?_
      refine z_goto C d8_isSeenByTwoSpins_29 ?_
      refine z_istore C d8_isSeenByTwoSpins_37 (Nat.le_of_ble_eq_true rfl) rfl (L' := [some (zr 1), some (zr x1), some (zi x2), some (zi x3), some (zr r2), some (zi (0 : Int32)), none]) rfl ?_
      refine z_iconst C (0 : Int32) d8_isSeenByTwoSpins_39 kI_0 ?_
      refine z_istore C d8_isSeenByTwoSpins_40 (Nat.le_of_ble_eq_true rfl) rfl (L' := [some (zr 1), some (zr x1), some (zi x2), some (zi x3), some (zr r2), some (zi (0 : Int32)), some (zi (0 : Int32))]) rfl ?_
      exact j8_isSeenByTwoSpins_42l C hq2 _ _ _ _ _ _ _ _ hf
    · have hf := zie c3 hf
      refine z_aload C d8_isSeenByTwoSpins_32 rfl ?_
      obtain ⟨g4, hf⟩ := zgo hf
      refine z_getI C d8_isSeenByTwoSpins_34 fl_58 g4 ?_
      refine z_istore C d8_isSeenByTwoSpins_37 (Nat.le_of_ble_eq_true rfl) rfl (L' := [some (zr 1), some (zr x1), some (zi x2), some (zi x3), some (zr r2), some (zi (s2 r2 3)), none]) rfl ?_
      refine z_iconst C (0 : Int32) d8_isSeenByTwoSpins_39 kI_0 ?_
      refine z_istore C d8_isSeenByTwoSpins_40 (Nat.le_of_ble_eq_true rfl) rfl (L' := [some (zr 1), some (zr x1), some (zi x2), some (zi x3), some (zr r2), some (zi (s2 r2 3)), some (zi (0 : Int32))]) rfl ?_
      exact j8_isSeenByTwoSpins_42l C hq2 _ _ _ _ _ _ _ _ hf
theorem j8_isSeenByTwoSpins_2l {x : ZX} {g : ZG} (C : zC x g b8_isSeenByTwoSpins R8 (some .boolean) 7 6 181) {k : Nat} {r : Int32} {σr : ZS}  : ∀ (n : Nat) (x1 : Nat) (x2 : Int32) (x3 : Int32) (σ : ZS), f8_isSeenByTwoSpins_2 k  n x1 x2 x3 σ = some (r, σr) → zw x g 7 0 0 (zMQ x g (some (zi r)) σr) σ 2 [some (zr 1), some (zr x1), some (zi x2), some (zi x3), none, none, none] [] := by
  intro n
  induction n with
  | zero => intro x1 x2 x3 σ hf; exact absurd (show none = some (r, σr) from hf) (fun z => by cases z)
  | succ n ih => intro x1 x2 x3 σ hf; exact j8_isSeenByTwoSpins_2 C  ih (show b8_isSeenByTwoSpins_2 k  (f8_isSeenByTwoSpins_2 k  n) x1 x2 x3 σ = some (r, σr) from hf)
def f8_isSeenByTwoSpins (k : Nat) (x1 : Nat) (x2 : Int32) (σ : ZS) : Option (Int32 × ZS) :=
  f8_isSeenByTwoSpins_2 k  k x1 x2 (0 : Int32) σ
theorem c8_isSeenByTwoSpins (l : Launch) (g : ZG) {k : Nat} {x1 : Nat} {x2 : Int32} {σ : ZS} {r : Int32} {σr : ZS} (hf : f8_isSeenByTwoSpins k x1 x2 σ = some (r, σr)) : zT l g y8_isSeenByTwoSpins b8_isSeenByTwoSpins 7 (some .boolean) 6 181 [zr 1, zr x1, zi x2] σ (some (zi r)) σr := by
  unfold f8_isSeenByTwoSpins at hf
  refine zT_start (own := R8) rfl (by decide +kernel) 4 (L := [some (zr 1), some (zr x1), some (zi x2), none, none, none, none]) rfl rfl (fun x hl C => ?_)
  subst hl
  refine z_iconst C (0 : Int32) d8_isSeenByTwoSpins_0 kI_0 ?_
  refine z_istore_n C d8_isSeenByTwoSpins_1 (Nat.le_of_ble_eq_true rfl) rfl (L' := [some (zr 1), some (zr x1), some (zi x2), some (zi (0 : Int32)), none, none, none]) rfl ?_
  exact j8_isSeenByTwoSpins_2l C  _ _ _ _ _ hf
theorem d8_fewestSpins_0 : zd b8_fewestSpins 0 (.aload_n 0) 1 1 := ⟨by decide +kernel, rfl⟩
theorem d8_fewestSpins_1 : zd b8_fewestSpins 1 (.getfield 25) 3 4 := ⟨by decide +kernel, rfl⟩
theorem d8_fewestSpins_4 : zd b8_fewestSpins 4 (.aload_n 0) 1 5 := ⟨by decide +kernel, rfl⟩
theorem d8_fewestSpins_5 : zd b8_fewestSpins 5 (.getfield 19) 3 8 := ⟨by decide +kernel, rfl⟩
theorem d8_fewestSpins_8 : zd b8_fewestSpins 8 (.aload_n 1) 1 9 := ⟨by decide +kernel, rfl⟩
theorem d8_fewestSpins_9 : zd b8_fewestSpins 9 (.getfield 132) 3 12 := ⟨by decide +kernel, rfl⟩
theorem d8_fewestSpins_12 : zd b8_fewestSpins 12 (.aload_n 1) 1 13 := ⟨by decide +kernel, rfl⟩
theorem d8_fewestSpins_13 : zd b8_fewestSpins 13 (.getfield 135) 3 16 := ⟨by decide +kernel, rfl⟩
theorem d8_fewestSpins_16 : zd b8_fewestSpins 16 (.invokevirtual 200) 3 19 := ⟨by decide +kernel, rfl⟩
theorem d8_fewestSpins_19 : zd b8_fewestSpins 19 (.aload_n 0) 1 20 := ⟨by decide +kernel, rfl⟩
theorem d8_fewestSpins_20 : zd b8_fewestSpins 20 (.getfield 25) 3 23 := ⟨by decide +kernel, rfl⟩
theorem d8_fewestSpins_23 : zd b8_fewestSpins 23 (.iload_n 2) 1 24 := ⟨by decide +kernel, rfl⟩
theorem d8_fewestSpins_24 : zd b8_fewestSpins 24 (.invokevirtual 220) 3 27 := ⟨by decide +kernel, rfl⟩
theorem d8_fewestSpins_27 : zdb b8_fewestSpins 27 (.ifCond .eq 5) 5 30 32 := ⟨by decide +kernel, rfl, by decide⟩
theorem d8_fewestSpins_30 : zd b8_fewestSpins 30 (.iconst 0) 1 31 := ⟨by decide +kernel, rfl⟩
theorem d8_fewestSpins_31 : zd b8_fewestSpins 31 .ireturn 1 32 := ⟨by decide +kernel, rfl⟩
theorem d8_fewestSpins_32 : zd b8_fewestSpins 32 (.aload_n 0) 1 33 := ⟨by decide +kernel, rfl⟩
theorem d8_fewestSpins_33 : zd b8_fewestSpins 33 (.aload_n 1) 1 34 := ⟨by decide +kernel, rfl⟩
theorem d8_fewestSpins_34 : zd b8_fewestSpins 34 (.iload_n 2) 1 35 := ⟨by decide +kernel, rfl⟩
theorem d8_fewestSpins_35 : zd b8_fewestSpins 35 (.iconst 0) 1 36 := ⟨by decide +kernel, rfl⟩
theorem d8_fewestSpins_36 : zd b8_fewestSpins 36 (.iconst 0) 1 37 := ⟨by decide +kernel, rfl⟩
theorem d8_fewestSpins_37 : zd b8_fewestSpins 37 (.invokevirtual 296) 3 40 := ⟨by decide +kernel, rfl⟩
theorem d8_fewestSpins_40 : zdb b8_fewestSpins 40 (.ifCond .eq 5) 5 43 45 := ⟨by decide +kernel, rfl, by decide⟩
theorem d8_fewestSpins_43 : zd b8_fewestSpins 43 (.iconst 1) 1 44 := ⟨by decide +kernel, rfl⟩
theorem d8_fewestSpins_44 : zd b8_fewestSpins 44 .ireturn 1 45 := ⟨by decide +kernel, rfl⟩
theorem d8_fewestSpins_45 : zd b8_fewestSpins 45 (.aload_n 0) 1 46 := ⟨by decide +kernel, rfl⟩
theorem d8_fewestSpins_46 : zd b8_fewestSpins 46 (.aload_n 1) 1 47 := ⟨by decide +kernel, rfl⟩
theorem d8_fewestSpins_47 : zd b8_fewestSpins 47 (.iload_n 2) 1 48 := ⟨by decide +kernel, rfl⟩
theorem d8_fewestSpins_48 : zd b8_fewestSpins 48 (.invokevirtual 300) 3 51 := ⟨by decide +kernel, rfl⟩
theorem d8_fewestSpins_51 : zdb b8_fewestSpins 51 (.ifCond .eq 7) 7 54 58 := ⟨by decide +kernel, rfl, by decide⟩
theorem d8_fewestSpins_54 : zd b8_fewestSpins 54 (.iconst 2) 1 55 := ⟨by decide +kernel, rfl⟩
theorem d8_fewestSpins_55 : zdb b8_fewestSpins 55 (.goto 4) 4 58 59 := ⟨by decide +kernel, rfl, by decide⟩
theorem d8_fewestSpins_58 : zd b8_fewestSpins 58 (.iconst (-1)) 1 59 := ⟨by decide +kernel, rfl⟩
theorem d8_fewestSpins_59 : zd b8_fewestSpins 59 .ireturn 1 60 := ⟨by decide +kernel, rfl⟩
def f8_fewestSpins (k : Nat) (x1 : Nat) (x2 : Int32) (σ : ZS) : Option (Int32 × ZS) :=
  if zsh x1 = 3 then (
  zbd (f1_follow k 56 (σ x1 0) (σ x1 1) σ) fun _ s2 =>
  zbd (f1_seesCell k x2 s2) fun r3 s3 =>
  if r3 = 0 then (
  zbd (f8_isSeenByOneSpin k x1 x2 (0 : Int32) (0 : Int32) s3) fun r5 s5 =>
  if r5 = 0 then (
  zbd (f8_isSeenByTwoSpins k x1 x2 s5) fun r7 s7 =>
  if r7 = 0 then (
  some ((-1 : Int32), s7))
  else (
  some ((2 : Int32), s7)))
  else (
  some ((1 : Int32), s5)))
  else (
  some ((0 : Int32), s3))) else none
theorem c8_fewestSpins (l : Launch) (g : ZG) {k : Nat} {x1 : Nat} {x2 : Int32} {σ : ZS} {r : Int32} {σr : ZS} (hf : f8_fewestSpins k x1 x2 σ = some (r, σr)) : zT l g y8_fewestSpins b8_fewestSpins 3 (some .int) 7 207 [zr 1, zr x1, zi x2] σ (some (zi r)) σr := by
  unfold f8_fewestSpins at hf
  refine zT_start (own := R8) rfl (by decide +kernel) 0 (L := [some (zr 1), some (zr x1), some (zi x2)]) rfl rfl (fun x hl C => ?_)
  subst hl
  refine z_aload_n C d8_fewestSpins_0 rfl ?_
  refine z_getR C d8_fewestSpins_1 fl_264 kZ_1 83 rfl (zn0 kZ_83) ?_
  refine z_aload_n C d8_fewestSpins_4 rfl ?_
  refine z_getR C d8_fewestSpins_5 fl_263 kZ_1 56 rfl (zn0 kZ_56) ?_
  refine z_aload_n C d8_fewestSpins_8 rfl ?_
  obtain ⟨g1, hf⟩ := zgo hf
  refine z_getI C d8_fewestSpins_9 fl_82 g1 ?_
  refine z_aload_n C d8_fewestSpins_12 rfl ?_
  refine z_getI C d8_fewestSpins_13 fl_85 g1 ?_
  obtain ⟨r2, s2, h2, hf⟩ := zbx hf
  refine z_callVv C (as := [zr 56, zi (σ x1 0), zi (σ x1 1)]) d8_fewestSpins_16 w_615 yy1_follow (c1_follow x.2.1 g h2) yc1_follow kZ_83 rfl rfl (Nat.le_of_ble_eq_true rfl) ⟨Nat.le_of_ble_eq_true rfl, Nat.le_of_ble_eq_true rfl⟩ ⟨Nat.zero_le _, Nat.zero_le _⟩ ?_
  refine z_aload_n C d8_fewestSpins_19 rfl ?_
  refine z_getR C d8_fewestSpins_20 fl_264 kZ_1 83 rfl (zn0 kZ_83) ?_
  refine z_iload_n C d8_fewestSpins_23 rfl ?_
  obtain ⟨r3, s3, h3, hf⟩ := zbx hf
  refine z_callVi C (as := [zi x2]) d8_fewestSpins_24 w_629 yy1_seesCell (c1_seesCell x.2.1 g h3) yc1_seesCell kZ_83 rfl rfl (Nat.le_of_ble_eq_true rfl) ⟨Nat.le_of_ble_eq_true rfl, Nat.le_of_ble_eq_true rfl⟩ ⟨Nat.zero_le _, Nat.zero_le _⟩ ?_
  refine z_if_eq C d8_fewestSpins_27 (fun c4 => ?_) (fun c4 => ?_)
  · have hf := zit c4 hf
    refine z_aload_n C d8_fewestSpins_32 rfl ?_
    refine z_aload_n C d8_fewestSpins_33 rfl ?_
    refine z_iload_n C d8_fewestSpins_34 rfl ?_
    refine z_iconst C (0 : Int32) d8_fewestSpins_35 kI_0 ?_
    refine z_iconst C (0 : Int32) d8_fewestSpins_36 kI_0 ?_
    obtain ⟨r5, s5, h5, hf⟩ := zbx hf
    refine z_callVi C (as := [zr x1, zi x2, zi (0 : Int32), zi (0 : Int32)]) d8_fewestSpins_37 w_667 yy8_isSeenByOneSpin (c8_isSeenByOneSpin x.2.1 g h5) yc8_isSeenByOneSpin kZ_1 rfl rfl (Nat.le_of_ble_eq_true rfl) ⟨Nat.le_of_ble_eq_true rfl, Nat.le_of_ble_eq_true rfl⟩ ⟨Nat.zero_le _, Nat.zero_le _⟩ ?_
    refine z_if_eq C d8_fewestSpins_40 (fun c6 => ?_) (fun c6 => ?_)
    · have hf := zit c6 hf
      refine z_aload_n C d8_fewestSpins_45 rfl ?_
      refine z_aload_n C d8_fewestSpins_46 rfl ?_
      refine z_iload_n C d8_fewestSpins_47 rfl ?_
      obtain ⟨r7, s7, h7, hf⟩ := zbx hf
      refine z_callVi C (as := [zr x1, zi x2]) d8_fewestSpins_48 w_675 yy8_isSeenByTwoSpins (c8_isSeenByTwoSpins x.2.1 g h7) yc8_isSeenByTwoSpins kZ_1 rfl rfl (Nat.le_of_ble_eq_true rfl) ⟨Nat.le_of_ble_eq_true rfl, Nat.le_of_ble_eq_true rfl⟩ ⟨Nat.zero_le _, Nat.zero_le _⟩ ?_
      refine z_if_eq C d8_fewestSpins_51 (fun c8 => ?_) (fun c8 => ?_)
      · have hf := zit c8 hf
        refine z_iconst C (-1 : Int32) d8_fewestSpins_58 kI_m1 ?_
        exact z_iret C d8_fewestSpins_59 hf
      · have hf := zie c8 hf
        refine z_iconst C (2 : Int32) d8_fewestSpins_54 kI_2 ?_
        refine z_goto C d8_fewestSpins_55 ?_
        exact z_iret C d8_fewestSpins_59 hf
    · have hf := zie c6 hf
      refine z_iconst C (1 : Int32) d8_fewestSpins_43 kI_1 ?_
      exact z_iret C d8_fewestSpins_44 hf
  · have hf := zie c4 hf
    refine z_iconst C (0 : Int32) d8_fewestSpins_30 kI_0 ?_
    exact z_iret C d8_fewestSpins_31 hf
theorem d4_numberAt_0 : zd b4_numberAt 0 (.iload_n 1) 1 1 := ⟨by decide +kernel, rfl⟩
theorem d4_numberAt_1 : zdb b4_numberAt 1 (.ifCond .lt 12) 12 4 13 := ⟨by decide +kernel, rfl, by decide⟩
theorem d4_numberAt_4 : zd b4_numberAt 4 (.iload_n 1) 1 5 := ⟨by decide +kernel, rfl⟩
theorem d4_numberAt_5 : zd b4_numberAt 5 (.aload_n 0) 1 6 := ⟨by decide +kernel, rfl⟩
theorem d4_numberAt_6 : zd b4_numberAt 6 (.getfield 9) 3 9 := ⟨by decide +kernel, rfl⟩
theorem d4_numberAt_9 : zd b4_numberAt 9 .arraylength 1 10 := ⟨by decide +kernel, rfl⟩
theorem d4_numberAt_10 : zdb b4_numberAt 10 (.if_icmp .lt 7) 7 13 17 := ⟨by decide +kernel, rfl, by decide⟩
theorem d4_numberAt_13 : zd b4_numberAt 13 (.iconst 0) 1 14 := ⟨by decide +kernel, rfl⟩
theorem d4_numberAt_14 : zdb b4_numberAt 14 (.goto 9) 9 17 23 := ⟨by decide +kernel, rfl, by decide⟩
theorem d4_numberAt_17 : zd b4_numberAt 17 (.aload_n 0) 1 18 := ⟨by decide +kernel, rfl⟩
theorem d4_numberAt_18 : zd b4_numberAt 18 (.getfield 9) 3 21 := ⟨by decide +kernel, rfl⟩
theorem d4_numberAt_21 : zd b4_numberAt 21 (.iload_n 1) 1 22 := ⟨by decide +kernel, rfl⟩
theorem d4_numberAt_22 : zd b4_numberAt 22 .iaload 1 23 := ⟨by decide +kernel, rfl⟩
theorem d4_numberAt_23 : zd b4_numberAt 23 .ireturn 1 24 := ⟨by decide +kernel, rfl⟩
def f4_numberAt (k : Nat) (t : Nat) (x1 : Int32) (σ : ZS) : Option (Int32 × ZS) :=
  if zsh t = 5 then (
  if x1 < 0 then (
  some ((0 : Int32), σ))
  else (
  if x1 < (24 : Int32) then (
  if zin x1 24 then (
  some ((σ (t + 1) x1.toNatClampNeg), σ)) else none)
  else (
  some ((0 : Int32), σ)))) else none
theorem c4_numberAt (l : Launch) (g : ZG) {k : Nat} {t : Nat} {x1 : Int32} {σ : ZS} {r : Int32} {σr : ZS} (hf : f4_numberAt k t x1 σ = some (r, σr)) : zT l g y4_numberAt b4_numberAt 2 (some .int) 1 60 [zr t, zi x1] σ (some (zi r)) σr := by
  unfold f4_numberAt at hf
  obtain ⟨ht, hf⟩ := zgo hf
  refine zT_start (own := R4) rfl (by decide +kernel) 0 (L := [some (zr t), some (zi x1)]) rfl rfl (fun x hl C => ?_)
  subst hl
  refine z_iload_n C d4_numberAt_0 rfl ?_
  refine z_if_lt C d4_numberAt_1 (fun c1 => ?_) (fun c1 => ?_)
  · have hf := zit c1 hf
    refine z_iconst C (0 : Int32) d4_numberAt_13 kI_0 ?_
    refine z_goto C d4_numberAt_14 ?_
    exact z_iret C d4_numberAt_23 hf
  · have hf := zie c1 hf
    refine z_iload_n C d4_numberAt_4 rfl ?_
    refine z_aload_n C d4_numberAt_5 rfl ?_
    refine z_getR C d4_numberAt_6 fl_248 ht (t + 1) rfl (zn0 (zD5_1 ht)) ?_
    refine z_alen C (24 : Int32) d4_numberAt_9 (zD5_1 ht) (zN5_1 ht) kO_24 ?_
    refine z_icmp_lt C d4_numberAt_10 (fun c2 => ?_) (fun c2 => ?_)
    · have hf := zit c2 hf
      refine z_aload_n C d4_numberAt_17 rfl ?_
      refine z_getR C d4_numberAt_18 fl_248 ht (t + 1) rfl (zn0 (zD5_1 ht)) ?_
      refine z_iload_n C d4_numberAt_21 rfl ?_
      obtain ⟨g3, hf⟩ := zgo hf
      refine z_iald C d4_numberAt_22 (zD5_1 ht) (zN5_1 ht) g3 (x1.toNatClampNeg) rfl ?_
      exact z_iret C d4_numberAt_23 hf
    · have hf := zie c2 hf
      refine z_iconst C (0 : Int32) d4_numberAt_13 kI_0 ?_
      refine z_goto C d4_numberAt_14 ?_
      exact z_iret C d4_numberAt_23 hf
theorem d8_isLook_0 : zd b8_isLook 0 (.aload_n 1) 1 1 := ⟨by decide +kernel, rfl⟩
theorem d8_isLook_1 : zd b8_isLook 1 (.getfield 260) 3 4 := ⟨by decide +kernel, rfl⟩
theorem d8_isLook_4 : zd b8_isLook 4 (.aload_n 0) 1 5 := ⟨by decide +kernel, rfl⟩
theorem d8_isLook_5 : zd b8_isLook 5 (.getfield 25) 3 8 := ⟨by decide +kernel, rfl⟩
theorem d8_isLook_8 : zd b8_isLook 8 (.getfield 211) 3 11 := ⟨by decide +kernel, rfl⟩
theorem d8_isLook_11 : zdb b8_isLook 11 (.if_icmp .le 5) 5 14 16 := ⟨by decide +kernel, rfl, by decide⟩
theorem d8_isLook_14 : zd b8_isLook 14 (.iconst 0) 1 15 := ⟨by decide +kernel, rfl⟩
theorem d8_isLook_15 : zd b8_isLook 15 .ireturn 1 16 := ⟨by decide +kernel, rfl⟩
theorem d8_isLook_16 : zd b8_isLook 16 (.iconst 0) 1 17 := ⟨by decide +kernel, rfl⟩
theorem d8_isLook_17 : zd b8_isLook 17 (.istore_n 2) 1 18 := ⟨by decide +kernel, rfl⟩
theorem d8_isLook_18 : zd b8_isLook 18 (.iload_n 2) 1 19 := ⟨by decide +kernel, rfl⟩
theorem d8_isLook_19 : zd b8_isLook 19 (.aload_n 1) 1 20 := ⟨by decide +kernel, rfl⟩
theorem d8_isLook_20 : zd b8_isLook 20 (.getfield 260) 3 23 := ⟨by decide +kernel, rfl⟩
theorem d8_isLook_23 : zdb b8_isLook 23 (.if_icmp .ge 27) 27 26 50 := ⟨by decide +kernel, rfl, by decide⟩
theorem d8_isLook_26 : zd b8_isLook 26 (.aload_n 1) 1 27 := ⟨by decide +kernel, rfl⟩
theorem d8_isLook_27 : zd b8_isLook 27 (.iload_n 2) 1 28 := ⟨by decide +kernel, rfl⟩
theorem d8_isLook_28 : zd b8_isLook 28 (.invokevirtual 277) 3 31 := ⟨by decide +kernel, rfl⟩
theorem d8_isLook_31 : zd b8_isLook 31 (.aload_n 0) 1 32 := ⟨by decide +kernel, rfl⟩
theorem d8_isLook_32 : zd b8_isLook 32 (.getfield 25) 3 35 := ⟨by decide +kernel, rfl⟩
theorem d8_isLook_35 : zd b8_isLook 35 (.iload_n 2) 1 36 := ⟨by decide +kernel, rfl⟩
theorem d8_isLook_36 : zd b8_isLook 36 (.invokevirtual 214) 3 39 := ⟨by decide +kernel, rfl⟩
theorem d8_isLook_39 : zdb b8_isLook 39 (.if_icmp .eq 5) 5 42 44 := ⟨by decide +kernel, rfl, by decide⟩
theorem d8_isLook_42 : zd b8_isLook 42 (.iconst 0) 1 43 := ⟨by decide +kernel, rfl⟩
theorem d8_isLook_43 : zd b8_isLook 43 .ireturn 1 44 := ⟨by decide +kernel, rfl⟩
theorem d8_isLook_44 : zd b8_isLook 44 (.iinc 2 1) 3 47 := ⟨by decide +kernel, rfl⟩
theorem d8_isLook_47 : zdb b8_isLook 47 (.goto (-29)) (-29) 50 18 := ⟨by decide +kernel, rfl, by decide⟩
theorem d8_isLook_50 : zd b8_isLook 50 (.iconst 1) 1 51 := ⟨by decide +kernel, rfl⟩
theorem d8_isLook_51 : zd b8_isLook 51 .ireturn 1 52 := ⟨by decide +kernel, rfl⟩
def b8_isLook_18 (k : Nat) (q18 : Nat → Int32 → ZS → Option (Int32 × ZS)) (x1 : Nat) (x2 : Int32) (σ : ZS) : Option (Int32 × ZS) :=
  if zsh x1 = 5 then (
  if (σ x1 2) ≤ x2 then (
  some ((1 : Int32), σ))
  else (
  zbd (f4_numberAt k x1 x2 σ) fun r3 s3 =>
  zbd (f1_cellAt k x2 s3) fun r4 s4 =>
  if r3 = r4 then (
  q18 x1 (x2 + (1 : Int32)) s4)
  else (
  some ((0 : Int32), s4)))) else none
def f8_isLook_18 (k : Nat) : Nat → Nat → Int32 → ZS → Option (Int32 × ZS)
  | 0 => fun _ _ _ => none
  | n + 1 => b8_isLook_18 k  (f8_isLook_18 k  n)
theorem j8_isLook_18 {x : ZX} {g : ZG} (C : zC x g b8_isLook R8 (some .boolean) 3 2 81) {k : Nat} {r : Int32} {σr : ZS}  {q18 : Nat → Int32 → ZS → Option (Int32 × ZS)} (hq18 : (∀ (x1 : Nat) (x2 : Int32) (σ : ZS), q18 x1 x2 σ = some (r, σr) → zw x g 3 0 0 (zMQ x g (some (zi r)) σr) σ 18 [some (zr 1), some (zr x1), some (zi x2)] [])) {x1 : Nat} {x2 : Int32} {σ : ZS} (hf : b8_isLook_18 k q18 x1 x2 σ = some (r, σr)) : zw x g 3 0 0 (zMQ x g (some (zi r)) σr) σ 18 [some (zr 1), some (zr x1), some (zi x2)] [] := by
  unfold b8_isLook_18 at hf
  refine z_iload_n C d8_isLook_18 rfl ?_
  refine z_aload_n C d8_isLook_19 rfl ?_
  obtain ⟨g1, hf⟩ := zgo hf
  refine z_getI C d8_isLook_20 fl_253 g1 ?_
  refine z_icmp_ge C d8_isLook_23 (fun c2 => ?_) (fun c2 => ?_)
  · have hf := zit c2 hf
    refine z_iconst C (1 : Int32) d8_isLook_50 kI_1 ?_
    exact z_zret C d8_isLook_51 (Or.inr rfl) hf
  · have hf := zie c2 hf
    refine z_aload_n C d8_isLook_26 rfl ?_
    refine z_iload_n C d8_isLook_27 rfl ?_
    obtain ⟨r3, s3, h3, hf⟩ := zbx hf
    refine z_callVi C (as := [zi x2]) d8_isLook_28 w_695 yy4_numberAt (c4_numberAt x.2.1 g h3) yc4_numberAt g1 rfl rfl (Nat.le_of_ble_eq_true rfl) ⟨Nat.le_of_ble_eq_true rfl, Nat.le_of_ble_eq_true rfl⟩ ⟨Nat.zero_le _, Nat.zero_le _⟩ ?_
    refine z_aload_n C d8_isLook_31 rfl ?_
    refine z_getR C d8_isLook_32 fl_264 kZ_1 83 rfl (zn0 kZ_83) ?_
    refine z_iload_n C d8_isLook_35 rfl ?_
    obtain ⟨r4, s4, h4, hf⟩ := zbx hf
    refine z_callVi C (as := [zi x2]) d8_isLook_36 w_617 yy1_cellAt (c1_cellAt x.2.1 g h4) yc1_cellAt kZ_83 rfl rfl (Nat.le_of_ble_eq_true rfl) ⟨Nat.le_of_ble_eq_true rfl, Nat.le_of_ble_eq_true rfl⟩ ⟨Nat.zero_le _, Nat.zero_le _⟩ ?_
    refine z_icmp_eq C d8_isLook_39 (fun c5 => ?_) (fun c5 => ?_)
    · have hf := zit c5 hf
      refine z_iinc C d8_isLook_44 rfl kI_1 (Nat.le_of_ble_eq_true rfl) rfl (L' := [some (zr 1), some (zr x1), some (zi (x2 + (1 : Int32)))]) rfl ?_
      refine z_goto C d8_isLook_47 ?_
      exact hq18 _ _ _ hf
    · have hf := zie c5 hf
      refine z_iconst C (0 : Int32) d8_isLook_42 kI_0 ?_
      exact z_zret C d8_isLook_43 (Or.inl rfl) hf
theorem j8_isLook_18l {x : ZX} {g : ZG} (C : zC x g b8_isLook R8 (some .boolean) 3 2 81) {k : Nat} {r : Int32} {σr : ZS}  : ∀ (n : Nat) (x1 : Nat) (x2 : Int32) (σ : ZS), f8_isLook_18 k  n x1 x2 σ = some (r, σr) → zw x g 3 0 0 (zMQ x g (some (zi r)) σr) σ 18 [some (zr 1), some (zr x1), some (zi x2)] [] := by
  intro n
  induction n with
  | zero => intro x1 x2 σ hf; exact absurd (show none = some (r, σr) from hf) (fun z => by cases z)
  | succ n ih => intro x1 x2 σ hf; exact j8_isLook_18 C  ih (show b8_isLook_18 k  (f8_isLook_18 k  n) x1 x2 σ = some (r, σr) from hf)
def f8_isLook (k : Nat) (x1 : Nat) (σ : ZS) : Option (Int32 × ZS) :=
  if zsh x1 = 5 then (
  if (σ x1 2) ≤ (σ 83 2) then (
  f8_isLook_18 k  k x1 (0 : Int32) σ)
  else (
  some ((0 : Int32), σ))) else none
theorem c8_isLook (l : Launch) (g : ZG) {k : Nat} {x1 : Nat} {σ : ZS} {r : Int32} {σr : ZS} (hf : f8_isLook k x1 σ = some (r, σr)) : zT l g y8_isLook b8_isLook 3 (some .boolean) 2 81 [zr 1, zr x1] σ (some (zi r)) σr := by
  unfold f8_isLook at hf
  refine zT_start (own := R8) rfl (by decide +kernel) 1 (L := [some (zr 1), some (zr x1), none]) rfl rfl (fun x hl C => ?_)
  subst hl
  refine z_aload_n C d8_isLook_0 rfl ?_
  obtain ⟨g1, hf⟩ := zgo hf
  refine z_getI C d8_isLook_1 fl_253 g1 ?_
  refine z_aload_n C d8_isLook_4 rfl ?_
  refine z_getR C d8_isLook_5 fl_264 kZ_1 83 rfl (zn0 kZ_83) ?_
  refine z_getI C d8_isLook_8 fl_171 kZ_83 ?_
  refine z_icmp_le C d8_isLook_11 (fun c2 => ?_) (fun c2 => ?_)
  · have hf := zit c2 hf
    refine z_iconst C (0 : Int32) d8_isLook_16 kI_0 ?_
    refine z_istore_n C d8_isLook_17 (Nat.le_of_ble_eq_true rfl) rfl (L' := [some (zr 1), some (zr x1), some (zi (0 : Int32))]) rfl ?_
    exact j8_isLook_18l C  _ _ _ _ hf
  · have hf := zie c2 hf
    refine z_iconst C (0 : Int32) d8_isLook_14 kI_0 ?_
    exact z_zret C d8_isLook_15 (Or.inl rfl) hf
theorem d8_manyOrLeast_0 : zd b8_manyOrLeast 0 (.iload_n 1) 1 1 := ⟨by decide +kernel, rfl⟩
theorem d8_manyOrLeast_1 : zdb b8_manyOrLeast 1 (.ifCond .ne 5) 5 4 6 := ⟨by decide +kernel, rfl, by decide⟩
theorem d8_manyOrLeast_4 : zd b8_manyOrLeast 4 (.iload_n 2) 1 5 := ⟨by decide +kernel, rfl⟩
theorem d8_manyOrLeast_5 : zd b8_manyOrLeast 5 .ireturn 1 6 := ⟨by decide +kernel, rfl⟩
theorem d8_manyOrLeast_6 : zd b8_manyOrLeast 6 (.iload_n 3) 1 7 := ⟨by decide +kernel, rfl⟩
theorem d8_manyOrLeast_7 : zdb b8_manyOrLeast 7 (.ifCond .ge 11) 11 10 18 := ⟨by decide +kernel, rfl, by decide⟩
theorem d8_manyOrLeast_10 : zd b8_manyOrLeast 10 (.aload_n 0) 1 11 := ⟨by decide +kernel, rfl⟩
theorem d8_manyOrLeast_11 : zd b8_manyOrLeast 11 (.iconst 2) 1 12 := ⟨by decide +kernel, rfl⟩
theorem d8_manyOrLeast_12 : zd b8_manyOrLeast 12 (.invokevirtual 67) 3 15 := ⟨by decide +kernel, rfl⟩
theorem d8_manyOrLeast_15 : zdb b8_manyOrLeast 15 (.goto 4) 4 18 19 := ⟨by decide +kernel, rfl, by decide⟩
theorem d8_manyOrLeast_18 : zd b8_manyOrLeast 18 (.iload_n 3) 1 19 := ⟨by decide +kernel, rfl⟩
theorem d8_manyOrLeast_19 : zd b8_manyOrLeast 19 .ireturn 1 20 := ⟨by decide +kernel, rfl⟩
def f8_manyOrLeast (k : Nat) (x1 : Int32) (x2 : Int32) (x3 : Int32) (σ : ZS) : Option (Int32 × ZS) :=
  if x1 = 0 then (
  some (x2, σ))
  else (
  if 0 ≤ x3 then (
  some (x3, σ))
  else (
  zbd (f8_error k (2 : Int32) σ) fun r3 s3 =>
  some (r3, s3)))
theorem c8_manyOrLeast (l : Launch) (g : ZG) {k : Nat} {x1 : Int32} {x2 : Int32} {x3 : Int32} {σ : ZS} {r : Int32} {σr : ZS} (hf : f8_manyOrLeast k x1 x2 x3 σ = some (r, σr)) : zT l g y8_manyOrLeast b8_manyOrLeast 4 (some .int) 2 81 [zr 1, zi x1, zi x2, zi x3] σ (some (zi r)) σr := by
  unfold f8_manyOrLeast at hf
  refine zT_start (own := R8) rfl (by decide +kernel) 0 (L := [some (zr 1), some (zi x1), some (zi x2), some (zi x3)]) rfl rfl (fun x hl C => ?_)
  subst hl
  refine z_iload_n C d8_manyOrLeast_0 rfl ?_
  refine z_if_ne C d8_manyOrLeast_1 (fun c1 => ?_) (fun c1 => ?_)
  · have hf := zit c1 hf
    refine z_iload_n C d8_manyOrLeast_4 rfl ?_
    exact z_iret C d8_manyOrLeast_5 hf
  · have hf := zie c1 hf
    refine z_iload_n C d8_manyOrLeast_6 rfl ?_
    refine z_if_ge C d8_manyOrLeast_7 (fun c2 => ?_) (fun c2 => ?_)
    · have hf := zit c2 hf
      refine z_iload_n C d8_manyOrLeast_18 rfl ?_
      exact z_iret C d8_manyOrLeast_19 hf
    · have hf := zie c2 hf
      refine z_aload_n C d8_manyOrLeast_10 rfl ?_
      refine z_iconst C (2 : Int32) d8_manyOrLeast_11 kI_2 ?_
      obtain ⟨r3, s3, h3, hf⟩ := zbx hf
      refine z_callVi C (as := [zi (2 : Int32)]) d8_manyOrLeast_12 w_308 yy8_error (c8_error x.2.1 g h3) yc8_error kZ_1 rfl rfl (Nat.le_of_ble_eq_true rfl) ⟨Nat.le_of_ble_eq_true rfl, Nat.le_of_ble_eq_true rfl⟩ ⟨Nat.zero_le _, Nat.zero_le _⟩ ?_
      refine z_goto C d8_manyOrLeast_15 ?_
      exact z_iret C d8_manyOrLeast_19 hf
theorem d8_sheetOf_0 : zd b8_sheetOf 0 (.iload_n 1) 1 1 := ⟨by decide +kernel, rfl⟩
theorem d8_sheetOf_1 : zdb b8_sheetOf 1 (.ifCond .lt 8) 8 4 9 := ⟨by decide +kernel, rfl, by decide⟩
theorem d8_sheetOf_4 : zd b8_sheetOf 4 (.iload_n 1) 1 5 := ⟨by decide +kernel, rfl⟩
theorem d8_sheetOf_5 : zd b8_sheetOf 5 (.iconst 4) 1 6 := ⟨by decide +kernel, rfl⟩
theorem d8_sheetOf_6 : zdb b8_sheetOf 6 (.if_icmp .lt 7) 7 9 13 := ⟨by decide +kernel, rfl, by decide⟩
theorem d8_sheetOf_9 : zd b8_sheetOf 9 .aconst_null 1 10 := ⟨by decide +kernel, rfl⟩
theorem d8_sheetOf_10 : zdb b8_sheetOf 10 (.goto 9) 9 13 19 := ⟨by decide +kernel, rfl, by decide⟩
theorem d8_sheetOf_13 : zd b8_sheetOf 13 (.aload_n 0) 1 14 := ⟨by decide +kernel, rfl⟩
theorem d8_sheetOf_14 : zd b8_sheetOf 14 (.getfield 45) 3 17 := ⟨by decide +kernel, rfl⟩
theorem d8_sheetOf_17 : zd b8_sheetOf 17 (.iload_n 1) 1 18 := ⟨by decide +kernel, rfl⟩
theorem d8_sheetOf_18 : zd b8_sheetOf 18 .aaload 1 19 := ⟨by decide +kernel, rfl⟩
theorem d8_sheetOf_19 : zd b8_sheetOf 19 .areturn 1 20 := ⟨by decide +kernel, rfl⟩
def f8_sheetOf (k : Nat) (x1 : Int32) (σ : ZS) : Option (Nat × ZS) :=
  if x1 < 0 then (
  some (0, σ))
  else (
  if x1 < (4 : Int32) then (
  if zin x1 4 then (
  some ((95 + 2 * x1.toNatClampNeg), σ)) else none)
  else (
  some (0, σ)))
theorem c8_sheetOf (l : Launch) (g : ZG) {k : Nat} {x1 : Int32} {σ : ZS} {r : Nat} {σr : ZS} (hf : f8_sheetOf k x1 σ = some (r, σr)) : zT l g y8_sheetOf b8_sheetOf 2 (some (.object "GlassTax$Sheet")) 1 60 [zr 1, zi x1] σ (some (zr r)) σr := by
  unfold f8_sheetOf at hf
  refine zT_start (own := R8) rfl (by decide +kernel) 0 (L := [some (zr 1), some (zi x1)]) rfl rfl (fun x hl C => ?_)
  subst hl
  refine z_iload_n C d8_sheetOf_0 rfl ?_
  refine z_if_lt C d8_sheetOf_1 (fun c1 => ?_) (fun c1 => ?_)
  · have hf := zit c1 hf
    refine z_null C d8_sheetOf_9 ?_
    refine z_goto C d8_sheetOf_10 ?_
    exact z_aret C d8_sheetOf_19 hf
  · have hf := zie c1 hf
    refine z_iload_n C d8_sheetOf_4 rfl ?_
    refine z_iconst C (4 : Int32) d8_sheetOf_5 kI_4 ?_
    refine z_icmp_lt C d8_sheetOf_6 (fun c2 => ?_) (fun c2 => ?_)
    · have hf := zit c2 hf
      refine z_aload_n C d8_sheetOf_13 rfl ?_
      refine z_getR C d8_sheetOf_14 fl_267 kZ_1 92 rfl (zn0 kZ_92) ?_
      refine z_iload_n C d8_sheetOf_17 rfl ?_
      obtain ⟨g3, hf⟩ := zgo hf
      refine z_aald C d8_sheetOf_18 kZ_92 (by decide) (by decide) g3 (95 + 2 * x1.toNatClampNeg) (by show 92 + 3 + 2 * x1.toNatClampNeg = (95 + 2 * x1.toNatClampNeg); omega) (zn0 (zE14 g3)) ?_
      exact z_aret C d8_sheetOf_19 hf
    · have hf := zie c2 hf
      refine z_null C d8_sheetOf_9 ?_
      refine z_goto C d8_sheetOf_10 ?_
      exact z_aret C d8_sheetOf_19 hf
theorem d8_fits_0 : zd b8_fits 0 (.aload_n 0) 1 1 := ⟨by decide +kernel, rfl⟩
theorem d8_fits_1 : zd b8_fits 1 (.iload_n 1) 1 2 := ⟨by decide +kernel, rfl⟩
theorem d8_fits_2 : zd b8_fits 2 (.invokevirtual 233) 3 5 := ⟨by decide +kernel, rfl⟩
theorem d8_fits_5 : zd b8_fits 5 (.astore_n 3) 1 6 := ⟨by decide +kernel, rfl⟩
theorem d8_fits_6 : zd b8_fits 6 (.aload_n 3) 1 7 := ⟨by decide +kernel, rfl⟩
theorem d8_fits_7 : zdb b8_fits 7 (.ifnull 12) 12 10 19 := ⟨by decide +kernel, rfl, by decide⟩
theorem d8_fits_10 : zd b8_fits 10 (.iload_n 2) 1 11 := ⟨by decide +kernel, rfl⟩
theorem d8_fits_11 : zdb b8_fits 11 (.ifCond .lt 8) 8 14 19 := ⟨by decide +kernel, rfl, by decide⟩
theorem d8_fits_14 : zd b8_fits 14 (.iload_n 2) 1 15 := ⟨by decide +kernel, rfl⟩
theorem d8_fits_15 : zd b8_fits 15 (.iconst 1) 1 16 := ⟨by decide +kernel, rfl⟩
theorem d8_fits_16 : zdb b8_fits 16 (.if_icmp .le 9) 9 19 25 := ⟨by decide +kernel, rfl, by decide⟩
theorem d8_fits_19 : zd b8_fits 19 (.aload_n 0) 1 20 := ⟨by decide +kernel, rfl⟩
theorem d8_fits_20 : zd b8_fits 20 (.iconst 1) 1 21 := ⟨by decide +kernel, rfl⟩
theorem d8_fits_21 : zd b8_fits 21 (.invokevirtual 67) 3 24 := ⟨by decide +kernel, rfl⟩
theorem d8_fits_24 : zd b8_fits 24 .ireturn 1 25 := ⟨by decide +kernel, rfl⟩
theorem d8_fits_25 : zd b8_fits 25 (.aload_n 3) 1 26 := ⟨by decide +kernel, rfl⟩
theorem d8_fits_26 : zd b8_fits 26 (.getfield 237) 3 29 := ⟨by decide +kernel, rfl⟩
theorem d8_fits_29 : zdb b8_fits 29 (.ifCond .ne 9) 9 32 38 := ⟨by decide +kernel, rfl, by decide⟩
theorem d8_fits_32 : zd b8_fits 32 (.aload_n 0) 1 33 := ⟨by decide +kernel, rfl⟩
theorem d8_fits_33 : zd b8_fits 33 (.iconst 2) 1 34 := ⟨by decide +kernel, rfl⟩
theorem d8_fits_34 : zd b8_fits 34 (.invokevirtual 67) 3 37 := ⟨by decide +kernel, rfl⟩
theorem d8_fits_37 : zd b8_fits 37 .ireturn 1 38 := ⟨by decide +kernel, rfl⟩
theorem d8_fits_38 : zd b8_fits 38 (.iconst 0) 1 39 := ⟨by decide +kernel, rfl⟩
theorem d8_fits_39 : zd b8_fits 39 (.istore 4) 2 41 := ⟨by decide +kernel, rfl⟩
theorem d8_fits_41 : zd b8_fits 41 (.iconst (-1)) 1 42 := ⟨by decide +kernel, rfl⟩
theorem d8_fits_42 : zd b8_fits 42 (.istore 5) 2 44 := ⟨by decide +kernel, rfl⟩
theorem d8_fits_44 : zd b8_fits 44 (.iconst 0) 1 45 := ⟨by decide +kernel, rfl⟩
theorem d8_fits_45 : zd b8_fits 45 (.istore 6) 2 47 := ⟨by decide +kernel, rfl⟩
theorem d8_fits_47 : zd b8_fits 47 (.iload 6) 2 49 := ⟨by decide +kernel, rfl⟩
theorem d8_fits_49 : zd b8_fits 49 (.sipush 256) 3 52 := ⟨by decide +kernel, rfl⟩
theorem d8_fits_52 : zdb b8_fits 52 (.if_icmp .ge 53) 53 55 105 := ⟨by decide +kernel, rfl, by decide⟩
theorem d8_fits_55 : zd b8_fits 55 (.aload_n 0) 1 56 := ⟨by decide +kernel, rfl⟩
theorem d8_fits_56 : zd b8_fits 56 (.getfield 25) 3 59 := ⟨by decide +kernel, rfl⟩
theorem d8_fits_59 : zd b8_fits 59 (.aload_n 0) 1 60 := ⟨by decide +kernel, rfl⟩
theorem d8_fits_60 : zd b8_fits 60 (.getfield 10) 3 63 := ⟨by decide +kernel, rfl⟩
theorem d8_fits_63 : zd b8_fits 63 (.iload 6) 2 65 := ⟨by decide +kernel, rfl⟩
theorem d8_fits_65 : zd b8_fits 65 (.iconst 4) 1 66 := ⟨by decide +kernel, rfl⟩
theorem d8_fits_66 : zd b8_fits 66 .idiv 1 67 := ⟨by decide +kernel, rfl⟩
theorem d8_fits_67 : zd b8_fits 67 (.iload 6) 2 69 := ⟨by decide +kernel, rfl⟩
theorem d8_fits_69 : zd b8_fits 69 (.iconst 4) 1 70 := ⟨by decide +kernel, rfl⟩
theorem d8_fits_70 : zd b8_fits 70 .irem 1 71 := ⟨by decide +kernel, rfl⟩
theorem d8_fits_71 : zd b8_fits 71 (.invokevirtual 200) 3 74 := ⟨by decide +kernel, rfl⟩
theorem d8_fits_74 : zd b8_fits 74 (.aload_n 0) 1 75 := ⟨by decide +kernel, rfl⟩
theorem d8_fits_75 : zd b8_fits 75 (.aload_n 3) 1 76 := ⟨by decide +kernel, rfl⟩
theorem d8_fits_76 : zd b8_fits 76 (.invokevirtual 240) 3 79 := ⟨by decide +kernel, rfl⟩
theorem d8_fits_79 : zdb b8_fits 79 (.ifCond .eq 20) 20 82 99 := ⟨by decide +kernel, rfl, by decide⟩
theorem d8_fits_82 : zd b8_fits 82 (.iinc 4 1) 3 85 := ⟨by decide +kernel, rfl⟩
theorem d8_fits_85 : zd b8_fits 85 (.iload 5) 2 87 := ⟨by decide +kernel, rfl⟩
theorem d8_fits_87 : zdb b8_fits 87 (.ifCond .ge 8) 8 90 95 := ⟨by decide +kernel, rfl, by decide⟩
theorem d8_fits_90 : zd b8_fits 90 (.iload 6) 2 92 := ⟨by decide +kernel, rfl⟩
theorem d8_fits_92 : zdb b8_fits 92 (.goto 5) 5 95 97 := ⟨by decide +kernel, rfl, by decide⟩
theorem d8_fits_95 : zd b8_fits 95 (.iload 5) 2 97 := ⟨by decide +kernel, rfl⟩
theorem d8_fits_97 : zd b8_fits 97 (.istore 5) 2 99 := ⟨by decide +kernel, rfl⟩
theorem d8_fits_99 : zd b8_fits 99 (.iinc 6 1) 3 102 := ⟨by decide +kernel, rfl⟩
theorem d8_fits_102 : zdb b8_fits 102 (.goto (-55)) (-55) 105 47 := ⟨by decide +kernel, rfl, by decide⟩
theorem d8_fits_105 : zd b8_fits 105 (.aload_n 0) 1 106 := ⟨by decide +kernel, rfl⟩
theorem d8_fits_106 : zd b8_fits 106 (.iload_n 2) 1 107 := ⟨by decide +kernel, rfl⟩
theorem d8_fits_107 : zd b8_fits 107 (.iload 4) 2 109 := ⟨by decide +kernel, rfl⟩
theorem d8_fits_109 : zd b8_fits 109 (.iload 5) 2 111 := ⟨by decide +kernel, rfl⟩
theorem d8_fits_111 : zd b8_fits 111 (.invokevirtual 226) 3 114 := ⟨by decide +kernel, rfl⟩
theorem d8_fits_114 : zd b8_fits 114 .ireturn 1 115 := ⟨by decide +kernel, rfl⟩
def b8_fits_47 (k : Nat) (q47 : Int32 → Nat → Int32 → Int32 → Int32 → ZS → Option (Int32 × ZS)) (x2 : Int32) (x3 : Nat) (x4 : Int32) (x5 : Int32) (x6 : Int32) (σ : ZS) : Option (Int32 × ZS) :=
  if (256 : Int32) ≤ x6 then (
  zbd (f8_manyOrLeast k x2 x4 x5 σ) fun r2 s2 =>
  some (r2, s2))
  else (
  zbd (f1_follow k 2 (x6 / (4 : Int32)) (x6 % (4 : Int32)) σ) fun _ s3 =>
  zbd (f8_isLook k x3 s3) fun r4 s4 =>
  if r4 = 0 then (
  q47 x2 x3 x4 x5 (x6 + (1 : Int32)) s4)
  else (
  if 0 ≤ x5 then (
  q47 x2 x3 (x4 + (1 : Int32)) x5 (x6 + (1 : Int32)) s4)
  else (
  q47 x2 x3 (x4 + (1 : Int32)) x6 (x6 + (1 : Int32)) s4)))
def f8_fits_47 (k : Nat) : Nat → Int32 → Nat → Int32 → Int32 → Int32 → ZS → Option (Int32 × ZS)
  | 0 => fun _ _ _ _ _ _ => none
  | n + 1 => b8_fits_47 k  (f8_fits_47 k  n)
theorem j8_fits_47 {x : ZX} {g : ZG} (C : zC x g b8_fits R8 (some .int) 7 5 153) {k : Nat} {r : Int32} {σr : ZS}  {q47 : Int32 → Nat → Int32 → Int32 → Int32 → ZS → Option (Int32 × ZS)} (hq47 : (∀ (x2 : Int32) (x3 : Nat) (x4 : Int32) (x5 : Int32) (x6 : Int32) (σ : ZS), q47 x2 x3 x4 x5 x6 σ = some (r, σr) → zw x g 7 0 0 (zMQ x g (some (zi r)) σr) σ 47 [some (zr 1), none, some (zi x2), some (zr x3), some (zi x4), some (zi x5), some (zi x6)] [])) {x2 : Int32} {x3 : Nat} {x4 : Int32} {x5 : Int32} {x6 : Int32} {σ : ZS} (hf : b8_fits_47 k q47 x2 x3 x4 x5 x6 σ = some (r, σr)) : zw x g 7 0 0 (zMQ x g (some (zi r)) σr) σ 47 [some (zr 1), none, some (zi x2), some (zr x3), some (zi x4), some (zi x5), some (zi x6)] [] := by
  unfold b8_fits_47 at hf
  refine z_iload C d8_fits_47 rfl ?_
  refine z_sipush C (256 : Int32) d8_fits_49 kS_256 ?_
  refine z_icmp_ge C d8_fits_52 (fun c1 => ?_) (fun c1 => ?_)
  · have hf := zit c1 hf
    refine z_aload_n C d8_fits_105 rfl ?_
    refine z_iload_n C d8_fits_106 rfl ?_
    refine z_iload C d8_fits_107 rfl ?_
    refine z_iload C d8_fits_109 rfl ?_
    obtain ⟨r2, s2, h2, hf⟩ := zbx hf
    refine z_callVi C (as := [zi x2, zi x4, zi x5]) d8_fits_111 w_655 yy8_manyOrLeast (c8_manyOrLeast x.2.1 g h2) yc8_manyOrLeast kZ_1 rfl rfl (Nat.le_of_ble_eq_true rfl) ⟨Nat.le_of_ble_eq_true rfl, Nat.le_of_ble_eq_true rfl⟩ ⟨Nat.zero_le _, Nat.zero_le _⟩ ?_
    exact z_iret C d8_fits_114 hf
  · have hf := zie c1 hf
    refine z_aload_n C d8_fits_55 rfl ?_
    refine z_getR C d8_fits_56 fl_264 kZ_1 83 rfl (zn0 kZ_83) ?_
    refine z_aload_n C d8_fits_59 rfl ?_
    refine z_getR C d8_fits_60 fl_261 kZ_1 2 rfl (zn0 kZ_2) ?_
    refine z_iload C d8_fits_63 rfl ?_
    refine z_iconst C (4 : Int32) d8_fits_65 kI_4 ?_
    refine z_idiv C d8_fits_66 (by decide) ?_
    refine z_iload C d8_fits_67 rfl ?_
    refine z_iconst C (4 : Int32) d8_fits_69 kI_4 ?_
    refine z_irem C d8_fits_70 (by decide) ?_
    obtain ⟨r3, s3, h3, hf⟩ := zbx hf
    refine z_callVv C (as := [zr 2, zi (x6 / (4 : Int32)), zi (x6 % (4 : Int32))]) d8_fits_71 w_615 yy1_follow (c1_follow x.2.1 g h3) yc1_follow kZ_83 rfl rfl (Nat.le_of_ble_eq_true rfl) ⟨Nat.le_of_ble_eq_true rfl, Nat.le_of_ble_eq_true rfl⟩ ⟨Nat.zero_le _, Nat.zero_le _⟩ ?_
    refine z_aload_n C d8_fits_74 rfl ?_
    refine z_aload_n C d8_fits_75 rfl ?_
    obtain ⟨r4, s4, h4, hf⟩ := zbx hf
    refine z_callVi C (as := [zr x3]) d8_fits_76 w_691 yy8_isLook (c8_isLook x.2.1 g h4) yc8_isLook kZ_1 rfl rfl (Nat.le_of_ble_eq_true rfl) ⟨Nat.le_of_ble_eq_true rfl, Nat.le_of_ble_eq_true rfl⟩ ⟨Nat.zero_le _, Nat.zero_le _⟩ ?_
    refine z_if_eq C d8_fits_79 (fun c5 => ?_) (fun c5 => ?_)
    · have hf := zit c5 hf
      refine z_iinc C d8_fits_99 rfl kI_1 (Nat.le_of_ble_eq_true rfl) rfl (L' := [some (zr 1), none, some (zi x2), some (zr x3), some (zi x4), some (zi x5), some (zi (x6 + (1 : Int32)))]) rfl ?_
      refine z_goto C d8_fits_102 ?_
      exact hq47 _ _ _ _ _ _ hf
    · have hf := zie c5 hf
      refine z_iinc C d8_fits_82 rfl kI_1 (Nat.le_of_ble_eq_true rfl) rfl (L' := [some (zr 1), none, some (zi x2), some (zr x3), some (zi (x4 + (1 : Int32))), some (zi x5), some (zi x6)]) rfl ?_
      refine z_iload C d8_fits_85 rfl ?_
      refine z_if_ge C d8_fits_87 (fun c6 => ?_) (fun c6 => ?_)
      · have hf := zit c6 hf
        refine z_iload C d8_fits_95 rfl ?_
        refine z_istore C d8_fits_97 (Nat.le_of_ble_eq_true rfl) rfl (L' := [some (zr 1), none, some (zi x2), some (zr x3), some (zi (x4 + (1 : Int32))), some (zi x5), some (zi x6)]) rfl ?_
        refine z_iinc C d8_fits_99 rfl kI_1 (Nat.le_of_ble_eq_true rfl) rfl (L' := [some (zr 1), none, some (zi x2), some (zr x3), some (zi (x4 + (1 : Int32))), some (zi x5), some (zi (x6 + (1 : Int32)))]) rfl ?_
        refine z_goto C d8_fits_102 ?_
        exact hq47 _ _ _ _ _ _ hf
      · have hf := zie c6 hf
        refine z_iload C d8_fits_90 rfl ?_
        refine z_goto C d8_fits_92 ?_
        refine z_istore C d8_fits_97 (Nat.le_of_ble_eq_true rfl) rfl (L' := [some (zr 1), none, some (zi x2), some (zr x3), some (zi (x4 + (1 : Int32))), some (zi x6), some (zi x6)]) rfl ?_
        refine z_iinc C d8_fits_99 rfl kI_1 (Nat.le_of_ble_eq_true rfl) rfl (L' := [some (zr 1), none, some (zi x2), some (zr x3), some (zi (x4 + (1 : Int32))), some (zi x6), some (zi (x6 + (1 : Int32)))]) rfl ?_
        refine z_goto C d8_fits_102 ?_
        exact hq47 _ _ _ _ _ _ hf
theorem j8_fits_47l {x : ZX} {g : ZG} (C : zC x g b8_fits R8 (some .int) 7 5 153) {k : Nat} {r : Int32} {σr : ZS}  : ∀ (n : Nat) (x2 : Int32) (x3 : Nat) (x4 : Int32) (x5 : Int32) (x6 : Int32) (σ : ZS), f8_fits_47 k  n x2 x3 x4 x5 x6 σ = some (r, σr) → zw x g 7 0 0 (zMQ x g (some (zi r)) σr) σ 47 [some (zr 1), none, some (zi x2), some (zr x3), some (zi x4), some (zi x5), some (zi x6)] [] := by
  intro n
  induction n with
  | zero => intro x2 x3 x4 x5 x6 σ hf; exact absurd (show none = some (r, σr) from hf) (fun z => by cases z)
  | succ n ih => intro x2 x3 x4 x5 x6 σ hf; exact j8_fits_47 C  ih (show b8_fits_47 k  (f8_fits_47 k  n) x2 x3 x4 x5 x6 σ = some (r, σr) from hf)
def f8_fits (k : Nat) (x1 : Int32) (x2 : Int32) (σ : ZS) : Option (Int32 × ZS) :=
  zbd (f8_sheetOf k x1 σ) fun r1 s1 =>
  if r1 = 0 then (
  zbd (f8_error k (1 : Int32) s1) fun r3 s3 =>
  some (r3, s3))
  else (
  if x2 < 0 then (
  zbd (f8_error k (1 : Int32) s1) fun r5 s5 =>
  some (r5, s5))
  else (
  if x2 ≤ (1 : Int32) then (
  if zsh r1 = 5 then (
  if (s1 r1 1) = 0 then (
  zbd (f8_error k (2 : Int32) s1) fun r9 s9 =>
  some (r9, s9))
  else (
  f8_fits_47 k  k x2 r1 (0 : Int32) (-1 : Int32) (0 : Int32) s1)) else none)
  else (
  zbd (f8_error k (1 : Int32) s1) fun r10 s10 =>
  some (r10, s10))))
theorem c8_fits (l : Launch) (g : ZG) {k : Nat} {x1 : Int32} {x2 : Int32} {σ : ZS} {r : Int32} {σr : ZS} (hf : f8_fits k x1 x2 σ = some (r, σr)) : zT l g y8_fits b8_fits 7 (some .int) 5 153 [zr 1, zi x1, zi x2] σ (some (zi r)) σr := by
  unfold f8_fits at hf
  refine zT_start (own := R8) rfl (by decide +kernel) 4 (L := [some (zr 1), some (zi x1), some (zi x2), none, none, none, none]) rfl rfl (fun x hl C => ?_)
  subst hl
  refine z_aload_n C d8_fits_0 rfl ?_
  refine z_iload_n C d8_fits_1 rfl ?_
  obtain ⟨r1, s1, h1, hf⟩ := zbx hf
  refine z_callVr C (as := [zi x1]) d8_fits_2 w_687 yy8_sheetOf (c8_sheetOf x.2.1 g h1) yc8_sheetOf kZ_1 rfl rfl (Nat.le_of_ble_eq_true rfl) ⟨Nat.le_of_ble_eq_true rfl, Nat.le_of_ble_eq_true rfl⟩ ⟨Nat.zero_le _, Nat.zero_le _⟩ ?_
  refine z_astore_n C d8_fits_5 (Nat.le_of_ble_eq_true rfl) rfl (L' := [some (zr 1), some (zi x1), some (zi x2), some (zr r1), none, none, none]) rfl ?_
  refine z_aload_n C d8_fits_6 rfl ?_
  refine z_ifnull C d8_fits_7 (fun c2 => ?_) (fun c2 => ?_)
  · have hf := zit c2 hf
    refine z_aload_n C d8_fits_19 rfl ?_
    refine z_iconst C (1 : Int32) d8_fits_20 kI_1 ?_
    obtain ⟨r3, s3, h3, hf⟩ := zbx hf
    refine z_callVi C (as := [zi (1 : Int32)]) d8_fits_21 w_308 yy8_error (c8_error x.2.1 g h3) yc8_error kZ_1 rfl rfl (Nat.le_of_ble_eq_true rfl) ⟨Nat.le_of_ble_eq_true rfl, Nat.le_of_ble_eq_true rfl⟩ ⟨Nat.zero_le _, Nat.zero_le _⟩ ?_
    exact z_iret C d8_fits_24 hf
  · have hf := zie c2 hf
    refine z_iload_n C d8_fits_10 rfl ?_
    refine z_if_lt C d8_fits_11 (fun c4 => ?_) (fun c4 => ?_)
    · have hf := zit c4 hf
      refine z_aload_n C d8_fits_19 rfl ?_
      refine z_iconst C (1 : Int32) d8_fits_20 kI_1 ?_
      obtain ⟨r5, s5, h5, hf⟩ := zbx hf
      refine z_callVi C (as := [zi (1 : Int32)]) d8_fits_21 w_308 yy8_error (c8_error x.2.1 g h5) yc8_error kZ_1 rfl rfl (Nat.le_of_ble_eq_true rfl) ⟨Nat.le_of_ble_eq_true rfl, Nat.le_of_ble_eq_true rfl⟩ ⟨Nat.zero_le _, Nat.zero_le _⟩ ?_
      exact z_iret C d8_fits_24 hf
    · have hf := zie c4 hf
      refine z_iload_n C d8_fits_14 rfl ?_
      refine z_iconst C (1 : Int32) d8_fits_15 kI_1 ?_
      refine z_icmp_le C d8_fits_16 (fun c6 => ?_) (fun c6 => ?_)
      · have hf := zit c6 hf
        refine z_aload_n C d8_fits_25 rfl ?_
        obtain ⟨g7, hf⟩ := zgo hf
        refine z_getI C d8_fits_26 fl_251 g7 ?_
        refine z_if_ne C d8_fits_29 (fun c8 => ?_) (fun c8 => ?_)
        · have hf := zit c8 hf
          refine z_aload_n C d8_fits_32 rfl ?_
          refine z_iconst C (2 : Int32) d8_fits_33 kI_2 ?_
          obtain ⟨r9, s9, h9, hf⟩ := zbx hf
          refine z_callVi C (as := [zi (2 : Int32)]) d8_fits_34 w_308 yy8_error (c8_error x.2.1 g h9) yc8_error kZ_1 rfl rfl (Nat.le_of_ble_eq_true rfl) ⟨Nat.le_of_ble_eq_true rfl, Nat.le_of_ble_eq_true rfl⟩ ⟨Nat.zero_le _, Nat.zero_le _⟩ ?_
          exact z_iret C d8_fits_37 hf
        · have hf := zie c8 hf
          refine z_iconst C (0 : Int32) d8_fits_38 kI_0 ?_
          refine z_istore C d8_fits_39 (Nat.le_of_ble_eq_true rfl) rfl (L' := [some (zr 1), some (zi x1), some (zi x2), some (zr r1), some (zi (0 : Int32)), none, none]) rfl ?_
          refine z_iconst C (-1 : Int32) d8_fits_41 kI_m1 ?_
          refine z_istore C d8_fits_42 (Nat.le_of_ble_eq_true rfl) rfl (L' := [some (zr 1), some (zi x1), some (zi x2), some (zr r1), some (zi (0 : Int32)), some (zi (-1 : Int32)), none]) rfl ?_
          refine z_iconst C (0 : Int32) d8_fits_44 kI_0 ?_
          refine z_istore C d8_fits_45 (Nat.le_of_ble_eq_true rfl) rfl (L' := [some (zr 1), some (zi x1), some (zi x2), some (zr r1), some (zi (0 : Int32)), some (zi (-1 : Int32)), some (zi (0 : Int32))]) rfl ?_
          refine z_drop [true, false, true, true, true, true, true] (L' := [some (zr 1), none, some (zi x2), some (zr r1), some (zi (0 : Int32)), some (zi (-1 : Int32)), some (zi (0 : Int32))]) rfl ?_
          exact j8_fits_47l C  _ _ _ _ _ _ _ hf
      · have hf := zie c6 hf
        refine z_aload_n C d8_fits_19 rfl ?_
        refine z_iconst C (1 : Int32) d8_fits_20 kI_1 ?_
        obtain ⟨r10, s10, h10, hf⟩ := zbx hf
        refine z_callVi C (as := [zi (1 : Int32)]) d8_fits_21 w_308 yy8_error (c8_error x.2.1 g h10) yc8_error kZ_1 rfl rfl (Nat.le_of_ble_eq_true rfl) ⟨Nat.le_of_ble_eq_true rfl, Nat.le_of_ble_eq_true rfl⟩ ⟨Nat.zero_le _, Nat.zero_le _⟩ ?_
        exact z_iret C d8_fits_24 hf
theorem d8_isNoTurn_0 : zd b8_isNoTurn 0 (.iload_n 0) 1 1 := ⟨by decide +kernel, rfl⟩
theorem d8_isNoTurn_1 : zdb b8_isNoTurn 1 (.ifCond .lt 8) 8 4 9 := ⟨by decide +kernel, rfl, by decide⟩
theorem d8_isNoTurn_4 : zd b8_isNoTurn 4 (.iload_n 0) 1 5 := ⟨by decide +kernel, rfl⟩
theorem d8_isNoTurn_5 : zd b8_isNoTurn 5 (.iconst 4) 1 6 := ⟨by decide +kernel, rfl⟩
theorem d8_isNoTurn_6 : zdb b8_isNoTurn 6 (.if_icmp .lt 7) 7 9 13 := ⟨by decide +kernel, rfl, by decide⟩
theorem d8_isNoTurn_9 : zd b8_isNoTurn 9 (.iconst 1) 1 10 := ⟨by decide +kernel, rfl⟩
theorem d8_isNoTurn_10 : zdb b8_isNoTurn 10 (.goto 4) 4 13 14 := ⟨by decide +kernel, rfl, by decide⟩
theorem d8_isNoTurn_13 : zd b8_isNoTurn 13 (.iconst 0) 1 14 := ⟨by decide +kernel, rfl⟩
theorem d8_isNoTurn_14 : zd b8_isNoTurn 14 .ireturn 1 15 := ⟨by decide +kernel, rfl⟩
def f8_isNoTurn (k : Nat) (x0 : Int32) (σ : ZS) : Option (Int32 × ZS) :=
  if x0 < 0 then (
  some ((1 : Int32), σ))
  else (
  if x0 < (4 : Int32) then (
  some ((0 : Int32), σ))
  else (
  some ((1 : Int32), σ)))
theorem c8_isNoTurn (l : Launch) (g : ZG) {k : Nat} {x0 : Int32} {σ : ZS} {r : Int32} {σr : ZS} (hf : f8_isNoTurn k x0 σ = some (r, σr)) : zT l g y8_isNoTurn b8_isNoTurn 1 (some .boolean) 1 60 [zi x0] σ (some (zi r)) σr := by
  unfold f8_isNoTurn at hf
  refine zT_start (own := R8) rfl (by decide +kernel) 0 (L := [some (zi x0)]) rfl rfl (fun x hl C => ?_)
  subst hl
  refine z_iload_n C d8_isNoTurn_0 rfl ?_
  refine z_if_lt C d8_isNoTurn_1 (fun c1 => ?_) (fun c1 => ?_)
  · have hf := zit c1 hf
    refine z_iconst C (1 : Int32) d8_isNoTurn_9 kI_1 ?_
    refine z_goto C d8_isNoTurn_10 ?_
    exact z_zret C d8_isNoTurn_14 (Or.inr rfl) hf
  · have hf := zie c1 hf
    refine z_iload_n C d8_isNoTurn_4 rfl ?_
    refine z_iconst C (4 : Int32) d8_isNoTurn_5 kI_4 ?_
    refine z_icmp_lt C d8_isNoTurn_6 (fun c2 => ?_) (fun c2 => ?_)
    · have hf := zit c2 hf
      refine z_iconst C (0 : Int32) d8_isNoTurn_13 kI_0 ?_
      exact z_zret C d8_isNoTurn_14 (Or.inl rfl) hf
    · have hf := zie c2 hf
      refine z_iconst C (1 : Int32) d8_isNoTurn_9 kI_1 ?_
      refine z_goto C d8_isNoTurn_10 ?_
      exact z_zret C d8_isNoTurn_14 (Or.inr rfl) hf
theorem d5_hangGlass_0 : zd b5_hangGlass 0 (.aload_n 0) 1 1 := ⟨by decide +kernel, rfl⟩
theorem d5_hangGlass_1 : zd b5_hangGlass 1 (.iload_n 1) 1 2 := ⟨by decide +kernel, rfl⟩
theorem d5_hangGlass_2 : zd b5_hangGlass 2 (.invokevirtual 83) 3 5 := ⟨by decide +kernel, rfl⟩
theorem d5_hangGlass_5 : zd b5_hangGlass 5 (.astore_n 3) 1 6 := ⟨by decide +kernel, rfl⟩
theorem d5_hangGlass_6 : zd b5_hangGlass 6 (.aload_n 3) 1 7 := ⟨by decide +kernel, rfl⟩
theorem d5_hangGlass_7 : zdb b5_hangGlass 7 (.ifnull 20) 20 10 27 := ⟨by decide +kernel, rfl, by decide⟩
theorem d5_hangGlass_10 : zd b5_hangGlass 10 (.iload_n 2) 1 11 := ⟨by decide +kernel, rfl⟩
theorem d5_hangGlass_11 : zd b5_hangGlass 11 (.invokestatic 106) 3 14 := ⟨by decide +kernel, rfl⟩
theorem d5_hangGlass_14 : zdb b5_hangGlass 14 (.ifCond .ne 13) 13 17 27 := ⟨by decide +kernel, rfl, by decide⟩
theorem d5_hangGlass_17 : zd b5_hangGlass 17 (.aload_n 3) 1 18 := ⟨by decide +kernel, rfl⟩
theorem d5_hangGlass_18 : zd b5_hangGlass 18 (.getfield 99) 3 21 := ⟨by decide +kernel, rfl⟩
theorem d5_hangGlass_21 : zd b5_hangGlass 21 (.invokestatic 106) 3 24 := ⟨by decide +kernel, rfl⟩
theorem d5_hangGlass_24 : zdb b5_hangGlass 24 (.ifCond .eq 4) 4 27 28 := ⟨by decide +kernel, rfl, by decide⟩
theorem d5_hangGlass_27 : zd b5_hangGlass 27 .return_ 1 28 := ⟨by decide +kernel, rfl⟩
theorem d5_hangGlass_28 : zd b5_hangGlass 28 (.aload_n 0) 1 29 := ⟨by decide +kernel, rfl⟩
theorem d5_hangGlass_29 : zd b5_hangGlass 29 (.getfield 29) 3 32 := ⟨by decide +kernel, rfl⟩
theorem d5_hangGlass_32 : zd b5_hangGlass 32 (.aload_n 3) 1 33 := ⟨by decide +kernel, rfl⟩
theorem d5_hangGlass_33 : zd b5_hangGlass 33 (.getfield 99) 3 36 := ⟨by decide +kernel, rfl⟩
theorem d5_hangGlass_36 : zd b5_hangGlass 36 (.iconst (-1)) 1 37 := ⟨by decide +kernel, rfl⟩
theorem d5_hangGlass_37 : zd b5_hangGlass 37 .iastore 1 38 := ⟨by decide +kernel, rfl⟩
theorem d5_hangGlass_38 : zd b5_hangGlass 38 (.aload_n 0) 1 39 := ⟨by decide +kernel, rfl⟩
theorem d5_hangGlass_39 : zd b5_hangGlass 39 (.getfield 29) 3 42 := ⟨by decide +kernel, rfl⟩
theorem d5_hangGlass_42 : zd b5_hangGlass 42 (.iload_n 2) 1 43 := ⟨by decide +kernel, rfl⟩
theorem d5_hangGlass_43 : zd b5_hangGlass 43 (.iload_n 1) 1 44 := ⟨by decide +kernel, rfl⟩
theorem d5_hangGlass_44 : zd b5_hangGlass 44 .iastore 1 45 := ⟨by decide +kernel, rfl⟩
theorem d5_hangGlass_45 : zd b5_hangGlass 45 (.aload_n 3) 1 46 := ⟨by decide +kernel, rfl⟩
theorem d5_hangGlass_46 : zd b5_hangGlass 46 (.iload_n 2) 1 47 := ⟨by decide +kernel, rfl⟩
theorem d5_hangGlass_47 : zd b5_hangGlass 47 (.putfield 99) 3 50 := ⟨by decide +kernel, rfl⟩
theorem d5_hangGlass_50 : zd b5_hangGlass 50 .return_ 1 51 := ⟨by decide +kernel, rfl⟩
def f5_hangGlass (k : Nat) (t : Nat) (x1 : Int32) (x2 : Int32) (σ : ZS) : Option (Unit × ZS) :=
  if zsh t = 6 then (
  zbd (f5_glassOf k t x1 σ) fun r1 s1 =>
  if r1 = 0 then (
  some ((), s1))
  else (
  zbd (f8_isNoCell k x2 s1) fun r3 s3 =>
  if r3 = 0 then (
  if zsh r1 = 1 then (
  zbd (f8_isNoCell k (s3 r1 2) s3) fun r6 s6 =>
  if r6 = 0 then (
  if zin (s6 r1 2) 64 then (
  zput (zu s6 (t + 4) ((s6 r1 2).toNatClampNeg) (-1 : Int32)) fun s9 =>
  if zin x2 64 then (
  zput (zu s9 (t + 4) (x2.toNatClampNeg) x1) fun s11 =>
  zput (zu s11 r1 2 x2) fun s12 =>
  some ((), s12)) else none) else none)
  else (
  some ((), s6))) else none)
  else (
  some ((), s3)))) else none
theorem c5_hangGlass (l : Launch) (g : ZG) {k : Nat} {t : Nat} {x1 : Int32} {x2 : Int32} {σ : ZS} {r : Unit} {σr : ZS} (hf : f5_hangGlass k t x1 x2 σ = some (r, σr)) : zT l g y5_hangGlass b5_hangGlass 4 none 2 81 [zr t, zi x1, zi x2] σ none σr := by
  unfold f5_hangGlass at hf
  obtain ⟨ht, hf⟩ := zgo hf
  refine zT_start (own := R5) rfl (by decide +kernel) 1 (L := [some (zr t), some (zi x1), some (zi x2), none]) rfl rfl (fun x hl C => ?_)
  subst hl
  refine z_aload_n C d5_hangGlass_0 rfl ?_
  refine z_iload_n C d5_hangGlass_1 rfl ?_
  obtain ⟨r1, s1, h1, hf⟩ := zbx hf
  refine z_callVr C (as := [zi x1]) d5_hangGlass_2 w_321 yy5_glassOf (c5_glassOf x.2.1 g h1) yc5_glassOf ht rfl rfl (Nat.le_of_ble_eq_true rfl) ⟨Nat.le_of_ble_eq_true rfl, Nat.le_of_ble_eq_true rfl⟩ ⟨Nat.zero_le _, Nat.zero_le _⟩ ?_
  refine z_astore_n C d5_hangGlass_5 (Nat.le_of_ble_eq_true rfl) rfl (L' := [some (zr t), some (zi x1), some (zi x2), some (zr r1)]) rfl ?_
  refine z_aload_n C d5_hangGlass_6 rfl ?_
  refine z_ifnull C d5_hangGlass_7 (fun c2 => ?_) (fun c2 => ?_)
  · have hf := zit c2 hf
    exact z_vret C d5_hangGlass_27 hf
  · have hf := zie c2 hf
    refine z_iload_n C d5_hangGlass_10 rfl ?_
    obtain ⟨r3, s3, h3, hf⟩ := zbx hf
    refine z_callSNi C (as := [zi x2]) d5_hangGlass_11 w_329 yy8_isNoCell (c8_isNoCell x.2.1 g h3) rfl rfl (Nat.le_of_ble_eq_true rfl) ⟨Nat.le_of_ble_eq_true rfl, Nat.le_of_ble_eq_true rfl⟩ ⟨Nat.zero_le _, Nat.zero_le _⟩ ?_
    refine z_if_ne C d5_hangGlass_14 (fun c4 => ?_) (fun c4 => ?_)
    · have hf := zit c4 hf
      refine z_aload_n C d5_hangGlass_17 rfl ?_
      obtain ⟨g5, hf⟩ := zgo hf
      refine z_getI C d5_hangGlass_18 fl_56 g5 ?_
      obtain ⟨r6, s6, h6, hf⟩ := zbx hf
      refine z_callSNi C (as := [zi (s3 r1 2)]) d5_hangGlass_21 w_329 yy8_isNoCell (c8_isNoCell x.2.1 g h6) rfl rfl (Nat.le_of_ble_eq_true rfl) ⟨Nat.le_of_ble_eq_true rfl, Nat.le_of_ble_eq_true rfl⟩ ⟨Nat.zero_le _, Nat.zero_le _⟩ ?_
      refine z_if_eq C d5_hangGlass_24 (fun c7 => ?_) (fun c7 => ?_)
      · have hf := zit c7 hf
        refine z_aload_n C d5_hangGlass_28 rfl ?_
        refine z_getR C d5_hangGlass_29 fl_121 ht (t + 4) rfl (zn0 (zD6_4 ht)) ?_
        refine z_aload_n C d5_hangGlass_32 rfl ?_
        refine z_getI C d5_hangGlass_33 fl_56 g5 ?_
        refine z_iconst C (-1 : Int32) d5_hangGlass_36 kI_m1 ?_
        obtain ⟨g8, hf⟩ := zgo hf
        obtain ⟨s9, e9, hf⟩ := zpx hf
        refine z_iast C d5_hangGlass_37 (zD6_4 ht) (zN6_4 ht) g8 rfl e9 ?_
        refine z_aload_n C d5_hangGlass_38 rfl ?_
        refine z_getR C d5_hangGlass_39 fl_121 ht (t + 4) rfl (zn0 (zD6_4 ht)) ?_
        refine z_iload_n C d5_hangGlass_42 rfl ?_
        refine z_iload_n C d5_hangGlass_43 rfl ?_
        obtain ⟨g10, hf⟩ := zgo hf
        obtain ⟨s11, e11, hf⟩ := zpx hf
        refine z_iast C d5_hangGlass_44 (zD6_4 ht) (zN6_4 ht) g10 rfl e11 ?_
        refine z_aload_n C d5_hangGlass_45 rfl ?_
        refine z_iload_n C d5_hangGlass_46 rfl ?_
        obtain ⟨s12, e12, hf⟩ := zpx hf
        refine z_putI C d5_hangGlass_47 fl_56 ft_0_2 g5 e12 ?_
        exact z_vret C d5_hangGlass_50 hf
      · have hf := zie c7 hf
        exact z_vret C d5_hangGlass_27 hf
    · have hf := zie c4 hf
      exact z_vret C d5_hangGlass_27 hf
theorem d5_addGlass_0 : zd b5_addGlass 0 (.aload_n 0) 1 1 := ⟨by decide +kernel, rfl⟩
theorem d5_addGlass_1 : zd b5_addGlass 1 (.getfield 68) 3 4 := ⟨by decide +kernel, rfl⟩
theorem d5_addGlass_4 : zd b5_addGlass 4 (.istore 4) 2 6 := ⟨by decide +kernel, rfl⟩
theorem d5_addGlass_6 : zd b5_addGlass 6 (.aload_n 0) 1 7 := ⟨by decide +kernel, rfl⟩
theorem d5_addGlass_7 : zd b5_addGlass 7 .dup 1 8 := ⟨by decide +kernel, rfl⟩
theorem d5_addGlass_8 : zd b5_addGlass 8 (.getfield 68) 3 11 := ⟨by decide +kernel, rfl⟩
theorem d5_addGlass_11 : zd b5_addGlass 11 (.iconst 1) 1 12 := ⟨by decide +kernel, rfl⟩
theorem d5_addGlass_12 : zd b5_addGlass 12 .iadd 1 13 := ⟨by decide +kernel, rfl⟩
theorem d5_addGlass_13 : zd b5_addGlass 13 (.putfield 68) 3 16 := ⟨by decide +kernel, rfl⟩
theorem d5_addGlass_16 : zd b5_addGlass 16 (.aload_n 0) 1 17 := ⟨by decide +kernel, rfl⟩
theorem d5_addGlass_17 : zd b5_addGlass 17 (.iload 4) 2 19 := ⟨by decide +kernel, rfl⟩
theorem d5_addGlass_19 : zd b5_addGlass 19 (.invokevirtual 83) 3 22 := ⟨by decide +kernel, rfl⟩
theorem d5_addGlass_22 : zd b5_addGlass 22 (.astore 5) 2 24 := ⟨by decide +kernel, rfl⟩
theorem d5_addGlass_24 : zd b5_addGlass 24 (.aload 5) 2 26 := ⟨by decide +kernel, rfl⟩
theorem d5_addGlass_26 : zdb b5_addGlass 26 (.ifnonnull 5) 5 29 31 := ⟨by decide +kernel, rfl, by decide⟩
theorem d5_addGlass_29 : zd b5_addGlass 29 (.iconst (-1)) 1 30 := ⟨by decide +kernel, rfl⟩
theorem d5_addGlass_30 : zd b5_addGlass 30 .ireturn 1 31 := ⟨by decide +kernel, rfl⟩
theorem d5_addGlass_31 : zd b5_addGlass 31 (.aload 5) 2 33 := ⟨by decide +kernel, rfl⟩
theorem d5_addGlass_33 : zd b5_addGlass 33 (.iload_n 1) 1 34 := ⟨by decide +kernel, rfl⟩
theorem d5_addGlass_34 : zd b5_addGlass 34 (.bipush 10) 2 36 := ⟨by decide +kernel, rfl⟩
theorem d5_addGlass_36 : zd b5_addGlass 36 .idiv 1 37 := ⟨by decide +kernel, rfl⟩
theorem d5_addGlass_37 : zd b5_addGlass 37 (.putfield 87) 3 40 := ⟨by decide +kernel, rfl⟩
theorem d5_addGlass_40 : zd b5_addGlass 40 (.aload 5) 2 42 := ⟨by decide +kernel, rfl⟩
theorem d5_addGlass_42 : zd b5_addGlass 42 (.iload_n 1) 1 43 := ⟨by decide +kernel, rfl⟩
theorem d5_addGlass_43 : zd b5_addGlass 43 (.bipush 10) 2 45 := ⟨by decide +kernel, rfl⟩
theorem d5_addGlass_45 : zd b5_addGlass 45 .irem 1 46 := ⟨by decide +kernel, rfl⟩
theorem d5_addGlass_46 : zd b5_addGlass 46 (.putfield 90) 3 49 := ⟨by decide +kernel, rfl⟩
theorem d5_addGlass_49 : zd b5_addGlass 49 (.aload 5) 2 51 := ⟨by decide +kernel, rfl⟩
theorem d5_addGlass_51 : zd b5_addGlass 51 (.iload_n 3) 1 52 := ⟨by decide +kernel, rfl⟩
theorem d5_addGlass_52 : zd b5_addGlass 52 (.putfield 93) 3 55 := ⟨by decide +kernel, rfl⟩
theorem d5_addGlass_55 : zd b5_addGlass 55 (.aload 5) 2 57 := ⟨by decide +kernel, rfl⟩
theorem d5_addGlass_57 : zd b5_addGlass 57 (.iconst 0) 1 58 := ⟨by decide +kernel, rfl⟩
theorem d5_addGlass_58 : zd b5_addGlass 58 (.putfield 96) 3 61 := ⟨by decide +kernel, rfl⟩
theorem d5_addGlass_61 : zd b5_addGlass 61 (.aload 5) 2 63 := ⟨by decide +kernel, rfl⟩
theorem d5_addGlass_63 : zd b5_addGlass 63 (.iload_n 2) 1 64 := ⟨by decide +kernel, rfl⟩
theorem d5_addGlass_64 : zd b5_addGlass 64 (.putfield 99) 3 67 := ⟨by decide +kernel, rfl⟩
theorem d5_addGlass_67 : zd b5_addGlass 67 (.aload_n 0) 1 68 := ⟨by decide +kernel, rfl⟩
theorem d5_addGlass_68 : zd b5_addGlass 68 (.iload 4) 2 70 := ⟨by decide +kernel, rfl⟩
theorem d5_addGlass_70 : zd b5_addGlass 70 (.iload_n 2) 1 71 := ⟨by decide +kernel, rfl⟩
theorem d5_addGlass_71 : zd b5_addGlass 71 (.invokevirtual 102) 3 74 := ⟨by decide +kernel, rfl⟩
theorem d5_addGlass_74 : zd b5_addGlass 74 (.iload 4) 2 76 := ⟨by decide +kernel, rfl⟩
theorem d5_addGlass_76 : zd b5_addGlass 76 .ireturn 1 77 := ⟨by decide +kernel, rfl⟩
def f5_addGlass (k : Nat) (t : Nat) (x1 : Int32) (x2 : Int32) (x3 : Int32) (σ : ZS) : Option (Int32 × ZS) :=
  if zsh t = 6 then (
  zput (zu σ t 6 ((σ t 6) + (1 : Int32))) fun s1 =>
  zbd (f5_glassOf k t (σ t 6) s1) fun r2 s2 =>
  if r2 = 0 then (
  some ((-1 : Int32), s2))
  else (
  if zsh r2 = 1 then (
  zput (zu s2 r2 0 (x1 / (10 : Int32))) fun s5 =>
  zput (zu s5 r2 1 (x1 % (10 : Int32))) fun s6 =>
  zput (zu s6 r2 3 x3) fun s7 =>
  zput (zu s7 r2 4 (0 : Int32)) fun s8 =>
  zput (zu s8 r2 2 x2) fun s9 =>
  zbd (f5_hangGlass k t (σ t 6) x2 s9) fun _ s10 =>
  some ((σ t 6), s10)) else none)) else none
theorem c5_addGlass (l : Launch) (g : ZG) {k : Nat} {t : Nat} {x1 : Int32} {x2 : Int32} {x3 : Int32} {σ : ZS} {r : Int32} {σr : ZS} (hf : f5_addGlass k t x1 x2 x3 σ = some (r, σr)) : zT l g y5_addGlass b5_addGlass 6 (some .int) 3 104 [zr t, zi x1, zi x2, zi x3] σ (some (zi r)) σr := by
  unfold f5_addGlass at hf
  obtain ⟨ht, hf⟩ := zgo hf
  refine zT_start (own := R5) rfl (by decide +kernel) 2 (L := [some (zr t), some (zi x1), some (zi x2), some (zi x3), none, none]) rfl rfl (fun x hl C => ?_)
  subst hl
  refine z_aload_n C d5_addGlass_0 rfl ?_
  refine z_getI C d5_addGlass_1 fl_126 ht ?_
  refine z_istore C d5_addGlass_4 (Nat.le_of_ble_eq_true rfl) rfl (L' := [some (zr t), some (zi x1), some (zi x2), some (zi x3), some (zi (σ t 6)), none]) rfl ?_
  refine z_aload_n C d5_addGlass_6 rfl ?_
  refine z_dup C d5_addGlass_7 rfl ?_
  refine z_getI C d5_addGlass_8 fl_126 ht ?_
  refine z_iconst C (1 : Int32) d5_addGlass_11 kI_1 ?_
  refine z_iadd C d5_addGlass_12 ?_
  obtain ⟨s1, e1, hf⟩ := zpx hf
  refine z_putI C d5_addGlass_13 fl_126 ft_5_6 ht e1 ?_
  refine z_aload_n C d5_addGlass_16 rfl ?_
  refine z_iload C d5_addGlass_17 rfl ?_
  obtain ⟨r2, s2, h2, hf⟩ := zbx hf
  refine z_callVr C (as := [zi (σ t 6)]) d5_addGlass_19 w_321 yy5_glassOf (c5_glassOf x.2.1 g h2) yc5_glassOf ht rfl rfl (Nat.le_of_ble_eq_true rfl) ⟨Nat.le_of_ble_eq_true rfl, Nat.le_of_ble_eq_true rfl⟩ ⟨Nat.zero_le _, Nat.zero_le _⟩ ?_
  refine z_astore C d5_addGlass_22 (Nat.le_of_ble_eq_true rfl) rfl (L' := [some (zr t), some (zi x1), some (zi x2), some (zi x3), some (zi (σ t 6)), some (zr r2)]) rfl ?_
  refine z_aload C d5_addGlass_24 rfl ?_
  refine z_ifnonnull C d5_addGlass_26 (fun c3 => ?_) (fun c3 => ?_)
  · have hf := zit c3 hf
    refine z_iconst C (-1 : Int32) d5_addGlass_29 kI_m1 ?_
    exact z_iret C d5_addGlass_30 hf
  · have hf := zie c3 hf
    refine z_aload C d5_addGlass_31 rfl ?_
    refine z_iload_n C d5_addGlass_33 rfl ?_
    refine z_bipush C (10 : Int32) d5_addGlass_34 kB_10 ?_
    refine z_idiv C d5_addGlass_36 (by decide) ?_
    obtain ⟨g4, hf⟩ := zgo hf
    obtain ⟨s5, e5, hf⟩ := zpx hf
    refine z_putI C d5_addGlass_37 fl_49 ft_0_0 g4 e5 ?_
    refine z_aload C d5_addGlass_40 rfl ?_
    refine z_iload_n C d5_addGlass_42 rfl ?_
    refine z_bipush C (10 : Int32) d5_addGlass_43 kB_10 ?_
    refine z_irem C d5_addGlass_45 (by decide) ?_
    obtain ⟨s6, e6, hf⟩ := zpx hf
    refine z_putI C d5_addGlass_46 fl_53 ft_0_1 g4 e6 ?_
    refine z_aload C d5_addGlass_49 rfl ?_
    refine z_iload_n C d5_addGlass_51 rfl ?_
    obtain ⟨s7, e7, hf⟩ := zpx hf
    refine z_putI C d5_addGlass_52 fl_59 ft_0_3 g4 e7 ?_
    refine z_aload C d5_addGlass_55 rfl ?_
    refine z_iconst C (0 : Int32) d5_addGlass_57 kI_0 ?_
    obtain ⟨s8, e8, hf⟩ := zpx hf
    refine z_putI C d5_addGlass_58 fl_62 ft_0_4 g4 e8 ?_
    refine z_aload C d5_addGlass_61 rfl ?_
    refine z_iload_n C d5_addGlass_63 rfl ?_
    obtain ⟨s9, e9, hf⟩ := zpx hf
    refine z_putI C d5_addGlass_64 fl_56 ft_0_2 g4 e9 ?_
    refine z_aload_n C d5_addGlass_67 rfl ?_
    refine z_iload C d5_addGlass_68 rfl ?_
    refine z_iload_n C d5_addGlass_70 rfl ?_
    obtain ⟨r10, s10, h10, hf⟩ := zbx hf
    refine z_callVv C (as := [zi (σ t 6), zi x2]) d5_addGlass_71 w_325 yy5_hangGlass (c5_hangGlass x.2.1 g h10) yc5_hangGlass ht rfl rfl (Nat.le_of_ble_eq_true rfl) ⟨Nat.le_of_ble_eq_true rfl, Nat.le_of_ble_eq_true rfl⟩ ⟨Nat.zero_le _, Nat.zero_le _⟩ ?_
    refine z_iload C d5_addGlass_74 rfl ?_
    exact z_iret C d5_addGlass_76 hf
theorem d8_glass_0 : zd b8_glass 0 (.iload_n 1) 1 1 := ⟨by decide +kernel, rfl⟩
theorem d8_glass_1 : zd b8_glass 1 (.invokestatic 57) 3 4 := ⟨by decide +kernel, rfl⟩
theorem d8_glass_4 : zdb b8_glass 4 (.ifCond .ne 17) 17 7 21 := ⟨by decide +kernel, rfl, by decide⟩
theorem d8_glass_7 : zd b8_glass 7 (.iload_n 2) 1 8 := ⟨by decide +kernel, rfl⟩
theorem d8_glass_8 : zd b8_glass 8 (.invokestatic 61) 3 11 := ⟨by decide +kernel, rfl⟩
theorem d8_glass_11 : zdb b8_glass 11 (.ifCond .ne 10) 10 14 21 := ⟨by decide +kernel, rfl, by decide⟩
theorem d8_glass_14 : zd b8_glass 14 (.iload_n 3) 1 15 := ⟨by decide +kernel, rfl⟩
theorem d8_glass_15 : zd b8_glass 15 (.invokestatic 64) 3 18 := ⟨by decide +kernel, rfl⟩
theorem d8_glass_18 : zdb b8_glass 18 (.ifCond .eq 9) 9 21 27 := ⟨by decide +kernel, rfl, by decide⟩
theorem d8_glass_21 : zd b8_glass 21 (.aload_n 0) 1 22 := ⟨by decide +kernel, rfl⟩
theorem d8_glass_22 : zd b8_glass 22 (.iconst 1) 1 23 := ⟨by decide +kernel, rfl⟩
theorem d8_glass_23 : zd b8_glass 23 (.invokevirtual 67) 3 26 := ⟨by decide +kernel, rfl⟩
theorem d8_glass_26 : zd b8_glass 26 .ireturn 1 27 := ⟨by decide +kernel, rfl⟩
theorem d8_glass_27 : zd b8_glass 27 (.aload_n 0) 1 28 := ⟨by decide +kernel, rfl⟩
theorem d8_glass_28 : zd b8_glass 28 (.getfield 10) 3 31 := ⟨by decide +kernel, rfl⟩
theorem d8_glass_31 : zd b8_glass 31 (.getfield 71) 3 34 := ⟨by decide +kernel, rfl⟩
theorem d8_glass_34 : zd b8_glass 34 (.bipush 8) 2 36 := ⟨by decide +kernel, rfl⟩
theorem d8_glass_36 : zdb b8_glass 36 (.if_icmp .lt 9) 9 39 45 := ⟨by decide +kernel, rfl, by decide⟩
theorem d8_glass_39 : zd b8_glass 39 (.aload_n 0) 1 40 := ⟨by decide +kernel, rfl⟩
theorem d8_glass_40 : zd b8_glass 40 (.iconst 4) 1 41 := ⟨by decide +kernel, rfl⟩
theorem d8_glass_41 : zd b8_glass 41 (.invokevirtual 67) 3 44 := ⟨by decide +kernel, rfl⟩
theorem d8_glass_44 : zd b8_glass 44 .ireturn 1 45 := ⟨by decide +kernel, rfl⟩
theorem d8_glass_45 : zd b8_glass 45 (.aload_n 0) 1 46 := ⟨by decide +kernel, rfl⟩
theorem d8_glass_46 : zd b8_glass 46 (.getfield 10) 3 49 := ⟨by decide +kernel, rfl⟩
theorem d8_glass_49 : zd b8_glass 49 (.iload_n 2) 1 50 := ⟨by decide +kernel, rfl⟩
theorem d8_glass_50 : zd b8_glass 50 (.invokevirtual 75) 3 53 := ⟨by decide +kernel, rfl⟩
theorem d8_glass_53 : zdb b8_glass 53 (.ifCond .lt 9) 9 56 62 := ⟨by decide +kernel, rfl, by decide⟩
theorem d8_glass_56 : zd b8_glass 56 (.aload_n 0) 1 57 := ⟨by decide +kernel, rfl⟩
theorem d8_glass_57 : zd b8_glass 57 (.iconst 3) 1 58 := ⟨by decide +kernel, rfl⟩
theorem d8_glass_58 : zd b8_glass 58 (.invokevirtual 67) 3 61 := ⟨by decide +kernel, rfl⟩
theorem d8_glass_61 : zd b8_glass 61 .ireturn 1 62 := ⟨by decide +kernel, rfl⟩
theorem d8_glass_62 : zd b8_glass 62 (.aload_n 0) 1 63 := ⟨by decide +kernel, rfl⟩
theorem d8_glass_63 : zd b8_glass 63 (.getfield 10) 3 66 := ⟨by decide +kernel, rfl⟩
theorem d8_glass_66 : zd b8_glass 66 (.iload_n 1) 1 67 := ⟨by decide +kernel, rfl⟩
theorem d8_glass_67 : zd b8_glass 67 (.iload_n 2) 1 68 := ⟨by decide +kernel, rfl⟩
theorem d8_glass_68 : zd b8_glass 68 (.iload_n 3) 1 69 := ⟨by decide +kernel, rfl⟩
theorem d8_glass_69 : zd b8_glass 69 (.invokevirtual 78) 3 72 := ⟨by decide +kernel, rfl⟩
theorem d8_glass_72 : zd b8_glass 72 .ireturn 1 73 := ⟨by decide +kernel, rfl⟩
def f8_glass (k : Nat) (x1 : Int32) (x2 : Int32) (x3 : Int32) (σ : ZS) : Option (Int32 × ZS) :=
  zbd (f8_isNoKm k x1 σ) fun r1 s1 =>
  if r1 = 0 then (
  zbd (f8_isNoCell k x2 s1) fun r3 s3 =>
  if r3 = 0 then (
  zbd (f8_isNoTurn k x3 s3) fun r5 s5 =>
  if r5 = 0 then (
  if (s5 2 6) < (8 : Int32) then (
  zbd (f5_glassAt k 2 x2 s5) fun r8 s8 =>
  if r8 < 0 then (
  zbd (f5_addGlass k 2 x1 x2 x3 s8) fun r10 s10 =>
  some (r10, s10))
  else (
  zbd (f8_error k (3 : Int32) s8) fun r11 s11 =>
  some (r11, s11)))
  else (
  zbd (f8_error k (4 : Int32) s5) fun r12 s12 =>
  some (r12, s12)))
  else (
  zbd (f8_error k (1 : Int32) s5) fun r13 s13 =>
  some (r13, s13)))
  else (
  zbd (f8_error k (1 : Int32) s3) fun r14 s14 =>
  some (r14, s14)))
  else (
  zbd (f8_error k (1 : Int32) s1) fun r15 s15 =>
  some (r15, s15))
theorem c8_glass (l : Launch) (g : ZG) {k : Nat} {x1 : Int32} {x2 : Int32} {x3 : Int32} {σ : ZS} {r : Int32} {σr : ZS} (hf : f8_glass k x1 x2 x3 σ = some (r, σr)) : zT l g y8_glass b8_glass 4 (some .int) 4 129 [zr 1, zi x1, zi x2, zi x3] σ (some (zi r)) σr := by
  unfold f8_glass at hf
  refine zT_start (own := R8) rfl (by decide +kernel) 0 (L := [some (zr 1), some (zi x1), some (zi x2), some (zi x3)]) rfl rfl (fun x hl C => ?_)
  subst hl
  refine z_iload_n C d8_glass_0 rfl ?_
  obtain ⟨r1, s1, h1, hf⟩ := zbx hf
  refine z_callSi C (as := [zi x1]) d8_glass_1 w_299 yy8_isNoKm (c8_isNoKm x.2.1 g h1) rfl rfl (Nat.le_of_ble_eq_true rfl) ⟨Nat.le_of_ble_eq_true rfl, Nat.le_of_ble_eq_true rfl⟩ ⟨Nat.zero_le _, Nat.zero_le _⟩ ?_
  refine z_if_ne C d8_glass_4 (fun c2 => ?_) (fun c2 => ?_)
  · have hf := zit c2 hf
    refine z_iload_n C d8_glass_7 rfl ?_
    obtain ⟨r3, s3, h3, hf⟩ := zbx hf
    refine z_callSi C (as := [zi x2]) d8_glass_8 w_302 yy8_isNoCell (c8_isNoCell x.2.1 g h3) rfl rfl (Nat.le_of_ble_eq_true rfl) ⟨Nat.le_of_ble_eq_true rfl, Nat.le_of_ble_eq_true rfl⟩ ⟨Nat.zero_le _, Nat.zero_le _⟩ ?_
    refine z_if_ne C d8_glass_11 (fun c4 => ?_) (fun c4 => ?_)
    · have hf := zit c4 hf
      refine z_iload_n C d8_glass_14 rfl ?_
      obtain ⟨r5, s5, h5, hf⟩ := zbx hf
      refine z_callSi C (as := [zi x3]) d8_glass_15 w_305 yy8_isNoTurn (c8_isNoTurn x.2.1 g h5) rfl rfl (Nat.le_of_ble_eq_true rfl) ⟨Nat.le_of_ble_eq_true rfl, Nat.le_of_ble_eq_true rfl⟩ ⟨Nat.zero_le _, Nat.zero_le _⟩ ?_
      refine z_if_eq C d8_glass_18 (fun c6 => ?_) (fun c6 => ?_)
      · have hf := zit c6 hf
        refine z_aload_n C d8_glass_27 rfl ?_
        refine z_getR C d8_glass_28 fl_261 kZ_1 2 rfl (zn0 kZ_2) ?_
        refine z_getI C d8_glass_31 fl_125 kZ_2 ?_
        refine z_bipush C (8 : Int32) d8_glass_34 kB_8 ?_
        refine z_icmp_lt C d8_glass_36 (fun c7 => ?_) (fun c7 => ?_)
        · have hf := zit c7 hf
          refine z_aload_n C d8_glass_45 rfl ?_
          refine z_getR C d8_glass_46 fl_261 kZ_1 2 rfl (zn0 kZ_2) ?_
          refine z_iload_n C d8_glass_49 rfl ?_
          obtain ⟨r8, s8, h8, hf⟩ := zbx hf
          refine z_callVi C (as := [zi x2]) d8_glass_50 w_313 yy5_glassAt (c5_glassAt x.2.1 g h8) yc5_glassAt kZ_2 rfl rfl (Nat.le_of_ble_eq_true rfl) ⟨Nat.le_of_ble_eq_true rfl, Nat.le_of_ble_eq_true rfl⟩ ⟨Nat.zero_le _, Nat.zero_le _⟩ ?_
          refine z_if_lt C d8_glass_53 (fun c9 => ?_) (fun c9 => ?_)
          · have hf := zit c9 hf
            refine z_aload_n C d8_glass_62 rfl ?_
            refine z_getR C d8_glass_63 fl_261 kZ_1 2 rfl (zn0 kZ_2) ?_
            refine z_iload_n C d8_glass_66 rfl ?_
            refine z_iload_n C d8_glass_67 rfl ?_
            refine z_iload_n C d8_glass_68 rfl ?_
            obtain ⟨r10, s10, h10, hf⟩ := zbx hf
            refine z_callVi C (as := [zi x1, zi x2, zi x3]) d8_glass_69 w_317 yy5_addGlass (c5_addGlass x.2.1 g h10) yc5_addGlass kZ_2 rfl rfl (Nat.le_of_ble_eq_true rfl) ⟨Nat.le_of_ble_eq_true rfl, Nat.le_of_ble_eq_true rfl⟩ ⟨Nat.zero_le _, Nat.zero_le _⟩ ?_
            exact z_iret C d8_glass_72 hf
          · have hf := zie c9 hf
            refine z_aload_n C d8_glass_56 rfl ?_
            refine z_iconst C (3 : Int32) d8_glass_57 kI_3 ?_
            obtain ⟨r11, s11, h11, hf⟩ := zbx hf
            refine z_callVi C (as := [zi (3 : Int32)]) d8_glass_58 w_308 yy8_error (c8_error x.2.1 g h11) yc8_error kZ_1 rfl rfl (Nat.le_of_ble_eq_true rfl) ⟨Nat.le_of_ble_eq_true rfl, Nat.le_of_ble_eq_true rfl⟩ ⟨Nat.zero_le _, Nat.zero_le _⟩ ?_
            exact z_iret C d8_glass_61 hf
        · have hf := zie c7 hf
          refine z_aload_n C d8_glass_39 rfl ?_
          refine z_iconst C (4 : Int32) d8_glass_40 kI_4 ?_
          obtain ⟨r12, s12, h12, hf⟩ := zbx hf
          refine z_callVi C (as := [zi (4 : Int32)]) d8_glass_41 w_308 yy8_error (c8_error x.2.1 g h12) yc8_error kZ_1 rfl rfl (Nat.le_of_ble_eq_true rfl) ⟨Nat.le_of_ble_eq_true rfl, Nat.le_of_ble_eq_true rfl⟩ ⟨Nat.zero_le _, Nat.zero_le _⟩ ?_
          exact z_iret C d8_glass_44 hf
      · have hf := zie c6 hf
        refine z_aload_n C d8_glass_21 rfl ?_
        refine z_iconst C (1 : Int32) d8_glass_22 kI_1 ?_
        obtain ⟨r13, s13, h13, hf⟩ := zbx hf
        refine z_callVi C (as := [zi (1 : Int32)]) d8_glass_23 w_308 yy8_error (c8_error x.2.1 g h13) yc8_error kZ_1 rfl rfl (Nat.le_of_ble_eq_true rfl) ⟨Nat.le_of_ble_eq_true rfl, Nat.le_of_ble_eq_true rfl⟩ ⟨Nat.zero_le _, Nat.zero_le _⟩ ?_
        exact z_iret C d8_glass_26 hf
    · have hf := zie c4 hf
      refine z_aload_n C d8_glass_21 rfl ?_
      refine z_iconst C (1 : Int32) d8_glass_22 kI_1 ?_
      obtain ⟨r14, s14, h14, hf⟩ := zbx hf
      refine z_callVi C (as := [zi (1 : Int32)]) d8_glass_23 w_308 yy8_error (c8_error x.2.1 g h14) yc8_error kZ_1 rfl rfl (Nat.le_of_ble_eq_true rfl) ⟨Nat.le_of_ble_eq_true rfl, Nat.le_of_ble_eq_true rfl⟩ ⟨Nat.zero_le _, Nat.zero_le _⟩ ?_
      exact z_iret C d8_glass_26 hf
  · have hf := zie c2 hf
    refine z_aload_n C d8_glass_21 rfl ?_
    refine z_iconst C (1 : Int32) d8_glass_22 kI_1 ?_
    obtain ⟨r15, s15, h15, hf⟩ := zbx hf
    refine z_callVi C (as := [zi (1 : Int32)]) d8_glass_23 w_308 yy8_error (c8_error x.2.1 g h15) yc8_error kZ_1 rfl rfl (Nat.le_of_ble_eq_true rfl) ⟨Nat.le_of_ble_eq_true rfl, Nat.le_of_ble_eq_true rfl⟩ ⟨Nat.zero_le _, Nat.zero_le _⟩ ?_
    exact z_iret C d8_glass_26 hf
theorem d8_glassIs_0 : zd b8_glassIs 0 (.aload_n 0) 1 1 := ⟨by decide +kernel, rfl⟩
theorem d8_glassIs_1 : zd b8_glassIs 1 (.getfield 10) 3 4 := ⟨by decide +kernel, rfl⟩
theorem d8_glassIs_4 : zd b8_glassIs 4 (.iload_n 1) 1 5 := ⟨by decide +kernel, rfl⟩
theorem d8_glassIs_5 : zd b8_glassIs 5 (.invokevirtual 82) 3 8 := ⟨by decide +kernel, rfl⟩
theorem d8_glassIs_8 : zd b8_glassIs 8 (.astore_n 3) 1 9 := ⟨by decide +kernel, rfl⟩
theorem d8_glassIs_9 : zd b8_glassIs 9 (.aload_n 3) 1 10 := ⟨by decide +kernel, rfl⟩
theorem d8_glassIs_10 : zdb b8_glassIs 10 (.ifnonnull 9) 9 13 19 := ⟨by decide +kernel, rfl, by decide⟩
theorem d8_glassIs_13 : zd b8_glassIs 13 (.aload_n 0) 1 14 := ⟨by decide +kernel, rfl⟩
theorem d8_glassIs_14 : zd b8_glassIs 14 (.iconst 1) 1 15 := ⟨by decide +kernel, rfl⟩
theorem d8_glassIs_15 : zd b8_glassIs 15 (.invokevirtual 67) 3 18 := ⟨by decide +kernel, rfl⟩
theorem d8_glassIs_18 : zd b8_glassIs 18 .ireturn 1 19 := ⟨by decide +kernel, rfl⟩
theorem d8_glassIs_19 : zd b8_glassIs 19 (.iload_n 2) 1 20 := ⟨by decide +kernel, rfl⟩
theorem d8_glassIs_20 : decode b8_glassIs 20 = .ok ((.tableswitch 61 0 4 #[36, 41, 46, 51, 56]), 36) := by decide +kernel
theorem d8_glassIs_56 : zd b8_glassIs 56 (.aload_n 3) 1 57 := ⟨by decide +kernel, rfl⟩
theorem d8_glassIs_57 : zd b8_glassIs 57 (.getfield 86) 3 60 := ⟨by decide +kernel, rfl⟩
theorem d8_glassIs_60 : zd b8_glassIs 60 .ireturn 1 61 := ⟨by decide +kernel, rfl⟩
theorem d8_glassIs_61 : zd b8_glassIs 61 (.aload_n 3) 1 62 := ⟨by decide +kernel, rfl⟩
theorem d8_glassIs_62 : zd b8_glassIs 62 (.getfield 91) 3 65 := ⟨by decide +kernel, rfl⟩
theorem d8_glassIs_65 : zd b8_glassIs 65 .ireturn 1 66 := ⟨by decide +kernel, rfl⟩
theorem d8_glassIs_66 : zd b8_glassIs 66 (.aload_n 3) 1 67 := ⟨by decide +kernel, rfl⟩
theorem d8_glassIs_67 : zd b8_glassIs 67 (.getfield 94) 3 70 := ⟨by decide +kernel, rfl⟩
theorem d8_glassIs_70 : zd b8_glassIs 70 .ireturn 1 71 := ⟨by decide +kernel, rfl⟩
theorem d8_glassIs_71 : zd b8_glassIs 71 (.aload_n 3) 1 72 := ⟨by decide +kernel, rfl⟩
theorem d8_glassIs_72 : zd b8_glassIs 72 (.getfield 97) 3 75 := ⟨by decide +kernel, rfl⟩
theorem d8_glassIs_75 : zd b8_glassIs 75 .ireturn 1 76 := ⟨by decide +kernel, rfl⟩
theorem d8_glassIs_76 : zd b8_glassIs 76 (.aload_n 3) 1 77 := ⟨by decide +kernel, rfl⟩
theorem d8_glassIs_77 : zd b8_glassIs 77 (.getfield 100) 3 80 := ⟨by decide +kernel, rfl⟩
theorem d8_glassIs_80 : zd b8_glassIs 80 .ireturn 1 81 := ⟨by decide +kernel, rfl⟩
theorem d8_glassIs_81 : zd b8_glassIs 81 (.aload_n 0) 1 82 := ⟨by decide +kernel, rfl⟩
theorem d8_glassIs_82 : zd b8_glassIs 82 (.iconst 1) 1 83 := ⟨by decide +kernel, rfl⟩
theorem d8_glassIs_83 : zd b8_glassIs 83 (.invokevirtual 67) 3 86 := ⟨by decide +kernel, rfl⟩
theorem d8_glassIs_86 : zd b8_glassIs 86 .ireturn 1 87 := ⟨by decide +kernel, rfl⟩
def f8_glassIs (k : Nat) (x1 : Int32) (x2 : Int32) (σ : ZS) : Option (Int32 × ZS) :=
  zbd (f5_glassOf k 2 x1 σ) fun r1 s1 =>
  if r1 = 0 then (
  zbd (f8_error k (1 : Int32) s1) fun r3 s3 =>
  some (r3, s3))
  else (
  if x2 = (0 : Int32) then (
  if zsh r1 = 1 then (
  some ((s1 r1 0), s1)) else none)
  else (
  if x2 = (1 : Int32) then (
  if zsh r1 = 1 then (
  some ((s1 r1 1), s1)) else none)
  else (
  if x2 = (2 : Int32) then (
  if zsh r1 = 1 then (
  some ((s1 r1 2), s1)) else none)
  else (
  if x2 = (3 : Int32) then (
  if zsh r1 = 1 then (
  some ((s1 r1 3), s1)) else none)
  else (
  if x2 = (4 : Int32) then (
  if zsh r1 = 1 then (
  some ((s1 r1 4), s1)) else none)
  else (
  zbd (f8_error k (1 : Int32) s1) fun r14 s14 =>
  some (r14, s14)))))))
theorem c8_glassIs (l : Launch) (g : ZG) {k : Nat} {x1 : Int32} {x2 : Int32} {σ : ZS} {r : Int32} {σr : ZS} (hf : f8_glassIs k x1 x2 σ = some (r, σr)) : zT l g y8_glassIs b8_glassIs 4 (some .int) 2 81 [zr 1, zi x1, zi x2] σ (some (zi r)) σr := by
  unfold f8_glassIs at hf
  refine zT_start (own := R8) rfl (by decide +kernel) 1 (L := [some (zr 1), some (zi x1), some (zi x2), none]) rfl rfl (fun x hl C => ?_)
  subst hl
  refine z_aload_n C d8_glassIs_0 rfl ?_
  refine z_getR C d8_glassIs_1 fl_261 kZ_1 2 rfl (zn0 kZ_2) ?_
  refine z_iload_n C d8_glassIs_4 rfl ?_
  obtain ⟨r1, s1, h1, hf⟩ := zbx hf
  refine z_callVr C (as := [zi x1]) d8_glassIs_5 w_334 yy5_glassOf (c5_glassOf x.2.1 g h1) yc5_glassOf kZ_2 rfl rfl (Nat.le_of_ble_eq_true rfl) ⟨Nat.le_of_ble_eq_true rfl, Nat.le_of_ble_eq_true rfl⟩ ⟨Nat.zero_le _, Nat.zero_le _⟩ ?_
  refine z_astore_n C d8_glassIs_8 (Nat.le_of_ble_eq_true rfl) rfl (L' := [some (zr 1), some (zi x1), some (zi x2), some (zr r1)]) rfl ?_
  refine z_aload_n C d8_glassIs_9 rfl ?_
  refine z_ifnonnull C d8_glassIs_10 (fun c2 => ?_) (fun c2 => ?_)
  · have hf := zit c2 hf
    refine z_aload_n C d8_glassIs_13 rfl ?_
    refine z_iconst C (1 : Int32) d8_glassIs_14 kI_1 ?_
    obtain ⟨r3, s3, h3, hf⟩ := zbx hf
    refine z_callVi C (as := [zi (1 : Int32)]) d8_glassIs_15 w_308 yy8_error (c8_error x.2.1 g h3) yc8_error kZ_1 rfl rfl (Nat.le_of_ble_eq_true rfl) ⟨Nat.le_of_ble_eq_true rfl, Nat.le_of_ble_eq_true rfl⟩ ⟨Nat.zero_le _, Nat.zero_le _⟩ ?_
    exact z_iret C d8_glassIs_18 hf
  · have hf := zie c2 hf
    refine z_iload_n C d8_glassIs_19 rfl ?_
    refine z_tsw C [((0 : Int32), 56), ((1 : Int32), 61), ((2 : Int32), 66), ((3 : Int32), 71), ((4 : Int32), 76)] (d := 81) d8_glassIs_20 (by decide) (by decide) (by decide +kernel) ?_
    refine z_swc (fun c4 => ?_) (fun c4 => ?_)
    · have hf := zit c4 hf
      refine z_aload_n C d8_glassIs_56 rfl ?_
      obtain ⟨g5, hf⟩ := zgo hf
      refine z_getI C d8_glassIs_57 fl_48 g5 ?_
      exact z_iret C d8_glassIs_60 hf
    · have hf := zie c4 hf
      refine z_swc (fun c6 => ?_) (fun c6 => ?_)
      · have hf := zit c6 hf
        refine z_aload_n C d8_glassIs_61 rfl ?_
        obtain ⟨g7, hf⟩ := zgo hf
        refine z_getI C d8_glassIs_62 fl_52 g7 ?_
        exact z_iret C d8_glassIs_65 hf
      · have hf := zie c6 hf
        refine z_swc (fun c8 => ?_) (fun c8 => ?_)
        · have hf := zit c8 hf
          refine z_aload_n C d8_glassIs_66 rfl ?_
          obtain ⟨g9, hf⟩ := zgo hf
          refine z_getI C d8_glassIs_67 fl_55 g9 ?_
          exact z_iret C d8_glassIs_70 hf
        · have hf := zie c8 hf
          refine z_swc (fun c10 => ?_) (fun c10 => ?_)
          · have hf := zit c10 hf
            refine z_aload_n C d8_glassIs_71 rfl ?_
            obtain ⟨g11, hf⟩ := zgo hf
            refine z_getI C d8_glassIs_72 fl_58 g11 ?_
            exact z_iret C d8_glassIs_75 hf
          · have hf := zie c10 hf
            refine z_swc (fun c12 => ?_) (fun c12 => ?_)
            · have hf := zit c12 hf
              refine z_aload_n C d8_glassIs_76 rfl ?_
              obtain ⟨g13, hf⟩ := zgo hf
              refine z_getI C d8_glassIs_77 fl_61 g13 ?_
              exact z_iret C d8_glassIs_80 hf
            · have hf := zie c12 hf
              refine z_sw0 ?_
              refine z_aload_n C d8_glassIs_81 rfl ?_
              refine z_iconst C (1 : Int32) d8_glassIs_82 kI_1 ?_
              obtain ⟨r14, s14, h14, hf⟩ := zbx hf
              refine z_callVi C (as := [zi (1 : Int32)]) d8_glassIs_83 w_308 yy8_error (c8_error x.2.1 g h14) yc8_error kZ_1 rfl rfl (Nat.le_of_ble_eq_true rfl) ⟨Nat.le_of_ble_eq_true rfl, Nat.le_of_ble_eq_true rfl⟩ ⟨Nat.zero_le _, Nat.zero_le _⟩ ?_
              exact z_iret C d8_glassIs_86 hf
theorem d8_hang_0 : zd b8_hang 0 (.aload_n 0) 1 1 := ⟨by decide +kernel, rfl⟩
theorem d8_hang_1 : zd b8_hang 1 (.getfield 10) 3 4 := ⟨by decide +kernel, rfl⟩
theorem d8_hang_4 : zd b8_hang 4 (.iload_n 1) 1 5 := ⟨by decide +kernel, rfl⟩
theorem d8_hang_5 : zd b8_hang 5 (.invokevirtual 82) 3 8 := ⟨by decide +kernel, rfl⟩
theorem d8_hang_8 : zd b8_hang 8 (.astore_n 3) 1 9 := ⟨by decide +kernel, rfl⟩
theorem d8_hang_9 : zd b8_hang 9 (.aload_n 3) 1 10 := ⟨by decide +kernel, rfl⟩
theorem d8_hang_10 : zdb b8_hang 10 (.ifnull 10) 10 13 20 := ⟨by decide +kernel, rfl, by decide⟩
theorem d8_hang_13 : zd b8_hang 13 (.iload_n 2) 1 14 := ⟨by decide +kernel, rfl⟩
theorem d8_hang_14 : zd b8_hang 14 (.invokestatic 61) 3 17 := ⟨by decide +kernel, rfl⟩
theorem d8_hang_17 : zdb b8_hang 17 (.ifCond .eq 9) 9 20 26 := ⟨by decide +kernel, rfl, by decide⟩
theorem d8_hang_20 : zd b8_hang 20 (.aload_n 0) 1 21 := ⟨by decide +kernel, rfl⟩
theorem d8_hang_21 : zd b8_hang 21 (.iconst 1) 1 22 := ⟨by decide +kernel, rfl⟩
theorem d8_hang_22 : zd b8_hang 22 (.invokevirtual 67) 3 25 := ⟨by decide +kernel, rfl⟩
theorem d8_hang_25 : zd b8_hang 25 .ireturn 1 26 := ⟨by decide +kernel, rfl⟩
theorem d8_hang_26 : zd b8_hang 26 (.aload_n 0) 1 27 := ⟨by decide +kernel, rfl⟩
theorem d8_hang_27 : zd b8_hang 27 (.getfield 10) 3 30 := ⟨by decide +kernel, rfl⟩
theorem d8_hang_30 : zd b8_hang 30 (.iload_n 2) 1 31 := ⟨by decide +kernel, rfl⟩
theorem d8_hang_31 : zd b8_hang 31 (.invokevirtual 75) 3 34 := ⟨by decide +kernel, rfl⟩
theorem d8_hang_34 : zd b8_hang 34 (.istore 4) 2 36 := ⟨by decide +kernel, rfl⟩
theorem d8_hang_36 : zd b8_hang 36 (.iload 4) 2 38 := ⟨by decide +kernel, rfl⟩
theorem d8_hang_38 : zdb b8_hang 38 (.ifCond .lt 15) 15 41 53 := ⟨by decide +kernel, rfl, by decide⟩
theorem d8_hang_41 : zd b8_hang 41 (.iload 4) 2 43 := ⟨by decide +kernel, rfl⟩
theorem d8_hang_43 : zd b8_hang 43 (.iload_n 1) 1 44 := ⟨by decide +kernel, rfl⟩
theorem d8_hang_44 : zdb b8_hang 44 (.if_icmp .eq 9) 9 47 53 := ⟨by decide +kernel, rfl, by decide⟩
theorem d8_hang_47 : zd b8_hang 47 (.aload_n 0) 1 48 := ⟨by decide +kernel, rfl⟩
theorem d8_hang_48 : zd b8_hang 48 (.iconst 3) 1 49 := ⟨by decide +kernel, rfl⟩
theorem d8_hang_49 : zd b8_hang 49 (.invokevirtual 67) 3 52 := ⟨by decide +kernel, rfl⟩
theorem d8_hang_52 : zd b8_hang 52 .ireturn 1 53 := ⟨by decide +kernel, rfl⟩
theorem d8_hang_53 : zd b8_hang 53 (.aload_n 3) 1 54 := ⟨by decide +kernel, rfl⟩
theorem d8_hang_54 : zd b8_hang 54 (.getfield 94) 3 57 := ⟨by decide +kernel, rfl⟩
theorem d8_hang_57 : zd b8_hang 57 (.istore 5) 2 59 := ⟨by decide +kernel, rfl⟩
theorem d8_hang_59 : zd b8_hang 59 (.aload_n 0) 1 60 := ⟨by decide +kernel, rfl⟩
theorem d8_hang_60 : zd b8_hang 60 (.getfield 10) 3 63 := ⟨by decide +kernel, rfl⟩
theorem d8_hang_63 : zd b8_hang 63 (.iload_n 1) 1 64 := ⟨by decide +kernel, rfl⟩
theorem d8_hang_64 : zd b8_hang 64 (.iload_n 2) 1 65 := ⟨by decide +kernel, rfl⟩
theorem d8_hang_65 : zd b8_hang 65 (.invokevirtual 117) 3 68 := ⟨by decide +kernel, rfl⟩
theorem d8_hang_68 : zd b8_hang 68 (.iload 5) 2 70 := ⟨by decide +kernel, rfl⟩
theorem d8_hang_70 : zd b8_hang 70 .ireturn 1 71 := ⟨by decide +kernel, rfl⟩
def f8_hang (k : Nat) (x1 : Int32) (x2 : Int32) (σ : ZS) : Option (Int32 × ZS) :=
  zbd (f5_glassOf k 2 x1 σ) fun r1 s1 =>
  if r1 = 0 then (
  zbd (f8_error k (1 : Int32) s1) fun r3 s3 =>
  some (r3, s3))
  else (
  zbd (f8_isNoCell k x2 s1) fun r4 s4 =>
  if r4 = 0 then (
  zbd (f5_glassAt k 2 x2 s4) fun r6 s6 =>
  if r6 < 0 then (
  if zsh r1 = 1 then (
  zbd (f5_hangGlass k 2 x1 x2 s6) fun _ s9 =>
  some ((s6 r1 2), s9)) else none)
  else (
  if r6 = x1 then (
  if zsh r1 = 1 then (
  zbd (f5_hangGlass k 2 x1 x2 s6) fun _ s12 =>
  some ((s6 r1 2), s12)) else none)
  else (
  zbd (f8_error k (3 : Int32) s6) fun r13 s13 =>
  some (r13, s13))))
  else (
  zbd (f8_error k (1 : Int32) s4) fun r14 s14 =>
  some (r14, s14)))
theorem c8_hang (l : Launch) (g : ZG) {k : Nat} {x1 : Int32} {x2 : Int32} {σ : ZS} {r : Int32} {σr : ZS} (hf : f8_hang k x1 x2 σ = some (r, σr)) : zT l g y8_hang b8_hang 6 (some .int) 3 104 [zr 1, zi x1, zi x2] σ (some (zi r)) σr := by
  unfold f8_hang at hf
  refine zT_start (own := R8) rfl (by decide +kernel) 3 (L := [some (zr 1), some (zi x1), some (zi x2), none, none, none]) rfl rfl (fun x hl C => ?_)
  subst hl
  refine z_aload_n C d8_hang_0 rfl ?_
  refine z_getR C d8_hang_1 fl_261 kZ_1 2 rfl (zn0 kZ_2) ?_
  refine z_iload_n C d8_hang_4 rfl ?_
  obtain ⟨r1, s1, h1, hf⟩ := zbx hf
  refine z_callVr C (as := [zi x1]) d8_hang_5 w_334 yy5_glassOf (c5_glassOf x.2.1 g h1) yc5_glassOf kZ_2 rfl rfl (Nat.le_of_ble_eq_true rfl) ⟨Nat.le_of_ble_eq_true rfl, Nat.le_of_ble_eq_true rfl⟩ ⟨Nat.zero_le _, Nat.zero_le _⟩ ?_
  refine z_astore_n C d8_hang_8 (Nat.le_of_ble_eq_true rfl) rfl (L' := [some (zr 1), some (zi x1), some (zi x2), some (zr r1), none, none]) rfl ?_
  refine z_aload_n C d8_hang_9 rfl ?_
  refine z_ifnull C d8_hang_10 (fun c2 => ?_) (fun c2 => ?_)
  · have hf := zit c2 hf
    refine z_aload_n C d8_hang_20 rfl ?_
    refine z_iconst C (1 : Int32) d8_hang_21 kI_1 ?_
    obtain ⟨r3, s3, h3, hf⟩ := zbx hf
    refine z_callVi C (as := [zi (1 : Int32)]) d8_hang_22 w_308 yy8_error (c8_error x.2.1 g h3) yc8_error kZ_1 rfl rfl (Nat.le_of_ble_eq_true rfl) ⟨Nat.le_of_ble_eq_true rfl, Nat.le_of_ble_eq_true rfl⟩ ⟨Nat.zero_le _, Nat.zero_le _⟩ ?_
    exact z_iret C d8_hang_25 hf
  · have hf := zie c2 hf
    refine z_iload_n C d8_hang_13 rfl ?_
    obtain ⟨r4, s4, h4, hf⟩ := zbx hf
    refine z_callSi C (as := [zi x2]) d8_hang_14 w_302 yy8_isNoCell (c8_isNoCell x.2.1 g h4) rfl rfl (Nat.le_of_ble_eq_true rfl) ⟨Nat.le_of_ble_eq_true rfl, Nat.le_of_ble_eq_true rfl⟩ ⟨Nat.zero_le _, Nat.zero_le _⟩ ?_
    refine z_if_eq C d8_hang_17 (fun c5 => ?_) (fun c5 => ?_)
    · have hf := zit c5 hf
      refine z_aload_n C d8_hang_26 rfl ?_
      refine z_getR C d8_hang_27 fl_261 kZ_1 2 rfl (zn0 kZ_2) ?_
      refine z_iload_n C d8_hang_30 rfl ?_
      obtain ⟨r6, s6, h6, hf⟩ := zbx hf
      refine z_callVi C (as := [zi x2]) d8_hang_31 w_313 yy5_glassAt (c5_glassAt x.2.1 g h6) yc5_glassAt kZ_2 rfl rfl (Nat.le_of_ble_eq_true rfl) ⟨Nat.le_of_ble_eq_true rfl, Nat.le_of_ble_eq_true rfl⟩ ⟨Nat.zero_le _, Nat.zero_le _⟩ ?_
      refine z_istore C d8_hang_34 (Nat.le_of_ble_eq_true rfl) rfl (L' := [some (zr 1), some (zi x1), some (zi x2), some (zr r1), some (zi r6), none]) rfl ?_
      refine z_iload C d8_hang_36 rfl ?_
      refine z_if_lt C d8_hang_38 (fun c7 => ?_) (fun c7 => ?_)
      · have hf := zit c7 hf
        refine z_aload_n C d8_hang_53 rfl ?_
        obtain ⟨g8, hf⟩ := zgo hf
        refine z_getI C d8_hang_54 fl_55 g8 ?_
        refine z_istore C d8_hang_57 (Nat.le_of_ble_eq_true rfl) rfl (L' := [some (zr 1), some (zi x1), some (zi x2), some (zr r1), some (zi r6), some (zi (s6 r1 2))]) rfl ?_
        refine z_aload_n C d8_hang_59 rfl ?_
        refine z_getR C d8_hang_60 fl_261 kZ_1 2 rfl (zn0 kZ_2) ?_
        refine z_iload_n C d8_hang_63 rfl ?_
        refine z_iload_n C d8_hang_64 rfl ?_
        obtain ⟨r9, s9, h9, hf⟩ := zbx hf
        refine z_callVv C (as := [zi x1, zi x2]) d8_hang_65 w_379 yy5_hangGlass (c5_hangGlass x.2.1 g h9) yc5_hangGlass kZ_2 rfl rfl (Nat.le_of_ble_eq_true rfl) ⟨Nat.le_of_ble_eq_true rfl, Nat.le_of_ble_eq_true rfl⟩ ⟨Nat.zero_le _, Nat.zero_le _⟩ ?_
        refine z_iload C d8_hang_68 rfl ?_
        exact z_iret C d8_hang_70 hf
      · have hf := zie c7 hf
        refine z_iload C d8_hang_41 rfl ?_
        refine z_iload_n C d8_hang_43 rfl ?_
        refine z_icmp_eq C d8_hang_44 (fun c10 => ?_) (fun c10 => ?_)
        · have hf := zit c10 hf
          refine z_aload_n C d8_hang_53 rfl ?_
          obtain ⟨g11, hf⟩ := zgo hf
          refine z_getI C d8_hang_54 fl_55 g11 ?_
          refine z_istore C d8_hang_57 (Nat.le_of_ble_eq_true rfl) rfl (L' := [some (zr 1), some (zi x1), some (zi x2), some (zr r1), some (zi r6), some (zi (s6 r1 2))]) rfl ?_
          refine z_aload_n C d8_hang_59 rfl ?_
          refine z_getR C d8_hang_60 fl_261 kZ_1 2 rfl (zn0 kZ_2) ?_
          refine z_iload_n C d8_hang_63 rfl ?_
          refine z_iload_n C d8_hang_64 rfl ?_
          obtain ⟨r12, s12, h12, hf⟩ := zbx hf
          refine z_callVv C (as := [zi x1, zi x2]) d8_hang_65 w_379 yy5_hangGlass (c5_hangGlass x.2.1 g h12) yc5_hangGlass kZ_2 rfl rfl (Nat.le_of_ble_eq_true rfl) ⟨Nat.le_of_ble_eq_true rfl, Nat.le_of_ble_eq_true rfl⟩ ⟨Nat.zero_le _, Nat.zero_le _⟩ ?_
          refine z_iload C d8_hang_68 rfl ?_
          exact z_iret C d8_hang_70 hf
        · have hf := zie c10 hf
          refine z_aload_n C d8_hang_47 rfl ?_
          refine z_iconst C (3 : Int32) d8_hang_48 kI_3 ?_
          obtain ⟨r13, s13, h13, hf⟩ := zbx hf
          refine z_callVi C (as := [zi (3 : Int32)]) d8_hang_49 w_308 yy8_error (c8_error x.2.1 g h13) yc8_error kZ_1 rfl rfl (Nat.le_of_ble_eq_true rfl) ⟨Nat.le_of_ble_eq_true rfl, Nat.le_of_ble_eq_true rfl⟩ ⟨Nat.zero_le _, Nat.zero_le _⟩ ?_
          exact z_iret C d8_hang_52 hf
    · have hf := zie c5 hf
      refine z_aload_n C d8_hang_20 rfl ?_
      refine z_iconst C (1 : Int32) d8_hang_21 kI_1 ?_
      obtain ⟨r14, s14, h14, hf⟩ := zbx hf
      refine z_callVi C (as := [zi (1 : Int32)]) d8_hang_22 w_308 yy8_error (c8_error x.2.1 g h14) yc8_error kZ_1 rfl rfl (Nat.le_of_ble_eq_true rfl) ⟨Nat.le_of_ble_eq_true rfl, Nat.le_of_ble_eq_true rfl⟩ ⟨Nat.zero_le _, Nat.zero_le _⟩ ?_
      exact z_iret C d8_hang_25 hf
theorem d8_hour_0 : zd b8_hour 0 (.iload_n 1) 1 1 := ⟨by decide +kernel, rfl⟩
theorem d8_hour_1 : zdb b8_hour 1 (.ifCond .lt 10) 10 4 11 := ⟨by decide +kernel, rfl, by decide⟩
theorem d8_hour_4 : zd b8_hour 4 (.iload_n 1) 1 5 := ⟨by decide +kernel, rfl⟩
theorem d8_hour_5 : zd b8_hour 5 (.sipush 9999) 3 8 := ⟨by decide +kernel, rfl⟩
theorem d8_hour_8 : zdb b8_hour 8 (.if_icmp .le 9) 9 11 17 := ⟨by decide +kernel, rfl, by decide⟩
theorem d8_hour_11 : zd b8_hour 11 (.aload_n 0) 1 12 := ⟨by decide +kernel, rfl⟩
theorem d8_hour_12 : zd b8_hour 12 (.iconst 1) 1 13 := ⟨by decide +kernel, rfl⟩
theorem d8_hour_13 : zd b8_hour 13 (.invokevirtual 67) 3 16 := ⟨by decide +kernel, rfl⟩
theorem d8_hour_16 : zd b8_hour 16 .ireturn 1 17 := ⟨by decide +kernel, rfl⟩
theorem d8_hour_17 : zd b8_hour 17 (.aload_n 0) 1 18 := ⟨by decide +kernel, rfl⟩
theorem d8_hour_18 : zd b8_hour 18 (.getfield 10) 3 21 := ⟨by decide +kernel, rfl⟩
theorem d8_hour_21 : zd b8_hour 21 (.getfield 151) 3 24 := ⟨by decide +kernel, rfl⟩
theorem d8_hour_24 : zd b8_hour 24 (.istore_n 2) 1 25 := ⟨by decide +kernel, rfl⟩
theorem d8_hour_25 : zd b8_hour 25 (.aload_n 0) 1 26 := ⟨by decide +kernel, rfl⟩
theorem d8_hour_26 : zd b8_hour 26 (.getfield 10) 3 29 := ⟨by decide +kernel, rfl⟩
theorem d8_hour_29 : zd b8_hour 29 (.iload_n 1) 1 30 := ⟨by decide +kernel, rfl⟩
theorem d8_hour_30 : zd b8_hour 30 (.putfield 151) 3 33 := ⟨by decide +kernel, rfl⟩
theorem d8_hour_33 : zd b8_hour 33 (.iload_n 2) 1 34 := ⟨by decide +kernel, rfl⟩
theorem d8_hour_34 : zd b8_hour 34 .ireturn 1 35 := ⟨by decide +kernel, rfl⟩
def f8_hour (k : Nat) (x1 : Int32) (σ : ZS) : Option (Int32 × ZS) :=
  if x1 < 0 then (
  zbd (f8_error k (1 : Int32) σ) fun r2 s2 =>
  some (r2, s2))
  else (
  if x1 ≤ (9999 : Int32) then (
  zput (zu σ 2 10 x1) fun s4 =>
  some ((σ 2 10), s4))
  else (
  zbd (f8_error k (1 : Int32) σ) fun r5 s5 =>
  some (r5, s5)))
theorem c8_hour (l : Launch) (g : ZG) {k : Nat} {x1 : Int32} {σ : ZS} {r : Int32} {σr : ZS} (hf : f8_hour k x1 σ = some (r, σr)) : zT l g y8_hour b8_hour 3 (some .int) 2 81 [zr 1, zi x1] σ (some (zi r)) σr := by
  unfold f8_hour at hf
  refine zT_start (own := R8) rfl (by decide +kernel) 1 (L := [some (zr 1), some (zi x1), none]) rfl rfl (fun x hl C => ?_)
  subst hl
  refine z_iload_n C d8_hour_0 rfl ?_
  refine z_if_lt C d8_hour_1 (fun c1 => ?_) (fun c1 => ?_)
  · have hf := zit c1 hf
    refine z_aload_n C d8_hour_11 rfl ?_
    refine z_iconst C (1 : Int32) d8_hour_12 kI_1 ?_
    obtain ⟨r2, s2, h2, hf⟩ := zbx hf
    refine z_callVi C (as := [zi (1 : Int32)]) d8_hour_13 w_308 yy8_error (c8_error x.2.1 g h2) yc8_error kZ_1 rfl rfl (Nat.le_of_ble_eq_true rfl) ⟨Nat.le_of_ble_eq_true rfl, Nat.le_of_ble_eq_true rfl⟩ ⟨Nat.zero_le _, Nat.zero_le _⟩ ?_
    exact z_iret C d8_hour_16 hf
  · have hf := zie c1 hf
    refine z_iload_n C d8_hour_4 rfl ?_
    refine z_sipush C (9999 : Int32) d8_hour_5 kS_9999 ?_
    refine z_icmp_le C d8_hour_8 (fun c3 => ?_) (fun c3 => ?_)
    · have hf := zit c3 hf
      refine z_aload_n C d8_hour_17 rfl ?_
      refine z_getR C d8_hour_18 fl_261 kZ_1 2 rfl (zn0 kZ_2) ?_
      refine z_getI C d8_hour_21 fl_134 kZ_2 ?_
      refine z_istore_n C d8_hour_24 (Nat.le_of_ble_eq_true rfl) rfl (L' := [some (zr 1), some (zi x1), some (zi (σ 2 10))]) rfl ?_
      refine z_aload_n C d8_hour_25 rfl ?_
      refine z_getR C d8_hour_26 fl_261 kZ_1 2 rfl (zn0 kZ_2) ?_
      refine z_iload_n C d8_hour_29 rfl ?_
      obtain ⟨s4, e4, hf⟩ := zpx hf
      refine z_putI C d8_hour_30 fl_134 ft_5_10 kZ_2 e4 ?_
      refine z_iload_n C d8_hour_33 rfl ?_
      exact z_iret C d8_hour_34 hf
    · have hf := zie c3 hf
      refine z_aload_n C d8_hour_11 rfl ?_
      refine z_iconst C (1 : Int32) d8_hour_12 kI_1 ?_
      obtain ⟨r5, s5, h5, hf⟩ := zbx hf
      refine z_callVi C (as := [zi (1 : Int32)]) d8_hour_13 w_308 yy8_error (c8_error x.2.1 g h5) yc8_error kZ_1 rfl rfl (Nat.le_of_ble_eq_true rfl) ⟨Nat.le_of_ble_eq_true rfl, Nat.le_of_ble_eq_true rfl⟩ ⟨Nat.zero_le _, Nat.zero_le _⟩ ?_
      exact z_iret C d8_hour_16 hf
theorem d1_metAt_0 : zd b1_metAt 0 (.iload_n 1) 1 1 := ⟨by decide +kernel, rfl⟩
theorem d1_metAt_1 : zdb b1_metAt 1 (.ifCond .lt 20) 20 4 21 := ⟨by decide +kernel, rfl, by decide⟩
theorem d1_metAt_4 : zd b1_metAt 4 (.iload_n 1) 1 5 := ⟨by decide +kernel, rfl⟩
theorem d1_metAt_5 : zd b1_metAt 5 (.aload_n 0) 1 6 := ⟨by decide +kernel, rfl⟩
theorem d1_metAt_6 : zd b1_metAt 6 (.getfield 28) 3 9 := ⟨by decide +kernel, rfl⟩
theorem d1_metAt_9 : zdb b1_metAt 9 (.if_icmp .ge 12) 12 12 21 := ⟨by decide +kernel, rfl, by decide⟩
theorem d1_metAt_12 : zd b1_metAt 12 (.iload_n 1) 1 13 := ⟨by decide +kernel, rfl⟩
theorem d1_metAt_13 : zd b1_metAt 13 (.aload_n 0) 1 14 := ⟨by decide +kernel, rfl⟩
theorem d1_metAt_14 : zd b1_metAt 14 (.getfield 15) 3 17 := ⟨by decide +kernel, rfl⟩
theorem d1_metAt_17 : zd b1_metAt 17 .arraylength 1 18 := ⟨by decide +kernel, rfl⟩
theorem d1_metAt_18 : zdb b1_metAt 18 (.if_icmp .lt 7) 7 21 25 := ⟨by decide +kernel, rfl, by decide⟩
theorem d1_metAt_21 : zd b1_metAt 21 (.iconst (-1)) 1 22 := ⟨by decide +kernel, rfl⟩
theorem d1_metAt_22 : zdb b1_metAt 22 (.goto 9) 9 25 31 := ⟨by decide +kernel, rfl, by decide⟩
theorem d1_metAt_25 : zd b1_metAt 25 (.aload_n 0) 1 26 := ⟨by decide +kernel, rfl⟩
theorem d1_metAt_26 : zd b1_metAt 26 (.getfield 15) 3 29 := ⟨by decide +kernel, rfl⟩
theorem d1_metAt_29 : zd b1_metAt 29 (.iload_n 1) 1 30 := ⟨by decide +kernel, rfl⟩
theorem d1_metAt_30 : zd b1_metAt 30 .iaload 1 31 := ⟨by decide +kernel, rfl⟩
theorem d1_metAt_31 : zd b1_metAt 31 .ireturn 1 32 := ⟨by decide +kernel, rfl⟩
def f1_metAt (k : Nat) (x1 : Int32) (σ : ZS) : Option (Int32 × ZS) :=
  if x1 < 0 then (
  some ((-1 : Int32), σ))
  else (
  if (σ 83 3) ≤ x1 then (
  some ((-1 : Int32), σ))
  else (
  if x1 < (257 : Int32) then (
  if zin x1 257 then (
  some ((σ 85 x1.toNatClampNeg), σ)) else none)
  else (
  some ((-1 : Int32), σ))))
theorem c1_metAt (l : Launch) (g : ZG) {k : Nat} {x1 : Int32} {σ : ZS} {r : Int32} {σr : ZS} (hf : f1_metAt k x1 σ = some (r, σr)) : zT l g y1_metAt b1_metAt 2 (some .int) 1 60 [zr 83, zi x1] σ (some (zi r)) σr := by
  unfold f1_metAt at hf
  refine zT_start (own := R1) rfl (by decide +kernel) 0 (L := [some (zr 83), some (zi x1)]) rfl rfl (fun x hl C => ?_)
  subst hl
  refine z_iload_n C d1_metAt_0 rfl ?_
  refine z_if_lt C d1_metAt_1 (fun c1 => ?_) (fun c1 => ?_)
  · have hf := zit c1 hf
    refine z_iconst C (-1 : Int32) d1_metAt_21 kI_m1 ?_
    refine z_goto C d1_metAt_22 ?_
    exact z_iret C d1_metAt_31 hf
  · have hf := zie c1 hf
    refine z_iload_n C d1_metAt_4 rfl ?_
    refine z_aload_n C d1_metAt_5 rfl ?_
    refine z_getI C d1_metAt_6 fl_172 kZ_83 ?_
    refine z_icmp_ge C d1_metAt_9 (fun c2 => ?_) (fun c2 => ?_)
    · have hf := zit c2 hf
      refine z_iconst C (-1 : Int32) d1_metAt_21 kI_m1 ?_
      refine z_goto C d1_metAt_22 ?_
      exact z_iret C d1_metAt_31 hf
    · have hf := zie c2 hf
      refine z_iload_n C d1_metAt_12 rfl ?_
      refine z_aload_n C d1_metAt_13 rfl ?_
      refine z_getR C d1_metAt_14 fl_169 kZ_83 85 rfl (zn0 kZ_85) ?_
      refine z_alen C (257 : Int32) d1_metAt_17 kZ_85 kL_85 kO_257 ?_
      refine z_icmp_lt C d1_metAt_18 (fun c3 => ?_) (fun c3 => ?_)
      · have hf := zit c3 hf
        refine z_aload_n C d1_metAt_25 rfl ?_
        refine z_getR C d1_metAt_26 fl_169 kZ_83 85 rfl (zn0 kZ_85) ?_
        refine z_iload_n C d1_metAt_29 rfl ?_
        obtain ⟨g4, hf⟩ := zgo hf
        refine z_iald C d1_metAt_30 kZ_85 kL_85 g4 (x1.toNatClampNeg) rfl ?_
        exact z_iret C d1_metAt_31 hf
      · have hf := zie c3 hf
        refine z_iconst C (-1 : Int32) d1_metAt_21 kI_m1 ?_
        refine z_goto C d1_metAt_22 ?_
        exact z_iret C d1_metAt_31 hf
theorem d5_countMeetings_0 : zd b5_countMeetings 0 (.iconst 0) 1 1 := ⟨by decide +kernel, rfl⟩
theorem d5_countMeetings_1 : zd b5_countMeetings 1 (.istore_n 2) 1 2 := ⟨by decide +kernel, rfl⟩
theorem d5_countMeetings_2 : zd b5_countMeetings 2 (.iload_n 2) 1 3 := ⟨by decide +kernel, rfl⟩
theorem d5_countMeetings_3 : zd b5_countMeetings 3 (.aload_n 1) 1 4 := ⟨by decide +kernel, rfl⟩
theorem d5_countMeetings_4 : zd b5_countMeetings 4 (.getfield 147) 3 7 := ⟨by decide +kernel, rfl⟩
theorem d5_countMeetings_7 : zdb b5_countMeetings 7 (.if_icmp .ge 45) 45 10 52 := ⟨by decide +kernel, rfl, by decide⟩
theorem d5_countMeetings_10 : zd b5_countMeetings 10 (.aload_n 1) 1 11 := ⟨by decide +kernel, rfl⟩
theorem d5_countMeetings_11 : zd b5_countMeetings 11 (.getfield 142) 3 14 := ⟨by decide +kernel, rfl⟩
theorem d5_countMeetings_14 : zdb b5_countMeetings 14 (.ifCond .ne 38) 38 17 52 := ⟨by decide +kernel, rfl, by decide⟩
theorem d5_countMeetings_17 : zd b5_countMeetings 17 (.aload_n 0) 1 18 := ⟨by decide +kernel, rfl⟩
theorem d5_countMeetings_18 : zd b5_countMeetings 18 (.aload_n 1) 1 19 := ⟨by decide +kernel, rfl⟩
theorem d5_countMeetings_19 : zd b5_countMeetings 19 (.iload_n 2) 1 20 := ⟨by decide +kernel, rfl⟩
theorem d5_countMeetings_20 : zd b5_countMeetings 20 (.invokevirtual 150) 3 23 := ⟨by decide +kernel, rfl⟩
theorem d5_countMeetings_23 : zd b5_countMeetings 23 (.invokevirtual 83) 3 26 := ⟨by decide +kernel, rfl⟩
theorem d5_countMeetings_26 : zd b5_countMeetings 26 (.astore_n 3) 1 27 := ⟨by decide +kernel, rfl⟩
theorem d5_countMeetings_27 : zd b5_countMeetings 27 (.aload_n 3) 1 28 := ⟨by decide +kernel, rfl⟩
theorem d5_countMeetings_28 : zdb b5_countMeetings 28 (.ifnull 18) 18 31 46 := ⟨by decide +kernel, rfl, by decide⟩
theorem d5_countMeetings_31 : zd b5_countMeetings 31 (.aload_n 3) 1 32 := ⟨by decide +kernel, rfl⟩
theorem d5_countMeetings_32 : zd b5_countMeetings 32 (.ldc 166) 2 34 := ⟨by decide +kernel, rfl⟩
theorem d5_countMeetings_34 : zd b5_countMeetings 34 (.aload_n 3) 1 35 := ⟨by decide +kernel, rfl⟩
theorem d5_countMeetings_35 : zd b5_countMeetings 35 (.getfield 96) 3 38 := ⟨by decide +kernel, rfl⟩
theorem d5_countMeetings_38 : zd b5_countMeetings 38 (.iconst 1) 1 39 := ⟨by decide +kernel, rfl⟩
theorem d5_countMeetings_39 : zd b5_countMeetings 39 .iadd 1 40 := ⟨by decide +kernel, rfl⟩
theorem d5_countMeetings_40 : zd b5_countMeetings 40 (.invokestatic 133) 3 43 := ⟨by decide +kernel, rfl⟩
theorem d5_countMeetings_43 : zd b5_countMeetings 43 (.putfield 96) 3 46 := ⟨by decide +kernel, rfl⟩
theorem d5_countMeetings_46 : zd b5_countMeetings 46 (.iinc 2 1) 3 49 := ⟨by decide +kernel, rfl⟩
theorem d5_countMeetings_49 : zdb b5_countMeetings 49 (.goto (-47)) (-47) 52 2 := ⟨by decide +kernel, rfl, by decide⟩
theorem d5_countMeetings_52 : zd b5_countMeetings 52 .return_ 1 53 := ⟨by decide +kernel, rfl⟩
def b5_countMeetings_2 (k : Nat) (t : Nat) (q2 : Int32 → ZS → Option (Unit × ZS)) (x2 : Int32) (σ : ZS) : Option (Unit × ZS) :=
  if (σ 83 3) ≤ x2 then (
  some ((), σ))
  else (
  if (σ 83 4) = 0 then (
  zbd (f1_metAt k x2 σ) fun r3 s3 =>
  zbd (f5_glassOf k t r3 s3) fun r4 s4 =>
  if r4 = 0 then (
  q2 (x2 + (1 : Int32)) s4)
  else (
  if zsh r4 = 1 then (
  zput (zu s4 r4 4 (if ((s4 r4 4) + (1 : Int32)) < (99999 : Int32) then ((s4 r4 4) + (1 : Int32)) else (99999 : Int32))) fun s7 =>
  q2 (x2 + (1 : Int32)) s7) else none))
  else (
  some ((), σ)))
def f5_countMeetings_2 (k : Nat) (t : Nat) : Nat → Int32 → ZS → Option (Unit × ZS)
  | 0 => fun _ _ => none
  | n + 1 => b5_countMeetings_2 k t  (f5_countMeetings_2 k t  n)
theorem j5_countMeetings_2 {x : ZX} {g : ZG} (C : zC x g b5_countMeetings R5 none 4 2 81) {k : Nat} {t : Nat} (ht : zsh t = 6) {r : Unit} {σr : ZS}  {q2 : Int32 → ZS → Option (Unit × ZS)} (hq2 : (∀ (x2 : Int32) (σ : ZS), q2 x2 σ = some (r, σr) → zw x g 4 0 0 (zMQ x g none σr) σ 2 [some (zr t), some (zr 83), some (zi x2), none] [])) {x2 : Int32} {σ : ZS} (hf : b5_countMeetings_2 k t q2 x2 σ = some (r, σr)) : zw x g 4 0 0 (zMQ x g none σr) σ 2 [some (zr t), some (zr 83), some (zi x2), none] [] := by
  unfold b5_countMeetings_2 at hf
  refine z_iload_n C d5_countMeetings_2 rfl ?_
  refine z_aload_n C d5_countMeetings_3 rfl ?_
  refine z_getI C d5_countMeetings_4 fl_173 kZ_83 ?_
  refine z_icmp_ge C d5_countMeetings_7 (fun c1 => ?_) (fun c1 => ?_)
  · have hf := zit c1 hf
    exact z_vret C d5_countMeetings_52 hf
  · have hf := zie c1 hf
    refine z_aload_n C d5_countMeetings_10 rfl ?_
    refine z_getI C d5_countMeetings_11 fl_176 kZ_83 ?_
    refine z_if_ne C d5_countMeetings_14 (fun c2 => ?_) (fun c2 => ?_)
    · have hf := zit c2 hf
      refine z_aload_n C d5_countMeetings_17 rfl ?_
      refine z_aload_n C d5_countMeetings_18 rfl ?_
      refine z_iload_n C d5_countMeetings_19 rfl ?_
      obtain ⟨r3, s3, h3, hf⟩ := zbx hf
      refine z_callVi C (as := [zi x2]) d5_countMeetings_20 w_424 yy1_metAt (c1_metAt x.2.1 g h3) yc1_metAt kZ_83 rfl rfl (Nat.le_of_ble_eq_true rfl) ⟨Nat.le_of_ble_eq_true rfl, Nat.le_of_ble_eq_true rfl⟩ ⟨Nat.zero_le _, Nat.zero_le _⟩ ?_
      obtain ⟨r4, s4, h4, hf⟩ := zbx hf
      refine z_callVr C (as := [zi r3]) d5_countMeetings_23 w_321 yy5_glassOf (c5_glassOf x.2.1 g h4) yc5_glassOf ht rfl rfl (Nat.le_of_ble_eq_true rfl) ⟨Nat.le_of_ble_eq_true rfl, Nat.le_of_ble_eq_true rfl⟩ ⟨Nat.zero_le _, Nat.zero_le _⟩ ?_
      refine z_astore_n C d5_countMeetings_26 (Nat.le_of_ble_eq_true rfl) rfl (L' := [some (zr t), some (zr 83), some (zi x2), some (zr r4)]) rfl ?_
      refine z_aload_n C d5_countMeetings_27 rfl ?_
      refine z_ifnull C d5_countMeetings_28 (fun c5 => ?_) (fun c5 => ?_)
      · have hf := zit c5 hf
        refine z_iinc C d5_countMeetings_46 rfl kI_1 (Nat.le_of_ble_eq_true rfl) rfl (L' := [some (zr t), some (zr 83), some (zi (x2 + (1 : Int32))), some (zr r4)]) rfl ?_
        refine z_goto C d5_countMeetings_49 ?_
        refine z_drop [true, true, true, false] (L' := [some (zr t), some (zr 83), some (zi (x2 + (1 : Int32))), none]) rfl ?_
        exact hq2 _ _ hf
      · have hf := zie c5 hf
        refine z_aload_n C d5_countMeetings_31 rfl ?_
        refine z_ldc C (99999 : Int32) d5_countMeetings_32 w_588 ?_
        refine z_aload_n C d5_countMeetings_34 rfl ?_
        obtain ⟨g6, hf⟩ := zgo hf
        refine z_getI C d5_countMeetings_35 fl_62 g6 ?_
        refine z_iconst C (1 : Int32) d5_countMeetings_38 kI_1 ?_
        refine z_iadd C d5_countMeetings_39 ?_
        refine z_min C d5_countMeetings_40 w_443 (Nat.le_of_ble_eq_true rfl) ⟨Nat.le_of_ble_eq_true rfl, Nat.le_of_ble_eq_true rfl⟩ ⟨Nat.zero_le _, Nat.zero_le _⟩ zminw ?_
        obtain ⟨s7, e7, hf⟩ := zpx hf
        refine z_putI C d5_countMeetings_43 fl_62 ft_0_4 g6 e7 ?_
        refine z_iinc C d5_countMeetings_46 rfl kI_1 (Nat.le_of_ble_eq_true rfl) rfl (L' := [some (zr t), some (zr 83), some (zi (x2 + (1 : Int32))), some (zr r4)]) rfl ?_
        refine z_goto C d5_countMeetings_49 ?_
        refine z_drop [true, true, true, false] (L' := [some (zr t), some (zr 83), some (zi (x2 + (1 : Int32))), none]) rfl ?_
        exact hq2 _ _ hf
    · have hf := zie c2 hf
      exact z_vret C d5_countMeetings_52 hf
theorem j5_countMeetings_2l {x : ZX} {g : ZG} (C : zC x g b5_countMeetings R5 none 4 2 81) {k : Nat} {t : Nat} (ht : zsh t = 6) {r : Unit} {σr : ZS}  : ∀ (n : Nat) (x2 : Int32) (σ : ZS), f5_countMeetings_2 k t  n x2 σ = some (r, σr) → zw x g 4 0 0 (zMQ x g none σr) σ 2 [some (zr t), some (zr 83), some (zi x2), none] [] := by
  intro n
  induction n with
  | zero => intro x2 σ hf; exact absurd (show none = some (r, σr) from hf) (fun z => by cases z)
  | succ n ih => intro x2 σ hf; exact j5_countMeetings_2 C ht  ih (show b5_countMeetings_2 k t  (f5_countMeetings_2 k t  n) x2 σ = some (r, σr) from hf)
def f5_countMeetings (k : Nat) (t : Nat)  (σ : ZS) : Option (Unit × ZS) :=
  if zsh t = 6 then (
  f5_countMeetings_2 k t  k (0 : Int32) σ) else none
theorem c5_countMeetings (l : Launch) (g : ZG) {k : Nat} {t : Nat}  {σ : ZS} {r : Unit} {σr : ZS} (hf : f5_countMeetings k t  σ = some (r, σr)) : zT l g y5_countMeetings b5_countMeetings 4 none 2 81 [zr t, zr 83] σ none σr := by
  unfold f5_countMeetings at hf
  obtain ⟨ht, hf⟩ := zgo hf
  refine zT_start (own := R5) rfl (by decide +kernel) 2 (L := [some (zr t), some (zr 83), none, none]) rfl rfl (fun x hl C => ?_)
  subst hl
  refine z_iconst C (0 : Int32) d5_countMeetings_0 kI_0 ?_
  refine z_istore_n C d5_countMeetings_1 (Nat.le_of_ble_eq_true rfl) rfl (L' := [some (zr t), some (zr 83), some (zi (0 : Int32)), none]) rfl ?_
  exact j5_countMeetings_2l C ht  _ _ _ hf
theorem d5_textOf_0 : zd b5_textOf 0 (.iload_n 1) 1 1 := ⟨by decide +kernel, rfl⟩
theorem d5_textOf_1 : zdb b5_textOf 1 (.ifCond .lt 12) 12 4 13 := ⟨by decide +kernel, rfl, by decide⟩
theorem d5_textOf_4 : zd b5_textOf 4 (.iload_n 1) 1 5 := ⟨by decide +kernel, rfl⟩
theorem d5_textOf_5 : zd b5_textOf 5 (.aload_n 0) 1 6 := ⟨by decide +kernel, rfl⟩
theorem d5_textOf_6 : zd b5_textOf 6 (.getfield 25) 3 9 := ⟨by decide +kernel, rfl⟩
theorem d5_textOf_9 : zd b5_textOf 9 .arraylength 1 10 := ⟨by decide +kernel, rfl⟩
theorem d5_textOf_10 : zdb b5_textOf 10 (.if_icmp .lt 7) 7 13 17 := ⟨by decide +kernel, rfl, by decide⟩
theorem d5_textOf_13 : zd b5_textOf 13 .aconst_null 1 14 := ⟨by decide +kernel, rfl⟩
theorem d5_textOf_14 : zdb b5_textOf 14 (.goto 9) 9 17 23 := ⟨by decide +kernel, rfl, by decide⟩
theorem d5_textOf_17 : zd b5_textOf 17 (.aload_n 0) 1 18 := ⟨by decide +kernel, rfl⟩
theorem d5_textOf_18 : zd b5_textOf 18 (.getfield 25) 3 21 := ⟨by decide +kernel, rfl⟩
theorem d5_textOf_21 : zd b5_textOf 21 (.iload_n 1) 1 22 := ⟨by decide +kernel, rfl⟩
theorem d5_textOf_22 : zd b5_textOf 22 .aaload 1 23 := ⟨by decide +kernel, rfl⟩
theorem d5_textOf_23 : zd b5_textOf 23 .areturn 1 24 := ⟨by decide +kernel, rfl⟩
def f5_textOf (k : Nat) (t : Nat) (x1 : Int32) (σ : ZS) : Option (Nat × ZS) :=
  if zsh t = 6 then (
  if x1 < 0 then (
  some (0, σ))
  else (
  if x1 < (2 : Int32) then (
  if zin x1 2 then (
  some ((t + 21 + 3 * x1.toNatClampNeg), σ)) else none)
  else (
  some (0, σ)))) else none
theorem c5_textOf (l : Launch) (g : ZG) {k : Nat} {t : Nat} {x1 : Int32} {σ : ZS} {r : Nat} {σr : ZS} (hf : f5_textOf k t x1 σ = some (r, σr)) : zT l g y5_textOf b5_textOf 2 (some (.object "GlassTax$Text")) 1 60 [zr t, zi x1] σ (some (zr r)) σr := by
  unfold f5_textOf at hf
  obtain ⟨ht, hf⟩ := zgo hf
  refine zT_start (own := R5) rfl (by decide +kernel) 0 (L := [some (zr t), some (zi x1)]) rfl rfl (fun x hl C => ?_)
  subst hl
  refine z_iload_n C d5_textOf_0 rfl ?_
  refine z_if_lt C d5_textOf_1 (fun c1 => ?_) (fun c1 => ?_)
  · have hf := zit c1 hf
    refine z_null C d5_textOf_13 ?_
    refine z_goto C d5_textOf_14 ?_
    exact z_aret C d5_textOf_23 hf
  · have hf := zie c1 hf
    refine z_iload_n C d5_textOf_4 rfl ?_
    refine z_aload_n C d5_textOf_5 rfl ?_
    refine z_getR C d5_textOf_6 fl_120 ht (t + 3) rfl (zn0 (zD6_3 ht)) ?_
    refine z_alenR C (2 : Int32) d5_textOf_9 (zD6_3 ht) (by decide) (by decide) kO_2 ?_
    refine z_icmp_lt C d5_textOf_10 (fun c2 => ?_) (fun c2 => ?_)
    · have hf := zit c2 hf
      refine z_aload_n C d5_textOf_17 rfl ?_
      refine z_getR C d5_textOf_18 fl_120 ht (t + 3) rfl (zn0 (zD6_3 ht)) ?_
      refine z_iload_n C d5_textOf_21 rfl ?_
      obtain ⟨g3, hf⟩ := zgo hf
      refine z_aald C d5_textOf_22 (zD6_3 ht) (by decide) (by decide) g3 (t + 21 + 3 * x1.toNatClampNeg) (by show (t + 3) + 18 + 3 * x1.toNatClampNeg = (t + 21 + 3 * x1.toNatClampNeg); omega) (zn0 (zE13 ht g3)) ?_
      exact z_aret C d5_textOf_23 hf
    · have hf := zie c2 hf
      refine z_null C d5_textOf_13 ?_
      refine z_goto C d5_textOf_14 ?_
      exact z_aret C d5_textOf_23 hf
theorem d6_joined_0 : zd b6_joined 0 (.iload_n 0) 1 1 := ⟨by decide +kernel, rfl⟩
theorem d6_joined_1 : decode b6_joined 1 = .ok ((.lookupswitch 168 #[(38, 97), (42, 152), (43, 144), (45, 148), (47, 156), (60, 111), (61, 122), (62, 133), (124, 83)]), 83) := by decide +kernel
theorem d6_joined_84 : zd b6_joined 84 (.iload_n 1) 1 85 := ⟨by decide +kernel, rfl⟩
theorem d6_joined_85 : zdb b6_joined 85 (.ifCond .ne 7) 7 88 92 := ⟨by decide +kernel, rfl, by decide⟩
theorem d6_joined_88 : zd b6_joined 88 (.iload_n 2) 1 89 := ⟨by decide +kernel, rfl⟩
theorem d6_joined_89 : zdb b6_joined 89 (.ifCond .eq 7) 7 92 96 := ⟨by decide +kernel, rfl, by decide⟩
theorem d6_joined_92 : zd b6_joined 92 (.iconst 1) 1 93 := ⟨by decide +kernel, rfl⟩
theorem d6_joined_93 : zdb b6_joined 93 (.goto 4) 4 96 97 := ⟨by decide +kernel, rfl, by decide⟩
theorem d6_joined_96 : zd b6_joined 96 (.iconst 0) 1 97 := ⟨by decide +kernel, rfl⟩
theorem d6_joined_97 : zd b6_joined 97 .ireturn 1 98 := ⟨by decide +kernel, rfl⟩
theorem d6_joined_98 : zd b6_joined 98 (.iload_n 1) 1 99 := ⟨by decide +kernel, rfl⟩
theorem d6_joined_99 : zdb b6_joined 99 (.ifCond .eq 11) 11 102 110 := ⟨by decide +kernel, rfl, by decide⟩
theorem d6_joined_102 : zd b6_joined 102 (.iload_n 2) 1 103 := ⟨by decide +kernel, rfl⟩
theorem d6_joined_103 : zdb b6_joined 103 (.ifCond .eq 7) 7 106 110 := ⟨by decide +kernel, rfl, by decide⟩
theorem d6_joined_106 : zd b6_joined 106 (.iconst 1) 1 107 := ⟨by decide +kernel, rfl⟩
theorem d6_joined_107 : zdb b6_joined 107 (.goto 4) 4 110 111 := ⟨by decide +kernel, rfl, by decide⟩
theorem d6_joined_110 : zd b6_joined 110 (.iconst 0) 1 111 := ⟨by decide +kernel, rfl⟩
theorem d6_joined_111 : zd b6_joined 111 .ireturn 1 112 := ⟨by decide +kernel, rfl⟩
theorem d6_joined_112 : zd b6_joined 112 (.iload_n 1) 1 113 := ⟨by decide +kernel, rfl⟩
theorem d6_joined_113 : zd b6_joined 113 (.iload_n 2) 1 114 := ⟨by decide +kernel, rfl⟩
theorem d6_joined_114 : zdb b6_joined 114 (.if_icmp .ge 7) 7 117 121 := ⟨by decide +kernel, rfl, by decide⟩
theorem d6_joined_117 : zd b6_joined 117 (.iconst 1) 1 118 := ⟨by decide +kernel, rfl⟩
theorem d6_joined_118 : zdb b6_joined 118 (.goto 4) 4 121 122 := ⟨by decide +kernel, rfl, by decide⟩
theorem d6_joined_121 : zd b6_joined 121 (.iconst 0) 1 122 := ⟨by decide +kernel, rfl⟩
theorem d6_joined_122 : zd b6_joined 122 .ireturn 1 123 := ⟨by decide +kernel, rfl⟩
theorem d6_joined_123 : zd b6_joined 123 (.iload_n 1) 1 124 := ⟨by decide +kernel, rfl⟩
theorem d6_joined_124 : zd b6_joined 124 (.iload_n 2) 1 125 := ⟨by decide +kernel, rfl⟩
theorem d6_joined_125 : zdb b6_joined 125 (.if_icmp .ne 7) 7 128 132 := ⟨by decide +kernel, rfl, by decide⟩
theorem d6_joined_128 : zd b6_joined 128 (.iconst 1) 1 129 := ⟨by decide +kernel, rfl⟩
theorem d6_joined_129 : zdb b6_joined 129 (.goto 4) 4 132 133 := ⟨by decide +kernel, rfl, by decide⟩
theorem d6_joined_132 : zd b6_joined 132 (.iconst 0) 1 133 := ⟨by decide +kernel, rfl⟩
theorem d6_joined_133 : zd b6_joined 133 .ireturn 1 134 := ⟨by decide +kernel, rfl⟩
theorem d6_joined_134 : zd b6_joined 134 (.iload_n 1) 1 135 := ⟨by decide +kernel, rfl⟩
theorem d6_joined_135 : zd b6_joined 135 (.iload_n 2) 1 136 := ⟨by decide +kernel, rfl⟩
theorem d6_joined_136 : zdb b6_joined 136 (.if_icmp .le 7) 7 139 143 := ⟨by decide +kernel, rfl, by decide⟩
theorem d6_joined_139 : zd b6_joined 139 (.iconst 1) 1 140 := ⟨by decide +kernel, rfl⟩
theorem d6_joined_140 : zdb b6_joined 140 (.goto 4) 4 143 144 := ⟨by decide +kernel, rfl, by decide⟩
theorem d6_joined_143 : zd b6_joined 143 (.iconst 0) 1 144 := ⟨by decide +kernel, rfl⟩
theorem d6_joined_144 : zd b6_joined 144 .ireturn 1 145 := ⟨by decide +kernel, rfl⟩
theorem d6_joined_145 : zd b6_joined 145 (.iload_n 1) 1 146 := ⟨by decide +kernel, rfl⟩
theorem d6_joined_146 : zd b6_joined 146 (.iload_n 2) 1 147 := ⟨by decide +kernel, rfl⟩
theorem d6_joined_147 : zd b6_joined 147 .iadd 1 148 := ⟨by decide +kernel, rfl⟩
theorem d6_joined_148 : zd b6_joined 148 .ireturn 1 149 := ⟨by decide +kernel, rfl⟩
theorem d6_joined_149 : zd b6_joined 149 (.iload_n 1) 1 150 := ⟨by decide +kernel, rfl⟩
theorem d6_joined_150 : zd b6_joined 150 (.iload_n 2) 1 151 := ⟨by decide +kernel, rfl⟩
theorem d6_joined_151 : zd b6_joined 151 .isub 1 152 := ⟨by decide +kernel, rfl⟩
theorem d6_joined_152 : zd b6_joined 152 .ireturn 1 153 := ⟨by decide +kernel, rfl⟩
theorem d6_joined_153 : zd b6_joined 153 (.iload_n 1) 1 154 := ⟨by decide +kernel, rfl⟩
theorem d6_joined_154 : zd b6_joined 154 (.iload_n 2) 1 155 := ⟨by decide +kernel, rfl⟩
theorem d6_joined_155 : zd b6_joined 155 .imul 1 156 := ⟨by decide +kernel, rfl⟩
theorem d6_joined_156 : zd b6_joined 156 .ireturn 1 157 := ⟨by decide +kernel, rfl⟩
theorem d6_joined_157 : zd b6_joined 157 (.iload_n 2) 1 158 := ⟨by decide +kernel, rfl⟩
theorem d6_joined_158 : zdb b6_joined 158 (.ifCond .ne 7) 7 161 165 := ⟨by decide +kernel, rfl, by decide⟩
theorem d6_joined_161 : zd b6_joined 161 (.iconst 0) 1 162 := ⟨by decide +kernel, rfl⟩
theorem d6_joined_162 : zdb b6_joined 162 (.goto 6) 6 165 168 := ⟨by decide +kernel, rfl, by decide⟩
theorem d6_joined_165 : zd b6_joined 165 (.iload_n 1) 1 166 := ⟨by decide +kernel, rfl⟩
theorem d6_joined_166 : zd b6_joined 166 (.iload_n 2) 1 167 := ⟨by decide +kernel, rfl⟩
theorem d6_joined_167 : zd b6_joined 167 .idiv 1 168 := ⟨by decide +kernel, rfl⟩
theorem d6_joined_168 : zd b6_joined 168 .ireturn 1 169 := ⟨by decide +kernel, rfl⟩
theorem d6_joined_169 : zd b6_joined 169 (.iload_n 2) 1 170 := ⟨by decide +kernel, rfl⟩
theorem d6_joined_170 : zdb b6_joined 170 (.ifCond .ne 7) 7 173 177 := ⟨by decide +kernel, rfl, by decide⟩
theorem d6_joined_173 : zd b6_joined 173 (.iconst 0) 1 174 := ⟨by decide +kernel, rfl⟩
theorem d6_joined_174 : zdb b6_joined 174 (.goto 6) 6 177 180 := ⟨by decide +kernel, rfl, by decide⟩
theorem d6_joined_177 : zd b6_joined 177 (.iload_n 1) 1 178 := ⟨by decide +kernel, rfl⟩
theorem d6_joined_178 : zd b6_joined 178 (.iload_n 2) 1 179 := ⟨by decide +kernel, rfl⟩
theorem d6_joined_179 : zd b6_joined 179 .irem 1 180 := ⟨by decide +kernel, rfl⟩
theorem d6_joined_180 : zd b6_joined 180 .ireturn 1 181 := ⟨by decide +kernel, rfl⟩
def f6_joined (k : Nat) (x0 : Int32) (x1 : Int32) (x2 : Int32) (σ : ZS) : Option (Int32 × ZS) :=
  if x0 = (38 : Int32) then (
  if x1 = 0 then (
  some ((0 : Int32), σ))
  else (
  if x2 = 0 then (
  some ((0 : Int32), σ))
  else (
  some ((1 : Int32), σ))))
  else (
  if x0 = (42 : Int32) then (
  some ((x1 * x2), σ))
  else (
  if x0 = (43 : Int32) then (
  some ((x1 + x2), σ))
  else (
  if x0 = (45 : Int32) then (
  some ((x1 - x2), σ))
  else (
  if x0 = (47 : Int32) then (
  if x2 = 0 then (
  some ((0 : Int32), σ))
  else (
  if ¬ x2 = 0 then (
  some ((x1 / x2), σ)) else none))
  else (
  if x0 = (60 : Int32) then (
  if x2 ≤ x1 then (
  some ((0 : Int32), σ))
  else (
  some ((1 : Int32), σ)))
  else (
  if x0 = (61 : Int32) then (
  if x1 = x2 then (
  some ((1 : Int32), σ))
  else (
  some ((0 : Int32), σ)))
  else (
  if x0 = (62 : Int32) then (
  if x1 ≤ x2 then (
  some ((0 : Int32), σ))
  else (
  some ((1 : Int32), σ)))
  else (
  if x0 = (124 : Int32) then (
  if x1 = 0 then (
  if x2 = 0 then (
  some ((0 : Int32), σ))
  else (
  some ((1 : Int32), σ)))
  else (
  some ((1 : Int32), σ)))
  else (
  if x2 = 0 then (
  some ((0 : Int32), σ))
  else (
  if ¬ x2 = 0 then (
  some ((x1 % x2), σ)) else none))))))))))
theorem c6_joined (l : Launch) (g : ZG) {k : Nat} {x0 : Int32} {x1 : Int32} {x2 : Int32} {σ : ZS} {r : Int32} {σr : ZS} (hf : f6_joined k x0 x1 x2 σ = some (r, σr)) : zT l g y6_joined b6_joined 3 (some .int) 1 60 [zi x0, zi x1, zi x2] σ (some (zi r)) σr := by
  unfold f6_joined at hf
  refine zT_start (own := R6) rfl (by decide +kernel) 0 (L := [some (zi x0), some (zi x1), some (zi x2)]) rfl rfl (fun x hl C => ?_)
  subst hl
  refine z_iload_n C d6_joined_0 rfl ?_
  refine z_lsw C [((38 : Int32), 98), ((42 : Int32), 153), ((43 : Int32), 145), ((45 : Int32), 149), ((47 : Int32), 157), ((60 : Int32), 112), ((61 : Int32), 123), ((62 : Int32), 134), ((124 : Int32), 84)] (d := 169) d6_joined_1 (by decide +kernel) (by decide) (by decide +kernel) ?_
  refine z_swc (fun c1 => ?_) (fun c1 => ?_)
  · have hf := zit c1 hf
    refine z_iload_n C d6_joined_98 rfl ?_
    refine z_if_eq C d6_joined_99 (fun c2 => ?_) (fun c2 => ?_)
    · have hf := zit c2 hf
      refine z_iconst C (0 : Int32) d6_joined_110 kI_0 ?_
      exact z_iret C d6_joined_111 hf
    · have hf := zie c2 hf
      refine z_iload_n C d6_joined_102 rfl ?_
      refine z_if_eq C d6_joined_103 (fun c3 => ?_) (fun c3 => ?_)
      · have hf := zit c3 hf
        refine z_iconst C (0 : Int32) d6_joined_110 kI_0 ?_
        exact z_iret C d6_joined_111 hf
      · have hf := zie c3 hf
        refine z_iconst C (1 : Int32) d6_joined_106 kI_1 ?_
        refine z_goto C d6_joined_107 ?_
        exact z_iret C d6_joined_111 hf
  · have hf := zie c1 hf
    refine z_swc (fun c4 => ?_) (fun c4 => ?_)
    · have hf := zit c4 hf
      refine z_iload_n C d6_joined_153 rfl ?_
      refine z_iload_n C d6_joined_154 rfl ?_
      refine z_imul C d6_joined_155 ?_
      exact z_iret C d6_joined_156 hf
    · have hf := zie c4 hf
      refine z_swc (fun c5 => ?_) (fun c5 => ?_)
      · have hf := zit c5 hf
        refine z_iload_n C d6_joined_145 rfl ?_
        refine z_iload_n C d6_joined_146 rfl ?_
        refine z_iadd C d6_joined_147 ?_
        exact z_iret C d6_joined_148 hf
      · have hf := zie c5 hf
        refine z_swc (fun c6 => ?_) (fun c6 => ?_)
        · have hf := zit c6 hf
          refine z_iload_n C d6_joined_149 rfl ?_
          refine z_iload_n C d6_joined_150 rfl ?_
          refine z_isub C d6_joined_151 ?_
          exact z_iret C d6_joined_152 hf
        · have hf := zie c6 hf
          refine z_swc (fun c7 => ?_) (fun c7 => ?_)
          · have hf := zit c7 hf
            refine z_iload_n C d6_joined_157 rfl ?_
            refine z_if_ne C d6_joined_158 (fun c8 => ?_) (fun c8 => ?_)
            · have hf := zit c8 hf
              refine z_iconst C (0 : Int32) d6_joined_161 kI_0 ?_
              refine z_goto C d6_joined_162 ?_
              exact z_iret C d6_joined_168 hf
            · have hf := zie c8 hf
              refine z_iload_n C d6_joined_165 rfl ?_
              refine z_iload_n C d6_joined_166 rfl ?_
              obtain ⟨g9, hf⟩ := zgo hf
              refine z_idiv C d6_joined_167 g9 ?_
              exact z_iret C d6_joined_168 hf
          · have hf := zie c7 hf
            refine z_swc (fun c10 => ?_) (fun c10 => ?_)
            · have hf := zit c10 hf
              refine z_iload_n C d6_joined_112 rfl ?_
              refine z_iload_n C d6_joined_113 rfl ?_
              refine z_icmp_ge C d6_joined_114 (fun c11 => ?_) (fun c11 => ?_)
              · have hf := zit c11 hf
                refine z_iconst C (0 : Int32) d6_joined_121 kI_0 ?_
                exact z_iret C d6_joined_122 hf
              · have hf := zie c11 hf
                refine z_iconst C (1 : Int32) d6_joined_117 kI_1 ?_
                refine z_goto C d6_joined_118 ?_
                exact z_iret C d6_joined_122 hf
            · have hf := zie c10 hf
              refine z_swc (fun c12 => ?_) (fun c12 => ?_)
              · have hf := zit c12 hf
                refine z_iload_n C d6_joined_123 rfl ?_
                refine z_iload_n C d6_joined_124 rfl ?_
                refine z_icmp_ne C d6_joined_125 (fun c13 => ?_) (fun c13 => ?_)
                · have hf := zit c13 hf
                  refine z_iconst C (1 : Int32) d6_joined_128 kI_1 ?_
                  refine z_goto C d6_joined_129 ?_
                  exact z_iret C d6_joined_133 hf
                · have hf := zie c13 hf
                  refine z_iconst C (0 : Int32) d6_joined_132 kI_0 ?_
                  exact z_iret C d6_joined_133 hf
              · have hf := zie c12 hf
                refine z_swc (fun c14 => ?_) (fun c14 => ?_)
                · have hf := zit c14 hf
                  refine z_iload_n C d6_joined_134 rfl ?_
                  refine z_iload_n C d6_joined_135 rfl ?_
                  refine z_icmp_le C d6_joined_136 (fun c15 => ?_) (fun c15 => ?_)
                  · have hf := zit c15 hf
                    refine z_iconst C (0 : Int32) d6_joined_143 kI_0 ?_
                    exact z_iret C d6_joined_144 hf
                  · have hf := zie c15 hf
                    refine z_iconst C (1 : Int32) d6_joined_139 kI_1 ?_
                    refine z_goto C d6_joined_140 ?_
                    exact z_iret C d6_joined_144 hf
                · have hf := zie c14 hf
                  refine z_swc (fun c16 => ?_) (fun c16 => ?_)
                  · have hf := zit c16 hf
                    refine z_iload_n C d6_joined_84 rfl ?_
                    refine z_if_ne C d6_joined_85 (fun c17 => ?_) (fun c17 => ?_)
                    · have hf := zit c17 hf
                      refine z_iload_n C d6_joined_88 rfl ?_
                      refine z_if_eq C d6_joined_89 (fun c18 => ?_) (fun c18 => ?_)
                      · have hf := zit c18 hf
                        refine z_iconst C (0 : Int32) d6_joined_96 kI_0 ?_
                        exact z_iret C d6_joined_97 hf
                      · have hf := zie c18 hf
                        refine z_iconst C (1 : Int32) d6_joined_92 kI_1 ?_
                        refine z_goto C d6_joined_93 ?_
                        exact z_iret C d6_joined_97 hf
                    · have hf := zie c17 hf
                      refine z_iconst C (1 : Int32) d6_joined_92 kI_1 ?_
                      refine z_goto C d6_joined_93 ?_
                      exact z_iret C d6_joined_97 hf
                  · have hf := zie c16 hf
                    refine z_sw0 ?_
                    refine z_iload_n C d6_joined_169 rfl ?_
                    refine z_if_ne C d6_joined_170 (fun c19 => ?_) (fun c19 => ?_)
                    · have hf := zit c19 hf
                      refine z_iconst C (0 : Int32) d6_joined_173 kI_0 ?_
                      refine z_goto C d6_joined_174 ?_
                      exact z_iret C d6_joined_180 hf
                    · have hf := zie c19 hf
                      refine z_iload_n C d6_joined_177 rfl ?_
                      refine z_iload_n C d6_joined_178 rfl ?_
                      obtain ⟨g20, hf⟩ := zgo hf
                      refine z_irem C d6_joined_179 g20 ?_
                      exact z_iret C d6_joined_180 hf
