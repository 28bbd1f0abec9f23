/-! methods, printed by wip/whole/gen: GlassTaxModel.drawn, GlassTaxModel.dueOf, GlassTaxModel.plainGleams, GlassTaxModel.spoonGleams, GlassTaxModel.gleams, GlassTaxModel.plainGlints, GlassTaxModel.paneGlints, GlassTaxModel.glints, GlassTaxModel.plainFades, GlassTaxModel.fades, GlassTaxModel.feed, GlassTaxModel.isSheet, GlassTaxModel.isSo, GlassTaxModel.fits, GlassTaxModel.glass, GlassTaxModel.glassIs, GlassTaxModel.goes, GlassTaxModel.hang, GlassTaxModel.hour, GlassTaxModel.hours, GlassTaxModel.image, GlassTaxModel.notThere, GlassTaxModel.judge, GlassTaxModel.law -/
theorem d9_drawn_0 : zd b9_drawn 0 (.aload_n 0) 1 1 := ⟨by decide +kernel, rfl⟩
theorem d9_drawn_1 : zd b9_drawn 1 (.invokevirtual 214) 3 4 := ⟨by decide +kernel, rfl⟩
theorem d9_drawn_4 : zd b9_drawn 4 (.aload_n 0) 1 5 := ⟨by decide +kernel, rfl⟩
theorem d9_drawn_5 : zd b9_drawn 5 (.getfield 9) 3 8 := ⟨by decide +kernel, rfl⟩
theorem d9_drawn_8 : zd b9_drawn 8 (.iconst 3) 1 9 := ⟨by decide +kernel, rfl⟩
theorem d9_drawn_9 : zd b9_drawn 9 .iaload 1 10 := ⟨by decide +kernel, rfl⟩
theorem d9_drawn_10 : zd b9_drawn 10 .irem 1 11 := ⟨by decide +kernel, rfl⟩
theorem d9_drawn_11 : zd b9_drawn 11 (.istore_n 1) 1 12 := ⟨by decide +kernel, rfl⟩
theorem d9_drawn_12 : zd b9_drawn 12 (.aload_n 0) 1 13 := ⟨by decide +kernel, rfl⟩
theorem d9_drawn_13 : zd b9_drawn 13 (.invokevirtual 214) 3 16 := ⟨by decide +kernel, rfl⟩
theorem d9_drawn_16 : zd b9_drawn 16 (.sipush 256) 3 19 := ⟨by decide +kernel, rfl⟩
theorem d9_drawn_19 : zd b9_drawn 19 .irem 1 20 := ⟨by decide +kernel, rfl⟩
theorem d9_drawn_20 : zd b9_drawn 20 (.istore_n 2) 1 21 := ⟨by decide +kernel, rfl⟩
theorem d9_drawn_21 : zd b9_drawn 21 (.aload_n 0) 1 22 := ⟨by decide +kernel, rfl⟩
theorem d9_drawn_22 : zd b9_drawn 22 (.getfield 9) 3 25 := ⟨by decide +kernel, rfl⟩
theorem d9_drawn_25 : zd b9_drawn 25 (.bipush 46) 2 27 := ⟨by decide +kernel, rfl⟩
theorem d9_drawn_27 : zd b9_drawn 27 (.iconst 3) 1 28 := ⟨by decide +kernel, rfl⟩
theorem d9_drawn_28 : zd b9_drawn 28 (.iload_n 1) 1 29 := ⟨by decide +kernel, rfl⟩
theorem d9_drawn_29 : zd b9_drawn 29 .imul 1 30 := ⟨by decide +kernel, rfl⟩
theorem d9_drawn_30 : zd b9_drawn 30 .iadd 1 31 := ⟨by decide +kernel, rfl⟩
theorem d9_drawn_31 : zd b9_drawn 31 (.iload_n 2) 1 32 := ⟨by decide +kernel, rfl⟩
theorem d9_drawn_32 : zd b9_drawn 32 (.iconst 4) 1 33 := ⟨by decide +kernel, rfl⟩
theorem d9_drawn_33 : zd b9_drawn 33 .idiv 1 34 := ⟨by decide +kernel, rfl⟩
theorem d9_drawn_34 : zd b9_drawn 34 .iastore 1 35 := ⟨by decide +kernel, rfl⟩
theorem d9_drawn_35 : zd b9_drawn 35 (.aload_n 0) 1 36 := ⟨by decide +kernel, rfl⟩
theorem d9_drawn_36 : zd b9_drawn 36 (.getfield 9) 3 39 := ⟨by decide +kernel, rfl⟩
theorem d9_drawn_39 : zd b9_drawn 39 (.bipush 46) 2 41 := ⟨by decide +kernel, rfl⟩
theorem d9_drawn_41 : zd b9_drawn 41 (.iconst 3) 1 42 := ⟨by decide +kernel, rfl⟩
theorem d9_drawn_42 : zd b9_drawn 42 (.iload_n 1) 1 43 := ⟨by decide +kernel, rfl⟩
theorem d9_drawn_43 : zd b9_drawn 43 .imul 1 44 := ⟨by decide +kernel, rfl⟩
theorem d9_drawn_44 : zd b9_drawn 44 .iadd 1 45 := ⟨by decide +kernel, rfl⟩
theorem d9_drawn_45 : zd b9_drawn 45 (.iconst 1) 1 46 := ⟨by decide +kernel, rfl⟩
theorem d9_drawn_46 : zd b9_drawn 46 .iadd 1 47 := ⟨by decide +kernel, rfl⟩
theorem d9_drawn_47 : zd b9_drawn 47 (.iload_n 2) 1 48 := ⟨by decide +kernel, rfl⟩
theorem d9_drawn_48 : zd b9_drawn 48 (.iconst 4) 1 49 := ⟨by decide +kernel, rfl⟩
theorem d9_drawn_49 : zd b9_drawn 49 .irem 1 50 := ⟨by decide +kernel, rfl⟩
theorem d9_drawn_50 : zd b9_drawn 50 .iastore 1 51 := ⟨by decide +kernel, rfl⟩
theorem d9_drawn_51 : zd b9_drawn 51 .return_ 1 52 := ⟨by decide +kernel, rfl⟩
def f9_drawn (k : Nat)  (σ : ZS) : Option (Unit × ZS) :=
  zbd (f9_draw k σ) fun r1 s1 =>
  if ¬ (s1 104 3) = 0 then (
  zbd (f9_draw k s1) fun r3 s3 =>
  if zin ((46 : Int32) + ((3 : Int32) * (r1 % (s1 104 3)))) 390 then (
  zput (zu s3 104 (((46 : Int32) + ((3 : Int32) * (r1 % (s1 104 3)))).toNatClampNeg) ((r3 % (256 : Int32)) / (4 : Int32))) fun s5 =>
  if zin (((46 : Int32) + ((3 : Int32) * (r1 % (s1 104 3)))) + (1 : Int32)) 390 then (
  zput (zu s5 104 ((((46 : Int32) + ((3 : Int32) * (r1 % (s1 104 3)))) + (1 : Int32)).toNatClampNeg) ((r3 % (256 : Int32)) % (4 : Int32))) fun s7 =>
  some ((), s7)) else none) else none) else none
theorem c9_drawn (l : Launch) (g : ZG) {k : Nat}  {σ : ZS} {r : Unit} {σr : ZS} (hf : f9_drawn k  σ = some (r, σr)) : zT l g y9_drawn b9_drawn 3 none 2 80 [zr 103] σ none σr := by
  unfold f9_drawn at hf
  refine zT_start (own := R9) rfl (by decide +kernel) 2 (L := [some (zr 103), none, none]) rfl rfl (fun x hl C => ?_)
  subst hl
  refine z_aload_n C d9_drawn_0 rfl ?_
  obtain ⟨r1, s1, h1, hf⟩ := zbx hf
  refine z_callVi C (as := []) d9_drawn_1 w_1121 yy9_draw (c9_draw x.2.1 g h1) yc9_draw kZ_103 rfl rfl (Nat.le_of_ble_eq_true rfl) ⟨Nat.le_of_ble_eq_true rfl, Nat.le_of_ble_eq_true rfl⟩ ⟨Nat.zero_le _, Nat.zero_le _⟩ ?_
  refine z_aload_n C d9_drawn_4 rfl ?_
  refine z_getR C d9_drawn_5 fl_817 kZ_103 104 rfl (zn0 kZ_104) ?_
  refine z_iconst C (3 : Int32) d9_drawn_8 kI_3 ?_
  refine z_iald C d9_drawn_9 kZ_104 kL_104 ⟨by decide, by decide⟩ (3) kN_3 ?_
  obtain ⟨g2, hf⟩ := zgo hf
  refine z_irem C d9_drawn_10 g2 ?_
  refine z_istore_n C d9_drawn_11 (Nat.le_of_ble_eq_true rfl) rfl (L' := [some (zr 103), some (zi (r1 % (s1 104 3))), none]) rfl ?_
  refine z_aload_n C d9_drawn_12 rfl ?_
  obtain ⟨r3, s3, h3, hf⟩ := zbx hf
  refine z_callVi C (as := []) d9_drawn_13 w_1121 yy9_draw (c9_draw x.2.1 g h3) yc9_draw kZ_103 rfl rfl (Nat.le_of_ble_eq_true rfl) ⟨Nat.le_of_ble_eq_true rfl, Nat.le_of_ble_eq_true rfl⟩ ⟨Nat.zero_le _, Nat.zero_le _⟩ ?_
  refine z_sipush C (256 : Int32) d9_drawn_16 kS_256 ?_
  refine z_irem C d9_drawn_19 (by decide) ?_
  refine z_istore_n C d9_drawn_20 (Nat.le_of_ble_eq_true rfl) rfl (L' := [some (zr 103), some (zi (r1 % (s1 104 3))), some (zi (r3 % (256 : Int32)))]) rfl ?_
  refine z_aload_n C d9_drawn_21 rfl ?_
  refine z_getR C d9_drawn_22 fl_817 kZ_103 104 rfl (zn0 kZ_104) ?_
  refine z_bipush C (46 : Int32) d9_drawn_25 kB_46 ?_
  refine z_iconst C (3 : Int32) d9_drawn_27 kI_3 ?_
  refine z_iload_n C d9_drawn_28 rfl ?_
  refine z_imul C d9_drawn_29 ?_
  refine z_iadd C d9_drawn_30 ?_
  refine z_iload_n C d9_drawn_31 rfl ?_
  refine z_iconst C (4 : Int32) d9_drawn_32 kI_4 ?_
  refine z_idiv C d9_drawn_33 (by decide) ?_
  obtain ⟨g4, hf⟩ := zgo hf
  obtain ⟨s5, e5, hf⟩ := zpx hf
  refine z_iast C d9_drawn_34 kZ_104 kL_104 g4 rfl e5 ?_
  refine z_aload_n C d9_drawn_35 rfl ?_
  refine z_getR C d9_drawn_36 fl_817 kZ_103 104 rfl (zn0 kZ_104) ?_
  refine z_bipush C (46 : Int32) d9_drawn_39 kB_46 ?_
  refine z_iconst C (3 : Int32) d9_drawn_41 kI_3 ?_
  refine z_iload_n C d9_drawn_42 rfl ?_
  refine z_imul C d9_drawn_43 ?_
  refine z_iadd C d9_drawn_44 ?_
  refine z_iconst C (1 : Int32) d9_drawn_45 kI_1 ?_
  refine z_iadd C d9_drawn_46 ?_
  refine z_iload_n C d9_drawn_47 rfl ?_
  refine z_iconst C (4 : Int32) d9_drawn_48 kI_4 ?_
  refine z_irem C d9_drawn_49 (by decide) ?_
  obtain ⟨g6, hf⟩ := zgo hf
  obtain ⟨s7, e7, hf⟩ := zpx hf
  refine z_iast C d9_drawn_50 kZ_104 kL_104 g6 rfl e7 ?_
  exact z_vret C d9_drawn_51 hf
theorem d9_dueOf_0 : zd b9_dueOf 0 (.aload_n 0) 1 1 := ⟨by decide +kernel, rfl⟩
theorem d9_dueOf_1 : zd b9_dueOf 1 (.iload_n 1) 1 2 := ⟨by decide +kernel, rfl⟩
theorem d9_dueOf_2 : zd b9_dueOf 2 (.invokevirtual 116) 3 5 := ⟨by decide +kernel, rfl⟩
theorem d9_dueOf_5 : zd b9_dueOf 5 (.aload_n 0) 1 6 := ⟨by decide +kernel, rfl⟩
theorem d9_dueOf_6 : zd b9_dueOf 6 (.iconst 1) 1 7 := ⟨by decide +kernel, rfl⟩
theorem d9_dueOf_7 : zd b9_dueOf 7 (.aload_n 0) 1 8 := ⟨by decide +kernel, rfl⟩
theorem d9_dueOf_8 : zd b9_dueOf 8 (.getfield 82) 3 11 := ⟨by decide +kernel, rfl⟩
theorem d9_dueOf_11 : zd b9_dueOf 11 (.aload_n 0) 1 12 := ⟨by decide +kernel, rfl⟩
theorem d9_dueOf_12 : zd b9_dueOf 12 (.getfield 9) 3 15 := ⟨by decide +kernel, rfl⟩
theorem d9_dueOf_15 : zd b9_dueOf 15 (.iconst 0) 1 16 := ⟨by decide +kernel, rfl⟩
theorem d9_dueOf_16 : zd b9_dueOf 16 .iaload 1 17 := ⟨by decide +kernel, rfl⟩
theorem d9_dueOf_17 : zd b9_dueOf 17 (.bipush 24) 2 19 := ⟨by decide +kernel, rfl⟩
theorem d9_dueOf_19 : zd b9_dueOf 19 .irem 1 20 := ⟨by decide +kernel, rfl⟩
theorem d9_dueOf_20 : zd b9_dueOf 20 (.iload_n 1) 1 21 := ⟨by decide +kernel, rfl⟩
theorem d9_dueOf_21 : zd b9_dueOf 21 (.invokevirtual 85) 3 24 := ⟨by decide +kernel, rfl⟩
theorem d9_dueOf_24 : zd b9_dueOf 24 .ireturn 1 25 := ⟨by decide +kernel, rfl⟩
def f9_dueOf (k : Nat) (x1 : Int32) (σ : ZS) : Option (Int32 × ZS) :=
  zbd (f9_looksOf k x1 σ) fun _ s1 =>
  zbd (f9_gives k (1 : Int32) (s1 103 12) ((s1 104 0) % (24 : Int32)) x1 s1) fun r2 s2 =>
  some (r2, s2)
theorem c9_dueOf (l : Launch) (g : ZG) {k : Nat} {x1 : Int32} {σ : ZS} {r : Int32} {σr : ZS} (hf : f9_dueOf k x1 σ = some (r, σr)) : zT l g y9_dueOf b9_dueOf 2 (some .int) 7 201 [zr 103, zi x1] σ (some (zi r)) σr := by
  unfold f9_dueOf at hf
  refine zT_start (own := R9) rfl (by decide +kernel) 0 (L := [some (zr 103), some (zi x1)]) rfl rfl (fun x hl C => ?_)
  subst hl
  refine z_aload_n C d9_dueOf_0 rfl ?_
  refine z_iload_n C d9_dueOf_1 rfl ?_
  obtain ⟨r1, s1, h1, hf⟩ := zbx hf
  refine z_callVv C (as := [zi x1]) d9_dueOf_2 w_998 yy9_looksOf (c9_looksOf x.2.1 g h1) yc9_looksOf kZ_103 rfl rfl (Nat.le_of_ble_eq_true rfl) ⟨Nat.le_of_ble_eq_true rfl, Nat.le_of_ble_eq_true rfl⟩ ⟨Nat.zero_le _, Nat.zero_le _⟩ ?_
  refine z_aload_n C d9_dueOf_5 rfl ?_
  refine z_iconst C (1 : Int32) d9_dueOf_6 kI_1 ?_
  refine z_aload_n C d9_dueOf_7 rfl ?_
  refine z_getI C d9_dueOf_8 fl_829 kZ_103 ?_
  refine z_aload_n C d9_dueOf_11 rfl ?_
  refine z_getR C d9_dueOf_12 fl_817 kZ_103 104 rfl (zn0 kZ_104) ?_
  refine z_iconst C (0 : Int32) d9_dueOf_15 kI_0 ?_
  refine z_iald C d9_dueOf_16 kZ_104 kL_104 ⟨by decide, by decide⟩ (0) kN_0 ?_
  refine z_bipush C (24 : Int32) d9_dueOf_17 kB_24 ?_
  refine z_irem C d9_dueOf_19 (by decide) ?_
  refine z_iload_n C d9_dueOf_20 rfl ?_
  obtain ⟨r2, s2, h2, hf⟩ := zbx hf
  refine z_callVi C (as := [zi (1 : Int32), zi (s1 103 12), zi ((s1 104 0) % (24 : Int32)), zi x1]) d9_dueOf_21 w_1013 yy9_gives (c9_gives x.2.1 g h2) yc9_gives kZ_103 rfl rfl (Nat.le_of_ble_eq_true rfl) ⟨Nat.le_of_ble_eq_true rfl, Nat.le_of_ble_eq_true rfl⟩ ⟨Nat.zero_le _, Nat.zero_le _⟩ ?_
  exact z_iret C d9_dueOf_24 hf
theorem d9_plainGleams_0 : zd b9_plainGleams 0 (.aload_n 0) 1 1 := ⟨by decide +kernel, rfl⟩
theorem d9_plainGleams_1 : zd b9_plainGleams 1 (.bipush 10) 2 3 := ⟨by decide +kernel, rfl⟩
theorem d9_plainGleams_3 : zd b9_plainGleams 3 (.invokevirtual 251) 3 6 := ⟨by decide +kernel, rfl⟩
theorem d9_plainGleams_6 : zd b9_plainGleams 6 (.iload_n 2) 1 7 := ⟨by decide +kernel, rfl⟩
theorem d9_plainGleams_7 : zd b9_plainGleams 7 (.iload_n 1) 1 8 := ⟨by decide +kernel, rfl⟩
theorem d9_plainGleams_8 : zd b9_plainGleams 8 .iadd 1 9 := ⟨by decide +kernel, rfl⟩
theorem d9_plainGleams_9 : zd b9_plainGleams 9 .ireturn 1 10 := ⟨by decide +kernel, rfl⟩
def f9_plainGleams (k : Nat) (x1 : Int32) (x2 : Int32) (σ : ZS) : Option (Int32 × ZS) :=
  zbd (f9_begins k (10 : Int32) σ) fun _ s1 =>
  some ((x2 + x1), s1)
theorem c9_plainGleams (l : Launch) (g : ZG) {k : Nat} {x1 : Int32} {x2 : Int32} {σ : ZS} {r : Int32} {σr : ZS} (hf : f9_plainGleams k x1 x2 σ = some (r, σr)) : zT l g y9_plainGleams b9_plainGleams 3 (some .int) 2 81 [zr 103, zi x1, zi x2] σ (some (zi r)) σr := by
  unfold f9_plainGleams at hf
  refine zT_start (own := R9) rfl (by decide +kernel) 0 (L := [some (zr 103), some (zi x1), some (zi x2)]) rfl rfl (fun x hl C => ?_)
  subst hl
  refine z_aload_n C d9_plainGleams_0 rfl ?_
  refine z_bipush C (10 : Int32) d9_plainGleams_1 kB_10 ?_
  obtain ⟨r1, s1, h1, hf⟩ := zbx hf
  refine z_callVv C (as := [zi (10 : Int32)]) d9_plainGleams_3 w_1205 yy9_begins (c9_begins x.2.1 g h1) yc9_begins kZ_103 rfl rfl (Nat.le_of_ble_eq_true rfl) ⟨Nat.le_of_ble_eq_true rfl, Nat.le_of_ble_eq_true rfl⟩ ⟨Nat.zero_le _, Nat.zero_le _⟩ ?_
  refine z_iload_n C d9_plainGleams_6 rfl ?_
  refine z_iload_n C d9_plainGleams_7 rfl ?_
  refine z_iadd C d9_plainGleams_8 ?_
  exact z_iret C d9_plainGleams_9 hf
theorem d9_spoonGleams_0 : zd b9_spoonGleams 0 (.aload_n 0) 1 1 := ⟨by decide +kernel, rfl⟩
theorem d9_spoonGleams_1 : zd b9_spoonGleams 1 (.bipush 20) 2 3 := ⟨by decide +kernel, rfl⟩
theorem d9_spoonGleams_3 : zd b9_spoonGleams 3 (.invokevirtual 251) 3 6 := ⟨by decide +kernel, rfl⟩
theorem d9_spoonGleams_6 : zd b9_spoonGleams 6 (.aload_n 0) 1 7 := ⟨by decide +kernel, rfl⟩
theorem d9_spoonGleams_7 : zd b9_spoonGleams 7 (.iload_n 1) 1 8 := ⟨by decide +kernel, rfl⟩
theorem d9_spoonGleams_8 : zd b9_spoonGleams 8 (.iload_n 2) 1 9 := ⟨by decide +kernel, rfl⟩
theorem d9_spoonGleams_9 : zd b9_spoonGleams 9 (.invokevirtual 254) 3 12 := ⟨by decide +kernel, rfl⟩
theorem d9_spoonGleams_12 : zd b9_spoonGleams 12 (.iconst 4) 1 13 := ⟨by decide +kernel, rfl⟩
theorem d9_spoonGleams_13 : zd b9_spoonGleams 13 .isub 1 14 := ⟨by decide +kernel, rfl⟩
theorem d9_spoonGleams_14 : zd b9_spoonGleams 14 .ireturn 1 15 := ⟨by decide +kernel, rfl⟩
def f9_spoonGleams (k : Nat) (x1 : Int32) (x2 : Int32) (σ : ZS) : Option (Int32 × ZS) :=
  zbd (f9_begins k (20 : Int32) σ) fun _ s1 =>
  zbd (f9_plainGleams k x1 x2 s1) fun r2 s2 =>
  some ((r2 - (4 : Int32)), s2)
theorem c9_spoonGleams (l : Launch) (g : ZG) {k : Nat} {x1 : Int32} {x2 : Int32} {σ : ZS} {r : Int32} {σr : ZS} (hf : f9_spoonGleams k x1 x2 σ = some (r, σr)) : zT l g y9_spoonGleams b9_spoonGleams 3 (some .int) 3 103 [zr 103, zi x1, zi x2] σ (some (zi r)) σr := by
  unfold f9_spoonGleams at hf
  refine zT_start (own := R9) rfl (by decide +kernel) 0 (L := [some (zr 103), some (zi x1), some (zi x2)]) rfl rfl (fun x hl C => ?_)
  subst hl
  refine z_aload_n C d9_spoonGleams_0 rfl ?_
  refine z_bipush C (20 : Int32) d9_spoonGleams_1 kB_20 ?_
  obtain ⟨r1, s1, h1, hf⟩ := zbx hf
  refine z_callVv C (as := [zi (20 : Int32)]) d9_spoonGleams_3 w_1205 yy9_begins (c9_begins x.2.1 g h1) yc9_begins kZ_103 rfl rfl (Nat.le_of_ble_eq_true rfl) ⟨Nat.le_of_ble_eq_true rfl, Nat.le_of_ble_eq_true rfl⟩ ⟨Nat.zero_le _, Nat.zero_le _⟩ ?_
  refine z_aload_n C d9_spoonGleams_6 rfl ?_
  refine z_iload_n C d9_spoonGleams_7 rfl ?_
  refine z_iload_n C d9_spoonGleams_8 rfl ?_
  obtain ⟨r2, s2, h2, hf⟩ := zbx hf
  refine z_callVi C (as := [zi x1, zi x2]) d9_spoonGleams_9 w_1209 yy9_plainGleams (c9_plainGleams x.2.1 g h2) yc9_plainGleams kZ_103 rfl rfl (Nat.le_of_ble_eq_true rfl) ⟨Nat.le_of_ble_eq_true rfl, Nat.le_of_ble_eq_true rfl⟩ ⟨Nat.zero_le _, Nat.zero_le _⟩ ?_
  refine z_iconst C (4 : Int32) d9_spoonGleams_12 kI_4 ?_
  refine z_isub C d9_spoonGleams_13 ?_
  exact z_iret C d9_spoonGleams_14 hf
theorem d9_gleams_0 : zd b9_gleams 0 (.aload_n 0) 1 1 := ⟨by decide +kernel, rfl⟩
theorem d9_gleams_1 : zd b9_gleams 1 (.iload_n 1) 1 2 := ⟨by decide +kernel, rfl⟩
theorem d9_gleams_2 : zd b9_gleams 2 (.iconst 0) 1 3 := ⟨by decide +kernel, rfl⟩
theorem d9_gleams_3 : zd b9_gleams 3 (.invokevirtual 60) 3 6 := ⟨by decide +kernel, rfl⟩
theorem d9_gleams_6 : decode b9_gleams 6 = .ok ((.lookupswitch 65 #[(1, 34), (4, 41), (6, 56)]), 34) := by decide +kernel
theorem d9_gleams_40 : zd b9_gleams 40 (.aload_n 0) 1 41 := ⟨by decide +kernel, rfl⟩
theorem d9_gleams_41 : zd b9_gleams 41 (.iload_n 1) 1 42 := ⟨by decide +kernel, rfl⟩
theorem d9_gleams_42 : zd b9_gleams 42 (.iload_n 2) 1 43 := ⟨by decide +kernel, rfl⟩
theorem d9_gleams_43 : zd b9_gleams 43 (.invokevirtual 257) 3 46 := ⟨by decide +kernel, rfl⟩
theorem d9_gleams_46 : zd b9_gleams 46 .ireturn 1 47 := ⟨by decide +kernel, rfl⟩
theorem d9_gleams_47 : zd b9_gleams 47 (.aload_n 0) 1 48 := ⟨by decide +kernel, rfl⟩
theorem d9_gleams_48 : zd b9_gleams 48 (.bipush 50) 2 50 := ⟨by decide +kernel, rfl⟩
theorem d9_gleams_50 : zd b9_gleams 50 (.invokevirtual 251) 3 53 := ⟨by decide +kernel, rfl⟩
theorem d9_gleams_53 : zd b9_gleams 53 (.aload_n 0) 1 54 := ⟨by decide +kernel, rfl⟩
theorem d9_gleams_54 : zd b9_gleams 54 (.iload_n 1) 1 55 := ⟨by decide +kernel, rfl⟩
theorem d9_gleams_55 : zd b9_gleams 55 (.iload_n 2) 1 56 := ⟨by decide +kernel, rfl⟩
theorem d9_gleams_56 : zd b9_gleams 56 (.invokevirtual 257) 3 59 := ⟨by decide +kernel, rfl⟩
theorem d9_gleams_59 : zd b9_gleams 59 (.iconst 3) 1 60 := ⟨by decide +kernel, rfl⟩
theorem d9_gleams_60 : zd b9_gleams 60 .imul 1 61 := ⟨by decide +kernel, rfl⟩
theorem d9_gleams_61 : zd b9_gleams 61 .ireturn 1 62 := ⟨by decide +kernel, rfl⟩
theorem d9_gleams_62 : zd b9_gleams 62 (.aload_n 0) 1 63 := ⟨by decide +kernel, rfl⟩
theorem d9_gleams_63 : zd b9_gleams 63 (.bipush 70) 2 65 := ⟨by decide +kernel, rfl⟩
theorem d9_gleams_65 : zd b9_gleams 65 (.invokevirtual 251) 3 68 := ⟨by decide +kernel, rfl⟩
theorem d9_gleams_68 : zd b9_gleams 68 (.bipush 9) 2 70 := ⟨by decide +kernel, rfl⟩
theorem d9_gleams_70 : zd b9_gleams 70 .ireturn 1 71 := ⟨by decide +kernel, rfl⟩
theorem d9_gleams_71 : zd b9_gleams 71 (.aload_n 0) 1 72 := ⟨by decide +kernel, rfl⟩
theorem d9_gleams_72 : zd b9_gleams 72 (.iload_n 1) 1 73 := ⟨by decide +kernel, rfl⟩
theorem d9_gleams_73 : zd b9_gleams 73 (.iload_n 2) 1 74 := ⟨by decide +kernel, rfl⟩
theorem d9_gleams_74 : zd b9_gleams 74 (.invokevirtual 254) 3 77 := ⟨by decide +kernel, rfl⟩
theorem d9_gleams_77 : zd b9_gleams 77 .ireturn 1 78 := ⟨by decide +kernel, rfl⟩
def f9_gleams (k : Nat) (x1 : Int32) (x2 : Int32) (σ : ZS) : Option (Int32 × ZS) :=
  zbd (f9_of k x1 (0 : Int32) σ) fun r1 s1 =>
  if r1 = (1 : Int32) then (
  zbd (f9_spoonGleams k x1 x2 s1) fun r3 s3 =>
  some (r3, s3))
  else (
  if r1 = (4 : Int32) then (
  zbd (f9_begins k (50 : Int32) s1) fun _ s5 =>
  zbd (f9_spoonGleams k x1 x2 s5) fun r6 s6 =>
  some ((r6 * (3 : Int32)), s6))
  else (
  if r1 = (6 : Int32) then (
  zbd (f9_begins k (70 : Int32) s1) fun _ s8 =>
  some ((9 : Int32), s8))
  else (
  zbd (f9_plainGleams k x1 x2 s1) fun r9 s9 =>
  some (r9, s9))))
theorem c9_gleams (l : Launch) (g : ZG) {k : Nat} {x1 : Int32} {x2 : Int32} {σ : ZS} {r : Int32} {σr : ZS} (hf : f9_gleams k x1 x2 σ = some (r, σr)) : zT l g y9_gleams b9_gleams 3 (some .int) 4 125 [zr 103, zi x1, zi x2] σ (some (zi r)) σr := by
  unfold f9_gleams at hf
  refine zT_start (own := R9) rfl (by decide +kernel) 0 (L := [some (zr 103), some (zi x1), some (zi x2)]) rfl rfl (fun x hl C => ?_)
  subst hl
  refine z_aload_n C d9_gleams_0 rfl ?_
  refine z_iload_n C d9_gleams_1 rfl ?_
  refine z_iconst C (0 : Int32) d9_gleams_2 kI_0 ?_
  obtain ⟨r1, s1, h1, hf⟩ := zbx hf
  refine z_callVi C (as := [zi x1, zi (0 : Int32)]) d9_gleams_3 w_926 yy9_of (c9_of x.2.1 g h1) yc9_of kZ_103 rfl rfl (Nat.le_of_ble_eq_true rfl) ⟨Nat.le_of_ble_eq_true rfl, Nat.le_of_ble_eq_true rfl⟩ ⟨Nat.zero_le _, Nat.zero_le _⟩ ?_
  refine z_lsw C [((1 : Int32), 40), ((4 : Int32), 47), ((6 : Int32), 62)] (d := 71) d9_gleams_6 (by decide +kernel) (by decide) (by decide +kernel) ?_
  refine z_swc (fun c2 => ?_) (fun c2 => ?_)
  · have hf := zit c2 hf
    refine z_aload_n C d9_gleams_40 rfl ?_
    refine z_iload_n C d9_gleams_41 rfl ?_
    refine z_iload_n C d9_gleams_42 rfl ?_
    obtain ⟨r3, s3, h3, hf⟩ := zbx hf
    refine z_callVi C (as := [zi x1, zi x2]) d9_gleams_43 w_1201 yy9_spoonGleams (c9_spoonGleams x.2.1 g h3) yc9_spoonGleams kZ_103 rfl rfl (Nat.le_of_ble_eq_true rfl) ⟨Nat.le_of_ble_eq_true rfl, Nat.le_of_ble_eq_true rfl⟩ ⟨Nat.zero_le _, Nat.zero_le _⟩ ?_
    exact z_iret C d9_gleams_46 hf
  · have hf := zie c2 hf
    refine z_swc (fun c4 => ?_) (fun c4 => ?_)
    · have hf := zit c4 hf
      refine z_aload_n C d9_gleams_47 rfl ?_
      refine z_bipush C (50 : Int32) d9_gleams_48 kB_50 ?_
      obtain ⟨r5, s5, h5, hf⟩ := zbx hf
      refine z_callVv C (as := [zi (50 : Int32)]) d9_gleams_50 w_1205 yy9_begins (c9_begins x.2.1 g h5) yc9_begins kZ_103 rfl rfl (Nat.le_of_ble_eq_true rfl) ⟨Nat.le_of_ble_eq_true rfl, Nat.le_of_ble_eq_true rfl⟩ ⟨Nat.zero_le _, Nat.zero_le _⟩ ?_
      refine z_aload_n C d9_gleams_53 rfl ?_
      refine z_iload_n C d9_gleams_54 rfl ?_
      refine z_iload_n C d9_gleams_55 rfl ?_
      obtain ⟨r6, s6, h6, hf⟩ := zbx hf
      refine z_callVi C (as := [zi x1, zi x2]) d9_gleams_56 w_1201 yy9_spoonGleams (c9_spoonGleams x.2.1 g h6) yc9_spoonGleams kZ_103 rfl rfl (Nat.le_of_ble_eq_true rfl) ⟨Nat.le_of_ble_eq_true rfl, Nat.le_of_ble_eq_true rfl⟩ ⟨Nat.zero_le _, Nat.zero_le _⟩ ?_
      refine z_iconst C (3 : Int32) d9_gleams_59 kI_3 ?_
      refine z_imul C d9_gleams_60 ?_
      exact z_iret C d9_gleams_61 hf
    · have hf := zie c4 hf
      refine z_swc (fun c7 => ?_) (fun c7 => ?_)
      · have hf := zit c7 hf
        refine z_aload_n C d9_gleams_62 rfl ?_
        refine z_bipush C (70 : Int32) d9_gleams_63 kB_70 ?_
        obtain ⟨r8, s8, h8, hf⟩ := zbx hf
        refine z_callVv C (as := [zi (70 : Int32)]) d9_gleams_65 w_1205 yy9_begins (c9_begins x.2.1 g h8) yc9_begins kZ_103 rfl rfl (Nat.le_of_ble_eq_true rfl) ⟨Nat.le_of_ble_eq_true rfl, Nat.le_of_ble_eq_true rfl⟩ ⟨Nat.zero_le _, Nat.zero_le _⟩ ?_
        refine z_bipush C (9 : Int32) d9_gleams_68 kB_9 ?_
        exact z_iret C d9_gleams_70 hf
      · have hf := zie c7 hf
        refine z_sw0 ?_
        refine z_aload_n C d9_gleams_71 rfl ?_
        refine z_iload_n C d9_gleams_72 rfl ?_
        refine z_iload_n C d9_gleams_73 rfl ?_
        obtain ⟨r9, s9, h9, hf⟩ := zbx hf
        refine z_callVi C (as := [zi x1, zi x2]) d9_gleams_74 w_1209 yy9_plainGleams (c9_plainGleams x.2.1 g h9) yc9_plainGleams kZ_103 rfl rfl (Nat.le_of_ble_eq_true rfl) ⟨Nat.le_of_ble_eq_true rfl, Nat.le_of_ble_eq_true rfl⟩ ⟨Nat.zero_le _, Nat.zero_le _⟩ ?_
        exact z_iret C d9_gleams_77 hf
theorem d9_plainGlints_0 : zd b9_plainGlints 0 (.aload_n 0) 1 1 := ⟨by decide +kernel, rfl⟩
theorem d9_plainGlints_1 : zd b9_plainGlints 1 (.bipush 11) 2 3 := ⟨by decide +kernel, rfl⟩
theorem d9_plainGlints_3 : zd b9_plainGlints 3 (.invokevirtual 251) 3 6 := ⟨by decide +kernel, rfl⟩
theorem d9_plainGlints_6 : zd b9_plainGlints 6 (.aload_n 0) 1 7 := ⟨by decide +kernel, rfl⟩
theorem d9_plainGlints_7 : zd b9_plainGlints 7 (.iload_n 1) 1 8 := ⟨by decide +kernel, rfl⟩
theorem d9_plainGlints_8 : zd b9_plainGlints 8 (.iload_n 2) 1 9 := ⟨by decide +kernel, rfl⟩
theorem d9_plainGlints_9 : zd b9_plainGlints 9 (.invokevirtual 260) 3 12 := ⟨by decide +kernel, rfl⟩
theorem d9_plainGlints_12 : zd b9_plainGlints 12 (.iconst 2) 1 13 := ⟨by decide +kernel, rfl⟩
theorem d9_plainGlints_13 : zd b9_plainGlints 13 .imul 1 14 := ⟨by decide +kernel, rfl⟩
theorem d9_plainGlints_14 : zd b9_plainGlints 14 .ireturn 1 15 := ⟨by decide +kernel, rfl⟩
def f9_plainGlints (k : Nat) (x1 : Int32) (x2 : Int32) (σ : ZS) : Option (Int32 × ZS) :=
  zbd (f9_begins k (11 : Int32) σ) fun _ s1 =>
  zbd (f9_gleams k x1 x2 s1) fun r2 s2 =>
  some ((r2 * (2 : Int32)), s2)
theorem c9_plainGlints (l : Launch) (g : ZG) {k : Nat} {x1 : Int32} {x2 : Int32} {σ : ZS} {r : Int32} {σr : ZS} (hf : f9_plainGlints k x1 x2 σ = some (r, σr)) : zT l g y9_plainGlints b9_plainGlints 3 (some .int) 5 147 [zr 103, zi x1, zi x2] σ (some (zi r)) σr := by
  unfold f9_plainGlints at hf
  refine zT_start (own := R9) rfl (by decide +kernel) 0 (L := [some (zr 103), some (zi x1), some (zi x2)]) rfl rfl (fun x hl C => ?_)
  subst hl
  refine z_aload_n C d9_plainGlints_0 rfl ?_
  refine z_bipush C (11 : Int32) d9_plainGlints_1 kB_11 ?_
  obtain ⟨r1, s1, h1, hf⟩ := zbx hf
  refine z_callVv C (as := [zi (11 : Int32)]) d9_plainGlints_3 w_1205 yy9_begins (c9_begins x.2.1 g h1) yc9_begins kZ_103 rfl rfl (Nat.le_of_ble_eq_true rfl) ⟨Nat.le_of_ble_eq_true rfl, Nat.le_of_ble_eq_true rfl⟩ ⟨Nat.zero_le _, Nat.zero_le _⟩ ?_
  refine z_aload_n C d9_plainGlints_6 rfl ?_
  refine z_iload_n C d9_plainGlints_7 rfl ?_
  refine z_iload_n C d9_plainGlints_8 rfl ?_
  obtain ⟨r2, s2, h2, hf⟩ := zbx hf
  refine z_callVi C (as := [zi x1, zi x2]) d9_plainGlints_9 w_1197 yy9_gleams (c9_gleams x.2.1 g h2) yc9_gleams kZ_103 rfl rfl (Nat.le_of_ble_eq_true rfl) ⟨Nat.le_of_ble_eq_true rfl, Nat.le_of_ble_eq_true rfl⟩ ⟨Nat.zero_le _, Nat.zero_le _⟩ ?_
  refine z_iconst C (2 : Int32) d9_plainGlints_12 kI_2 ?_
  refine z_imul C d9_plainGlints_13 ?_
  exact z_iret C d9_plainGlints_14 hf
theorem d9_paneGlints_0 : zd b9_paneGlints 0 (.aload_n 0) 1 1 := ⟨by decide +kernel, rfl⟩
theorem d9_paneGlints_1 : zd b9_paneGlints 1 (.bipush 30) 2 3 := ⟨by decide +kernel, rfl⟩
theorem d9_paneGlints_3 : zd b9_paneGlints 3 (.invokevirtual 251) 3 6 := ⟨by decide +kernel, rfl⟩
theorem d9_paneGlints_6 : zd b9_paneGlints 6 (.aload_n 0) 1 7 := ⟨by decide +kernel, rfl⟩
theorem d9_paneGlints_7 : zd b9_paneGlints 7 (.iload_n 1) 1 8 := ⟨by decide +kernel, rfl⟩
theorem d9_paneGlints_8 : zd b9_paneGlints 8 (.iload_n 2) 1 9 := ⟨by decide +kernel, rfl⟩
theorem d9_paneGlints_9 : zd b9_paneGlints 9 (.invokevirtual 263) 3 12 := ⟨by decide +kernel, rfl⟩
theorem d9_paneGlints_12 : zd b9_paneGlints 12 .ineg 1 13 := ⟨by decide +kernel, rfl⟩
theorem d9_paneGlints_13 : zd b9_paneGlints 13 .ireturn 1 14 := ⟨by decide +kernel, rfl⟩
def f9_paneGlints (k : Nat) (x1 : Int32) (x2 : Int32) (σ : ZS) : Option (Int32 × ZS) :=
  zbd (f9_begins k (30 : Int32) σ) fun _ s1 =>
  zbd (f9_plainGlints k x1 x2 s1) fun r2 s2 =>
  some ((-r2), s2)
theorem c9_paneGlints (l : Launch) (g : ZG) {k : Nat} {x1 : Int32} {x2 : Int32} {σ : ZS} {r : Int32} {σr : ZS} (hf : f9_paneGlints k x1 x2 σ = some (r, σr)) : zT l g y9_paneGlints b9_paneGlints 3 (some .int) 6 169 [zr 103, zi x1, zi x2] σ (some (zi r)) σr := by
  unfold f9_paneGlints at hf
  refine zT_start (own := R9) rfl (by decide +kernel) 0 (L := [some (zr 103), some (zi x1), some (zi x2)]) rfl rfl (fun x hl C => ?_)
  subst hl
  refine z_aload_n C d9_paneGlints_0 rfl ?_
  refine z_bipush C (30 : Int32) d9_paneGlints_1 kB_30 ?_
  obtain ⟨r1, s1, h1, hf⟩ := zbx hf
  refine z_callVv C (as := [zi (30 : Int32)]) d9_paneGlints_3 w_1205 yy9_begins (c9_begins x.2.1 g h1) yc9_begins kZ_103 rfl rfl (Nat.le_of_ble_eq_true rfl) ⟨Nat.le_of_ble_eq_true rfl, Nat.le_of_ble_eq_true rfl⟩ ⟨Nat.zero_le _, Nat.zero_le _⟩ ?_
  refine z_aload_n C d9_paneGlints_6 rfl ?_
  refine z_iload_n C d9_paneGlints_7 rfl ?_
  refine z_iload_n C d9_paneGlints_8 rfl ?_
  obtain ⟨r2, s2, h2, hf⟩ := zbx hf
  refine z_callVi C (as := [zi x1, zi x2]) d9_paneGlints_9 w_1221 yy9_plainGlints (c9_plainGlints x.2.1 g h2) yc9_plainGlints kZ_103 rfl rfl (Nat.le_of_ble_eq_true rfl) ⟨Nat.le_of_ble_eq_true rfl, Nat.le_of_ble_eq_true rfl⟩ ⟨Nat.zero_le _, Nat.zero_le _⟩ ?_
  refine z_ineg C d9_paneGlints_12 ?_
  exact z_iret C d9_paneGlints_13 hf
theorem d9_glints_0 : zd b9_glints 0 (.aload_n 0) 1 1 := ⟨by decide +kernel, rfl⟩
theorem d9_glints_1 : zd b9_glints 1 (.iload_n 1) 1 2 := ⟨by decide +kernel, rfl⟩
theorem d9_glints_2 : zd b9_glints 2 (.iconst 0) 1 3 := ⟨by decide +kernel, rfl⟩
theorem d9_glints_3 : zd b9_glints 3 (.invokevirtual 60) 3 6 := ⟨by decide +kernel, rfl⟩
theorem d9_glints_6 : decode b9_glints 6 = .ok ((.tableswitch 76 2 6 #[34, 76, 76, 41, 56]), 34) := by decide +kernel
theorem d9_glints_40 : zd b9_glints 40 (.aload_n 0) 1 41 := ⟨by decide +kernel, rfl⟩
theorem d9_glints_41 : zd b9_glints 41 (.iload_n 1) 1 42 := ⟨by decide +kernel, rfl⟩
theorem d9_glints_42 : zd b9_glints 42 (.iload_n 2) 1 43 := ⟨by decide +kernel, rfl⟩
theorem d9_glints_43 : zd b9_glints 43 (.invokevirtual 266) 3 46 := ⟨by decide +kernel, rfl⟩
theorem d9_glints_46 : zd b9_glints 46 .ireturn 1 47 := ⟨by decide +kernel, rfl⟩
theorem d9_glints_47 : zd b9_glints 47 (.aload_n 0) 1 48 := ⟨by decide +kernel, rfl⟩
theorem d9_glints_48 : zd b9_glints 48 (.bipush 60) 2 50 := ⟨by decide +kernel, rfl⟩
theorem d9_glints_50 : zd b9_glints 50 (.invokevirtual 251) 3 53 := ⟨by decide +kernel, rfl⟩
theorem d9_glints_53 : zd b9_glints 53 (.aload_n 0) 1 54 := ⟨by decide +kernel, rfl⟩
theorem d9_glints_54 : zd b9_glints 54 (.iload_n 1) 1 55 := ⟨by decide +kernel, rfl⟩
theorem d9_glints_55 : zd b9_glints 55 (.iload_n 2) 1 56 := ⟨by decide +kernel, rfl⟩
theorem d9_glints_56 : zd b9_glints 56 (.iconst 1) 1 57 := ⟨by decide +kernel, rfl⟩
theorem d9_glints_57 : zd b9_glints 57 .iadd 1 58 := ⟨by decide +kernel, rfl⟩
theorem d9_glints_58 : zd b9_glints 58 (.invokevirtual 266) 3 61 := ⟨by decide +kernel, rfl⟩
theorem d9_glints_61 : zd b9_glints 61 .ireturn 1 62 := ⟨by decide +kernel, rfl⟩
theorem d9_glints_62 : zd b9_glints 62 (.aload_n 0) 1 63 := ⟨by decide +kernel, rfl⟩
theorem d9_glints_63 : zd b9_glints 63 (.bipush 71) 2 65 := ⟨by decide +kernel, rfl⟩
theorem d9_glints_65 : zd b9_glints 65 (.invokevirtual 251) 3 68 := ⟨by decide +kernel, rfl⟩
theorem d9_glints_68 : zd b9_glints 68 (.aload_n 0) 1 69 := ⟨by decide +kernel, rfl⟩
theorem d9_glints_69 : zd b9_glints 69 (.iload_n 1) 1 70 := ⟨by decide +kernel, rfl⟩
theorem d9_glints_70 : zd b9_glints 70 (.iload_n 2) 1 71 := ⟨by decide +kernel, rfl⟩
theorem d9_glints_71 : zd b9_glints 71 (.invokevirtual 263) 3 74 := ⟨by decide +kernel, rfl⟩
theorem d9_glints_74 : zd b9_glints 74 (.aload_n 0) 1 75 := ⟨by decide +kernel, rfl⟩
theorem d9_glints_75 : zd b9_glints 75 (.iload_n 1) 1 76 := ⟨by decide +kernel, rfl⟩
theorem d9_glints_76 : zd b9_glints 76 (.iconst 1) 1 77 := ⟨by decide +kernel, rfl⟩
theorem d9_glints_77 : zd b9_glints 77 (.invokevirtual 60) 3 80 := ⟨by decide +kernel, rfl⟩
theorem d9_glints_80 : zd b9_glints 80 .iadd 1 81 := ⟨by decide +kernel, rfl⟩
theorem d9_glints_81 : zd b9_glints 81 .ireturn 1 82 := ⟨by decide +kernel, rfl⟩
theorem d9_glints_82 : zd b9_glints 82 (.aload_n 0) 1 83 := ⟨by decide +kernel, rfl⟩
theorem d9_glints_83 : zd b9_glints 83 (.iload_n 1) 1 84 := ⟨by decide +kernel, rfl⟩
theorem d9_glints_84 : zd b9_glints 84 (.iload_n 2) 1 85 := ⟨by decide +kernel, rfl⟩
theorem d9_glints_85 : zd b9_glints 85 (.invokevirtual 263) 3 88 := ⟨by decide +kernel, rfl⟩
theorem d9_glints_88 : zd b9_glints 88 .ireturn 1 89 := ⟨by decide +kernel, rfl⟩
def f9_glints (k : Nat) (x1 : Int32) (x2 : Int32) (σ : ZS) : Option (Int32 × ZS) :=
  zbd (f9_of k x1 (0 : Int32) σ) fun r1 s1 =>
  if r1 = (2 : Int32) then (
  zbd (f9_paneGlints k x1 x2 s1) fun r3 s3 =>
  some (r3, s3))
  else (
  if r1 = (3 : Int32) then (
  zbd (f9_plainGlints k x1 x2 s1) fun r5 s5 =>
  some (r5, s5))
  else (
  if r1 = (4 : Int32) then (
  zbd (f9_plainGlints k x1 x2 s1) fun r7 s7 =>
  some (r7, s7))
  else (
  if r1 = (5 : Int32) then (
  zbd (f9_begins k (60 : Int32) s1) fun _ s9 =>
  zbd (f9_paneGlints k x1 (x2 + (1 : Int32)) s9) fun r10 s10 =>
  some (r10, s10))
  else (
  if r1 = (6 : Int32) then (
  zbd (f9_begins k (71 : Int32) s1) fun _ s12 =>
  zbd (f9_plainGlints k x1 x2 s12) fun r13 s13 =>
  zbd (f9_of k x1 (1 : Int32) s13) fun r14 s14 =>
  some ((r13 + r14), s14))
  else (
  zbd (f9_plainGlints k x1 x2 s1) fun r15 s15 =>
  some (r15, s15))))))
theorem c9_glints (l : Launch) (g : ZG) {k : Nat} {x1 : Int32} {x2 : Int32} {σ : ZS} {r : Int32} {σr : ZS} (hf : f9_glints k x1 x2 σ = some (r, σr)) : zT l g y9_glints b9_glints 3 (some .int) 7 191 [zr 103, zi x1, zi x2] σ (some (zi r)) σr := by
  unfold f9_glints at hf
  refine zT_start (own := R9) rfl (by decide +kernel) 0 (L := [some (zr 103), some (zi x1), some (zi x2)]) rfl rfl (fun x hl C => ?_)
  subst hl
  refine z_aload_n C d9_glints_0 rfl ?_
  refine z_iload_n C d9_glints_1 rfl ?_
  refine z_iconst C (0 : Int32) d9_glints_2 kI_0 ?_
  obtain ⟨r1, s1, h1, hf⟩ := zbx hf
  refine z_callVi C (as := [zi x1, zi (0 : Int32)]) d9_glints_3 w_926 yy9_of (c9_of x.2.1 g h1) yc9_of kZ_103 rfl rfl (Nat.le_of_ble_eq_true rfl) ⟨Nat.le_of_ble_eq_true rfl, Nat.le_of_ble_eq_true rfl⟩ ⟨Nat.zero_le _, Nat.zero_le _⟩ ?_
  refine z_tsw C [((2 : Int32), 40), ((3 : Int32), 82), ((4 : Int32), 82), ((5 : Int32), 47), ((6 : Int32), 62)] (d := 82) d9_glints_6 (by decide) (by decide) (by decide +kernel) ?_
  refine z_swc (fun c2 => ?_) (fun c2 => ?_)
  · have hf := zit c2 hf
    refine z_aload_n C d9_glints_40 rfl ?_
    refine z_iload_n C d9_glints_41 rfl ?_
    refine z_iload_n C d9_glints_42 rfl ?_
    obtain ⟨r3, s3, h3, hf⟩ := zbx hf
    refine z_callVi C (as := [zi x1, zi x2]) d9_glints_43 w_1217 yy9_paneGlints (c9_paneGlints x.2.1 g h3) yc9_paneGlints kZ_103 rfl rfl (Nat.le_of_ble_eq_true rfl) ⟨Nat.le_of_ble_eq_true rfl, Nat.le_of_ble_eq_true rfl⟩ ⟨Nat.zero_le _, Nat.zero_le _⟩ ?_
    exact z_iret C d9_glints_46 hf
  · have hf := zie c2 hf
    refine z_swc (fun c4 => ?_) (fun c4 => ?_)
    · have hf := zit c4 hf
      refine z_aload_n C d9_glints_82 rfl ?_
      refine z_iload_n C d9_glints_83 rfl ?_
      refine z_iload_n C d9_glints_84 rfl ?_
      obtain ⟨r5, s5, h5, hf⟩ := zbx hf
      refine z_callVi C (as := [zi x1, zi x2]) d9_glints_85 w_1221 yy9_plainGlints (c9_plainGlints x.2.1 g h5) yc9_plainGlints kZ_103 rfl rfl (Nat.le_of_ble_eq_true rfl) ⟨Nat.le_of_ble_eq_true rfl, Nat.le_of_ble_eq_true rfl⟩ ⟨Nat.zero_le _, Nat.zero_le _⟩ ?_
      exact z_iret C d9_glints_88 hf
    · have hf := zie c4 hf
      refine z_swc (fun c6 => ?_) (fun c6 => ?_)
      · have hf := zit c6 hf
        refine z_aload_n C d9_glints_82 rfl ?_
        refine z_iload_n C d9_glints_83 rfl ?_
        refine z_iload_n C d9_glints_84 rfl ?_
        obtain ⟨r7, s7, h7, hf⟩ := zbx hf
        refine z_callVi C (as := [zi x1, zi x2]) d9_glints_85 w_1221 yy9_plainGlints (c9_plainGlints x.2.1 g h7) yc9_plainGlints kZ_103 rfl rfl (Nat.le_of_ble_eq_true rfl) ⟨Nat.le_of_ble_eq_true rfl, Nat.le_of_ble_eq_true rfl⟩ ⟨Nat.zero_le _, Nat.zero_le _⟩ ?_
        exact z_iret C d9_glints_88 hf
      · have hf := zie c6 hf
        refine z_swc (fun c8 => ?_) (fun c8 => ?_)
        · have hf := zit c8 hf
          refine z_aload_n C d9_glints_47 rfl ?_
          refine z_bipush C (60 : Int32) d9_glints_48 kB_60 ?_
          obtain ⟨r9, s9, h9, hf⟩ := zbx hf
          refine z_callVv C (as := [zi (60 : Int32)]) d9_glints_50 w_1205 yy9_begins (c9_begins x.2.1 g h9) yc9_begins kZ_103 rfl rfl (Nat.le_of_ble_eq_true rfl) ⟨Nat.le_of_ble_eq_true rfl, Nat.le_of_ble_eq_true rfl⟩ ⟨Nat.zero_le _, Nat.zero_le _⟩ ?_
          refine z_aload_n C d9_glints_53 rfl ?_
          refine z_iload_n C d9_glints_54 rfl ?_
          refine z_iload_n C d9_glints_55 rfl ?_
          refine z_iconst C (1 : Int32) d9_glints_56 kI_1 ?_
          refine z_iadd C d9_glints_57 ?_
          obtain ⟨r10, s10, h10, hf⟩ := zbx hf
          refine z_callVi C (as := [zi x1, zi (x2 + (1 : Int32))]) d9_glints_58 w_1217 yy9_paneGlints (c9_paneGlints x.2.1 g h10) yc9_paneGlints kZ_103 rfl rfl (Nat.le_of_ble_eq_true rfl) ⟨Nat.le_of_ble_eq_true rfl, Nat.le_of_ble_eq_true rfl⟩ ⟨Nat.zero_le _, Nat.zero_le _⟩ ?_
          exact z_iret C d9_glints_61 hf
        · have hf := zie c8 hf
          refine z_swc (fun c11 => ?_) (fun c11 => ?_)
          · have hf := zit c11 hf
            refine z_aload_n C d9_glints_62 rfl ?_
            refine z_bipush C (71 : Int32) d9_glints_63 kB_71 ?_
            obtain ⟨r12, s12, h12, hf⟩ := zbx hf
            refine z_callVv C (as := [zi (71 : Int32)]) d9_glints_65 w_1205 yy9_begins (c9_begins x.2.1 g h12) yc9_begins kZ_103 rfl rfl (Nat.le_of_ble_eq_true rfl) ⟨Nat.le_of_ble_eq_true rfl, Nat.le_of_ble_eq_true rfl⟩ ⟨Nat.zero_le _, Nat.zero_le _⟩ ?_
            refine z_aload_n C d9_glints_68 rfl ?_
            refine z_iload_n C d9_glints_69 rfl ?_
            refine z_iload_n C d9_glints_70 rfl ?_
            obtain ⟨r13, s13, h13, hf⟩ := zbx hf
            refine z_callVi C (as := [zi x1, zi x2]) d9_glints_71 w_1221 yy9_plainGlints (c9_plainGlints x.2.1 g h13) yc9_plainGlints kZ_103 rfl rfl (Nat.le_of_ble_eq_true rfl) ⟨Nat.le_of_ble_eq_true rfl, Nat.le_of_ble_eq_true rfl⟩ ⟨Nat.zero_le _, Nat.zero_le _⟩ ?_
            refine z_aload_n C d9_glints_74 rfl ?_
            refine z_iload_n C d9_glints_75 rfl ?_
            refine z_iconst C (1 : Int32) d9_glints_76 kI_1 ?_
            obtain ⟨r14, s14, h14, hf⟩ := zbx hf
            refine z_callVi C (as := [zi x1, zi (1 : Int32)]) d9_glints_77 w_926 yy9_of (c9_of x.2.1 g h14) yc9_of kZ_103 rfl rfl (Nat.le_of_ble_eq_true rfl) ⟨Nat.le_of_ble_eq_true rfl, Nat.le_of_ble_eq_true rfl⟩ ⟨Nat.zero_le _, Nat.zero_le _⟩ ?_
            refine z_iadd C d9_glints_80 ?_
            exact z_iret C d9_glints_81 hf
          · have hf := zie c11 hf
            refine z_sw0 ?_
            refine z_aload_n C d9_glints_82 rfl ?_
            refine z_iload_n C d9_glints_83 rfl ?_
            refine z_iload_n C d9_glints_84 rfl ?_
            obtain ⟨r15, s15, h15, hf⟩ := zbx hf
            refine z_callVi C (as := [zi x1, zi x2]) d9_glints_85 w_1221 yy9_plainGlints (c9_plainGlints x.2.1 g h15) yc9_plainGlints kZ_103 rfl rfl (Nat.le_of_ble_eq_true rfl) ⟨Nat.le_of_ble_eq_true rfl, Nat.le_of_ble_eq_true rfl⟩ ⟨Nat.zero_le _, Nat.zero_le _⟩ ?_
            exact z_iret C d9_glints_88 hf
theorem d9_plainFades_0 : zd b9_plainFades 0 (.aload_n 0) 1 1 := ⟨by decide +kernel, rfl⟩
theorem d9_plainFades_1 : zd b9_plainFades 1 (.bipush 12) 2 3 := ⟨by decide +kernel, rfl⟩
theorem d9_plainFades_3 : zd b9_plainFades 3 (.invokevirtual 251) 3 6 := ⟨by decide +kernel, rfl⟩
theorem d9_plainFades_6 : zd b9_plainFades 6 (.aload_n 0) 1 7 := ⟨by decide +kernel, rfl⟩
theorem d9_plainFades_7 : zd b9_plainFades 7 (.iload_n 1) 1 8 := ⟨by decide +kernel, rfl⟩
theorem d9_plainFades_8 : zd b9_plainFades 8 (.iload_n 2) 1 9 := ⟨by decide +kernel, rfl⟩
theorem d9_plainFades_9 : zd b9_plainFades 9 (.invokevirtual 269) 3 12 := ⟨by decide +kernel, rfl⟩
theorem d9_plainFades_12 : zd b9_plainFades 12 (.aload_n 0) 1 13 := ⟨by decide +kernel, rfl⟩
theorem d9_plainFades_13 : zd b9_plainFades 13 (.iload_n 1) 1 14 := ⟨by decide +kernel, rfl⟩
theorem d9_plainFades_14 : zd b9_plainFades 14 (.iconst 1) 1 15 := ⟨by decide +kernel, rfl⟩
theorem d9_plainFades_15 : zd b9_plainFades 15 (.invokevirtual 60) 3 18 := ⟨by decide +kernel, rfl⟩
theorem d9_plainFades_18 : zd b9_plainFades 18 .isub 1 19 := ⟨by decide +kernel, rfl⟩
theorem d9_plainFades_19 : zd b9_plainFades 19 .ireturn 1 20 := ⟨by decide +kernel, rfl⟩
def f9_plainFades (k : Nat) (x1 : Int32) (x2 : Int32) (σ : ZS) : Option (Int32 × ZS) :=
  zbd (f9_begins k (12 : Int32) σ) fun _ s1 =>
  zbd (f9_glints k x1 x2 s1) fun r2 s2 =>
  zbd (f9_of k x1 (1 : Int32) s2) fun r3 s3 =>
  some ((r2 - r3), s3)
theorem c9_plainFades (l : Launch) (g : ZG) {k : Nat} {x1 : Int32} {x2 : Int32} {σ : ZS} {r : Int32} {σr : ZS} (hf : f9_plainFades k x1 x2 σ = some (r, σr)) : zT l g y9_plainFades b9_plainFades 3 (some .int) 8 213 [zr 103, zi x1, zi x2] σ (some (zi r)) σr := by
  unfold f9_plainFades at hf
  refine zT_start (own := R9) rfl (by decide +kernel) 0 (L := [some (zr 103), some (zi x1), some (zi x2)]) rfl rfl (fun x hl C => ?_)
  subst hl
  refine z_aload_n C d9_plainFades_0 rfl ?_
  refine z_bipush C (12 : Int32) d9_plainFades_1 kB_12 ?_
  obtain ⟨r1, s1, h1, hf⟩ := zbx hf
  refine z_callVv C (as := [zi (12 : Int32)]) d9_plainFades_3 w_1205 yy9_begins (c9_begins x.2.1 g h1) yc9_begins kZ_103 rfl rfl (Nat.le_of_ble_eq_true rfl) ⟨Nat.le_of_ble_eq_true rfl, Nat.le_of_ble_eq_true rfl⟩ ⟨Nat.zero_le _, Nat.zero_le _⟩ ?_
  refine z_aload_n C d9_plainFades_6 rfl ?_
  refine z_iload_n C d9_plainFades_7 rfl ?_
  refine z_iload_n C d9_plainFades_8 rfl ?_
  obtain ⟨r2, s2, h2, hf⟩ := zbx hf
  refine z_callVi C (as := [zi x1, zi x2]) d9_plainFades_9 w_1213 yy9_glints (c9_glints x.2.1 g h2) yc9_glints kZ_103 rfl rfl (Nat.le_of_ble_eq_true rfl) ⟨Nat.le_of_ble_eq_true rfl, Nat.le_of_ble_eq_true rfl⟩ ⟨Nat.zero_le _, Nat.zero_le _⟩ ?_
  refine z_aload_n C d9_plainFades_12 rfl ?_
  refine z_iload_n C d9_plainFades_13 rfl ?_
  refine z_iconst C (1 : Int32) d9_plainFades_14 kI_1 ?_
  obtain ⟨r3, s3, h3, hf⟩ := zbx hf
  refine z_callVi C (as := [zi x1, zi (1 : Int32)]) d9_plainFades_15 w_926 yy9_of (c9_of x.2.1 g h3) yc9_of kZ_103 rfl rfl (Nat.le_of_ble_eq_true rfl) ⟨Nat.le_of_ble_eq_true rfl, Nat.le_of_ble_eq_true rfl⟩ ⟨Nat.zero_le _, Nat.zero_le _⟩ ?_
  refine z_isub C d9_plainFades_18 ?_
  exact z_iret C d9_plainFades_19 hf
theorem d9_fades_0 : zd b9_fades 0 (.aload_n 0) 1 1 := ⟨by decide +kernel, rfl⟩
theorem d9_fades_1 : zd b9_fades 1 (.iload_n 1) 1 2 := ⟨by decide +kernel, rfl⟩
theorem d9_fades_2 : zd b9_fades 2 (.iconst 0) 1 3 := ⟨by decide +kernel, rfl⟩
theorem d9_fades_3 : zd b9_fades 3 (.invokevirtual 60) 3 6 := ⟨by decide +kernel, rfl⟩
theorem d9_fades_6 : decode b9_fades 6 = .ok ((.lookupswitch 56 #[(3, 26), (4, 41)]), 26) := by decide +kernel
theorem d9_fades_32 : zd b9_fades 32 (.aload_n 0) 1 33 := ⟨by decide +kernel, rfl⟩
theorem d9_fades_33 : zd b9_fades 33 (.bipush 40) 2 35 := ⟨by decide +kernel, rfl⟩
theorem d9_fades_35 : zd b9_fades 35 (.invokevirtual 251) 3 38 := ⟨by decide +kernel, rfl⟩
theorem d9_fades_38 : zd b9_fades 38 (.aload_n 0) 1 39 := ⟨by decide +kernel, rfl⟩
theorem d9_fades_39 : zd b9_fades 39 (.iload_n 1) 1 40 := ⟨by decide +kernel, rfl⟩
theorem d9_fades_40 : zd b9_fades 40 (.iload_n 2) 1 41 := ⟨by decide +kernel, rfl⟩
theorem d9_fades_41 : zd b9_fades 41 (.iconst 2) 1 42 := ⟨by decide +kernel, rfl⟩
theorem d9_fades_42 : zd b9_fades 42 .idiv 1 43 := ⟨by decide +kernel, rfl⟩
theorem d9_fades_43 : zd b9_fades 43 (.invokevirtual 272) 3 46 := ⟨by decide +kernel, rfl⟩
theorem d9_fades_46 : zd b9_fades 46 .ireturn 1 47 := ⟨by decide +kernel, rfl⟩
theorem d9_fades_47 : zd b9_fades 47 (.aload_n 0) 1 48 := ⟨by decide +kernel, rfl⟩
theorem d9_fades_48 : zd b9_fades 48 (.bipush 51) 2 50 := ⟨by decide +kernel, rfl⟩
theorem d9_fades_50 : zd b9_fades 50 (.invokevirtual 251) 3 53 := ⟨by decide +kernel, rfl⟩
theorem d9_fades_53 : zd b9_fades 53 (.aload_n 0) 1 54 := ⟨by decide +kernel, rfl⟩
theorem d9_fades_54 : zd b9_fades 54 (.iload_n 1) 1 55 := ⟨by decide +kernel, rfl⟩
theorem d9_fades_55 : zd b9_fades 55 (.iload_n 2) 1 56 := ⟨by decide +kernel, rfl⟩
theorem d9_fades_56 : zd b9_fades 56 (.invokevirtual 272) 3 59 := ⟨by decide +kernel, rfl⟩
theorem d9_fades_59 : zd b9_fades 59 (.iload_n 1) 1 60 := ⟨by decide +kernel, rfl⟩
theorem d9_fades_60 : zd b9_fades 60 .ixor 1 61 := ⟨by decide +kernel, rfl⟩
theorem d9_fades_61 : zd b9_fades 61 .ireturn 1 62 := ⟨by decide +kernel, rfl⟩
theorem d9_fades_62 : zd b9_fades 62 (.aload_n 0) 1 63 := ⟨by decide +kernel, rfl⟩
theorem d9_fades_63 : zd b9_fades 63 (.iload_n 1) 1 64 := ⟨by decide +kernel, rfl⟩
theorem d9_fades_64 : zd b9_fades 64 (.iload_n 2) 1 65 := ⟨by decide +kernel, rfl⟩
theorem d9_fades_65 : zd b9_fades 65 (.invokevirtual 272) 3 68 := ⟨by decide +kernel, rfl⟩
theorem d9_fades_68 : zd b9_fades 68 .ireturn 1 69 := ⟨by decide +kernel, rfl⟩
def f9_fades (k : Nat) (x1 : Int32) (x2 : Int32) (σ : ZS) : Option (Int32 × ZS) :=
  zbd (f9_of k x1 (0 : Int32) σ) fun r1 s1 =>
  if r1 = (3 : Int32) then (
  zbd (f9_begins k (40 : Int32) s1) fun _ s3 =>
  zbd (f9_plainFades k x1 (x2 / (2 : Int32)) s3) fun r4 s4 =>
  some (r4, s4))
  else (
  if r1 = (4 : Int32) then (
  zbd (f9_begins k (51 : Int32) s1) fun _ s6 =>
  zbd (f9_plainFades k x1 x2 s6) fun r7 s7 =>
  some ((r7 ^^^ x1), s7))
  else (
  zbd (f9_plainFades k x1 x2 s1) fun r8 s8 =>
  some (r8, s8)))
theorem c9_fades (l : Launch) (g : ZG) {k : Nat} {x1 : Int32} {x2 : Int32} {σ : ZS} {r : Int32} {σr : ZS} (hf : f9_fades k x1 x2 σ = some (r, σr)) : zT l g y9_fades b9_fades 3 (some .int) 9 235 [zr 103, zi x1, zi x2] σ (some (zi r)) σr := by
  unfold f9_fades at hf
  refine zT_start (own := R9) rfl (by decide +kernel) 0 (L := [some (zr 103), some (zi x1), some (zi x2)]) rfl rfl (fun x hl C => ?_)
  subst hl
  refine z_aload_n C d9_fades_0 rfl ?_
  refine z_iload_n C d9_fades_1 rfl ?_
  refine z_iconst C (0 : Int32) d9_fades_2 kI_0 ?_
  obtain ⟨r1, s1, h1, hf⟩ := zbx hf
  refine z_callVi C (as := [zi x1, zi (0 : Int32)]) d9_fades_3 w_926 yy9_of (c9_of x.2.1 g h1) yc9_of kZ_103 rfl rfl (Nat.le_of_ble_eq_true rfl) ⟨Nat.le_of_ble_eq_true rfl, Nat.le_of_ble_eq_true rfl⟩ ⟨Nat.zero_le _, Nat.zero_le _⟩ ?_
  refine z_lsw C [((3 : Int32), 32), ((4 : Int32), 47)] (d := 62) d9_fades_6 (by decide +kernel) (by decide) (by decide +kernel) ?_
  refine z_swc (fun c2 => ?_) (fun c2 => ?_)
  · have hf := zit c2 hf
    refine z_aload_n C d9_fades_32 rfl ?_
    refine z_bipush C (40 : Int32) d9_fades_33 kB_40 ?_
    obtain ⟨r3, s3, h3, hf⟩ := zbx hf
    refine z_callVv C (as := [zi (40 : Int32)]) d9_fades_35 w_1205 yy9_begins (c9_begins x.2.1 g h3) yc9_begins kZ_103 rfl rfl (Nat.le_of_ble_eq_true rfl) ⟨Nat.le_of_ble_eq_true rfl, Nat.le_of_ble_eq_true rfl⟩ ⟨Nat.zero_le _, Nat.zero_le _⟩ ?_
    refine z_aload_n C d9_fades_38 rfl ?_
    refine z_iload_n C d9_fades_39 rfl ?_
    refine z_iload_n C d9_fades_40 rfl ?_
    refine z_iconst C (2 : Int32) d9_fades_41 kI_2 ?_
    refine z_idiv C d9_fades_42 (by decide) ?_
    obtain ⟨r4, s4, h4, hf⟩ := zbx hf
    refine z_callVi C (as := [zi x1, zi (x2 / (2 : Int32))]) d9_fades_43 w_1229 yy9_plainFades (c9_plainFades x.2.1 g h4) yc9_plainFades kZ_103 rfl rfl (Nat.le_of_ble_eq_true rfl) ⟨Nat.le_of_ble_eq_true rfl, Nat.le_of_ble_eq_true rfl⟩ ⟨Nat.zero_le _, Nat.zero_le _⟩ ?_
    exact z_iret C d9_fades_46 hf
  · have hf := zie c2 hf
    refine z_swc (fun c5 => ?_) (fun c5 => ?_)
    · have hf := zit c5 hf
      refine z_aload_n C d9_fades_47 rfl ?_
      refine z_bipush C (51 : Int32) d9_fades_48 kB_51 ?_
      obtain ⟨r6, s6, h6, hf⟩ := zbx hf
      refine z_callVv C (as := [zi (51 : Int32)]) d9_fades_50 w_1205 yy9_begins (c9_begins x.2.1 g h6) yc9_begins kZ_103 rfl rfl (Nat.le_of_ble_eq_true rfl) ⟨Nat.le_of_ble_eq_true rfl, Nat.le_of_ble_eq_true rfl⟩ ⟨Nat.zero_le _, Nat.zero_le _⟩ ?_
      refine z_aload_n C d9_fades_53 rfl ?_
      refine z_iload_n C d9_fades_54 rfl ?_
      refine z_iload_n C d9_fades_55 rfl ?_
      obtain ⟨r7, s7, h7, hf⟩ := zbx hf
      refine z_callVi C (as := [zi x1, zi x2]) d9_fades_56 w_1229 yy9_plainFades (c9_plainFades x.2.1 g h7) yc9_plainFades kZ_103 rfl rfl (Nat.le_of_ble_eq_true rfl) ⟨Nat.le_of_ble_eq_true rfl, Nat.le_of_ble_eq_true rfl⟩ ⟨Nat.zero_le _, Nat.zero_le _⟩ ?_
      refine z_iload_n C d9_fades_59 rfl ?_
      refine z_ixor C d9_fades_60 ?_
      exact z_iret C d9_fades_61 hf
    · have hf := zie c5 hf
      refine z_sw0 ?_
      refine z_aload_n C d9_fades_62 rfl ?_
      refine z_iload_n C d9_fades_63 rfl ?_
      refine z_iload_n C d9_fades_64 rfl ?_
      obtain ⟨r8, s8, h8, hf⟩ := zbx hf
      refine z_callVi C (as := [zi x1, zi x2]) d9_fades_65 w_1229 yy9_plainFades (c9_plainFades x.2.1 g h8) yc9_plainFades kZ_103 rfl rfl (Nat.le_of_ble_eq_true rfl) ⟨Nat.le_of_ble_eq_true rfl, Nat.le_of_ble_eq_true rfl⟩ ⟨Nat.zero_le _, Nat.zero_le _⟩ ?_
      exact z_iret C d9_fades_68 hf
theorem d9_feed_0 : zd b9_feed 0 (.iload_n 3) 1 1 := ⟨by decide +kernel, rfl⟩
theorem d9_feed_1 : zd b9_feed 1 (.iconst 1) 1 2 := ⟨by decide +kernel, rfl⟩
theorem d9_feed_2 : zd b9_feed 2 (.bipush 8) 2 4 := ⟨by decide +kernel, rfl⟩
theorem d9_feed_4 : zd b9_feed 4 (.invokestatic 56) 3 7 := ⟨by decide +kernel, rfl⟩
theorem d9_feed_7 : zdb b9_feed 7 (.ifCond .ne 10) 10 10 17 := ⟨by decide +kernel, rfl, by decide⟩
theorem d9_feed_10 : zd b9_feed 10 (.aload_n 0) 1 11 := ⟨by decide +kernel, rfl⟩
theorem d9_feed_11 : zd b9_feed 11 (.ldc 130) 2 13 := ⟨by decide +kernel, rfl⟩
theorem d9_feed_13 : zd b9_feed 13 (.invokevirtual 131) 3 16 := ⟨by decide +kernel, rfl⟩
theorem d9_feed_16 : zd b9_feed 16 .ireturn 1 17 := ⟨by decide +kernel, rfl⟩
theorem d9_feed_17 : zd b9_feed 17 (.aload_n 0) 1 18 := ⟨by decide +kernel, rfl⟩
theorem d9_feed_18 : zd b9_feed 18 (.getfield 9) 3 21 := ⟨by decide +kernel, rfl⟩
theorem d9_feed_21 : zd b9_feed 21 (.iconst 4) 1 22 := ⟨by decide +kernel, rfl⟩
theorem d9_feed_22 : zd b9_feed 22 .iaload 1 23 := ⟨by decide +kernel, rfl⟩
theorem d9_feed_23 : zd b9_feed 23 (.iload_n 3) 1 24 := ⟨by decide +kernel, rfl⟩
theorem d9_feed_24 : zd b9_feed 24 .iadd 1 25 := ⟨by decide +kernel, rfl⟩
theorem d9_feed_25 : zd b9_feed 25 (.bipush 60) 2 27 := ⟨by decide +kernel, rfl⟩
theorem d9_feed_27 : zdb b9_feed 27 (.if_icmp .le 10) 10 30 37 := ⟨by decide +kernel, rfl, by decide⟩
theorem d9_feed_30 : zd b9_feed 30 (.aload_n 0) 1 31 := ⟨by decide +kernel, rfl⟩
theorem d9_feed_31 : zd b9_feed 31 (.ldc 134) 2 33 := ⟨by decide +kernel, rfl⟩
theorem d9_feed_33 : zd b9_feed 33 (.invokevirtual 131) 3 36 := ⟨by decide +kernel, rfl⟩
theorem d9_feed_36 : zd b9_feed 36 .ireturn 1 37 := ⟨by decide +kernel, rfl⟩
theorem d9_feed_37 : zd b9_feed 37 (.iconst 0) 1 38 := ⟨by decide +kernel, rfl⟩
theorem d9_feed_38 : zd b9_feed 38 (.istore 4) 2 40 := ⟨by decide +kernel, rfl⟩
theorem d9_feed_40 : zd b9_feed 40 (.iload 4) 2 42 := ⟨by decide +kernel, rfl⟩
theorem d9_feed_42 : zd b9_feed 42 (.iload_n 3) 1 43 := ⟨by decide +kernel, rfl⟩
theorem d9_feed_43 : zdb b9_feed 43 (.if_icmp .ge 45) 45 46 88 := ⟨by decide +kernel, rfl, by decide⟩
theorem d9_feed_46 : zd b9_feed 46 (.aload_n 0) 1 47 := ⟨by decide +kernel, rfl⟩
theorem d9_feed_47 : zd b9_feed 47 (.getfield 9) 3 50 := ⟨by decide +kernel, rfl⟩
theorem d9_feed_50 : zd b9_feed 50 (.bipush 64) 2 52 := ⟨by decide +kernel, rfl⟩
theorem d9_feed_52 : zd b9_feed 52 (.aload_n 0) 1 53 := ⟨by decide +kernel, rfl⟩
theorem d9_feed_53 : zd b9_feed 53 (.getfield 9) 3 56 := ⟨by decide +kernel, rfl⟩
theorem d9_feed_56 : zd b9_feed 56 (.iconst 4) 1 57 := ⟨by decide +kernel, rfl⟩
theorem d9_feed_57 : zd b9_feed 57 .iaload 1 58 := ⟨by decide +kernel, rfl⟩
theorem d9_feed_58 : zd b9_feed 58 .iadd 1 59 := ⟨by decide +kernel, rfl⟩
theorem d9_feed_59 : zd b9_feed 59 (.lload_n 1) 1 60 := ⟨by decide +kernel, rfl⟩
theorem d9_feed_60 : zd b9_feed 60 (.bipush 8) 2 62 := ⟨by decide +kernel, rfl⟩
theorem d9_feed_62 : zd b9_feed 62 (.iload 4) 2 64 := ⟨by decide +kernel, rfl⟩
theorem d9_feed_64 : zd b9_feed 64 .imul 1 65 := ⟨by decide +kernel, rfl⟩
theorem d9_feed_65 : zd b9_feed 65 .lshr 1 66 := ⟨by decide +kernel, rfl⟩
theorem d9_feed_66 : zd b9_feed 66 (.ldc2_w 153) 3 69 := ⟨by decide +kernel, rfl⟩
theorem d9_feed_69 : zd b9_feed 69 .land 1 70 := ⟨by decide +kernel, rfl⟩
theorem d9_feed_70 : zd b9_feed 70 .l2i 1 71 := ⟨by decide +kernel, rfl⟩
theorem d9_feed_71 : zd b9_feed 71 .iastore 1 72 := ⟨by decide +kernel, rfl⟩
theorem d9_feed_72 : zd b9_feed 72 (.aload_n 0) 1 73 := ⟨by decide +kernel, rfl⟩
theorem d9_feed_73 : zd b9_feed 73 (.getfield 9) 3 76 := ⟨by decide +kernel, rfl⟩
theorem d9_feed_76 : zd b9_feed 76 (.iconst 4) 1 77 := ⟨by decide +kernel, rfl⟩
theorem d9_feed_77 : zd b9_feed 77 .dup2 1 78 := ⟨by decide +kernel, rfl⟩
theorem d9_feed_78 : zd b9_feed 78 .iaload 1 79 := ⟨by decide +kernel, rfl⟩
theorem d9_feed_79 : zd b9_feed 79 (.iconst 1) 1 80 := ⟨by decide +kernel, rfl⟩
theorem d9_feed_80 : zd b9_feed 80 .iadd 1 81 := ⟨by decide +kernel, rfl⟩
theorem d9_feed_81 : zd b9_feed 81 .iastore 1 82 := ⟨by decide +kernel, rfl⟩
theorem d9_feed_82 : zd b9_feed 82 (.iinc 4 1) 3 85 := ⟨by decide +kernel, rfl⟩
theorem d9_feed_85 : zdb b9_feed 85 (.goto (-45)) (-45) 88 40 := ⟨by decide +kernel, rfl, by decide⟩
theorem d9_feed_88 : zd b9_feed 88 (.aload_n 0) 1 89 := ⟨by decide +kernel, rfl⟩
theorem d9_feed_89 : zd b9_feed 89 (.getfield 9) 3 92 := ⟨by decide +kernel, rfl⟩
theorem d9_feed_92 : zd b9_feed 92 (.iconst 4) 1 93 := ⟨by decide +kernel, rfl⟩
theorem d9_feed_93 : zd b9_feed 93 .iaload 1 94 := ⟨by decide +kernel, rfl⟩
theorem d9_feed_94 : zd b9_feed 94 .ireturn 1 95 := ⟨by decide +kernel, rfl⟩
def b9_feed_40 (k : Nat) (q40 : Int64 → Int32 → Int32 → ZS → Option (Int32 × ZS)) (x1 : Int64) (x3 : Int32) (x4 : Int32) (σ : ZS) : Option (Int32 × ZS) :=
  if x3 ≤ x4 then (
  some ((σ 104 4), σ))
  else (
  if zin ((64 : Int32) + (σ 104 4)) 390 then (
  zput (zu σ 104 (((64 : Int32) + (σ 104 4)).toNatClampNeg) ((x1 >>> (((8 : Int32) * x4).toInt64 &&& 63)) &&& (255 : Int64)).toInt32) fun s3 =>
  zput (zu s3 104 (4) ((s3 104 4) + (1 : Int32))) fun s4 =>
  q40 x1 x3 (x4 + (1 : Int32)) s4) else none)
def f9_feed_40 (k : Nat) : Nat → Int64 → Int32 → Int32 → ZS → Option (Int32 × ZS)
  | 0 => fun _ _ _ _ => none
  | n + 1 => b9_feed_40 k  (f9_feed_40 k  n)
theorem j9_feed_40 {x : ZX} {g : ZG} (C : zC x g b9_feed R9 (some .int) 5 2 82) {k : Nat} {r : Int32} {σr : ZS}  {q40 : Int64 → Int32 → Int32 → ZS → Option (Int32 × ZS)} (hq40 : (∀ (x1 : Int64) (x3 : Int32) (x4 : Int32) (σ : ZS), q40 x1 x3 x4 σ = some (r, σr) → zw x g 5 0 0 (zMQ x g (some (zi r)) σr) σ 40 [some (zr 103), some (zj x1), none, some (zi x3), some (zi x4)] [])) {x1 : Int64} {x3 : Int32} {x4 : Int32} {σ : ZS} (hf : b9_feed_40 k q40 x1 x3 x4 σ = some (r, σr)) : zw x g 5 0 0 (zMQ x g (some (zi r)) σr) σ 40 [some (zr 103), some (zj x1), none, some (zi x3), some (zi x4)] [] := by
  unfold b9_feed_40 at hf
  refine z_iload C d9_feed_40 rfl ?_
  refine z_iload_n C d9_feed_42 rfl ?_
  refine z_icmp_ge C d9_feed_43 (fun c1 => ?_) (fun c1 => ?_)
  · have hf := zit c1 hf
    refine z_aload_n C d9_feed_88 rfl ?_
    refine z_getR C d9_feed_89 fl_817 kZ_103 104 rfl (zn0 kZ_104) ?_
    refine z_iconst C (4 : Int32) d9_feed_92 kI_4 ?_
    refine z_iald C d9_feed_93 kZ_104 kL_104 ⟨by decide, by decide⟩ (4) kN_4 ?_
    exact z_iret C d9_feed_94 hf
  · have hf := zie c1 hf
    refine z_aload_n C d9_feed_46 rfl ?_
    refine z_getR C d9_feed_47 fl_817 kZ_103 104 rfl (zn0 kZ_104) ?_
    refine z_bipush C (64 : Int32) d9_feed_50 kB_64 ?_
    refine z_aload_n C d9_feed_52 rfl ?_
    refine z_getR C d9_feed_53 fl_817 kZ_103 104 rfl (zn0 kZ_104) ?_
    refine z_iconst C (4 : Int32) d9_feed_56 kI_4 ?_
    refine z_iald C d9_feed_57 kZ_104 kL_104 ⟨by decide, by decide⟩ (4) kN_4 ?_
    refine z_iadd C d9_feed_58 ?_
    refine z_lload_n C d9_feed_59 rfl ?_
    refine z_bipush C (8 : Int32) d9_feed_60 kB_8 ?_
    refine z_iload C d9_feed_62 rfl ?_
    refine z_imul C d9_feed_64 ?_
    refine z_lshr C d9_feed_65 ?_
    refine z_ldc2 C (255 : Int64) d9_feed_66 w_1048 ?_
    refine z_land C d9_feed_69 ?_
    refine z_l2i C d9_feed_70 ?_
    obtain ⟨g2, hf⟩ := zgo hf
    obtain ⟨s3, e3, hf⟩ := zpx hf
    refine z_iast C d9_feed_71 kZ_104 kL_104 g2 rfl e3 ?_
    refine z_aload_n C d9_feed_72 rfl ?_
    refine z_getR C d9_feed_73 fl_817 kZ_103 104 rfl (zn0 kZ_104) ?_
    refine z_iconst C (4 : Int32) d9_feed_76 kI_4 ?_
    refine z_dup2 C d9_feed_77 rfl rfl ?_
    refine z_iald C d9_feed_78 kZ_104 kL_104 ⟨by decide, by decide⟩ (4) kN_4 ?_
    refine z_iconst C (1 : Int32) d9_feed_79 kI_1 ?_
    refine z_iadd C d9_feed_80 ?_
    obtain ⟨s4, e4, hf⟩ := zpx hf
    refine z_iast C d9_feed_81 kZ_104 kL_104 ⟨by decide, by decide⟩ kN_4 e4 ?_
    refine z_iinc C d9_feed_82 rfl kI_1 (Nat.le_of_ble_eq_true rfl) rfl (L' := [some (zr 103), some (zj x1), none, some (zi x3), some (zi (x4 + (1 : Int32)))]) rfl ?_
    refine z_goto C d9_feed_85 ?_
    exact hq40 _ _ _ _ hf
theorem j9_feed_40l {x : ZX} {g : ZG} (C : zC x g b9_feed R9 (some .int) 5 2 82) {k : Nat} {r : Int32} {σr : ZS}  : ∀ (n : Nat) (x1 : Int64) (x3 : Int32) (x4 : Int32) (σ : ZS), f9_feed_40 k  n x1 x3 x4 σ = some (r, σr) → zw x g 5 0 0 (zMQ x g (some (zi r)) σr) σ 40 [some (zr 103), some (zj x1), none, some (zi x3), some (zi x4)] [] := by
  intro n
  induction n with
  | zero => intro x1 x3 x4 σ hf; exact absurd (show none = some (r, σr) from hf) (fun z => by cases z)
  | succ n ih => intro x1 x3 x4 σ hf; exact j9_feed_40 C  ih (show b9_feed_40 k  (f9_feed_40 k  n) x1 x3 x4 σ = some (r, σr) from hf)
def f9_feed (k : Nat) (x1 : Int64) (x3 : Int32) (σ : ZS) : Option (Int32 × ZS) :=
  zbd (f9_in k x3 (1 : Int32) (8 : Int32) σ) fun r1 s1 =>
  if r1 = 0 then (
  zbd (f9_error k (-1000000001 : Int32) s1) fun r3 s3 =>
  some (r3, s3))
  else (
  if ((s1 104 4) + x3) ≤ (60 : Int32) then (
  f9_feed_40 k  k x1 x3 (0 : Int32) s1)
  else (
  zbd (f9_error k (-1000000004 : Int32) s1) fun r5 s5 =>
  some (r5, s5)))
theorem c9_feed (l : Launch) (g : ZG) {k : Nat} {x1 : Int64} {x3 : Int32} {σ : ZS} {r : Int32} {σr : ZS} (hf : f9_feed k x1 x3 σ = some (r, σr)) : zT l g y9_feed b9_feed 5 (some .int) 2 82 [zr 103, zj x1, zi x3] σ (some (zi r)) σr := by
  unfold f9_feed at hf
  refine zT_start (own := R9) rfl (by decide +kernel) 1 (L := [some (zr 103), some (zj x1), none, some (zi x3), none]) rfl rfl (fun x hl C => ?_)
  subst hl
  refine z_iload_n C d9_feed_0 rfl ?_
  refine z_iconst C (1 : Int32) d9_feed_1 kI_1 ?_
  refine z_bipush C (8 : Int32) d9_feed_2 kB_8 ?_
  obtain ⟨r1, s1, h1, hf⟩ := zbx hf
  refine z_callSi C (as := [zi x3, zi (1 : Int32), zi (8 : Int32)]) d9_feed_4 w_906 yy9_in (c9_in x.2.1 g h1) rfl rfl (Nat.le_of_ble_eq_true rfl) ⟨Nat.le_of_ble_eq_true rfl, Nat.le_of_ble_eq_true rfl⟩ ⟨Nat.zero_le _, Nat.zero_le _⟩ ?_
  refine z_if_ne C d9_feed_7 (fun c2 => ?_) (fun c2 => ?_)
  · have hf := zit c2 hf
    refine z_aload_n C d9_feed_10 rfl ?_
    refine z_ldc C (-1000000001 : Int32) d9_feed_11 w_915 ?_
    obtain ⟨r3, s3, h3, hf⟩ := zbx hf
    refine z_callVi C (as := [zi (-1000000001 : Int32)]) d9_feed_13 w_916 yy9_error (c9_error x.2.1 g h3) yc9_error kZ_103 rfl rfl (Nat.le_of_ble_eq_true rfl) ⟨Nat.le_of_ble_eq_true rfl, Nat.le_of_ble_eq_true rfl⟩ ⟨Nat.zero_le _, Nat.zero_le _⟩ ?_
    exact z_iret C d9_feed_16 hf
  · have hf := zie c2 hf
    refine z_aload_n C d9_feed_17 rfl ?_
    refine z_getR C d9_feed_18 fl_817 kZ_103 104 rfl (zn0 kZ_104) ?_
    refine z_iconst C (4 : Int32) d9_feed_21 kI_4 ?_
    refine z_iald C d9_feed_22 kZ_104 kL_104 ⟨by decide, by decide⟩ (4) kN_4 ?_
    refine z_iload_n C d9_feed_23 rfl ?_
    refine z_iadd C d9_feed_24 ?_
    refine z_bipush C (60 : Int32) d9_feed_25 kB_60 ?_
    refine z_icmp_le C d9_feed_27 (fun c4 => ?_) (fun c4 => ?_)
    · have hf := zit c4 hf
      refine z_iconst C (0 : Int32) d9_feed_37 kI_0 ?_
      refine z_istore C d9_feed_38 (Nat.le_of_ble_eq_true rfl) rfl (L' := [some (zr 103), some (zj x1), none, some (zi x3), some (zi (0 : Int32))]) rfl ?_
      exact j9_feed_40l C  _ _ _ _ _ hf
    · have hf := zie c4 hf
      refine z_aload_n C d9_feed_30 rfl ?_
      refine z_ldc C (-1000000004 : Int32) d9_feed_31 w_921 ?_
      obtain ⟨r5, s5, h5, hf⟩ := zbx hf
      refine z_callVi C (as := [zi (-1000000004 : Int32)]) d9_feed_33 w_916 yy9_error (c9_error x.2.1 g h5) yc9_error kZ_103 rfl rfl (Nat.le_of_ble_eq_true rfl) ⟨Nat.le_of_ble_eq_true rfl, Nat.le_of_ble_eq_true rfl⟩ ⟨Nat.zero_le _, Nat.zero_le _⟩ ?_
      exact z_iret C d9_feed_36 hf
theorem d9_isSheet_0 : zd b9_isSheet 0 (.iload_n 0) 1 1 := ⟨by decide +kernel, rfl⟩
theorem d9_isSheet_1 : zd b9_isSheet 1 (.iconst 0) 1 2 := ⟨by decide +kernel, rfl⟩
theorem d9_isSheet_2 : zd b9_isSheet 2 (.iconst 3) 1 3 := ⟨by decide +kernel, rfl⟩
theorem d9_isSheet_3 : zd b9_isSheet 3 (.invokestatic 56) 3 6 := ⟨by decide +kernel, rfl⟩
theorem d9_isSheet_6 : zd b9_isSheet 6 .ireturn 1 7 := ⟨by decide +kernel, rfl⟩
def f9_isSheet (k : Nat) (x0 : Int32) (σ : ZS) : Option (Int32 × ZS) :=
  zbd (f9_in k x0 (0 : Int32) (3 : Int32) σ) fun r1 s1 =>
  if zbo r1 then (
  some (r1, s1)) else none
theorem c9_isSheet (l : Launch) (g : ZG) {k : Nat} {x0 : Int32} {σ : ZS} {r : Int32} {σr : ZS} (hf : f9_isSheet k x0 σ = some (r, σr)) : zT l g y9_isSheet b9_isSheet 1 (some .boolean) 2 82 [zi x0] σ (some (zi r)) σr := by
  unfold f9_isSheet at hf
  refine zT_start (own := R9) rfl (by decide +kernel) 0 (L := [some (zi x0)]) rfl rfl (fun x hl C => ?_)
  subst hl
  refine z_iload_n C d9_isSheet_0 rfl ?_
  refine z_iconst C (0 : Int32) d9_isSheet_1 kI_0 ?_
  refine z_iconst C (3 : Int32) d9_isSheet_2 kI_3 ?_
  obtain ⟨r1, s1, h1, hf⟩ := zbx hf
  refine z_callSi C (as := [zi x0, zi (0 : Int32), zi (3 : Int32)]) d9_isSheet_3 w_906 yy9_in (c9_in x.2.1 g h1) rfl rfl (Nat.le_of_ble_eq_true rfl) ⟨Nat.le_of_ble_eq_true rfl, Nat.le_of_ble_eq_true rfl⟩ ⟨Nat.zero_le _, Nat.zero_le _⟩ ?_
  obtain ⟨g2, hf⟩ := zgo hf
  exact z_zret C d9_isSheet_6 g2 hf
theorem d9_isSo_0 : zd b9_isSo 0 (.aload_n 0) 1 1 := ⟨by decide +kernel, rfl⟩
theorem d9_isSo_1 : zd b9_isSo 1 (.getfield 25) 3 4 := ⟨by decide +kernel, rfl⟩
theorem d9_isSo_4 : zd b9_isSo 4 (.iload_n 1) 1 5 := ⟨by decide +kernel, rfl⟩
theorem d9_isSo_5 : zd b9_isSo 5 .iaload 1 6 := ⟨by decide +kernel, rfl⟩
theorem d9_isSo_6 : zd b9_isSo 6 (.aload_n 0) 1 7 := ⟨by decide +kernel, rfl⟩
theorem d9_isSo_7 : zd b9_isSo 7 (.getfield 93) 3 10 := ⟨by decide +kernel, rfl⟩
theorem d9_isSo_10 : zdb b9_isSo 10 (.if_icmp .gt 7) 7 13 17 := ⟨by decide +kernel, rfl, by decide⟩
theorem d9_isSo_13 : zd b9_isSo 13 (.iconst 1) 1 14 := ⟨by decide +kernel, rfl⟩
theorem d9_isSo_14 : zdb b9_isSo 14 (.goto 4) 4 17 18 := ⟨by decide +kernel, rfl, by decide⟩
theorem d9_isSo_17 : zd b9_isSo 17 (.iconst 0) 1 18 := ⟨by decide +kernel, rfl⟩
theorem d9_isSo_18 : zd b9_isSo 18 (.istore_n 2) 1 19 := ⟨by decide +kernel, rfl⟩
theorem d9_isSo_19 : zd b9_isSo 19 (.iconst 0) 1 20 := ⟨by decide +kernel, rfl⟩
theorem d9_isSo_20 : zd b9_isSo 20 (.istore_n 3) 1 21 := ⟨by decide +kernel, rfl⟩
theorem d9_isSo_21 : zd b9_isSo 21 (.iload_n 3) 1 22 := ⟨by decide +kernel, rfl⟩
theorem d9_isSo_22 : zd b9_isSo 22 (.aload_n 0) 1 23 := ⟨by decide +kernel, rfl⟩
theorem d9_isSo_23 : zd b9_isSo 23 (.getfield 25) 3 26 := ⟨by decide +kernel, rfl⟩
theorem d9_isSo_26 : zd b9_isSo 26 (.iload_n 1) 1 27 := ⟨by decide +kernel, rfl⟩
theorem d9_isSo_27 : zd b9_isSo 27 .iaload 1 28 := ⟨by decide +kernel, rfl⟩
theorem d9_isSo_28 : zdb b9_isSo 28 (.if_icmp .ge 39) 39 31 67 := ⟨by decide +kernel, rfl, by decide⟩
theorem d9_isSo_31 : zd b9_isSo 31 (.iload_n 2) 1 32 := ⟨by decide +kernel, rfl⟩
theorem d9_isSo_32 : zdb b9_isSo 32 (.ifCond .eq 35) 35 35 67 := ⟨by decide +kernel, rfl, by decide⟩
theorem d9_isSo_35 : zd b9_isSo 35 (.aload_n 0) 1 36 := ⟨by decide +kernel, rfl⟩
theorem d9_isSo_36 : zd b9_isSo 36 (.getfield 28) 3 39 := ⟨by decide +kernel, rfl⟩
theorem d9_isSo_39 : zd b9_isSo 39 (.bipush 24) 2 41 := ⟨by decide +kernel, rfl⟩
theorem d9_isSo_41 : zd b9_isSo 41 (.iload_n 1) 1 42 := ⟨by decide +kernel, rfl⟩
theorem d9_isSo_42 : zd b9_isSo 42 .imul 1 43 := ⟨by decide +kernel, rfl⟩
theorem d9_isSo_43 : zd b9_isSo 43 (.iload_n 3) 1 44 := ⟨by decide +kernel, rfl⟩
theorem d9_isSo_44 : zd b9_isSo 44 .iadd 1 45 := ⟨by decide +kernel, rfl⟩
theorem d9_isSo_45 : zd b9_isSo 45 .iaload 1 46 := ⟨by decide +kernel, rfl⟩
theorem d9_isSo_46 : zd b9_isSo 46 (.aload_n 0) 1 47 := ⟨by decide +kernel, rfl⟩
theorem d9_isSo_47 : zd b9_isSo 47 (.getfield 31) 3 50 := ⟨by decide +kernel, rfl⟩
theorem d9_isSo_50 : zd b9_isSo 50 (.iload_n 3) 1 51 := ⟨by decide +kernel, rfl⟩
theorem d9_isSo_51 : zd b9_isSo 51 .iaload 1 52 := ⟨by decide +kernel, rfl⟩
theorem d9_isSo_52 : zdb b9_isSo 52 (.if_icmp .ne 7) 7 55 59 := ⟨by decide +kernel, rfl, by decide⟩
theorem d9_isSo_55 : zd b9_isSo 55 (.iconst 1) 1 56 := ⟨by decide +kernel, rfl⟩
theorem d9_isSo_56 : zdb b9_isSo 56 (.goto 4) 4 59 60 := ⟨by decide +kernel, rfl, by decide⟩
theorem d9_isSo_59 : zd b9_isSo 59 (.iconst 0) 1 60 := ⟨by decide +kernel, rfl⟩
theorem d9_isSo_60 : zd b9_isSo 60 (.istore_n 2) 1 61 := ⟨by decide +kernel, rfl⟩
theorem d9_isSo_61 : zd b9_isSo 61 (.iinc 3 1) 3 64 := ⟨by decide +kernel, rfl⟩
theorem d9_isSo_64 : zdb b9_isSo 64 (.goto (-43)) (-43) 67 21 := ⟨by decide +kernel, rfl, by decide⟩
theorem d9_isSo_67 : zd b9_isSo 67 (.iload_n 2) 1 68 := ⟨by decide +kernel, rfl⟩
theorem d9_isSo_68 : zd b9_isSo 68 .ireturn 1 69 := ⟨by decide +kernel, rfl⟩
def b9_isSo_21 (k : Nat) (q21 : Int32 → Int32 → Int32 → ZS → Option (Int32 × ZS)) (x1 : Int32) (x2 : Int32) (x3 : Int32) (σ : ZS) : Option (Int32 × ZS) :=
  if zin x1 4 then (
  if (σ 109 x1.toNatClampNeg) ≤ x3 then (
  if zbo x2 then (
  some (x2, σ)) else none)
  else (
  if x2 = 0 then (
  if zbo x2 then (
  some (x2, σ)) else none)
  else (
  if zin (((24 : Int32) * x1) + x3) 96 then (
  if zin x3 257 then (
  if (σ 110 (((24 : Int32) * x1) + x3).toNatClampNeg) = (σ 111 x3.toNatClampNeg) then (
  q21 x1 (1 : Int32) (x3 + (1 : Int32)) σ)
  else (
  q21 x1 (0 : Int32) (x3 + (1 : Int32)) σ)) else none) else none))) else none
def f9_isSo_21 (k : Nat) : Nat → Int32 → Int32 → Int32 → ZS → Option (Int32 × ZS)
  | 0 => fun _ _ _ _ => none
  | n + 1 => b9_isSo_21 k  (f9_isSo_21 k  n)
theorem j9_isSo_21 {x : ZX} {g : ZG} (C : zC x g b9_isSo R9 (some .boolean) 4 1 60) {k : Nat} {r : Int32} {σr : ZS}  {q21 : Int32 → Int32 → Int32 → ZS → Option (Int32 × ZS)} (hq21 : (∀ (x1 : Int32) (x2 : Int32) (x3 : Int32) (σ : ZS), q21 x1 x2 x3 σ = some (r, σr) → zw x g 4 0 0 (zMQ x g (some (zi r)) σr) σ 21 [some (zr 103), some (zi x1), some (zi x2), some (zi x3)] [])) {x1 : Int32} {x2 : Int32} {x3 : Int32} {σ : ZS} (hf : b9_isSo_21 k q21 x1 x2 x3 σ = some (r, σr)) : zw x g 4 0 0 (zMQ x g (some (zi r)) σr) σ 21 [some (zr 103), some (zi x1), some (zi x2), some (zi x3)] [] := by
  unfold b9_isSo_21 at hf
  refine z_iload_n C d9_isSo_21 rfl ?_
  refine z_aload_n C d9_isSo_22 rfl ?_
  refine z_getR C d9_isSo_23 fl_823 kZ_103 109 rfl (zn0 kZ_109) ?_
  refine z_iload_n C d9_isSo_26 rfl ?_
  obtain ⟨g1, hf⟩ := zgo hf
  refine z_iald C d9_isSo_27 kZ_109 kL_109 g1 (x1.toNatClampNeg) rfl ?_
  refine z_icmp_ge C d9_isSo_28 (fun c2 => ?_) (fun c2 => ?_)
  · have hf := zit c2 hf
    refine z_iload_n C d9_isSo_67 rfl ?_
    obtain ⟨g3, hf⟩ := zgo hf
    exact z_zret C d9_isSo_68 g3 hf
  · have hf := zie c2 hf
    refine z_iload_n C d9_isSo_31 rfl ?_
    refine z_if_eq C d9_isSo_32 (fun c4 => ?_) (fun c4 => ?_)
    · have hf := zit c4 hf
      refine z_iload_n C d9_isSo_67 rfl ?_
      obtain ⟨g5, hf⟩ := zgo hf
      exact z_zret C d9_isSo_68 g5 hf
    · have hf := zie c4 hf
      refine z_aload_n C d9_isSo_35 rfl ?_
      refine z_getR C d9_isSo_36 fl_824 kZ_103 110 rfl (zn0 kZ_110) ?_
      refine z_bipush C (24 : Int32) d9_isSo_39 kB_24 ?_
      refine z_iload_n C d9_isSo_41 rfl ?_
      refine z_imul C d9_isSo_42 ?_
      refine z_iload_n C d9_isSo_43 rfl ?_
      refine z_iadd C d9_isSo_44 ?_
      obtain ⟨g6, hf⟩ := zgo hf
      refine z_iald C d9_isSo_45 kZ_110 kL_110 g6 ((((24 : Int32) * x1) + x3).toNatClampNeg) rfl ?_
      refine z_aload_n C d9_isSo_46 rfl ?_
      refine z_getR C d9_isSo_47 fl_825 kZ_103 111 rfl (zn0 kZ_111) ?_
      refine z_iload_n C d9_isSo_50 rfl ?_
      obtain ⟨g7, hf⟩ := zgo hf
      refine z_iald C d9_isSo_51 kZ_111 kL_111 g7 (x3.toNatClampNeg) rfl ?_
      refine z_icmp_ne C d9_isSo_52 (fun c8 => ?_) (fun c8 => ?_)
      · have hf := zit c8 hf
        refine z_iconst C (1 : Int32) d9_isSo_55 kI_1 ?_
        refine z_goto C d9_isSo_56 ?_
        refine z_istore_n C d9_isSo_60 (Nat.le_of_ble_eq_true rfl) rfl (L' := [some (zr 103), some (zi x1), some (zi (1 : Int32)), some (zi x3)]) rfl ?_
        refine z_iinc C d9_isSo_61 rfl kI_1 (Nat.le_of_ble_eq_true rfl) rfl (L' := [some (zr 103), some (zi x1), some (zi (1 : Int32)), some (zi (x3 + (1 : Int32)))]) rfl ?_
        refine z_goto C d9_isSo_64 ?_
        exact hq21 _ _ _ _ hf
      · have hf := zie c8 hf
        refine z_iconst C (0 : Int32) d9_isSo_59 kI_0 ?_
        refine z_istore_n C d9_isSo_60 (Nat.le_of_ble_eq_true rfl) rfl (L' := [some (zr 103), some (zi x1), some (zi (0 : Int32)), some (zi x3)]) rfl ?_
        refine z_iinc C d9_isSo_61 rfl kI_1 (Nat.le_of_ble_eq_true rfl) rfl (L' := [some (zr 103), some (zi x1), some (zi (0 : Int32)), some (zi (x3 + (1 : Int32)))]) rfl ?_
        refine z_goto C d9_isSo_64 ?_
        exact hq21 _ _ _ _ hf
theorem j9_isSo_21l {x : ZX} {g : ZG} (C : zC x g b9_isSo R9 (some .boolean) 4 1 60) {k : Nat} {r : Int32} {σr : ZS}  : ∀ (n : Nat) (x1 : Int32) (x2 : Int32) (x3 : Int32) (σ : ZS), f9_isSo_21 k  n x1 x2 x3 σ = some (r, σr) → zw x g 4 0 0 (zMQ x g (some (zi r)) σr) σ 21 [some (zr 103), some (zi x1), some (zi x2), some (zi x3)] [] := by
  intro n
  induction n with
  | zero => intro x1 x2 x3 σ hf; exact absurd (show none = some (r, σr) from hf) (fun z => by cases z)
  | succ n ih => intro x1 x2 x3 σ hf; exact j9_isSo_21 C  ih (show b9_isSo_21 k  (f9_isSo_21 k  n) x1 x2 x3 σ = some (r, σr) from hf)
def f9_isSo (k : Nat) (x1 : Int32) (σ : ZS) : Option (Int32 × ZS) :=
  if zin x1 4 then (
  if (σ 103 9) < (σ 109 x1.toNatClampNeg) then (
  f9_isSo_21 k  k x1 (0 : Int32) (0 : Int32) σ)
  else (
  f9_isSo_21 k  k x1 (1 : Int32) (0 : Int32) σ)) else none
theorem c9_isSo (l : Launch) (g : ZG) {k : Nat} {x1 : Int32} {σ : ZS} {r : Int32} {σr : ZS} (hf : f9_isSo k x1 σ = some (r, σr)) : zT l g y9_isSo b9_isSo 4 (some .boolean) 1 60 [zr 103, zi x1] σ (some (zi r)) σr := by
  unfold f9_isSo at hf
  refine zT_start (own := R9) rfl (by decide +kernel) 2 (L := [some (zr 103), some (zi x1), none, none]) rfl rfl (fun x hl C => ?_)
  subst hl
  refine z_aload_n C d9_isSo_0 rfl ?_
  refine z_getR C d9_isSo_1 fl_823 kZ_103 109 rfl (zn0 kZ_109) ?_
  refine z_iload_n C d9_isSo_4 rfl ?_
  obtain ⟨g1, hf⟩ := zgo hf
  refine z_iald C d9_isSo_5 kZ_109 kL_109 g1 (x1.toNatClampNeg) rfl ?_
  refine z_aload_n C d9_isSo_6 rfl ?_
  refine z_getI C d9_isSo_7 fl_826 kZ_103 ?_
  refine z_icmp_gt C d9_isSo_10 (fun c2 => ?_) (fun c2 => ?_)
  · have hf := zit c2 hf
    refine z_iconst C (0 : Int32) d9_isSo_17 kI_0 ?_
    refine z_istore_n C d9_isSo_18 (Nat.le_of_ble_eq_true rfl) rfl (L' := [some (zr 103), some (zi x1), some (zi (0 : Int32)), none]) rfl ?_
    refine z_iconst C (0 : Int32) d9_isSo_19 kI_0 ?_
    refine z_istore_n C d9_isSo_20 (Nat.le_of_ble_eq_true rfl) rfl (L' := [some (zr 103), some (zi x1), some (zi (0 : Int32)), some (zi (0 : Int32))]) rfl ?_
    exact j9_isSo_21l C  _ _ _ _ _ hf
  · have hf := zie c2 hf
    refine z_iconst C (1 : Int32) d9_isSo_13 kI_1 ?_
    refine z_goto C d9_isSo_14 ?_
    refine z_istore_n C d9_isSo_18 (Nat.le_of_ble_eq_true rfl) rfl (L' := [some (zr 103), some (zi x1), some (zi (1 : Int32)), none]) rfl ?_
    refine z_iconst C (0 : Int32) d9_isSo_19 kI_0 ?_
    refine z_istore_n C d9_isSo_20 (Nat.le_of_ble_eq_true rfl) rfl (L' := [some (zr 103), some (zi x1), some (zi (1 : Int32)), some (zi (0 : Int32))]) rfl ?_
    exact j9_isSo_21l C  _ _ _ _ _ hf
theorem d9_fits_0 : zd b9_fits 0 (.iload_n 1) 1 1 := ⟨by decide +kernel, rfl⟩
theorem d9_fits_1 : zd b9_fits 1 (.invokestatic 242) 3 4 := ⟨by decide +kernel, rfl⟩
theorem d9_fits_4 : zdb b9_fits 4 (.ifCond .eq 12) 12 7 16 := ⟨by decide +kernel, rfl, by decide⟩
theorem d9_fits_7 : zd b9_fits 7 (.iload_n 2) 1 8 := ⟨by decide +kernel, rfl⟩
theorem d9_fits_8 : zd b9_fits 8 (.iconst 0) 1 9 := ⟨by decide +kernel, rfl⟩
theorem d9_fits_9 : zd b9_fits 9 (.iconst 1) 1 10 := ⟨by decide +kernel, rfl⟩
theorem d9_fits_10 : zd b9_fits 10 (.invokestatic 56) 3 13 := ⟨by decide +kernel, rfl⟩
theorem d9_fits_13 : zdb b9_fits 13 (.ifCond .ne 10) 10 16 23 := ⟨by decide +kernel, rfl, by decide⟩
theorem d9_fits_16 : zd b9_fits 16 (.aload_n 0) 1 17 := ⟨by decide +kernel, rfl⟩
theorem d9_fits_17 : zd b9_fits 17 (.ldc 130) 2 19 := ⟨by decide +kernel, rfl⟩
theorem d9_fits_19 : zd b9_fits 19 (.invokevirtual 131) 3 22 := ⟨by decide +kernel, rfl⟩
theorem d9_fits_22 : zd b9_fits 22 .ireturn 1 23 := ⟨by decide +kernel, rfl⟩
theorem d9_fits_23 : zd b9_fits 23 (.aload_n 0) 1 24 := ⟨by decide +kernel, rfl⟩
theorem d9_fits_24 : zd b9_fits 24 (.getfield 22) 3 27 := ⟨by decide +kernel, rfl⟩
theorem d9_fits_27 : zd b9_fits 27 (.iload_n 1) 1 28 := ⟨by decide +kernel, rfl⟩
theorem d9_fits_28 : zd b9_fits 28 .iaload 1 29 := ⟨by decide +kernel, rfl⟩
theorem d9_fits_29 : zdb b9_fits 29 (.ifCond .ne 10) 10 32 39 := ⟨by decide +kernel, rfl, by decide⟩
theorem d9_fits_32 : zd b9_fits 32 (.aload_n 0) 1 33 := ⟨by decide +kernel, rfl⟩
theorem d9_fits_33 : zd b9_fits 33 (.ldc 220) 2 35 := ⟨by decide +kernel, rfl⟩
theorem d9_fits_35 : zd b9_fits 35 (.invokevirtual 131) 3 38 := ⟨by decide +kernel, rfl⟩
theorem d9_fits_38 : zd b9_fits 38 .ireturn 1 39 := ⟨by decide +kernel, rfl⟩
theorem d9_fits_39 : zd b9_fits 39 (.iconst 0) 1 40 := ⟨by decide +kernel, rfl⟩
theorem d9_fits_40 : zd b9_fits 40 (.istore_n 3) 1 41 := ⟨by decide +kernel, rfl⟩
theorem d9_fits_41 : zd b9_fits 41 (.iconst (-1)) 1 42 := ⟨by decide +kernel, rfl⟩
theorem d9_fits_42 : zd b9_fits 42 (.istore 4) 2 44 := ⟨by decide +kernel, rfl⟩
theorem d9_fits_44 : zd b9_fits 44 (.sipush 255) 3 47 := ⟨by decide +kernel, rfl⟩
theorem d9_fits_47 : zd b9_fits 47 (.istore 5) 2 49 := ⟨by decide +kernel, rfl⟩
theorem d9_fits_49 : zd b9_fits 49 (.iload 5) 2 51 := ⟨by decide +kernel, rfl⟩
theorem d9_fits_51 : zdb b9_fits 51 (.ifCond .lt 55) 55 54 106 := ⟨by decide +kernel, rfl, by decide⟩
theorem d9_fits_54 : zd b9_fits 54 (.aload_n 0) 1 55 := ⟨by decide +kernel, rfl⟩
theorem d9_fits_55 : zd b9_fits 55 (.iload 5) 2 57 := ⟨by decide +kernel, rfl⟩
theorem d9_fits_57 : zd b9_fits 57 (.iconst 4) 1 58 := ⟨by decide +kernel, rfl⟩
theorem d9_fits_58 : zd b9_fits 58 .idiv 1 59 := ⟨by decide +kernel, rfl⟩
theorem d9_fits_59 : zd b9_fits 59 (.iload 5) 2 61 := ⟨by decide +kernel, rfl⟩
theorem d9_fits_61 : zd b9_fits 61 (.iconst 4) 1 62 := ⟨by decide +kernel, rfl⟩
theorem d9_fits_62 : zd b9_fits 62 .irem 1 63 := ⟨by decide +kernel, rfl⟩
theorem d9_fits_63 : zd b9_fits 63 (.invokevirtual 112) 3 66 := ⟨by decide +kernel, rfl⟩
theorem d9_fits_66 : zd b9_fits 66 (.aload_n 0) 1 67 := ⟨by decide +kernel, rfl⟩
theorem d9_fits_67 : zd b9_fits 67 (.iload_n 1) 1 68 := ⟨by decide +kernel, rfl⟩
theorem d9_fits_68 : zd b9_fits 68 (.invokevirtual 245) 3 71 := ⟨by decide +kernel, rfl⟩
theorem d9_fits_71 : zd b9_fits 71 (.istore 6) 2 73 := ⟨by decide +kernel, rfl⟩
theorem d9_fits_73 : zd b9_fits 73 (.iload_n 3) 1 74 := ⟨by decide +kernel, rfl⟩
theorem d9_fits_74 : zd b9_fits 74 (.iload 6) 2 76 := ⟨by decide +kernel, rfl⟩
theorem d9_fits_76 : zdb b9_fits 76 (.ifCond .eq 7) 7 79 83 := ⟨by decide +kernel, rfl, by decide⟩
theorem d9_fits_79 : zd b9_fits 79 (.iconst 1) 1 80 := ⟨by decide +kernel, rfl⟩
theorem d9_fits_80 : zdb b9_fits 80 (.goto 4) 4 83 84 := ⟨by decide +kernel, rfl, by decide⟩
theorem d9_fits_83 : zd b9_fits 83 (.iconst 0) 1 84 := ⟨by decide +kernel, rfl⟩
theorem d9_fits_84 : zd b9_fits 84 .iadd 1 85 := ⟨by decide +kernel, rfl⟩
theorem d9_fits_85 : zd b9_fits 85 (.istore_n 3) 1 86 := ⟨by decide +kernel, rfl⟩
theorem d9_fits_86 : zd b9_fits 86 (.iload 6) 2 88 := ⟨by decide +kernel, rfl⟩
theorem d9_fits_88 : zdb b9_fits 88 (.ifCond .eq 8) 8 91 96 := ⟨by decide +kernel, rfl, by decide⟩
theorem d9_fits_91 : zd b9_fits 91 (.iload 5) 2 93 := ⟨by decide +kernel, rfl⟩
theorem d9_fits_93 : zdb b9_fits 93 (.goto 5) 5 96 98 := ⟨by decide +kernel, rfl, by decide⟩
theorem d9_fits_96 : zd b9_fits 96 (.iload 4) 2 98 := ⟨by decide +kernel, rfl⟩
theorem d9_fits_98 : zd b9_fits 98 (.istore 4) 2 100 := ⟨by decide +kernel, rfl⟩
theorem d9_fits_100 : zd b9_fits 100 (.iinc 5 (-1)) 3 103 := ⟨by decide +kernel, rfl⟩
theorem d9_fits_103 : zdb b9_fits 103 (.goto (-54)) (-54) 106 49 := ⟨by decide +kernel, rfl, by decide⟩
theorem d9_fits_106 : zd b9_fits 106 (.iload_n 2) 1 107 := ⟨by decide +kernel, rfl⟩
theorem d9_fits_107 : zdb b9_fits 107 (.ifCond .ne 7) 7 110 114 := ⟨by decide +kernel, rfl, by decide⟩
theorem d9_fits_110 : zd b9_fits 110 (.iload_n 3) 1 111 := ⟨by decide +kernel, rfl⟩
theorem d9_fits_111 : zdb b9_fits 111 (.goto 19) 19 114 130 := ⟨by decide +kernel, rfl, by decide⟩
theorem d9_fits_114 : zd b9_fits 114 (.iload 4) 2 116 := ⟨by decide +kernel, rfl⟩
theorem d9_fits_116 : zdb b9_fits 116 (.ifCond .ge 12) 12 119 128 := ⟨by decide +kernel, rfl, by decide⟩
theorem d9_fits_119 : zd b9_fits 119 (.aload_n 0) 1 120 := ⟨by decide +kernel, rfl⟩
theorem d9_fits_120 : zd b9_fits 120 (.ldc 220) 2 122 := ⟨by decide +kernel, rfl⟩
theorem d9_fits_122 : zd b9_fits 122 (.invokevirtual 131) 3 125 := ⟨by decide +kernel, rfl⟩
theorem d9_fits_125 : zdb b9_fits 125 (.goto 5) 5 128 130 := ⟨by decide +kernel, rfl, by decide⟩
theorem d9_fits_128 : zd b9_fits 128 (.iload 4) 2 130 := ⟨by decide +kernel, rfl⟩
theorem d9_fits_130 : zd b9_fits 130 .ireturn 1 131 := ⟨by decide +kernel, rfl⟩
def b9_fits_84 (k : Nat) (q49 : Int32 → Int32 → Int32 → Int32 → Int32 → ZS → Option (Int32 × ZS)) (x1 : Int32) (x2 : Int32) (x4 : Int32) (x5 : Int32) (x6 : Int32) (v0 : Int32) (v1 : Int32) (σ : ZS) : Option (Int32 × ZS) :=
  if x6 = 0 then (
  q49 x1 x2 (v0 + v1) x4 (x5 + (-1 : Int32)) σ)
  else (
  q49 x1 x2 (v0 + v1) x5 (x5 + (-1 : Int32)) σ)
theorem j9_fits_84 {x : ZX} {g : ZG} (C : zC x g b9_fits R9 (some .int) 7 6 180) {k : Nat} {r : Int32} {σr : ZS}  {q49 : Int32 → Int32 → Int32 → Int32 → Int32 → ZS → Option (Int32 × ZS)} (hq49 : (∀ (x1 : Int32) (x2 : Int32) (x3 : Int32) (x4 : Int32) (x5 : Int32) (σ : ZS), q49 x1 x2 x3 x4 x5 σ = some (r, σr) → zw x g 7 0 0 (zMQ x g (some (zi r)) σr) σ 49 [some (zr 103), some (zi x1), some (zi x2), some (zi x3), some (zi x4), some (zi x5), none] [])) {x1 : Int32} {x2 : Int32} {x4 : Int32} {x5 : Int32} {x6 : Int32} {v0 : Int32} {v1 : Int32} {σ : ZS} (hf : b9_fits_84 k q49 x1 x2 x4 x5 x6 v0 v1 σ = some (r, σr)) : zw x g 7 0 0 (zMQ x g (some (zi r)) σr) σ 84 [some (zr 103), some (zi x1), some (zi x2), none, some (zi x4), some (zi x5), some (zi x6)] [zi v1, zi v0] := by
  unfold b9_fits_84 at hf
  refine z_iadd C d9_fits_84 ?_
  refine z_istore_n C d9_fits_85 (Nat.le_of_ble_eq_true rfl) rfl (L' := [some (zr 103), some (zi x1), some (zi x2), some (zi (v0 + v1)), some (zi x4), some (zi x5), some (zi x6)]) rfl ?_
  refine z_iload C d9_fits_86 rfl ?_
  refine z_if_eq C d9_fits_88 (fun c1 => ?_) (fun c1 => ?_)
  · have hf := zit c1 hf
    refine z_iload C d9_fits_96 rfl ?_
    refine z_istore C d9_fits_98 (Nat.le_of_ble_eq_true rfl) rfl (L' := [some (zr 103), some (zi x1), some (zi x2), some (zi (v0 + v1)), some (zi x4), some (zi x5), some (zi x6)]) rfl ?_
    refine z_iinc C d9_fits_100 rfl kI_m1 (Nat.le_of_ble_eq_true rfl) rfl (L' := [some (zr 103), some (zi x1), some (zi x2), some (zi (v0 + v1)), some (zi x4), some (zi (x5 + (-1 : Int32))), some (zi x6)]) rfl ?_
    refine z_goto C d9_fits_103 ?_
    refine z_drop [true, true, true, true, true, true, false] (L' := [some (zr 103), some (zi x1), some (zi x2), some (zi (v0 + v1)), some (zi x4), some (zi (x5 + (-1 : Int32))), none]) rfl ?_
    exact hq49 _ _ _ _ _ _ hf
  · have hf := zie c1 hf
    refine z_iload C d9_fits_91 rfl ?_
    refine z_goto C d9_fits_93 ?_
    refine z_istore C d9_fits_98 (Nat.le_of_ble_eq_true rfl) rfl (L' := [some (zr 103), some (zi x1), some (zi x2), some (zi (v0 + v1)), some (zi x5), some (zi x5), some (zi x6)]) rfl ?_
    refine z_iinc C d9_fits_100 rfl kI_m1 (Nat.le_of_ble_eq_true rfl) rfl (L' := [some (zr 103), some (zi x1), some (zi x2), some (zi (v0 + v1)), some (zi x5), some (zi (x5 + (-1 : Int32))), some (zi x6)]) rfl ?_
    refine z_goto C d9_fits_103 ?_
    refine z_drop [true, true, true, true, true, true, false] (L' := [some (zr 103), some (zi x1), some (zi x2), some (zi (v0 + v1)), some (zi x5), some (zi (x5 + (-1 : Int32))), none]) rfl ?_
    exact hq49 _ _ _ _ _ _ hf
def b9_fits_49 (k : Nat) (q49 : Int32 → Int32 → Int32 → Int32 → Int32 → ZS → Option (Int32 × ZS)) (x1 : Int32) (x2 : Int32) (x3 : Int32) (x4 : Int32) (x5 : Int32) (σ : ZS) : Option (Int32 × ZS) :=
  if x5 < 0 then (
  if x2 = 0 then (
  some (x3, σ))
  else (
  if 0 ≤ x4 then (
  some (x4, σ))
  else (
  zbd (f9_error k (-1000000002 : Int32) σ) fun r4 s4 =>
  some (r4, s4))))
  else (
  zbd (f9_looks k (x5 / (4 : Int32)) (x5 % (4 : Int32)) σ) fun _ s5 =>
  zbd (f9_isSo k x1 s5) fun r6 s6 =>
  if r6 = 0 then (
  b9_fits_84 k q49 x1 x2 x4 x5 r6 x3 (0 : Int32) s6)
  else (
  b9_fits_84 k q49 x1 x2 x4 x5 r6 x3 (1 : Int32) s6))
def f9_fits_49 (k : Nat) : Nat → Int32 → Int32 → Int32 → Int32 → Int32 → ZS → Option (Int32 × ZS)
  | 0 => fun _ _ _ _ _ _ => none
  | n + 1 => b9_fits_49 k  (f9_fits_49 k  n)
theorem j9_fits_49 {x : ZX} {g : ZG} (C : zC x g b9_fits R9 (some .int) 7 6 180) {k : Nat} {r : Int32} {σr : ZS}  {q49 : Int32 → Int32 → Int32 → Int32 → Int32 → ZS → Option (Int32 × ZS)} (hq49 : (∀ (x1 : Int32) (x2 : Int32) (x3 : Int32) (x4 : Int32) (x5 : Int32) (σ : ZS), q49 x1 x2 x3 x4 x5 σ = some (r, σr) → zw x g 7 0 0 (zMQ x g (some (zi r)) σr) σ 49 [some (zr 103), some (zi x1), some (zi x2), some (zi x3), some (zi x4), some (zi x5), none] [])) {x1 : Int32} {x2 : Int32} {x3 : Int32} {x4 : Int32} {x5 : Int32} {σ : ZS} (hf : b9_fits_49 k q49 x1 x2 x3 x4 x5 σ = some (r, σr)) : zw x g 7 0 0 (zMQ x g (some (zi r)) σr) σ 49 [some (zr 103), some (zi x1), some (zi x2), some (zi x3), some (zi x4), some (zi x5), none] [] := by
  unfold b9_fits_49 at hf
  refine z_iload C d9_fits_49 rfl ?_
  refine z_if_lt C d9_fits_51 (fun c1 => ?_) (fun c1 => ?_)
  · have hf := zit c1 hf
    refine z_iload_n C d9_fits_106 rfl ?_
    refine z_if_ne C d9_fits_107 (fun c2 => ?_) (fun c2 => ?_)
    · have hf := zit c2 hf
      refine z_iload_n C d9_fits_110 rfl ?_
      refine z_goto C d9_fits_111 ?_
      exact z_iret C d9_fits_130 hf
    · have hf := zie c2 hf
      refine z_iload C d9_fits_114 rfl ?_
      refine z_if_ge C d9_fits_116 (fun c3 => ?_) (fun c3 => ?_)
      · have hf := zit c3 hf
        refine z_iload C d9_fits_128 rfl ?_
        exact z_iret C d9_fits_130 hf
      · have hf := zie c3 hf
        refine z_aload_n C d9_fits_119 rfl ?_
        refine z_ldc C (-1000000002 : Int32) d9_fits_120 w_1134 ?_
        obtain ⟨r4, s4, h4, hf⟩ := zbx hf
        refine z_callVi C (as := [zi (-1000000002 : Int32)]) d9_fits_122 w_916 yy9_error (c9_error x.2.1 g h4) yc9_error kZ_103 rfl rfl (Nat.le_of_ble_eq_true rfl) ⟨Nat.le_of_ble_eq_true rfl, Nat.le_of_ble_eq_true rfl⟩ ⟨Nat.zero_le _, Nat.zero_le _⟩ ?_
        refine z_goto C d9_fits_125 ?_
        exact z_iret C d9_fits_130 hf
  · have hf := zie c1 hf
    refine z_aload_n C d9_fits_54 rfl ?_
    refine z_iload C d9_fits_55 rfl ?_
    refine z_iconst C (4 : Int32) d9_fits_57 kI_4 ?_
    refine z_idiv C d9_fits_58 (by decide) ?_
    refine z_iload C d9_fits_59 rfl ?_
    refine z_iconst C (4 : Int32) d9_fits_61 kI_4 ?_
    refine z_irem C d9_fits_62 (by decide) ?_
    obtain ⟨r5, s5, h5, hf⟩ := zbx hf
    refine z_callVv C (as := [zi (x5 / (4 : Int32)), zi (x5 % (4 : Int32))]) d9_fits_63 w_1002 yy9_looks (c9_looks x.2.1 g h5) yc9_looks kZ_103 rfl rfl (Nat.le_of_ble_eq_true rfl) ⟨Nat.le_of_ble_eq_true rfl, Nat.le_of_ble_eq_true rfl⟩ ⟨Nat.zero_le _, Nat.zero_le _⟩ ?_
    refine z_aload_n C d9_fits_66 rfl ?_
    refine z_iload_n C d9_fits_67 rfl ?_
    obtain ⟨r6, s6, h6, hf⟩ := zbx hf
    refine z_callVi C (as := [zi x1]) d9_fits_68 w_1189 yy9_isSo (c9_isSo x.2.1 g h6) yc9_isSo kZ_103 rfl rfl (Nat.le_of_ble_eq_true rfl) ⟨Nat.le_of_ble_eq_true rfl, Nat.le_of_ble_eq_true rfl⟩ ⟨Nat.zero_le _, Nat.zero_le _⟩ ?_
    refine z_istore C d9_fits_71 (Nat.le_of_ble_eq_true rfl) rfl (L' := [some (zr 103), some (zi x1), some (zi x2), some (zi x3), some (zi x4), some (zi x5), some (zi r6)]) rfl ?_
    refine z_iload_n C d9_fits_73 rfl ?_
    refine z_iload C d9_fits_74 rfl ?_
    refine z_if_eq C d9_fits_76 (fun c7 => ?_) (fun c7 => ?_)
    · have hf := zit c7 hf
      refine z_iconst C (0 : Int32) d9_fits_83 kI_0 ?_
      refine z_drop [true, true, true, false, true, true, true] (L' := [some (zr 103), some (zi x1), some (zi x2), none, some (zi x4), some (zi x5), some (zi r6)]) rfl ?_
      exact j9_fits_84 C hq49 hf
    · have hf := zie c7 hf
      refine z_iconst C (1 : Int32) d9_fits_79 kI_1 ?_
      refine z_goto C d9_fits_80 ?_
      refine z_drop [true, true, true, false, true, true, true] (L' := [some (zr 103), some (zi x1), some (zi x2), none, some (zi x4), some (zi x5), some (zi r6)]) rfl ?_
      exact j9_fits_84 C hq49 hf
theorem j9_fits_49l {x : ZX} {g : ZG} (C : zC x g b9_fits R9 (some .int) 7 6 180) {k : Nat} {r : Int32} {σr : ZS}  : ∀ (n : Nat) (x1 : Int32) (x2 : Int32) (x3 : Int32) (x4 : Int32) (x5 : Int32) (σ : ZS), f9_fits_49 k  n x1 x2 x3 x4 x5 σ = some (r, σr) → zw x g 7 0 0 (zMQ x g (some (zi r)) σr) σ 49 [some (zr 103), some (zi x1), some (zi x2), some (zi x3), some (zi x4), some (zi x5), none] [] := by
  intro n
  induction n with
  | zero => intro x1 x2 x3 x4 x5 σ hf; exact absurd (show none = some (r, σr) from hf) (fun z => by cases z)
  | succ n ih => intro x1 x2 x3 x4 x5 σ hf; exact j9_fits_49 C  ih (show b9_fits_49 k  (f9_fits_49 k  n) x1 x2 x3 x4 x5 σ = some (r, σr) from hf)
def f9_fits (k : Nat) (x1 : Int32) (x2 : Int32) (σ : ZS) : Option (Int32 × ZS) :=
  zbd (f9_isSheet k x1 σ) fun r1 s1 =>
  if r1 = 0 then (
  zbd (f9_error k (-1000000001 : Int32) s1) fun r3 s3 =>
  some (r3, s3))
  else (
  zbd (f9_in k x2 (0 : Int32) (1 : Int32) s1) fun r4 s4 =>
  if r4 = 0 then (
  zbd (f9_error k (-1000000001 : Int32) s4) fun r6 s6 =>
  some (r6, s6))
  else (
  if zin x1 4 then (
  if (s4 108 x1.toNatClampNeg) = 0 then (
  zbd (f9_error k (-1000000002 : Int32) s4) fun r9 s9 =>
  some (r9, s9))
  else (
  f9_fits_49 k  k x1 x2 (0 : Int32) (-1 : Int32) (255 : Int32) s4)) else none))
theorem c9_fits (l : Launch) (g : ZG) {k : Nat} {x1 : Int32} {x2 : Int32} {σ : ZS} {r : Int32} {σr : ZS} (hf : f9_fits k x1 x2 σ = some (r, σr)) : zT l g y9_fits b9_fits 7 (some .int) 6 180 [zr 103, zi x1, zi x2] σ (some (zi r)) σr := by
  unfold f9_fits at hf
  refine zT_start (own := R9) rfl (by decide +kernel) 4 (L := [some (zr 103), some (zi x1), some (zi x2), none, none, none, none]) rfl rfl (fun x hl C => ?_)
  subst hl
  refine z_iload_n C d9_fits_0 rfl ?_
  obtain ⟨r1, s1, h1, hf⟩ := zbx hf
  refine z_callSi C (as := [zi x1]) d9_fits_1 w_1186 yy9_isSheet (c9_isSheet x.2.1 g h1) rfl rfl (Nat.le_of_ble_eq_true rfl) ⟨Nat.le_of_ble_eq_true rfl, Nat.le_of_ble_eq_true rfl⟩ ⟨Nat.zero_le _, Nat.zero_le _⟩ ?_
  refine z_if_eq C d9_fits_4 (fun c2 => ?_) (fun c2 => ?_)
  · have hf := zit c2 hf
    refine z_aload_n C d9_fits_16 rfl ?_
    refine z_ldc C (-1000000001 : Int32) d9_fits_17 w_915 ?_
    obtain ⟨r3, s3, h3, hf⟩ := zbx hf
    refine z_callVi C (as := [zi (-1000000001 : Int32)]) d9_fits_19 w_916 yy9_error (c9_error x.2.1 g h3) yc9_error kZ_103 rfl rfl (Nat.le_of_ble_eq_true rfl) ⟨Nat.le_of_ble_eq_true rfl, Nat.le_of_ble_eq_true rfl⟩ ⟨Nat.zero_le _, Nat.zero_le _⟩ ?_
    exact z_iret C d9_fits_22 hf
  · have hf := zie c2 hf
    refine z_iload_n C d9_fits_7 rfl ?_
    refine z_iconst C (0 : Int32) d9_fits_8 kI_0 ?_
    refine z_iconst C (1 : Int32) d9_fits_9 kI_1 ?_
    obtain ⟨r4, s4, h4, hf⟩ := zbx hf
    refine z_callSi C (as := [zi x2, zi (0 : Int32), zi (1 : Int32)]) d9_fits_10 w_906 yy9_in (c9_in x.2.1 g h4) rfl rfl (Nat.le_of_ble_eq_true rfl) ⟨Nat.le_of_ble_eq_true rfl, Nat.le_of_ble_eq_true rfl⟩ ⟨Nat.zero_le _, Nat.zero_le _⟩ ?_
    refine z_if_ne C d9_fits_13 (fun c5 => ?_) (fun c5 => ?_)
    · have hf := zit c5 hf
      refine z_aload_n C d9_fits_16 rfl ?_
      refine z_ldc C (-1000000001 : Int32) d9_fits_17 w_915 ?_
      obtain ⟨r6, s6, h6, hf⟩ := zbx hf
      refine z_callVi C (as := [zi (-1000000001 : Int32)]) d9_fits_19 w_916 yy9_error (c9_error x.2.1 g h6) yc9_error kZ_103 rfl rfl (Nat.le_of_ble_eq_true rfl) ⟨Nat.le_of_ble_eq_true rfl, Nat.le_of_ble_eq_true rfl⟩ ⟨Nat.zero_le _, Nat.zero_le _⟩ ?_
      exact z_iret C d9_fits_22 hf
    · have hf := zie c5 hf
      refine z_aload_n C d9_fits_23 rfl ?_
      refine z_getR C d9_fits_24 fl_822 kZ_103 108 rfl (zn0 kZ_108) ?_
      refine z_iload_n C d9_fits_27 rfl ?_
      obtain ⟨g7, hf⟩ := zgo hf
      refine z_iald C d9_fits_28 kZ_108 kL_108 g7 (x1.toNatClampNeg) rfl ?_
      refine z_if_ne C d9_fits_29 (fun c8 => ?_) (fun c8 => ?_)
      · have hf := zit c8 hf
        refine z_aload_n C d9_fits_32 rfl ?_
        refine z_ldc C (-1000000002 : Int32) d9_fits_33 w_1134 ?_
        obtain ⟨r9, s9, h9, hf⟩ := zbx hf
        refine z_callVi C (as := [zi (-1000000002 : Int32)]) d9_fits_35 w_916 yy9_error (c9_error x.2.1 g h9) yc9_error kZ_103 rfl rfl (Nat.le_of_ble_eq_true rfl) ⟨Nat.le_of_ble_eq_true rfl, Nat.le_of_ble_eq_true rfl⟩ ⟨Nat.zero_le _, Nat.zero_le _⟩ ?_
        exact z_iret C d9_fits_38 hf
      · have hf := zie c8 hf
        refine z_iconst C (0 : Int32) d9_fits_39 kI_0 ?_
        refine z_istore_n C d9_fits_40 (Nat.le_of_ble_eq_true rfl) rfl (L' := [some (zr 103), some (zi x1), some (zi x2), some (zi (0 : Int32)), none, none, none]) rfl ?_
        refine z_iconst C (-1 : Int32) d9_fits_41 kI_m1 ?_
        refine z_istore C d9_fits_42 (Nat.le_of_ble_eq_true rfl) rfl (L' := [some (zr 103), some (zi x1), some (zi x2), some (zi (0 : Int32)), some (zi (-1 : Int32)), none, none]) rfl ?_
        refine z_sipush C (255 : Int32) d9_fits_44 kS_255 ?_
        refine z_istore C d9_fits_47 (Nat.le_of_ble_eq_true rfl) rfl (L' := [some (zr 103), some (zi x1), some (zi x2), some (zi (0 : Int32)), some (zi (-1 : Int32)), some (zi (255 : Int32)), none]) rfl ?_
        exact j9_fits_49l C  _ _ _ _ _ _ _ hf
theorem d9_glass_0 : zd b9_glass 0 (.iload_n 1) 1 1 := ⟨by decide +kernel, rfl⟩
theorem d9_glass_1 : zd b9_glass 1 (.invokestatic 120) 3 4 := ⟨by decide +kernel, rfl⟩
theorem d9_glass_4 : zdb b9_glass 4 (.ifCond .eq 17) 17 7 21 := ⟨by decide +kernel, rfl, by decide⟩
theorem d9_glass_7 : zd b9_glass 7 (.iload_n 2) 1 8 := ⟨by decide +kernel, rfl⟩
theorem d9_glass_8 : zd b9_glass 8 (.invokestatic 124) 3 11 := ⟨by decide +kernel, rfl⟩
theorem d9_glass_11 : zdb b9_glass 11 (.ifCond .eq 10) 10 14 21 := ⟨by decide +kernel, rfl, by decide⟩
theorem d9_glass_14 : zd b9_glass 14 (.iload_n 3) 1 15 := ⟨by decide +kernel, rfl⟩
theorem d9_glass_15 : zd b9_glass 15 (.invokestatic 127) 3 18 := ⟨by decide +kernel, rfl⟩
theorem d9_glass_18 : zdb b9_glass 18 (.ifCond .ne 10) 10 21 28 := ⟨by decide +kernel, rfl, by decide⟩
theorem d9_glass_21 : zd b9_glass 21 (.aload_n 0) 1 22 := ⟨by decide +kernel, rfl⟩
theorem d9_glass_22 : zd b9_glass 22 (.ldc 130) 2 24 := ⟨by decide +kernel, rfl⟩
theorem d9_glass_24 : zd b9_glass 24 (.invokevirtual 131) 3 27 := ⟨by decide +kernel, rfl⟩
theorem d9_glass_27 : zd b9_glass 27 .ireturn 1 28 := ⟨by decide +kernel, rfl⟩
theorem d9_glass_28 : zd b9_glass 28 (.aload_n 0) 1 29 := ⟨by decide +kernel, rfl⟩
theorem d9_glass_29 : zd b9_glass 29 (.getfield 9) 3 32 := ⟨by decide +kernel, rfl⟩
theorem d9_glass_32 : zd b9_glass 32 (.iconst 2) 1 33 := ⟨by decide +kernel, rfl⟩
theorem d9_glass_33 : zd b9_glass 33 .iaload 1 34 := ⟨by decide +kernel, rfl⟩
theorem d9_glass_34 : zd b9_glass 34 (.istore 4) 2 36 := ⟨by decide +kernel, rfl⟩
theorem d9_glass_36 : zd b9_glass 36 (.iload 4) 2 38 := ⟨by decide +kernel, rfl⟩
theorem d9_glass_38 : zd b9_glass 38 (.bipush 8) 2 40 := ⟨by decide +kernel, rfl⟩
theorem d9_glass_40 : zdb b9_glass 40 (.if_icmp .ne 10) 10 43 50 := ⟨by decide +kernel, rfl, by decide⟩
theorem d9_glass_43 : zd b9_glass 43 (.aload_n 0) 1 44 := ⟨by decide +kernel, rfl⟩
theorem d9_glass_44 : zd b9_glass 44 (.ldc 134) 2 46 := ⟨by decide +kernel, rfl⟩
theorem d9_glass_46 : zd b9_glass 46 (.invokevirtual 131) 3 49 := ⟨by decide +kernel, rfl⟩
theorem d9_glass_49 : zd b9_glass 49 .ireturn 1 50 := ⟨by decide +kernel, rfl⟩
theorem d9_glass_50 : zd b9_glass 50 (.aload_n 0) 1 51 := ⟨by decide +kernel, rfl⟩
theorem d9_glass_51 : zd b9_glass 51 (.iload_n 2) 1 52 := ⟨by decide +kernel, rfl⟩
theorem d9_glass_52 : zd b9_glass 52 (.invokevirtual 99) 3 55 := ⟨by decide +kernel, rfl⟩
theorem d9_glass_55 : zdb b9_glass 55 (.ifCond .lt 10) 10 58 65 := ⟨by decide +kernel, rfl, by decide⟩
theorem d9_glass_58 : zd b9_glass 58 (.aload_n 0) 1 59 := ⟨by decide +kernel, rfl⟩
theorem d9_glass_59 : zd b9_glass 59 (.ldc 135) 2 61 := ⟨by decide +kernel, rfl⟩
theorem d9_glass_61 : zd b9_glass 61 (.invokevirtual 131) 3 64 := ⟨by decide +kernel, rfl⟩
theorem d9_glass_64 : zd b9_glass 64 .ireturn 1 65 := ⟨by decide +kernel, rfl⟩
theorem d9_glass_65 : zd b9_glass 65 (.bipush 6) 2 67 := ⟨by decide +kernel, rfl⟩
theorem d9_glass_67 : zd b9_glass 67 (.iconst 5) 1 68 := ⟨by decide +kernel, rfl⟩
theorem d9_glass_68 : zd b9_glass 68 (.iload 4) 2 70 := ⟨by decide +kernel, rfl⟩
theorem d9_glass_70 : zd b9_glass 70 .imul 1 71 := ⟨by decide +kernel, rfl⟩
theorem d9_glass_71 : zd b9_glass 71 .iadd 1 72 := ⟨by decide +kernel, rfl⟩
theorem d9_glass_72 : zd b9_glass 72 (.istore 5) 2 74 := ⟨by decide +kernel, rfl⟩
theorem d9_glass_74 : zd b9_glass 74 (.aload_n 0) 1 75 := ⟨by decide +kernel, rfl⟩
theorem d9_glass_75 : zd b9_glass 75 (.getfield 9) 3 78 := ⟨by decide +kernel, rfl⟩
theorem d9_glass_78 : zd b9_glass 78 (.iconst 2) 1 79 := ⟨by decide +kernel, rfl⟩
theorem d9_glass_79 : zd b9_glass 79 .dup2 1 80 := ⟨by decide +kernel, rfl⟩
theorem d9_glass_80 : zd b9_glass 80 .iaload 1 81 := ⟨by decide +kernel, rfl⟩
theorem d9_glass_81 : zd b9_glass 81 (.iconst 1) 1 82 := ⟨by decide +kernel, rfl⟩
theorem d9_glass_82 : zd b9_glass 82 .iadd 1 83 := ⟨by decide +kernel, rfl⟩
theorem d9_glass_83 : zd b9_glass 83 .iastore 1 84 := ⟨by decide +kernel, rfl⟩
theorem d9_glass_84 : zd b9_glass 84 (.aload_n 0) 1 85 := ⟨by decide +kernel, rfl⟩
theorem d9_glass_85 : zd b9_glass 85 (.getfield 9) 3 88 := ⟨by decide +kernel, rfl⟩
theorem d9_glass_88 : zd b9_glass 88 (.iload 5) 2 90 := ⟨by decide +kernel, rfl⟩
theorem d9_glass_90 : zd b9_glass 90 (.iload_n 1) 1 91 := ⟨by decide +kernel, rfl⟩
theorem d9_glass_91 : zd b9_glass 91 (.bipush 10) 2 93 := ⟨by decide +kernel, rfl⟩
theorem d9_glass_93 : zd b9_glass 93 .idiv 1 94 := ⟨by decide +kernel, rfl⟩
theorem d9_glass_94 : zd b9_glass 94 .iastore 1 95 := ⟨by decide +kernel, rfl⟩
theorem d9_glass_95 : zd b9_glass 95 (.aload_n 0) 1 96 := ⟨by decide +kernel, rfl⟩
theorem d9_glass_96 : zd b9_glass 96 (.getfield 9) 3 99 := ⟨by decide +kernel, rfl⟩
theorem d9_glass_99 : zd b9_glass 99 (.iload 5) 2 101 := ⟨by decide +kernel, rfl⟩
theorem d9_glass_101 : zd b9_glass 101 (.iconst 1) 1 102 := ⟨by decide +kernel, rfl⟩
theorem d9_glass_102 : zd b9_glass 102 .iadd 1 103 := ⟨by decide +kernel, rfl⟩
theorem d9_glass_103 : zd b9_glass 103 (.iload_n 1) 1 104 := ⟨by decide +kernel, rfl⟩
theorem d9_glass_104 : zd b9_glass 104 (.bipush 10) 2 106 := ⟨by decide +kernel, rfl⟩
theorem d9_glass_106 : zd b9_glass 106 .irem 1 107 := ⟨by decide +kernel, rfl⟩
theorem d9_glass_107 : zd b9_glass 107 .iastore 1 108 := ⟨by decide +kernel, rfl⟩
theorem d9_glass_108 : zd b9_glass 108 (.aload_n 0) 1 109 := ⟨by decide +kernel, rfl⟩
theorem d9_glass_109 : zd b9_glass 109 (.getfield 9) 3 112 := ⟨by decide +kernel, rfl⟩
theorem d9_glass_112 : zd b9_glass 112 (.iload 5) 2 114 := ⟨by decide +kernel, rfl⟩
theorem d9_glass_114 : zd b9_glass 114 (.iconst 2) 1 115 := ⟨by decide +kernel, rfl⟩
theorem d9_glass_115 : zd b9_glass 115 .iadd 1 116 := ⟨by decide +kernel, rfl⟩
theorem d9_glass_116 : zd b9_glass 116 (.iload_n 2) 1 117 := ⟨by decide +kernel, rfl⟩
theorem d9_glass_117 : zd b9_glass 117 .iastore 1 118 := ⟨by decide +kernel, rfl⟩
theorem d9_glass_118 : zd b9_glass 118 (.aload_n 0) 1 119 := ⟨by decide +kernel, rfl⟩
theorem d9_glass_119 : zd b9_glass 119 (.getfield 9) 3 122 := ⟨by decide +kernel, rfl⟩
theorem d9_glass_122 : zd b9_glass 122 (.iload 5) 2 124 := ⟨by decide +kernel, rfl⟩
theorem d9_glass_124 : zd b9_glass 124 (.iconst 3) 1 125 := ⟨by decide +kernel, rfl⟩
theorem d9_glass_125 : zd b9_glass 125 .iadd 1 126 := ⟨by decide +kernel, rfl⟩
theorem d9_glass_126 : zd b9_glass 126 (.iload_n 3) 1 127 := ⟨by decide +kernel, rfl⟩
theorem d9_glass_127 : zd b9_glass 127 .iastore 1 128 := ⟨by decide +kernel, rfl⟩
theorem d9_glass_128 : zd b9_glass 128 (.aload_n 0) 1 129 := ⟨by decide +kernel, rfl⟩
theorem d9_glass_129 : zd b9_glass 129 (.getfield 9) 3 132 := ⟨by decide +kernel, rfl⟩
theorem d9_glass_132 : zd b9_glass 132 (.iload 5) 2 134 := ⟨by decide +kernel, rfl⟩
theorem d9_glass_134 : zd b9_glass 134 (.iconst 4) 1 135 := ⟨by decide +kernel, rfl⟩
theorem d9_glass_135 : zd b9_glass 135 .iadd 1 136 := ⟨by decide +kernel, rfl⟩
theorem d9_glass_136 : zd b9_glass 136 (.iconst 0) 1 137 := ⟨by decide +kernel, rfl⟩
theorem d9_glass_137 : zd b9_glass 137 .iastore 1 138 := ⟨by decide +kernel, rfl⟩
theorem d9_glass_138 : zd b9_glass 138 (.iload 4) 2 140 := ⟨by decide +kernel, rfl⟩
theorem d9_glass_140 : zd b9_glass 140 .ireturn 1 141 := ⟨by decide +kernel, rfl⟩
def f9_glass (k : Nat) (x1 : Int32) (x2 : Int32) (x3 : Int32) (σ : ZS) : Option (Int32 × ZS) :=
  zbd (f9_isKm k x1 σ) fun r1 s1 =>
  if r1 = 0 then (
  zbd (f9_error k (-1000000001 : Int32) s1) fun r3 s3 =>
  some (r3, s3))
  else (
  zbd (f9_isCell k x2 s1) fun r4 s4 =>
  if r4 = 0 then (
  zbd (f9_error k (-1000000001 : Int32) s4) fun r6 s6 =>
  some (r6, s6))
  else (
  zbd (f9_isFour k x3 s4) fun r7 s7 =>
  if r7 = 0 then (
  zbd (f9_error k (-1000000001 : Int32) s7) fun r9 s9 =>
  some (r9, s9))
  else (
  if (s7 104 2) = (8 : Int32) then (
  zbd (f9_error k (-1000000004 : Int32) s7) fun r11 s11 =>
  some (r11, s11))
  else (
  zbd (f9_glassAt k x2 s7) fun r12 s12 =>
  if r12 < 0 then (
  zput (zu s12 104 (2) ((s12 104 2) + (1 : Int32))) fun s14 =>
  if zin ((6 : Int32) + ((5 : Int32) * (s7 104 2))) 390 then (
  zput (zu s14 104 (((6 : Int32) + ((5 : Int32) * (s7 104 2))).toNatClampNeg) (x1 / (10 : Int32))) fun s16 =>
  if zin (((6 : Int32) + ((5 : Int32) * (s7 104 2))) + (1 : Int32)) 390 then (
  zput (zu s16 104 ((((6 : Int32) + ((5 : Int32) * (s7 104 2))) + (1 : Int32)).toNatClampNeg) (x1 % (10 : Int32))) fun s18 =>
  if zin (((6 : Int32) + ((5 : Int32) * (s7 104 2))) + (2 : Int32)) 390 then (
  zput (zu s18 104 ((((6 : Int32) + ((5 : Int32) * (s7 104 2))) + (2 : Int32)).toNatClampNeg) x2) fun s20 =>
  if zin (((6 : Int32) + ((5 : Int32) * (s7 104 2))) + (3 : Int32)) 390 then (
  zput (zu s20 104 ((((6 : Int32) + ((5 : Int32) * (s7 104 2))) + (3 : Int32)).toNatClampNeg) x3) fun s22 =>
  if zin (((6 : Int32) + ((5 : Int32) * (s7 104 2))) + (4 : Int32)) 390 then (
  zput (zu s22 104 ((((6 : Int32) + ((5 : Int32) * (s7 104 2))) + (4 : Int32)).toNatClampNeg) (0 : Int32)) fun s24 =>
  some ((s7 104 2), s24)) else none) else none) else none) else none) else none)
  else (
  zbd (f9_error k (-1000000003 : Int32) s12) fun r25 s25 =>
  some (r25, s25))))))
theorem c9_glass (l : Launch) (g : ZG) {k : Nat} {x1 : Int32} {x2 : Int32} {x3 : Int32} {σ : ZS} {r : Int32} {σr : ZS} (hf : f9_glass k x1 x2 x3 σ = some (r, σr)) : zT l g y9_glass b9_glass 6 (some .int) 3 104 [zr 103, zi x1, zi x2, zi x3] σ (some (zi r)) σr := by
  unfold f9_glass at hf
  refine zT_start (own := R9) rfl (by decide +kernel) 2 (L := [some (zr 103), some (zi x1), some (zi x2), some (zi x3), none, none]) rfl rfl (fun x hl C => ?_)
  subst hl
  refine z_iload_n C d9_glass_0 rfl ?_
  obtain ⟨r1, s1, h1, hf⟩ := zbx hf
  refine z_callSi C (as := [zi x1]) d9_glass_1 w_903 yy9_isKm (c9_isKm x.2.1 g h1) rfl rfl (Nat.le_of_ble_eq_true rfl) ⟨Nat.le_of_ble_eq_true rfl, Nat.le_of_ble_eq_true rfl⟩ ⟨Nat.zero_le _, Nat.zero_le _⟩ ?_
  refine z_if_eq C d9_glass_4 (fun c2 => ?_) (fun c2 => ?_)
  · have hf := zit c2 hf
    refine z_aload_n C d9_glass_21 rfl ?_
    refine z_ldc C (-1000000001 : Int32) d9_glass_22 w_915 ?_
    obtain ⟨r3, s3, h3, hf⟩ := zbx hf
    refine z_callVi C (as := [zi (-1000000001 : Int32)]) d9_glass_24 w_916 yy9_error (c9_error x.2.1 g h3) yc9_error kZ_103 rfl rfl (Nat.le_of_ble_eq_true rfl) ⟨Nat.le_of_ble_eq_true rfl, Nat.le_of_ble_eq_true rfl⟩ ⟨Nat.zero_le _, Nat.zero_le _⟩ ?_
    exact z_iret C d9_glass_27 hf
  · have hf := zie c2 hf
    refine z_iload_n C d9_glass_7 rfl ?_
    obtain ⟨r4, s4, h4, hf⟩ := zbx hf
    refine z_callSi C (as := [zi x2]) d9_glass_8 w_909 yy9_isCell (c9_isCell x.2.1 g h4) rfl rfl (Nat.le_of_ble_eq_true rfl) ⟨Nat.le_of_ble_eq_true rfl, Nat.le_of_ble_eq_true rfl⟩ ⟨Nat.zero_le _, Nat.zero_le _⟩ ?_
    refine z_if_eq C d9_glass_11 (fun c5 => ?_) (fun c5 => ?_)
    · have hf := zit c5 hf
      refine z_aload_n C d9_glass_21 rfl ?_
      refine z_ldc C (-1000000001 : Int32) d9_glass_22 w_915 ?_
      obtain ⟨r6, s6, h6, hf⟩ := zbx hf
      refine z_callVi C (as := [zi (-1000000001 : Int32)]) d9_glass_24 w_916 yy9_error (c9_error x.2.1 g h6) yc9_error kZ_103 rfl rfl (Nat.le_of_ble_eq_true rfl) ⟨Nat.le_of_ble_eq_true rfl, Nat.le_of_ble_eq_true rfl⟩ ⟨Nat.zero_le _, Nat.zero_le _⟩ ?_
      exact z_iret C d9_glass_27 hf
    · have hf := zie c5 hf
      refine z_iload_n C d9_glass_14 rfl ?_
      obtain ⟨r7, s7, h7, hf⟩ := zbx hf
      refine z_callSi C (as := [zi x3]) d9_glass_15 w_912 yy9_isFour (c9_isFour x.2.1 g h7) rfl rfl (Nat.le_of_ble_eq_true rfl) ⟨Nat.le_of_ble_eq_true rfl, Nat.le_of_ble_eq_true rfl⟩ ⟨Nat.zero_le _, Nat.zero_le _⟩ ?_
      refine z_if_ne C d9_glass_18 (fun c8 => ?_) (fun c8 => ?_)
      · have hf := zit c8 hf
        refine z_aload_n C d9_glass_21 rfl ?_
        refine z_ldc C (-1000000001 : Int32) d9_glass_22 w_915 ?_
        obtain ⟨r9, s9, h9, hf⟩ := zbx hf
        refine z_callVi C (as := [zi (-1000000001 : Int32)]) d9_glass_24 w_916 yy9_error (c9_error x.2.1 g h9) yc9_error kZ_103 rfl rfl (Nat.le_of_ble_eq_true rfl) ⟨Nat.le_of_ble_eq_true rfl, Nat.le_of_ble_eq_true rfl⟩ ⟨Nat.zero_le _, Nat.zero_le _⟩ ?_
        exact z_iret C d9_glass_27 hf
      · have hf := zie c8 hf
        refine z_aload_n C d9_glass_28 rfl ?_
        refine z_getR C d9_glass_29 fl_817 kZ_103 104 rfl (zn0 kZ_104) ?_
        refine z_iconst C (2 : Int32) d9_glass_32 kI_2 ?_
        refine z_iald C d9_glass_33 kZ_104 kL_104 ⟨by decide, by decide⟩ (2) kN_2 ?_
        refine z_istore C d9_glass_34 (Nat.le_of_ble_eq_true rfl) rfl (L' := [some (zr 103), some (zi x1), some (zi x2), some (zi x3), some (zi (s7 104 2)), none]) rfl ?_
        refine z_iload C d9_glass_36 rfl ?_
        refine z_bipush C (8 : Int32) d9_glass_38 kB_8 ?_
        refine z_icmp_ne C d9_glass_40 (fun c10 => ?_) (fun c10 => ?_)
        · have hf := zit c10 hf
          refine z_aload_n C d9_glass_43 rfl ?_
          refine z_ldc C (-1000000004 : Int32) d9_glass_44 w_921 ?_
          obtain ⟨r11, s11, h11, hf⟩ := zbx hf
          refine z_callVi C (as := [zi (-1000000004 : Int32)]) d9_glass_46 w_916 yy9_error (c9_error x.2.1 g h11) yc9_error kZ_103 rfl rfl (Nat.le_of_ble_eq_true rfl) ⟨Nat.le_of_ble_eq_true rfl, Nat.le_of_ble_eq_true rfl⟩ ⟨Nat.zero_le _, Nat.zero_le _⟩ ?_
          exact z_iret C d9_glass_49 hf
        · have hf := zie c10 hf
          refine z_aload_n C d9_glass_50 rfl ?_
          refine z_iload_n C d9_glass_51 rfl ?_
          obtain ⟨r12, s12, h12, hf⟩ := zbx hf
          refine z_callVi C (as := [zi x2]) d9_glass_52 w_922 yy9_glassAt (c9_glassAt x.2.1 g h12) yc9_glassAt kZ_103 rfl rfl (Nat.le_of_ble_eq_true rfl) ⟨Nat.le_of_ble_eq_true rfl, Nat.le_of_ble_eq_true rfl⟩ ⟨Nat.zero_le _, Nat.zero_le _⟩ ?_
          refine z_if_lt C d9_glass_55 (fun c13 => ?_) (fun c13 => ?_)
          · have hf := zit c13 hf
            refine z_bipush C (6 : Int32) d9_glass_65 kB_6 ?_
            refine z_iconst C (5 : Int32) d9_glass_67 kI_5 ?_
            refine z_iload C d9_glass_68 rfl ?_
            refine z_imul C d9_glass_70 ?_
            refine z_iadd C d9_glass_71 ?_
            refine z_istore C d9_glass_72 (Nat.le_of_ble_eq_true rfl) rfl (L' := [some (zr 103), some (zi x1), some (zi x2), some (zi x3), some (zi (s7 104 2)), some (zi ((6 : Int32) + ((5 : Int32) * (s7 104 2))))]) rfl ?_
            refine z_aload_n C d9_glass_74 rfl ?_
            refine z_getR C d9_glass_75 fl_817 kZ_103 104 rfl (zn0 kZ_104) ?_
            refine z_iconst C (2 : Int32) d9_glass_78 kI_2 ?_
            refine z_dup2 C d9_glass_79 rfl rfl ?_
            refine z_iald C d9_glass_80 kZ_104 kL_104 ⟨by decide, by decide⟩ (2) kN_2 ?_
            refine z_iconst C (1 : Int32) d9_glass_81 kI_1 ?_
            refine z_iadd C d9_glass_82 ?_
            obtain ⟨s14, e14, hf⟩ := zpx hf
            refine z_iast C d9_glass_83 kZ_104 kL_104 ⟨by decide, by decide⟩ kN_2 e14 ?_
            refine z_aload_n C d9_glass_84 rfl ?_
            refine z_getR C d9_glass_85 fl_817 kZ_103 104 rfl (zn0 kZ_104) ?_
            refine z_iload C d9_glass_88 rfl ?_
            refine z_iload_n C d9_glass_90 rfl ?_
            refine z_bipush C (10 : Int32) d9_glass_91 kB_10 ?_
            refine z_idiv C d9_glass_93 (by decide) ?_
            obtain ⟨g15, hf⟩ := zgo hf
            obtain ⟨s16, e16, hf⟩ := zpx hf
            refine z_iast C d9_glass_94 kZ_104 kL_104 g15 rfl e16 ?_
            refine z_aload_n C d9_glass_95 rfl ?_
            refine z_getR C d9_glass_96 fl_817 kZ_103 104 rfl (zn0 kZ_104) ?_
            refine z_iload C d9_glass_99 rfl ?_
            refine z_iconst C (1 : Int32) d9_glass_101 kI_1 ?_
            refine z_iadd C d9_glass_102 ?_
            refine z_iload_n C d9_glass_103 rfl ?_
            refine z_bipush C (10 : Int32) d9_glass_104 kB_10 ?_
            refine z_irem C d9_glass_106 (by decide) ?_
            obtain ⟨g17, hf⟩ := zgo hf
            obtain ⟨s18, e18, hf⟩ := zpx hf
            refine z_iast C d9_glass_107 kZ_104 kL_104 g17 rfl e18 ?_
            refine z_aload_n C d9_glass_108 rfl ?_
            refine z_getR C d9_glass_109 fl_817 kZ_103 104 rfl (zn0 kZ_104) ?_
            refine z_iload C d9_glass_112 rfl ?_
            refine z_iconst C (2 : Int32) d9_glass_114 kI_2 ?_
            refine z_iadd C d9_glass_115 ?_
            refine z_iload_n C d9_glass_116 rfl ?_
            obtain ⟨g19, hf⟩ := zgo hf
            obtain ⟨s20, e20, hf⟩ := zpx hf
            refine z_iast C d9_glass_117 kZ_104 kL_104 g19 rfl e20 ?_
            refine z_aload_n C d9_glass_118 rfl ?_
            refine z_getR C d9_glass_119 fl_817 kZ_103 104 rfl (zn0 kZ_104) ?_
            refine z_iload C d9_glass_122 rfl ?_
            refine z_iconst C (3 : Int32) d9_glass_124 kI_3 ?_
            refine z_iadd C d9_glass_125 ?_
            refine z_iload_n C d9_glass_126 rfl ?_
            obtain ⟨g21, hf⟩ := zgo hf
            obtain ⟨s22, e22, hf⟩ := zpx hf
            refine z_iast C d9_glass_127 kZ_104 kL_104 g21 rfl e22 ?_
            refine z_aload_n C d9_glass_128 rfl ?_
            refine z_getR C d9_glass_129 fl_817 kZ_103 104 rfl (zn0 kZ_104) ?_
            refine z_iload C d9_glass_132 rfl ?_
            refine z_iconst C (4 : Int32) d9_glass_134 kI_4 ?_
            refine z_iadd C d9_glass_135 ?_
            refine z_iconst C (0 : Int32) d9_glass_136 kI_0 ?_
            obtain ⟨g23, hf⟩ := zgo hf
            obtain ⟨s24, e24, hf⟩ := zpx hf
            refine z_iast C d9_glass_137 kZ_104 kL_104 g23 rfl e24 ?_
            refine z_iload C d9_glass_138 rfl ?_
            exact z_iret C d9_glass_140 hf
          · have hf := zie c13 hf
            refine z_aload_n C d9_glass_58 rfl ?_
            refine z_ldc C (-1000000003 : Int32) d9_glass_59 w_930 ?_
            obtain ⟨r25, s25, h25, hf⟩ := zbx hf
            refine z_callVi C (as := [zi (-1000000003 : Int32)]) d9_glass_61 w_916 yy9_error (c9_error x.2.1 g h25) yc9_error kZ_103 rfl rfl (Nat.le_of_ble_eq_true rfl) ⟨Nat.le_of_ble_eq_true rfl, Nat.le_of_ble_eq_true rfl⟩ ⟨Nat.zero_le _, Nat.zero_le _⟩ ?_
            exact z_iret C d9_glass_64 hf
theorem d9_glassIs_0 : zd b9_glassIs 0 (.aload_n 0) 1 1 := ⟨by decide +kernel, rfl⟩
theorem d9_glassIs_1 : zd b9_glassIs 1 (.iload_n 1) 1 2 := ⟨by decide +kernel, rfl⟩
theorem d9_glassIs_2 : zd b9_glassIs 2 (.invokevirtual 136) 3 5 := ⟨by decide +kernel, rfl⟩
theorem d9_glassIs_5 : zdb b9_glassIs 5 (.ifCond .eq 21) 21 8 26 := ⟨by decide +kernel, rfl, by decide⟩
theorem d9_glassIs_8 : zd b9_glassIs 8 (.iload_n 2) 1 9 := ⟨by decide +kernel, rfl⟩
theorem d9_glassIs_9 : zd b9_glassIs 9 (.iconst 0) 1 10 := ⟨by decide +kernel, rfl⟩
theorem d9_glassIs_10 : zd b9_glassIs 10 (.iconst 4) 1 11 := ⟨by decide +kernel, rfl⟩
theorem d9_glassIs_11 : zd b9_glassIs 11 (.invokestatic 56) 3 14 := ⟨by decide +kernel, rfl⟩
theorem d9_glassIs_14 : zdb b9_glassIs 14 (.ifCond .eq 12) 12 17 26 := ⟨by decide +kernel, rfl, by decide⟩
theorem d9_glassIs_17 : zd b9_glassIs 17 (.aload_n 0) 1 18 := ⟨by decide +kernel, rfl⟩
theorem d9_glassIs_18 : zd b9_glassIs 18 (.iload_n 1) 1 19 := ⟨by decide +kernel, rfl⟩
theorem d9_glassIs_19 : zd b9_glassIs 19 (.iload_n 2) 1 20 := ⟨by decide +kernel, rfl⟩
theorem d9_glassIs_20 : zd b9_glassIs 20 (.invokevirtual 60) 3 23 := ⟨by decide +kernel, rfl⟩
theorem d9_glassIs_23 : zdb b9_glassIs 23 (.goto 9) 9 26 32 := ⟨by decide +kernel, rfl, by decide⟩
theorem d9_glassIs_26 : zd b9_glassIs 26 (.aload_n 0) 1 27 := ⟨by decide +kernel, rfl⟩
theorem d9_glassIs_27 : zd b9_glassIs 27 (.ldc 130) 2 29 := ⟨by decide +kernel, rfl⟩
theorem d9_glassIs_29 : zd b9_glassIs 29 (.invokevirtual 131) 3 32 := ⟨by decide +kernel, rfl⟩
theorem d9_glassIs_32 : zd b9_glassIs 32 .ireturn 1 33 := ⟨by decide +kernel, rfl⟩
def f9_glassIs (k : Nat) (x1 : Int32) (x2 : Int32) (σ : ZS) : Option (Int32 × ZS) :=
  zbd (f9_isGlass k x1 σ) fun r1 s1 =>
  if r1 = 0 then (
  zbd (f9_error k (-1000000001 : Int32) s1) fun r3 s3 =>
  some (r3, s3))
  else (
  zbd (f9_in k x2 (0 : Int32) (4 : Int32) s1) fun r4 s4 =>
  if r4 = 0 then (
  zbd (f9_error k (-1000000001 : Int32) s4) fun r6 s6 =>
  some (r6, s6))
  else (
  zbd (f9_of k x1 x2 s4) fun r7 s7 =>
  some (r7, s7)))
theorem c9_glassIs (l : Launch) (g : ZG) {k : Nat} {x1 : Int32} {x2 : Int32} {σ : ZS} {r : Int32} {σr : ZS} (hf : f9_glassIs k x1 x2 σ = some (r, σr)) : zT l g y9_glassIs b9_glassIs 3 (some .int) 3 103 [zr 103, zi x1, zi x2] σ (some (zi r)) σr := by
  unfold f9_glassIs at hf
  refine zT_start (own := R9) rfl (by decide +kernel) 0 (L := [some (zr 103), some (zi x1), some (zi x2)]) rfl rfl (fun x hl C => ?_)
  subst hl
  refine z_aload_n C d9_glassIs_0 rfl ?_
  refine z_iload_n C d9_glassIs_1 rfl ?_
  obtain ⟨r1, s1, h1, hf⟩ := zbx hf
  refine z_callVi C (as := [zi x1]) d9_glassIs_2 w_935 yy9_isGlass (c9_isGlass x.2.1 g h1) yc9_isGlass kZ_103 rfl rfl (Nat.le_of_ble_eq_true rfl) ⟨Nat.le_of_ble_eq_true rfl, Nat.le_of_ble_eq_true rfl⟩ ⟨Nat.zero_le _, Nat.zero_le _⟩ ?_
  refine z_if_eq C d9_glassIs_5 (fun c2 => ?_) (fun c2 => ?_)
  · have hf := zit c2 hf
    refine z_aload_n C d9_glassIs_26 rfl ?_
    refine z_ldc C (-1000000001 : Int32) d9_glassIs_27 w_915 ?_
    obtain ⟨r3, s3, h3, hf⟩ := zbx hf
    refine z_callVi C (as := [zi (-1000000001 : Int32)]) d9_glassIs_29 w_916 yy9_error (c9_error x.2.1 g h3) yc9_error kZ_103 rfl rfl (Nat.le_of_ble_eq_true rfl) ⟨Nat.le_of_ble_eq_true rfl, Nat.le_of_ble_eq_true rfl⟩ ⟨Nat.zero_le _, Nat.zero_le _⟩ ?_
    exact z_iret C d9_glassIs_32 hf
  · have hf := zie c2 hf
    refine z_iload_n C d9_glassIs_8 rfl ?_
    refine z_iconst C (0 : Int32) d9_glassIs_9 kI_0 ?_
    refine z_iconst C (4 : Int32) d9_glassIs_10 kI_4 ?_
    obtain ⟨r4, s4, h4, hf⟩ := zbx hf
    refine z_callSi C (as := [zi x2, zi (0 : Int32), zi (4 : Int32)]) d9_glassIs_11 w_906 yy9_in (c9_in x.2.1 g h4) rfl rfl (Nat.le_of_ble_eq_true rfl) ⟨Nat.le_of_ble_eq_true rfl, Nat.le_of_ble_eq_true rfl⟩ ⟨Nat.zero_le _, Nat.zero_le _⟩ ?_
    refine z_if_eq C d9_glassIs_14 (fun c5 => ?_) (fun c5 => ?_)
    · have hf := zit c5 hf
      refine z_aload_n C d9_glassIs_26 rfl ?_
      refine z_ldc C (-1000000001 : Int32) d9_glassIs_27 w_915 ?_
      obtain ⟨r6, s6, h6, hf⟩ := zbx hf
      refine z_callVi C (as := [zi (-1000000001 : Int32)]) d9_glassIs_29 w_916 yy9_error (c9_error x.2.1 g h6) yc9_error kZ_103 rfl rfl (Nat.le_of_ble_eq_true rfl) ⟨Nat.le_of_ble_eq_true rfl, Nat.le_of_ble_eq_true rfl⟩ ⟨Nat.zero_le _, Nat.zero_le _⟩ ?_
      exact z_iret C d9_glassIs_32 hf
    · have hf := zie c5 hf
      refine z_aload_n C d9_glassIs_17 rfl ?_
      refine z_iload_n C d9_glassIs_18 rfl ?_
      refine z_iload_n C d9_glassIs_19 rfl ?_
      obtain ⟨r7, s7, h7, hf⟩ := zbx hf
      refine z_callVi C (as := [zi x1, zi x2]) d9_glassIs_20 w_926 yy9_of (c9_of x.2.1 g h7) yc9_of kZ_103 rfl rfl (Nat.le_of_ble_eq_true rfl) ⟨Nat.le_of_ble_eq_true rfl, Nat.le_of_ble_eq_true rfl⟩ ⟨Nat.zero_le _, Nat.zero_le _⟩ ?_
      refine z_goto C d9_glassIs_23 ?_
      exact z_iret C d9_glassIs_32 hf
theorem d9_goes_0 : zd b9_goes 0 (.iconst 0) 1 1 := ⟨by decide +kernel, rfl⟩
theorem d9_goes_1 : zd b9_goes 1 (.istore_n 1) 1 2 := ⟨by decide +kernel, rfl⟩
theorem d9_goes_2 : zd b9_goes 2 (.iload_n 1) 1 3 := ⟨by decide +kernel, rfl⟩
theorem d9_goes_3 : zd b9_goes 3 (.aload_n 0) 1 4 := ⟨by decide +kernel, rfl⟩
theorem d9_goes_4 : zd b9_goes 4 (.getfield 9) 3 7 := ⟨by decide +kernel, rfl⟩
theorem d9_goes_7 : zd b9_goes 7 (.iconst 3) 1 8 := ⟨by decide +kernel, rfl⟩
theorem d9_goes_8 : zd b9_goes 8 .iaload 1 9 := ⟨by decide +kernel, rfl⟩
theorem d9_goes_9 : zdb b9_goes 9 (.if_icmp .ge 97) 97 12 106 := ⟨by decide +kernel, rfl, by decide⟩
theorem d9_goes_12 : zd b9_goes 12 (.aload_n 0) 1 13 := ⟨by decide +kernel, rfl⟩
theorem d9_goes_13 : zd b9_goes 13 (.getfield 9) 3 16 := ⟨by decide +kernel, rfl⟩
theorem d9_goes_16 : zd b9_goes 16 (.bipush 46) 2 18 := ⟨by decide +kernel, rfl⟩
theorem d9_goes_18 : zd b9_goes 18 (.iconst 3) 1 19 := ⟨by decide +kernel, rfl⟩
theorem d9_goes_19 : zd b9_goes 19 (.iload_n 1) 1 20 := ⟨by decide +kernel, rfl⟩
theorem d9_goes_20 : zd b9_goes 20 .imul 1 21 := ⟨by decide +kernel, rfl⟩
theorem d9_goes_21 : zd b9_goes 21 .iadd 1 22 := ⟨by decide +kernel, rfl⟩
theorem d9_goes_22 : zd b9_goes 22 (.iconst 2) 1 23 := ⟨by decide +kernel, rfl⟩
theorem d9_goes_23 : zd b9_goes 23 .iadd 1 24 := ⟨by decide +kernel, rfl⟩
theorem d9_goes_24 : zd b9_goes 24 (.aload_n 0) 1 25 := ⟨by decide +kernel, rfl⟩
theorem d9_goes_25 : zd b9_goes 25 (.iload_n 1) 1 26 := ⟨by decide +kernel, rfl⟩
theorem d9_goes_26 : zd b9_goes 26 (.iconst 2) 1 27 := ⟨by decide +kernel, rfl⟩
theorem d9_goes_27 : zd b9_goes 27 (.invokevirtual 109) 3 30 := ⟨by decide +kernel, rfl⟩
theorem d9_goes_30 : zd b9_goes 30 (.aload_n 0) 1 31 := ⟨by decide +kernel, rfl⟩
theorem d9_goes_31 : zd b9_goes 31 (.iload_n 1) 1 32 := ⟨by decide +kernel, rfl⟩
theorem d9_goes_32 : zd b9_goes 32 (.invokevirtual 146) 3 35 := ⟨by decide +kernel, rfl⟩
theorem d9_goes_35 : zd b9_goes 35 .iadd 1 36 := ⟨by decide +kernel, rfl⟩
theorem d9_goes_36 : zd b9_goes 36 (.iconst 0) 1 37 := ⟨by decide +kernel, rfl⟩
theorem d9_goes_37 : zd b9_goes 37 (.ldc 152) 2 39 := ⟨by decide +kernel, rfl⟩
theorem d9_goes_39 : zd b9_goes 39 (.invokestatic 89) 3 42 := ⟨by decide +kernel, rfl⟩
theorem d9_goes_42 : zd b9_goes 42 .iastore 1 43 := ⟨by decide +kernel, rfl⟩
theorem d9_goes_43 : zd b9_goes 43 (.iconst 0) 1 44 := ⟨by decide +kernel, rfl⟩
theorem d9_goes_44 : zd b9_goes 44 (.istore_n 2) 1 45 := ⟨by decide +kernel, rfl⟩
theorem d9_goes_45 : zd b9_goes 45 (.iload_n 2) 1 46 := ⟨by decide +kernel, rfl⟩
theorem d9_goes_46 : zd b9_goes 46 (.aload_n 0) 1 47 := ⟨by decide +kernel, rfl⟩
theorem d9_goes_47 : zd b9_goes 47 (.getfield 9) 3 50 := ⟨by decide +kernel, rfl⟩
theorem d9_goes_50 : zd b9_goes 50 (.iconst 2) 1 51 := ⟨by decide +kernel, rfl⟩
theorem d9_goes_51 : zd b9_goes 51 .iaload 1 52 := ⟨by decide +kernel, rfl⟩
theorem d9_goes_52 : zdb b9_goes 52 (.if_icmp .ge 48) 48 55 100 := ⟨by decide +kernel, rfl, by decide⟩
theorem d9_goes_55 : zd b9_goes 55 (.aload_n 0) 1 56 := ⟨by decide +kernel, rfl⟩
theorem d9_goes_56 : zd b9_goes 56 (.getfield 105) 3 59 := ⟨by decide +kernel, rfl⟩
theorem d9_goes_59 : zdb b9_goes 59 (.ifCond .ne 41) 41 62 100 := ⟨by decide +kernel, rfl, by decide⟩
theorem d9_goes_62 : zd b9_goes 62 (.aload_n 0) 1 63 := ⟨by decide +kernel, rfl⟩
theorem d9_goes_63 : zd b9_goes 63 (.getfield 9) 3 66 := ⟨by decide +kernel, rfl⟩
theorem d9_goes_66 : zd b9_goes 66 (.bipush 6) 2 68 := ⟨by decide +kernel, rfl⟩
theorem d9_goes_68 : zd b9_goes 68 (.iconst 5) 1 69 := ⟨by decide +kernel, rfl⟩
theorem d9_goes_69 : zd b9_goes 69 (.iload_n 2) 1 70 := ⟨by decide +kernel, rfl⟩
theorem d9_goes_70 : zd b9_goes 70 .imul 1 71 := ⟨by decide +kernel, rfl⟩
theorem d9_goes_71 : zd b9_goes 71 .iadd 1 72 := ⟨by decide +kernel, rfl⟩
theorem d9_goes_72 : zd b9_goes 72 (.iconst 4) 1 73 := ⟨by decide +kernel, rfl⟩
theorem d9_goes_73 : zd b9_goes 73 .iadd 1 74 := ⟨by decide +kernel, rfl⟩
theorem d9_goes_74 : zd b9_goes 74 (.aload_n 0) 1 75 := ⟨by decide +kernel, rfl⟩
theorem d9_goes_75 : zd b9_goes 75 (.iload_n 2) 1 76 := ⟨by decide +kernel, rfl⟩
theorem d9_goes_76 : zd b9_goes 76 (.iconst 4) 1 77 := ⟨by decide +kernel, rfl⟩
theorem d9_goes_77 : zd b9_goes 77 (.invokevirtual 60) 3 80 := ⟨by decide +kernel, rfl⟩
theorem d9_goes_80 : zd b9_goes 80 (.aload_n 0) 1 81 := ⟨by decide +kernel, rfl⟩
theorem d9_goes_81 : zd b9_goes 81 (.getfield 34) 3 84 := ⟨by decide +kernel, rfl⟩
theorem d9_goes_84 : zd b9_goes 84 (.iload_n 2) 1 85 := ⟨by decide +kernel, rfl⟩
theorem d9_goes_85 : zd b9_goes 85 .iaload 1 86 := ⟨by decide +kernel, rfl⟩
theorem d9_goes_86 : zd b9_goes 86 .iadd 1 87 := ⟨by decide +kernel, rfl⟩
theorem d9_goes_87 : zd b9_goes 87 (.iconst 0) 1 88 := ⟨by decide +kernel, rfl⟩
theorem d9_goes_88 : zd b9_goes 88 (.ldc 152) 2 90 := ⟨by decide +kernel, rfl⟩
theorem d9_goes_90 : zd b9_goes 90 (.invokestatic 89) 3 93 := ⟨by decide +kernel, rfl⟩
theorem d9_goes_93 : zd b9_goes 93 .iastore 1 94 := ⟨by decide +kernel, rfl⟩
theorem d9_goes_94 : zd b9_goes 94 (.iinc 2 1) 3 97 := ⟨by decide +kernel, rfl⟩
theorem d9_goes_97 : zdb b9_goes 97 (.goto (-52)) (-52) 100 45 := ⟨by decide +kernel, rfl, by decide⟩
theorem d9_goes_100 : zd b9_goes 100 (.iinc 1 1) 3 103 := ⟨by decide +kernel, rfl⟩
theorem d9_goes_103 : zdb b9_goes 103 (.goto (-101)) (-101) 106 2 := ⟨by decide +kernel, rfl, by decide⟩
theorem d9_goes_106 : zd b9_goes 106 (.aload_n 0) 1 107 := ⟨by decide +kernel, rfl⟩
theorem d9_goes_107 : zd b9_goes 107 (.getfield 9) 3 110 := ⟨by decide +kernel, rfl⟩
theorem d9_goes_110 : zd b9_goes 110 (.iconst 0) 1 111 := ⟨by decide +kernel, rfl⟩
theorem d9_goes_111 : zd b9_goes 111 .dup2 1 112 := ⟨by decide +kernel, rfl⟩
theorem d9_goes_112 : zd b9_goes 112 .iaload 1 113 := ⟨by decide +kernel, rfl⟩
theorem d9_goes_113 : zd b9_goes 113 (.iconst 1) 1 114 := ⟨by decide +kernel, rfl⟩
theorem d9_goes_114 : zd b9_goes 114 .iadd 1 115 := ⟨by decide +kernel, rfl⟩
theorem d9_goes_115 : zd b9_goes 115 .iastore 1 116 := ⟨by decide +kernel, rfl⟩
theorem d9_goes_116 : zd b9_goes 116 .return_ 1 117 := ⟨by decide +kernel, rfl⟩
def b9_goes_45 (k : Nat) (q2 : Int32 → ZS → Option (Unit × ZS)) (q45 : Int32 → Int32 → ZS → Option (Unit × ZS)) (x1 : Int32) (x2 : Int32) (σ : ZS) : Option (Unit × ZS) :=
  if (σ 104 2) ≤ x2 then (
  q2 (x1 + (1 : Int32)) σ)
  else (
  if (σ 103 13) = 0 then (
  zbd (f9_of k x2 (4 : Int32) σ) fun r3 s3 =>
  if zin x2 8 then (
  zbd (f9_held k (r3 + (s3 112 x2.toNatClampNeg)) (0 : Int32) (99999 : Int32) s3) fun r5 s5 =>
  if zin (((6 : Int32) + ((5 : Int32) * x2)) + (4 : Int32)) 390 then (
  zput (zu s5 104 ((((6 : Int32) + ((5 : Int32) * x2)) + (4 : Int32)).toNatClampNeg) r5) fun s7 =>
  q45 x1 (x2 + (1 : Int32)) s7) else none) else none)
  else (
  q2 (x1 + (1 : Int32)) σ))
def f9_goes_45 (k : Nat) (q2 : Int32 → ZS → Option (Unit × ZS)) : Nat → Int32 → Int32 → ZS → Option (Unit × ZS)
  | 0 => fun _ _ _ => none
  | n + 1 => b9_goes_45 k q2 (f9_goes_45 k q2 n)
theorem j9_goes_45 {x : ZX} {g : ZG} (C : zC x g b9_goes R9 none 3 8 222) {k : Nat} {r : Unit} {σr : ZS}  {q2 : Int32 → ZS → Option (Unit × ZS)} (hq2 : (∀ (x1 : Int32) (σ : ZS), q2 x1 σ = some (r, σr) → zw x g 3 0 0 (zMQ x g none σr) σ 2 [some (zr 103), some (zi x1), none] [])) {q45 : Int32 → Int32 → ZS → Option (Unit × ZS)} (hq45 : (∀ (x1 : Int32) (x2 : Int32) (σ : ZS), q45 x1 x2 σ = some (r, σr) → zw x g 3 0 0 (zMQ x g none σr) σ 45 [some (zr 103), some (zi x1), some (zi x2)] [])) {x1 : Int32} {x2 : Int32} {σ : ZS} (hf : b9_goes_45 k q2 q45 x1 x2 σ = some (r, σr)) : zw x g 3 0 0 (zMQ x g none σr) σ 45 [some (zr 103), some (zi x1), some (zi x2)] [] := by
  unfold b9_goes_45 at hf
  refine z_iload_n C d9_goes_45 rfl ?_
  refine z_aload_n C d9_goes_46 rfl ?_
  refine z_getR C d9_goes_47 fl_817 kZ_103 104 rfl (zn0 kZ_104) ?_
  refine z_iconst C (2 : Int32) d9_goes_50 kI_2 ?_
  refine z_iald C d9_goes_51 kZ_104 kL_104 ⟨by decide, by decide⟩ (2) kN_2 ?_
  refine z_icmp_ge C d9_goes_52 (fun c1 => ?_) (fun c1 => ?_)
  · have hf := zit c1 hf
    refine z_iinc C d9_goes_100 rfl kI_1 (Nat.le_of_ble_eq_true rfl) rfl (L' := [some (zr 103), some (zi (x1 + (1 : Int32))), some (zi x2)]) rfl ?_
    refine z_goto C d9_goes_103 ?_
    refine z_drop [true, true, false] (L' := [some (zr 103), some (zi (x1 + (1 : Int32))), none]) rfl ?_
    exact hq2 _ _ hf
  · have hf := zie c1 hf
    refine z_aload_n C d9_goes_55 rfl ?_
    refine z_getI C d9_goes_56 fl_830 kZ_103 ?_
    refine z_if_ne C d9_goes_59 (fun c2 => ?_) (fun c2 => ?_)
    · have hf := zit c2 hf
      refine z_aload_n C d9_goes_62 rfl ?_
      refine z_getR C d9_goes_63 fl_817 kZ_103 104 rfl (zn0 kZ_104) ?_
      refine z_bipush C (6 : Int32) d9_goes_66 kB_6 ?_
      refine z_iconst C (5 : Int32) d9_goes_68 kI_5 ?_
      refine z_iload_n C d9_goes_69 rfl ?_
      refine z_imul C d9_goes_70 ?_
      refine z_iadd C d9_goes_71 ?_
      refine z_iconst C (4 : Int32) d9_goes_72 kI_4 ?_
      refine z_iadd C d9_goes_73 ?_
      refine z_aload_n C d9_goes_74 rfl ?_
      refine z_iload_n C d9_goes_75 rfl ?_
      refine z_iconst C (4 : Int32) d9_goes_76 kI_4 ?_
      obtain ⟨r3, s3, h3, hf⟩ := zbx hf
      refine z_callVi C (as := [zi x2, zi (4 : Int32)]) d9_goes_77 w_926 yy9_of (c9_of x.2.1 g h3) yc9_of kZ_103 rfl rfl (Nat.le_of_ble_eq_true rfl) ⟨Nat.le_of_ble_eq_true rfl, Nat.le_of_ble_eq_true rfl⟩ ⟨Nat.zero_le _, Nat.zero_le _⟩ ?_
      refine z_aload_n C d9_goes_80 rfl ?_
      refine z_getR C d9_goes_81 fl_828 kZ_103 112 rfl (zn0 kZ_112) ?_
      refine z_iload_n C d9_goes_84 rfl ?_
      obtain ⟨g4, hf⟩ := zgo hf
      refine z_iald C d9_goes_85 kZ_112 kL_112 g4 (x2.toNatClampNeg) rfl ?_
      refine z_iadd C d9_goes_86 ?_
      refine z_iconst C (0 : Int32) d9_goes_87 kI_0 ?_
      refine z_ldc C (99999 : Int32) d9_goes_88 w_1039 ?_
      obtain ⟨r5, s5, h5, hf⟩ := zbx hf
      refine z_callSi C (as := [zi (r3 + (s3 112 x2.toNatClampNeg)), zi (0 : Int32), zi (99999 : Int32)]) d9_goes_90 w_1024 yy9_held (c9_held x.2.1 g h5) rfl rfl (Nat.le_of_ble_eq_true rfl) ⟨Nat.le_of_ble_eq_true rfl, Nat.le_of_ble_eq_true rfl⟩ ⟨Nat.zero_le _, Nat.zero_le _⟩ ?_
      obtain ⟨g6, hf⟩ := zgo hf
      obtain ⟨s7, e7, hf⟩ := zpx hf
      refine z_iast C d9_goes_93 kZ_104 kL_104 g6 rfl e7 ?_
      refine z_iinc C d9_goes_94 rfl kI_1 (Nat.le_of_ble_eq_true rfl) rfl (L' := [some (zr 103), some (zi x1), some (zi (x2 + (1 : Int32)))]) rfl ?_
      refine z_goto C d9_goes_97 ?_
      exact hq45 _ _ _ hf
    · have hf := zie c2 hf
      refine z_iinc C d9_goes_100 rfl kI_1 (Nat.le_of_ble_eq_true rfl) rfl (L' := [some (zr 103), some (zi (x1 + (1 : Int32))), some (zi x2)]) rfl ?_
      refine z_goto C d9_goes_103 ?_
      refine z_drop [true, true, false] (L' := [some (zr 103), some (zi (x1 + (1 : Int32))), none]) rfl ?_
      exact hq2 _ _ hf
theorem j9_goes_45l {x : ZX} {g : ZG} (C : zC x g b9_goes R9 none 3 8 222) {k : Nat} {r : Unit} {σr : ZS}  {q2 : Int32 → ZS → Option (Unit × ZS)} (hq2 : (∀ (x1 : Int32) (σ : ZS), q2 x1 σ = some (r, σr) → zw x g 3 0 0 (zMQ x g none σr) σ 2 [some (zr 103), some (zi x1), none] [])) : ∀ (n : Nat) (x1 : Int32) (x2 : Int32) (σ : ZS), f9_goes_45 k q2 n x1 x2 σ = some (r, σr) → zw x g 3 0 0 (zMQ x g none σr) σ 45 [some (zr 103), some (zi x1), some (zi x2)] [] := by
  intro n
  induction n with
  | zero => intro x1 x2 σ hf; exact absurd (show none = some (r, σr) from hf) (fun z => by cases z)
  | succ n ih => intro x1 x2 σ hf; exact j9_goes_45 C hq2 ih (show b9_goes_45 k q2 (f9_goes_45 k q2 n) x1 x2 σ = some (r, σr) from hf)
def b9_goes_2 (k : Nat) (q2 : Int32 → ZS → Option (Unit × ZS)) (x1 : Int32) (σ : ZS) : Option (Unit × ZS) :=
  if (σ 104 3) ≤ x1 then (
  zput (zu σ 104 (0) ((σ 104 0) + (1 : Int32))) fun s2 =>
  some ((), s2))
  else (
  zbd (f9_about k x1 (2 : Int32) σ) fun r3 s3 =>
  zbd (f9_dueOf k x1 s3) fun r4 s4 =>
  zbd (f9_held k (r3 + r4) (0 : Int32) (99999 : Int32) s4) fun r5 s5 =>
  if zin (((46 : Int32) + ((3 : Int32) * x1)) + (2 : Int32)) 390 then (
  zput (zu s5 104 ((((46 : Int32) + ((3 : Int32) * x1)) + (2 : Int32)).toNatClampNeg) r5) fun s7 =>
  f9_goes_45 k q2 k x1 (0 : Int32) s7) else none)
def f9_goes_2 (k : Nat) : Nat → Int32 → ZS → Option (Unit × ZS)
  | 0 => fun _ _ => none
  | n + 1 => b9_goes_2 k  (f9_goes_2 k  n)
theorem j9_goes_2 {x : ZX} {g : ZG} (C : zC x g b9_goes R9 none 3 8 222) {k : Nat} {r : Unit} {σr : ZS}  {q2 : Int32 → ZS → Option (Unit × ZS)} (hq2 : (∀ (x1 : Int32) (σ : ZS), q2 x1 σ = some (r, σr) → zw x g 3 0 0 (zMQ x g none σr) σ 2 [some (zr 103), some (zi x1), none] [])) {x1 : Int32} {σ : ZS} (hf : b9_goes_2 k q2 x1 σ = some (r, σr)) : zw x g 3 0 0 (zMQ x g none σr) σ 2 [some (zr 103), some (zi x1), none] [] := by
  unfold b9_goes_2 at hf
  refine z_iload_n C d9_goes_2 rfl ?_
  refine z_aload_n C d9_goes_3 rfl ?_
  refine z_getR C d9_goes_4 fl_817 kZ_103 104 rfl (zn0 kZ_104) ?_
  refine z_iconst C (3 : Int32) d9_goes_7 kI_3 ?_
  refine z_iald C d9_goes_8 kZ_104 kL_104 ⟨by decide, by decide⟩ (3) kN_3 ?_
  refine z_icmp_ge C d9_goes_9 (fun c1 => ?_) (fun c1 => ?_)
  · have hf := zit c1 hf
    refine z_aload_n C d9_goes_106 rfl ?_
    refine z_getR C d9_goes_107 fl_817 kZ_103 104 rfl (zn0 kZ_104) ?_
    refine z_iconst C (0 : Int32) d9_goes_110 kI_0 ?_
    refine z_dup2 C d9_goes_111 rfl rfl ?_
    refine z_iald C d9_goes_112 kZ_104 kL_104 ⟨by decide, by decide⟩ (0) kN_0 ?_
    refine z_iconst C (1 : Int32) d9_goes_113 kI_1 ?_
    refine z_iadd C d9_goes_114 ?_
    obtain ⟨s2, e2, hf⟩ := zpx hf
    refine z_iast C d9_goes_115 kZ_104 kL_104 ⟨by decide, by decide⟩ kN_0 e2 ?_
    exact z_vret C d9_goes_116 hf
  · have hf := zie c1 hf
    refine z_aload_n C d9_goes_12 rfl ?_
    refine z_getR C d9_goes_13 fl_817 kZ_103 104 rfl (zn0 kZ_104) ?_
    refine z_bipush C (46 : Int32) d9_goes_16 kB_46 ?_
    refine z_iconst C (3 : Int32) d9_goes_18 kI_3 ?_
    refine z_iload_n C d9_goes_19 rfl ?_
    refine z_imul C d9_goes_20 ?_
    refine z_iadd C d9_goes_21 ?_
    refine z_iconst C (2 : Int32) d9_goes_22 kI_2 ?_
    refine z_iadd C d9_goes_23 ?_
    refine z_aload_n C d9_goes_24 rfl ?_
    refine z_iload_n C d9_goes_25 rfl ?_
    refine z_iconst C (2 : Int32) d9_goes_26 kI_2 ?_
    obtain ⟨r3, s3, h3, hf⟩ := zbx hf
    refine z_callVi C (as := [zi x1, zi (2 : Int32)]) d9_goes_27 w_990 yy9_about (c9_about x.2.1 g h3) yc9_about kZ_103 rfl rfl (Nat.le_of_ble_eq_true rfl) ⟨Nat.le_of_ble_eq_true rfl, Nat.le_of_ble_eq_true rfl⟩ ⟨Nat.zero_le _, Nat.zero_le _⟩ ?_
    refine z_aload_n C d9_goes_30 rfl ?_
    refine z_iload_n C d9_goes_31 rfl ?_
    obtain ⟨r4, s4, h4, hf⟩ := zbx hf
    refine z_callVi C (as := [zi x1]) d9_goes_32 w_994 yy9_dueOf (c9_dueOf x.2.1 g h4) yc9_dueOf kZ_103 rfl rfl (Nat.le_of_ble_eq_true rfl) ⟨Nat.le_of_ble_eq_true rfl, Nat.le_of_ble_eq_true rfl⟩ ⟨Nat.zero_le _, Nat.zero_le _⟩ ?_
    refine z_iadd C d9_goes_35 ?_
    refine z_iconst C (0 : Int32) d9_goes_36 kI_0 ?_
    refine z_ldc C (99999 : Int32) d9_goes_37 w_1039 ?_
    obtain ⟨r5, s5, h5, hf⟩ := zbx hf
    refine z_callSi C (as := [zi (r3 + r4), zi (0 : Int32), zi (99999 : Int32)]) d9_goes_39 w_1024 yy9_held (c9_held x.2.1 g h5) rfl rfl (Nat.le_of_ble_eq_true rfl) ⟨Nat.le_of_ble_eq_true rfl, Nat.le_of_ble_eq_true rfl⟩ ⟨Nat.zero_le _, Nat.zero_le _⟩ ?_
    obtain ⟨g6, hf⟩ := zgo hf
    obtain ⟨s7, e7, hf⟩ := zpx hf
    refine z_iast C d9_goes_42 kZ_104 kL_104 g6 rfl e7 ?_
    refine z_iconst C (0 : Int32) d9_goes_43 kI_0 ?_
    refine z_istore_n C d9_goes_44 (Nat.le_of_ble_eq_true rfl) rfl (L' := [some (zr 103), some (zi x1), some (zi (0 : Int32))]) rfl ?_
    exact j9_goes_45l C hq2 _ _ _ _ hf
theorem j9_goes_2l {x : ZX} {g : ZG} (C : zC x g b9_goes R9 none 3 8 222) {k : Nat} {r : Unit} {σr : ZS}  : ∀ (n : Nat) (x1 : Int32) (σ : ZS), f9_goes_2 k  n x1 σ = some (r, σr) → zw x g 3 0 0 (zMQ x g none σr) σ 2 [some (zr 103), some (zi x1), none] [] := by
  intro n
  induction n with
  | zero => intro x1 σ hf; exact absurd (show none = some (r, σr) from hf) (fun z => by cases z)
  | succ n ih => intro x1 σ hf; exact j9_goes_2 C  ih (show b9_goes_2 k  (f9_goes_2 k  n) x1 σ = some (r, σr) from hf)
def f9_goes (k : Nat)  (σ : ZS) : Option (Unit × ZS) :=
  f9_goes_2 k  k (0 : Int32) σ
theorem c9_goes (l : Launch) (g : ZG) {k : Nat}  {σ : ZS} {r : Unit} {σr : ZS} (hf : f9_goes k  σ = some (r, σr)) : zT l g y9_goes b9_goes 3 none 8 222 [zr 103] σ none σr := by
  unfold f9_goes at hf
  refine zT_start (own := R9) rfl (by decide +kernel) 2 (L := [some (zr 103), none, none]) rfl rfl (fun x hl C => ?_)
  subst hl
  refine z_iconst C (0 : Int32) d9_goes_0 kI_0 ?_
  refine z_istore_n C d9_goes_1 (Nat.le_of_ble_eq_true rfl) rfl (L' := [some (zr 103), some (zi (0 : Int32)), none]) rfl ?_
  exact j9_goes_2l C  _ _ _ hf
theorem d9_hang_0 : zd b9_hang 0 (.aload_n 0) 1 1 := ⟨by decide +kernel, rfl⟩
theorem d9_hang_1 : zd b9_hang 1 (.iload_n 1) 1 2 := ⟨by decide +kernel, rfl⟩
theorem d9_hang_2 : zd b9_hang 2 (.invokevirtual 136) 3 5 := ⟨by decide +kernel, rfl⟩
theorem d9_hang_5 : zdb b9_hang 5 (.ifCond .eq 10) 10 8 15 := ⟨by decide +kernel, rfl, by decide⟩
theorem d9_hang_8 : zd b9_hang 8 (.iload_n 2) 1 9 := ⟨by decide +kernel, rfl⟩
theorem d9_hang_9 : zd b9_hang 9 (.invokestatic 124) 3 12 := ⟨by decide +kernel, rfl⟩
theorem d9_hang_12 : zdb b9_hang 12 (.ifCond .ne 10) 10 15 22 := ⟨by decide +kernel, rfl, by decide⟩
theorem d9_hang_15 : zd b9_hang 15 (.aload_n 0) 1 16 := ⟨by decide +kernel, rfl⟩
theorem d9_hang_16 : zd b9_hang 16 (.ldc 130) 2 18 := ⟨by decide +kernel, rfl⟩
theorem d9_hang_18 : zd b9_hang 18 (.invokevirtual 131) 3 21 := ⟨by decide +kernel, rfl⟩
theorem d9_hang_21 : zd b9_hang 21 .ireturn 1 22 := ⟨by decide +kernel, rfl⟩
theorem d9_hang_22 : zd b9_hang 22 (.aload_n 0) 1 23 := ⟨by decide +kernel, rfl⟩
theorem d9_hang_23 : zd b9_hang 23 (.iload_n 2) 1 24 := ⟨by decide +kernel, rfl⟩
theorem d9_hang_24 : zd b9_hang 24 (.invokevirtual 99) 3 27 := ⟨by decide +kernel, rfl⟩
theorem d9_hang_27 : zd b9_hang 27 (.istore_n 3) 1 28 := ⟨by decide +kernel, rfl⟩
theorem d9_hang_28 : zd b9_hang 28 (.iload_n 3) 1 29 := ⟨by decide +kernel, rfl⟩
theorem d9_hang_29 : zdb b9_hang 29 (.ifCond .lt 17) 17 32 46 := ⟨by decide +kernel, rfl, by decide⟩
theorem d9_hang_32 : zd b9_hang 32 (.iload_n 3) 1 33 := ⟨by decide +kernel, rfl⟩
theorem d9_hang_33 : zd b9_hang 33 (.iload_n 1) 1 34 := ⟨by decide +kernel, rfl⟩
theorem d9_hang_34 : zdb b9_hang 34 (.if_icmp .eq 12) 12 37 46 := ⟨by decide +kernel, rfl, by decide⟩
theorem d9_hang_37 : zd b9_hang 37 (.aload_n 0) 1 38 := ⟨by decide +kernel, rfl⟩
theorem d9_hang_38 : zd b9_hang 38 (.ldc 135) 2 40 := ⟨by decide +kernel, rfl⟩
theorem d9_hang_40 : zd b9_hang 40 (.invokevirtual 131) 3 43 := ⟨by decide +kernel, rfl⟩
theorem d9_hang_43 : zdb b9_hang 43 (.goto 16) 16 46 59 := ⟨by decide +kernel, rfl, by decide⟩
theorem d9_hang_46 : zd b9_hang 46 (.aload_n 0) 1 47 := ⟨by decide +kernel, rfl⟩
theorem d9_hang_47 : zd b9_hang 47 (.bipush 6) 2 49 := ⟨by decide +kernel, rfl⟩
theorem d9_hang_49 : zd b9_hang 49 (.iconst 5) 1 50 := ⟨by decide +kernel, rfl⟩
theorem d9_hang_50 : zd b9_hang 50 (.iload_n 1) 1 51 := ⟨by decide +kernel, rfl⟩
theorem d9_hang_51 : zd b9_hang 51 .imul 1 52 := ⟨by decide +kernel, rfl⟩
theorem d9_hang_52 : zd b9_hang 52 .iadd 1 53 := ⟨by decide +kernel, rfl⟩
theorem d9_hang_53 : zd b9_hang 53 (.iconst 2) 1 54 := ⟨by decide +kernel, rfl⟩
theorem d9_hang_54 : zd b9_hang 54 .iadd 1 55 := ⟨by decide +kernel, rfl⟩
theorem d9_hang_55 : zd b9_hang 55 (.iload_n 2) 1 56 := ⟨by decide +kernel, rfl⟩
theorem d9_hang_56 : zd b9_hang 56 (.invokevirtual 139) 3 59 := ⟨by decide +kernel, rfl⟩
theorem d9_hang_59 : zd b9_hang 59 .ireturn 1 60 := ⟨by decide +kernel, rfl⟩
def f9_hang (k : Nat) (x1 : Int32) (x2 : Int32) (σ : ZS) : Option (Int32 × ZS) :=
  zbd (f9_isGlass k x1 σ) fun r1 s1 =>
  if r1 = 0 then (
  zbd (f9_error k (-1000000001 : Int32) s1) fun r3 s3 =>
  some (r3, s3))
  else (
  zbd (f9_isCell k x2 s1) fun r4 s4 =>
  if r4 = 0 then (
  zbd (f9_error k (-1000000001 : Int32) s4) fun r6 s6 =>
  some (r6, s6))
  else (
  zbd (f9_glassAt k x2 s4) fun r7 s7 =>
  if r7 < 0 then (
  zbd (f9_becomes k (((6 : Int32) + ((5 : Int32) * x1)) + (2 : Int32)) x2 s7) fun r9 s9 =>
  some (r9, s9))
  else (
  if r7 = x1 then (
  zbd (f9_becomes k (((6 : Int32) + ((5 : Int32) * x1)) + (2 : Int32)) x2 s7) fun r11 s11 =>
  some (r11, s11))
  else (
  zbd (f9_error k (-1000000003 : Int32) s7) fun r12 s12 =>
  some (r12, s12)))))
theorem c9_hang (l : Launch) (g : ZG) {k : Nat} {x1 : Int32} {x2 : Int32} {σ : ZS} {r : Int32} {σr : ZS} (hf : f9_hang k x1 x2 σ = some (r, σr)) : zT l g y9_hang b9_hang 4 (some .int) 3 104 [zr 103, zi x1, zi x2] σ (some (zi r)) σr := by
  unfold f9_hang at hf
  refine zT_start (own := R9) rfl (by decide +kernel) 1 (L := [some (zr 103), some (zi x1), some (zi x2), none]) rfl rfl (fun x hl C => ?_)
  subst hl
  refine z_aload_n C d9_hang_0 rfl ?_
  refine z_iload_n C d9_hang_1 rfl ?_
  obtain ⟨r1, s1, h1, hf⟩ := zbx hf
  refine z_callVi C (as := [zi x1]) d9_hang_2 w_935 yy9_isGlass (c9_isGlass x.2.1 g h1) yc9_isGlass kZ_103 rfl rfl (Nat.le_of_ble_eq_true rfl) ⟨Nat.le_of_ble_eq_true rfl, Nat.le_of_ble_eq_true rfl⟩ ⟨Nat.zero_le _, Nat.zero_le _⟩ ?_
  refine z_if_eq C d9_hang_5 (fun c2 => ?_) (fun c2 => ?_)
  · have hf := zit c2 hf
    refine z_aload_n C d9_hang_15 rfl ?_
    refine z_ldc C (-1000000001 : Int32) d9_hang_16 w_915 ?_
    obtain ⟨r3, s3, h3, hf⟩ := zbx hf
    refine z_callVi C (as := [zi (-1000000001 : Int32)]) d9_hang_18 w_916 yy9_error (c9_error x.2.1 g h3) yc9_error kZ_103 rfl rfl (Nat.le_of_ble_eq_true rfl) ⟨Nat.le_of_ble_eq_true rfl, Nat.le_of_ble_eq_true rfl⟩ ⟨Nat.zero_le _, Nat.zero_le _⟩ ?_
    exact z_iret C d9_hang_21 hf
  · have hf := zie c2 hf
    refine z_iload_n C d9_hang_8 rfl ?_
    obtain ⟨r4, s4, h4, hf⟩ := zbx hf
    refine z_callSi C (as := [zi x2]) d9_hang_9 w_909 yy9_isCell (c9_isCell x.2.1 g h4) rfl rfl (Nat.le_of_ble_eq_true rfl) ⟨Nat.le_of_ble_eq_true rfl, Nat.le_of_ble_eq_true rfl⟩ ⟨Nat.zero_le _, Nat.zero_le _⟩ ?_
    refine z_if_ne C d9_hang_12 (fun c5 => ?_) (fun c5 => ?_)
    · have hf := zit c5 hf
      refine z_aload_n C d9_hang_15 rfl ?_
      refine z_ldc C (-1000000001 : Int32) d9_hang_16 w_915 ?_
      obtain ⟨r6, s6, h6, hf⟩ := zbx hf
      refine z_callVi C (as := [zi (-1000000001 : Int32)]) d9_hang_18 w_916 yy9_error (c9_error x.2.1 g h6) yc9_error kZ_103 rfl rfl (Nat.le_of_ble_eq_true rfl) ⟨Nat.le_of_ble_eq_true rfl, Nat.le_of_ble_eq_true rfl⟩ ⟨Nat.zero_le _, Nat.zero_le _⟩ ?_
      exact z_iret C d9_hang_21 hf
    · have hf := zie c5 hf
      refine z_aload_n C d9_hang_22 rfl ?_
      refine z_iload_n C d9_hang_23 rfl ?_
      obtain ⟨r7, s7, h7, hf⟩ := zbx hf
      refine z_callVi C (as := [zi x2]) d9_hang_24 w_922 yy9_glassAt (c9_glassAt x.2.1 g h7) yc9_glassAt kZ_103 rfl rfl (Nat.le_of_ble_eq_true rfl) ⟨Nat.le_of_ble_eq_true rfl, Nat.le_of_ble_eq_true rfl⟩ ⟨Nat.zero_le _, Nat.zero_le _⟩ ?_
      refine z_istore_n C d9_hang_27 (Nat.le_of_ble_eq_true rfl) rfl (L' := [some (zr 103), some (zi x1), some (zi x2), some (zi r7)]) rfl ?_
      refine z_iload_n C d9_hang_28 rfl ?_
      refine z_if_lt C d9_hang_29 (fun c8 => ?_) (fun c8 => ?_)
      · have hf := zit c8 hf
        refine z_aload_n C d9_hang_46 rfl ?_
        refine z_bipush C (6 : Int32) d9_hang_47 kB_6 ?_
        refine z_iconst C (5 : Int32) d9_hang_49 kI_5 ?_
        refine z_iload_n C d9_hang_50 rfl ?_
        refine z_imul C d9_hang_51 ?_
        refine z_iadd C d9_hang_52 ?_
        refine z_iconst C (2 : Int32) d9_hang_53 kI_2 ?_
        refine z_iadd C d9_hang_54 ?_
        refine z_iload_n C d9_hang_55 rfl ?_
        obtain ⟨r9, s9, h9, hf⟩ := zbx hf
        refine z_callVi C (as := [zi (((6 : Int32) + ((5 : Int32) * x1)) + (2 : Int32)), zi x2]) d9_hang_56 w_961 yy9_becomes (c9_becomes x.2.1 g h9) yc9_becomes kZ_103 rfl rfl (Nat.le_of_ble_eq_true rfl) ⟨Nat.le_of_ble_eq_true rfl, Nat.le_of_ble_eq_true rfl⟩ ⟨Nat.zero_le _, Nat.zero_le _⟩ ?_
        exact z_iret C d9_hang_59 hf
      · have hf := zie c8 hf
        refine z_iload_n C d9_hang_32 rfl ?_
        refine z_iload_n C d9_hang_33 rfl ?_
        refine z_icmp_eq C d9_hang_34 (fun c10 => ?_) (fun c10 => ?_)
        · have hf := zit c10 hf
          refine z_aload_n C d9_hang_46 rfl ?_
          refine z_bipush C (6 : Int32) d9_hang_47 kB_6 ?_
          refine z_iconst C (5 : Int32) d9_hang_49 kI_5 ?_
          refine z_iload_n C d9_hang_50 rfl ?_
          refine z_imul C d9_hang_51 ?_
          refine z_iadd C d9_hang_52 ?_
          refine z_iconst C (2 : Int32) d9_hang_53 kI_2 ?_
          refine z_iadd C d9_hang_54 ?_
          refine z_iload_n C d9_hang_55 rfl ?_
          obtain ⟨r11, s11, h11, hf⟩ := zbx hf
          refine z_callVi C (as := [zi (((6 : Int32) + ((5 : Int32) * x1)) + (2 : Int32)), zi x2]) d9_hang_56 w_961 yy9_becomes (c9_becomes x.2.1 g h11) yc9_becomes kZ_103 rfl rfl (Nat.le_of_ble_eq_true rfl) ⟨Nat.le_of_ble_eq_true rfl, Nat.le_of_ble_eq_true rfl⟩ ⟨Nat.zero_le _, Nat.zero_le _⟩ ?_
          exact z_iret C d9_hang_59 hf
        · have hf := zie c10 hf
          refine z_aload_n C d9_hang_37 rfl ?_
          refine z_ldc C (-1000000003 : Int32) d9_hang_38 w_930 ?_
          obtain ⟨r12, s12, h12, hf⟩ := zbx hf
          refine z_callVi C (as := [zi (-1000000003 : Int32)]) d9_hang_40 w_916 yy9_error (c9_error x.2.1 g h12) yc9_error kZ_103 rfl rfl (Nat.le_of_ble_eq_true rfl) ⟨Nat.le_of_ble_eq_true rfl, Nat.le_of_ble_eq_true rfl⟩ ⟨Nat.zero_le _, Nat.zero_le _⟩ ?_
          refine z_goto C d9_hang_43 ?_
          exact z_iret C d9_hang_59 hf
theorem d9_hour_0 : zd b9_hour 0 (.iload_n 1) 1 1 := ⟨by decide +kernel, rfl⟩
theorem d9_hour_1 : zd b9_hour 1 (.iconst 0) 1 2 := ⟨by decide +kernel, rfl⟩
theorem d9_hour_2 : zd b9_hour 2 (.sipush 9999) 3 5 := ⟨by decide +kernel, rfl⟩
theorem d9_hour_5 : zd b9_hour 5 (.invokestatic 56) 3 8 := ⟨by decide +kernel, rfl⟩
theorem d9_hour_8 : zdb b9_hour 8 (.ifCond .eq 12) 12 11 20 := ⟨by decide +kernel, rfl, by decide⟩
theorem d9_hour_11 : zd b9_hour 11 (.aload_n 0) 1 12 := ⟨by decide +kernel, rfl⟩
theorem d9_hour_12 : zd b9_hour 12 (.iconst 0) 1 13 := ⟨by decide +kernel, rfl⟩
theorem d9_hour_13 : zd b9_hour 13 (.iload_n 1) 1 14 := ⟨by decide +kernel, rfl⟩
theorem d9_hour_14 : zd b9_hour 14 (.invokevirtual 139) 3 17 := ⟨by decide +kernel, rfl⟩
theorem d9_hour_17 : zdb b9_hour 17 (.goto 9) 9 20 26 := ⟨by decide +kernel, rfl, by decide⟩
theorem d9_hour_20 : zd b9_hour 20 (.aload_n 0) 1 21 := ⟨by decide +kernel, rfl⟩
theorem d9_hour_21 : zd b9_hour 21 (.ldc 130) 2 23 := ⟨by decide +kernel, rfl⟩
theorem d9_hour_23 : zd b9_hour 23 (.invokevirtual 131) 3 26 := ⟨by decide +kernel, rfl⟩
theorem d9_hour_26 : zd b9_hour 26 .ireturn 1 27 := ⟨by decide +kernel, rfl⟩
def f9_hour (k : Nat) (x1 : Int32) (σ : ZS) : Option (Int32 × ZS) :=
  zbd (f9_in k x1 (0 : Int32) (9999 : Int32) σ) fun r1 s1 =>
  if r1 = 0 then (
  zbd (f9_error k (-1000000001 : Int32) s1) fun r3 s3 =>
  some (r3, s3))
  else (
  zbd (f9_becomes k (0 : Int32) x1 s1) fun r4 s4 =>
  some (r4, s4))
theorem c9_hour (l : Launch) (g : ZG) {k : Nat} {x1 : Int32} {σ : ZS} {r : Int32} {σr : ZS} (hf : f9_hour k x1 σ = some (r, σr)) : zT l g y9_hour b9_hour 2 (some .int) 2 83 [zr 103, zi x1] σ (some (zi r)) σr := by
  unfold f9_hour at hf
  refine zT_start (own := R9) rfl (by decide +kernel) 0 (L := [some (zr 103), some (zi x1)]) rfl rfl (fun x hl C => ?_)
  subst hl
  refine z_iload_n C d9_hour_0 rfl ?_
  refine z_iconst C (0 : Int32) d9_hour_1 kI_0 ?_
  refine z_sipush C (9999 : Int32) d9_hour_2 kS_9999 ?_
  obtain ⟨r1, s1, h1, hf⟩ := zbx hf
  refine z_callSi C (as := [zi x1, zi (0 : Int32), zi (9999 : Int32)]) d9_hour_5 w_906 yy9_in (c9_in x.2.1 g h1) rfl rfl (Nat.le_of_ble_eq_true rfl) ⟨Nat.le_of_ble_eq_true rfl, Nat.le_of_ble_eq_true rfl⟩ ⟨Nat.zero_le _, Nat.zero_le _⟩ ?_
  refine z_if_eq C d9_hour_8 (fun c2 => ?_) (fun c2 => ?_)
  · have hf := zit c2 hf
    refine z_aload_n C d9_hour_20 rfl ?_
    refine z_ldc C (-1000000001 : Int32) d9_hour_21 w_915 ?_
    obtain ⟨r3, s3, h3, hf⟩ := zbx hf
    refine z_callVi C (as := [zi (-1000000001 : Int32)]) d9_hour_23 w_916 yy9_error (c9_error x.2.1 g h3) yc9_error kZ_103 rfl rfl (Nat.le_of_ble_eq_true rfl) ⟨Nat.le_of_ble_eq_true rfl, Nat.le_of_ble_eq_true rfl⟩ ⟨Nat.zero_le _, Nat.zero_le _⟩ ?_
    exact z_iret C d9_hour_26 hf
  · have hf := zie c2 hf
    refine z_aload_n C d9_hour_11 rfl ?_
    refine z_iconst C (0 : Int32) d9_hour_12 kI_0 ?_
    refine z_iload_n C d9_hour_13 rfl ?_
    obtain ⟨r4, s4, h4, hf⟩ := zbx hf
    refine z_callVi C (as := [zi (0 : Int32), zi x1]) d9_hour_14 w_961 yy9_becomes (c9_becomes x.2.1 g h4) yc9_becomes kZ_103 rfl rfl (Nat.le_of_ble_eq_true rfl) ⟨Nat.le_of_ble_eq_true rfl, Nat.le_of_ble_eq_true rfl⟩ ⟨Nat.zero_le _, Nat.zero_le _⟩ ?_
    refine z_goto C d9_hour_17 ?_
    exact z_iret C d9_hour_26 hf
theorem d9_hours_0 : zd b9_hours 0 (.iload_n 1) 1 1 := ⟨by decide +kernel, rfl⟩
theorem d9_hours_1 : zd b9_hours 1 (.iconst 1) 1 2 := ⟨by decide +kernel, rfl⟩
theorem d9_hours_2 : zd b9_hours 2 (.bipush 48) 2 4 := ⟨by decide +kernel, rfl⟩
theorem d9_hours_4 : zd b9_hours 4 (.invokestatic 56) 3 7 := ⟨by decide +kernel, rfl⟩
theorem d9_hours_7 : zdb b9_hours 7 (.ifCond .ne 10) 10 10 17 := ⟨by decide +kernel, rfl, by decide⟩
theorem d9_hours_10 : zd b9_hours 10 (.aload_n 0) 1 11 := ⟨by decide +kernel, rfl⟩
theorem d9_hours_11 : zd b9_hours 11 (.ldc 130) 2 13 := ⟨by decide +kernel, rfl⟩
theorem d9_hours_13 : zd b9_hours 13 (.invokevirtual 131) 3 16 := ⟨by decide +kernel, rfl⟩
theorem d9_hours_16 : zd b9_hours 16 .ireturn 1 17 := ⟨by decide +kernel, rfl⟩
theorem d9_hours_17 : zd b9_hours 17 (.aload_n 0) 1 18 := ⟨by decide +kernel, rfl⟩
theorem d9_hours_18 : zd b9_hours 18 (.getfield 9) 3 21 := ⟨by decide +kernel, rfl⟩
theorem d9_hours_21 : zd b9_hours 21 (.iconst 0) 1 22 := ⟨by decide +kernel, rfl⟩
theorem d9_hours_22 : zd b9_hours 22 .iaload 1 23 := ⟨by decide +kernel, rfl⟩
theorem d9_hours_23 : zd b9_hours 23 (.iload_n 1) 1 24 := ⟨by decide +kernel, rfl⟩
theorem d9_hours_24 : zd b9_hours 24 .iadd 1 25 := ⟨by decide +kernel, rfl⟩
theorem d9_hours_25 : zd b9_hours 25 (.sipush 9999) 3 28 := ⟨by decide +kernel, rfl⟩
theorem d9_hours_28 : zdb b9_hours 28 (.if_icmp .le 10) 10 31 38 := ⟨by decide +kernel, rfl, by decide⟩
theorem d9_hours_31 : zd b9_hours 31 (.aload_n 0) 1 32 := ⟨by decide +kernel, rfl⟩
theorem d9_hours_32 : zd b9_hours 32 (.ldc 135) 2 34 := ⟨by decide +kernel, rfl⟩
theorem d9_hours_34 : zd b9_hours 34 (.invokevirtual 131) 3 37 := ⟨by decide +kernel, rfl⟩
theorem d9_hours_37 : zd b9_hours 37 .ireturn 1 38 := ⟨by decide +kernel, rfl⟩
theorem d9_hours_38 : zd b9_hours 38 (.iconst 0) 1 39 := ⟨by decide +kernel, rfl⟩
theorem d9_hours_39 : zd b9_hours 39 (.istore_n 2) 1 40 := ⟨by decide +kernel, rfl⟩
theorem d9_hours_40 : zd b9_hours 40 (.iload_n 2) 1 41 := ⟨by decide +kernel, rfl⟩
theorem d9_hours_41 : zd b9_hours 41 (.iload_n 1) 1 42 := ⟨by decide +kernel, rfl⟩
theorem d9_hours_42 : zdb b9_hours 42 (.if_icmp .ge 13) 13 45 55 := ⟨by decide +kernel, rfl, by decide⟩
theorem d9_hours_45 : zd b9_hours 45 (.aload_n 0) 1 46 := ⟨by decide +kernel, rfl⟩
theorem d9_hours_46 : zd b9_hours 46 (.invokevirtual 210) 3 49 := ⟨by decide +kernel, rfl⟩
theorem d9_hours_49 : zd b9_hours 49 (.iinc 2 1) 3 52 := ⟨by decide +kernel, rfl⟩
theorem d9_hours_52 : zdb b9_hours 52 (.goto (-12)) (-12) 55 40 := ⟨by decide +kernel, rfl, by decide⟩
theorem d9_hours_55 : zd b9_hours 55 (.aload_n 0) 1 56 := ⟨by decide +kernel, rfl⟩
theorem d9_hours_56 : zd b9_hours 56 (.getfield 9) 3 59 := ⟨by decide +kernel, rfl⟩
theorem d9_hours_59 : zd b9_hours 59 (.iconst 0) 1 60 := ⟨by decide +kernel, rfl⟩
theorem d9_hours_60 : zd b9_hours 60 .iaload 1 61 := ⟨by decide +kernel, rfl⟩
theorem d9_hours_61 : zd b9_hours 61 .ireturn 1 62 := ⟨by decide +kernel, rfl⟩
def b9_hours_40 (k : Nat) (q40 : Int32 → Int32 → ZS → Option (Int32 × ZS)) (x1 : Int32) (x2 : Int32) (σ : ZS) : Option (Int32 × ZS) :=
  if x1 ≤ x2 then (
  some ((σ 104 0), σ))
  else (
  zbd (f9_goes k σ) fun _ s2 =>
  q40 x1 (x2 + (1 : Int32)) s2)
def f9_hours_40 (k : Nat) : Nat → Int32 → Int32 → ZS → Option (Int32 × ZS)
  | 0 => fun _ _ _ => none
  | n + 1 => b9_hours_40 k  (f9_hours_40 k  n)
theorem j9_hours_40 {x : ZX} {g : ZG} (C : zC x g b9_hours R9 (some .int) 3 9 244) {k : Nat} {r : Int32} {σr : ZS}  {q40 : Int32 → Int32 → ZS → Option (Int32 × ZS)} (hq40 : (∀ (x1 : Int32) (x2 : Int32) (σ : ZS), q40 x1 x2 σ = some (r, σr) → zw x g 3 0 0 (zMQ x g (some (zi r)) σr) σ 40 [some (zr 103), some (zi x1), some (zi x2)] [])) {x1 : Int32} {x2 : Int32} {σ : ZS} (hf : b9_hours_40 k q40 x1 x2 σ = some (r, σr)) : zw x g 3 0 0 (zMQ x g (some (zi r)) σr) σ 40 [some (zr 103), some (zi x1), some (zi x2)] [] := by
  unfold b9_hours_40 at hf
  refine z_iload_n C d9_hours_40 rfl ?_
  refine z_iload_n C d9_hours_41 rfl ?_
  refine z_icmp_ge C d9_hours_42 (fun c1 => ?_) (fun c1 => ?_)
  · have hf := zit c1 hf
    refine z_aload_n C d9_hours_55 rfl ?_
    refine z_getR C d9_hours_56 fl_817 kZ_103 104 rfl (zn0 kZ_104) ?_
    refine z_iconst C (0 : Int32) d9_hours_59 kI_0 ?_
    refine z_iald C d9_hours_60 kZ_104 kL_104 ⟨by decide, by decide⟩ (0) kN_0 ?_
    exact z_iret C d9_hours_61 hf
  · have hf := zie c1 hf
    refine z_aload_n C d9_hours_45 rfl ?_
    obtain ⟨r2, s2, h2, hf⟩ := zbx hf
    refine z_callVv C (as := []) d9_hours_46 w_1109 yy9_goes (c9_goes x.2.1 g h2) yc9_goes kZ_103 rfl rfl (Nat.le_of_ble_eq_true rfl) ⟨Nat.le_of_ble_eq_true rfl, Nat.le_of_ble_eq_true rfl⟩ ⟨Nat.zero_le _, Nat.zero_le _⟩ ?_
    refine z_iinc C d9_hours_49 rfl kI_1 (Nat.le_of_ble_eq_true rfl) rfl (L' := [some (zr 103), some (zi x1), some (zi (x2 + (1 : Int32)))]) rfl ?_
    refine z_goto C d9_hours_52 ?_
    exact hq40 _ _ _ hf
theorem j9_hours_40l {x : ZX} {g : ZG} (C : zC x g b9_hours R9 (some .int) 3 9 244) {k : Nat} {r : Int32} {σr : ZS}  : ∀ (n : Nat) (x1 : Int32) (x2 : Int32) (σ : ZS), f9_hours_40 k  n x1 x2 σ = some (r, σr) → zw x g 3 0 0 (zMQ x g (some (zi r)) σr) σ 40 [some (zr 103), some (zi x1), some (zi x2)] [] := by
  intro n
  induction n with
  | zero => intro x1 x2 σ hf; exact absurd (show none = some (r, σr) from hf) (fun z => by cases z)
  | succ n ih => intro x1 x2 σ hf; exact j9_hours_40 C  ih (show b9_hours_40 k  (f9_hours_40 k  n) x1 x2 σ = some (r, σr) from hf)
def f9_hours (k : Nat) (x1 : Int32) (σ : ZS) : Option (Int32 × ZS) :=
  zbd (f9_in k x1 (1 : Int32) (48 : Int32) σ) fun r1 s1 =>
  if r1 = 0 then (
  zbd (f9_error k (-1000000001 : Int32) s1) fun r3 s3 =>
  some (r3, s3))
  else (
  if ((s1 104 0) + x1) ≤ (9999 : Int32) then (
  f9_hours_40 k  k x1 (0 : Int32) s1)
  else (
  zbd (f9_error k (-1000000003 : Int32) s1) fun r5 s5 =>
  some (r5, s5)))
theorem c9_hours (l : Launch) (g : ZG) {k : Nat} {x1 : Int32} {σ : ZS} {r : Int32} {σr : ZS} (hf : f9_hours k x1 σ = some (r, σr)) : zT l g y9_hours b9_hours 3 (some .int) 9 244 [zr 103, zi x1] σ (some (zi r)) σr := by
  unfold f9_hours at hf
  refine zT_start (own := R9) rfl (by decide +kernel) 1 (L := [some (zr 103), some (zi x1), none]) rfl rfl (fun x hl C => ?_)
  subst hl
  refine z_iload_n C d9_hours_0 rfl ?_
  refine z_iconst C (1 : Int32) d9_hours_1 kI_1 ?_
  refine z_bipush C (48 : Int32) d9_hours_2 kB_48 ?_
  obtain ⟨r1, s1, h1, hf⟩ := zbx hf
  refine z_callSi C (as := [zi x1, zi (1 : Int32), zi (48 : Int32)]) d9_hours_4 w_906 yy9_in (c9_in x.2.1 g h1) rfl rfl (Nat.le_of_ble_eq_true rfl) ⟨Nat.le_of_ble_eq_true rfl, Nat.le_of_ble_eq_true rfl⟩ ⟨Nat.zero_le _, Nat.zero_le _⟩ ?_
  refine z_if_ne C d9_hours_7 (fun c2 => ?_) (fun c2 => ?_)
  · have hf := zit c2 hf
    refine z_aload_n C d9_hours_10 rfl ?_
    refine z_ldc C (-1000000001 : Int32) d9_hours_11 w_915 ?_
    obtain ⟨r3, s3, h3, hf⟩ := zbx hf
    refine z_callVi C (as := [zi (-1000000001 : Int32)]) d9_hours_13 w_916 yy9_error (c9_error x.2.1 g h3) yc9_error kZ_103 rfl rfl (Nat.le_of_ble_eq_true rfl) ⟨Nat.le_of_ble_eq_true rfl, Nat.le_of_ble_eq_true rfl⟩ ⟨Nat.zero_le _, Nat.zero_le _⟩ ?_
    exact z_iret C d9_hours_16 hf
  · have hf := zie c2 hf
    refine z_aload_n C d9_hours_17 rfl ?_
    refine z_getR C d9_hours_18 fl_817 kZ_103 104 rfl (zn0 kZ_104) ?_
    refine z_iconst C (0 : Int32) d9_hours_21 kI_0 ?_
    refine z_iald C d9_hours_22 kZ_104 kL_104 ⟨by decide, by decide⟩ (0) kN_0 ?_
    refine z_iload_n C d9_hours_23 rfl ?_
    refine z_iadd C d9_hours_24 ?_
    refine z_sipush C (9999 : Int32) d9_hours_25 kS_9999 ?_
    refine z_icmp_le C d9_hours_28 (fun c4 => ?_) (fun c4 => ?_)
    · have hf := zit c4 hf
      refine z_iconst C (0 : Int32) d9_hours_38 kI_0 ?_
      refine z_istore_n C d9_hours_39 (Nat.le_of_ble_eq_true rfl) rfl (L' := [some (zr 103), some (zi x1), some (zi (0 : Int32))]) rfl ?_
      exact j9_hours_40l C  _ _ _ _ hf
    · have hf := zie c4 hf
      refine z_aload_n C d9_hours_31 rfl ?_
      refine z_ldc C (-1000000003 : Int32) d9_hours_32 w_930 ?_
      obtain ⟨r5, s5, h5, hf⟩ := zbx hf
      refine z_callVi C (as := [zi (-1000000003 : Int32)]) d9_hours_34 w_916 yy9_error (c9_error x.2.1 g h5) yc9_error kZ_103 rfl rfl (Nat.le_of_ble_eq_true rfl) ⟨Nat.le_of_ble_eq_true rfl, Nat.le_of_ble_eq_true rfl⟩ ⟨Nat.zero_le _, Nat.zero_le _⟩ ?_
      exact z_iret C d9_hours_37 hf
theorem d9_image_0 : zd b9_image 0 (.aload_n 0) 1 1 := ⟨by decide +kernel, rfl⟩
theorem d9_image_1 : zd b9_image 1 (.getfield 9) 3 4 := ⟨by decide +kernel, rfl⟩
theorem d9_image_4 : zd b9_image 4 (.aload_n 0) 1 5 := ⟨by decide +kernel, rfl⟩
theorem d9_image_5 : zd b9_image 5 (.getfield 13) 3 8 := ⟨by decide +kernel, rfl⟩
theorem d9_image_8 : zd b9_image 8 (.invokestatic 224) 3 11 := ⟨by decide +kernel, rfl⟩
theorem d9_image_11 : zd b9_image 11 (.aload_n 0) 1 12 := ⟨by decide +kernel, rfl⟩
theorem d9_image_12 : zd b9_image 12 .dup 1 13 := ⟨by decide +kernel, rfl⟩
theorem d9_image_13 : zd b9_image 13 (.getfield 295) 3 16 := ⟨by decide +kernel, rfl⟩
theorem d9_image_16 : zd b9_image 16 (.iconst 1) 1 17 := ⟨by decide +kernel, rfl⟩
theorem d9_image_17 : zd b9_image 17 .iadd 1 18 := ⟨by decide +kernel, rfl⟩
theorem d9_image_18 : zd b9_image 18 (.putfield 295) 3 21 := ⟨by decide +kernel, rfl⟩
theorem d9_image_21 : zd b9_image 21 (.aload_n 0) 1 22 := ⟨by decide +kernel, rfl⟩
theorem d9_image_22 : zd b9_image 22 (.getfield 295) 3 25 := ⟨by decide +kernel, rfl⟩
theorem d9_image_25 : zd b9_image 25 .ireturn 1 26 := ⟨by decide +kernel, rfl⟩
def f9_image (k : Nat)  (σ : ZS) : Option (Int32 × ZS) :=
  zbd (f9_copyAll k 104 105 σ) fun _ s1 =>
  zput (zu s1 103 3 ((s1 103 3) + (1 : Int32))) fun s2 =>
  some ((s2 103 3), s2)
theorem c9_image (l : Launch) (g : ZG) {k : Nat}  {σ : ZS} {r : Int32} {σr : ZS} (hf : f9_image k  σ = some (r, σr)) : zT l g y9_image b9_image 1 (some .int) 2 82 [zr 103] σ (some (zi r)) σr := by
  unfold f9_image at hf
  refine zT_start (own := R9) rfl (by decide +kernel) 0 (L := [some (zr 103)]) rfl rfl (fun x hl C => ?_)
  subst hl
  refine z_aload_n C d9_image_0 rfl ?_
  refine z_getR C d9_image_1 fl_817 kZ_103 104 rfl (zn0 kZ_104) ?_
  refine z_aload_n C d9_image_4 rfl ?_
  refine z_getR C d9_image_5 fl_818 kZ_103 105 rfl (zn0 kZ_105) ?_
  obtain ⟨r1, s1, h1, hf⟩ := zbx hf
  refine z_callSv C (as := [zr 104, zr 105]) d9_image_8 w_1155 yy9_copyAll (c9_copyAll x.2.1 g h1) rfl rfl (Nat.le_of_ble_eq_true rfl) ⟨Nat.le_of_ble_eq_true rfl, Nat.le_of_ble_eq_true rfl⟩ ⟨Nat.zero_le _, Nat.zero_le _⟩ ?_
  refine z_aload_n C d9_image_11 rfl ?_
  refine z_dup C d9_image_12 rfl ?_
  refine z_getI C d9_image_13 fl_820 kZ_103 ?_
  refine z_iconst C (1 : Int32) d9_image_16 kI_1 ?_
  refine z_iadd C d9_image_17 ?_
  obtain ⟨s2, e2, hf⟩ := zpx hf
  refine z_putI C d9_image_18 fl_820 ft_9_3 kZ_103 e2 ?_
  refine z_aload_n C d9_image_21 rfl ?_
  refine z_getI C d9_image_22 fl_820 kZ_103 ?_
  exact z_iret C d9_image_25 hf
theorem d9_notThere_0 : zd b9_notThere 0 (.iload_n 1) 1 1 := ⟨by decide +kernel, rfl⟩
theorem d9_notThere_1 : zd b9_notThere 1 (.invokestatic 242) 3 4 := ⟨by decide +kernel, rfl⟩
theorem d9_notThere_4 : zdb b9_notThere 4 (.ifCond .ne 8) 8 7 12 := ⟨by decide +kernel, rfl, by decide⟩
theorem d9_notThere_7 : zd b9_notThere 7 (.ldc 130) 2 9 := ⟨by decide +kernel, rfl⟩
theorem d9_notThere_9 : zdb b9_notThere 9 (.goto 18) 18 12 27 := ⟨by decide +kernel, rfl, by decide⟩
theorem d9_notThere_12 : zd b9_notThere 12 (.aload_n 0) 1 13 := ⟨by decide +kernel, rfl⟩
theorem d9_notThere_13 : zd b9_notThere 13 (.getfield 22) 3 16 := ⟨by decide +kernel, rfl⟩
theorem d9_notThere_16 : zd b9_notThere 16 (.iload_n 1) 1 17 := ⟨by decide +kernel, rfl⟩
theorem d9_notThere_17 : zd b9_notThere 17 .iaload 1 18 := ⟨by decide +kernel, rfl⟩
theorem d9_notThere_18 : zdb b9_notThere 18 (.ifCond .ne 8) 8 21 26 := ⟨by decide +kernel, rfl, by decide⟩
theorem d9_notThere_21 : zd b9_notThere 21 (.ldc 220) 2 23 := ⟨by decide +kernel, rfl⟩
theorem d9_notThere_23 : zdb b9_notThere 23 (.goto 4) 4 26 27 := ⟨by decide +kernel, rfl, by decide⟩
theorem d9_notThere_26 : zd b9_notThere 26 (.iconst 0) 1 27 := ⟨by decide +kernel, rfl⟩
theorem d9_notThere_27 : zd b9_notThere 27 .ireturn 1 28 := ⟨by decide +kernel, rfl⟩
def f9_notThere (k : Nat) (x1 : Int32) (σ : ZS) : Option (Int32 × ZS) :=
  zbd (f9_isSheet k x1 σ) fun r1 s1 =>
  if r1 = 0 then (
  some ((-1000000001 : Int32), s1))
  else (
  if zin x1 4 then (
  if (s1 108 x1.toNatClampNeg) = 0 then (
  some ((-1000000002 : Int32), s1))
  else (
  some ((0 : Int32), s1))) else none)
theorem c9_notThere (l : Launch) (g : ZG) {k : Nat} {x1 : Int32} {σ : ZS} {r : Int32} {σr : ZS} (hf : f9_notThere k x1 σ = some (r, σr)) : zT l g y9_notThere b9_notThere 2 (some .int) 3 102 [zr 103, zi x1] σ (some (zi r)) σr := by
  unfold f9_notThere at hf
  refine zT_start (own := R9) rfl (by decide +kernel) 0 (L := [some (zr 103), some (zi x1)]) rfl rfl (fun x hl C => ?_)
  subst hl
  refine z_iload_n C d9_notThere_0 rfl ?_
  obtain ⟨r1, s1, h1, hf⟩ := zbx hf
  refine z_callSi C (as := [zi x1]) d9_notThere_1 w_1186 yy9_isSheet (c9_isSheet x.2.1 g h1) rfl rfl (Nat.le_of_ble_eq_true rfl) ⟨Nat.le_of_ble_eq_true rfl, Nat.le_of_ble_eq_true rfl⟩ ⟨Nat.zero_le _, Nat.zero_le _⟩ ?_
  refine z_if_ne C d9_notThere_4 (fun c2 => ?_) (fun c2 => ?_)
  · have hf := zit c2 hf
    refine z_ldc C (-1000000001 : Int32) d9_notThere_7 w_915 ?_
    refine z_goto C d9_notThere_9 ?_
    exact z_iret C d9_notThere_27 hf
  · have hf := zie c2 hf
    refine z_aload_n C d9_notThere_12 rfl ?_
    refine z_getR C d9_notThere_13 fl_822 kZ_103 108 rfl (zn0 kZ_108) ?_
    refine z_iload_n C d9_notThere_16 rfl ?_
    obtain ⟨g3, hf⟩ := zgo hf
    refine z_iald C d9_notThere_17 kZ_108 kL_108 g3 (x1.toNatClampNeg) rfl ?_
    refine z_if_ne C d9_notThere_18 (fun c4 => ?_) (fun c4 => ?_)
    · have hf := zit c4 hf
      refine z_ldc C (-1000000002 : Int32) d9_notThere_21 w_1134 ?_
      refine z_goto C d9_notThere_23 ?_
      exact z_iret C d9_notThere_27 hf
    · have hf := zie c4 hf
      refine z_iconst C (0 : Int32) d9_notThere_26 kI_0 ?_
      exact z_iret C d9_notThere_27 hf
theorem d9_judge_0 : zd b9_judge 0 (.aload_n 0) 1 1 := ⟨by decide +kernel, rfl⟩
theorem d9_judge_1 : zd b9_judge 1 (.iload_n 1) 1 2 := ⟨by decide +kernel, rfl⟩
theorem d9_judge_2 : zd b9_judge 2 (.invokevirtual 288) 3 5 := ⟨by decide +kernel, rfl⟩
theorem d9_judge_5 : zd b9_judge 5 (.istore_n 2) 1 6 := ⟨by decide +kernel, rfl⟩
theorem d9_judge_6 : zd b9_judge 6 (.iload_n 2) 1 7 := ⟨by decide +kernel, rfl⟩
theorem d9_judge_7 : zdb b9_judge 7 (.ifCond .eq 9) 9 10 16 := ⟨by decide +kernel, rfl, by decide⟩
theorem d9_judge_10 : zd b9_judge 10 (.aload_n 0) 1 11 := ⟨by decide +kernel, rfl⟩
theorem d9_judge_11 : zd b9_judge 11 (.iload_n 2) 1 12 := ⟨by decide +kernel, rfl⟩
theorem d9_judge_12 : zd b9_judge 12 (.invokevirtual 131) 3 15 := ⟨by decide +kernel, rfl⟩
theorem d9_judge_15 : zd b9_judge 15 .ireturn 1 16 := ⟨by decide +kernel, rfl⟩
theorem d9_judge_16 : zd b9_judge 16 (.iconst 0) 1 17 := ⟨by decide +kernel, rfl⟩
theorem d9_judge_17 : zd b9_judge 17 (.istore_n 3) 1 18 := ⟨by decide +kernel, rfl⟩
theorem d9_judge_18 : zd b9_judge 18 (.iload_n 3) 1 19 := ⟨by decide +kernel, rfl⟩
theorem d9_judge_19 : zd b9_judge 19 (.aload_n 0) 1 20 := ⟨by decide +kernel, rfl⟩
theorem d9_judge_20 : zd b9_judge 20 (.getfield 25) 3 23 := ⟨by decide +kernel, rfl⟩
theorem d9_judge_23 : zd b9_judge 23 (.iload_n 1) 1 24 := ⟨by decide +kernel, rfl⟩
theorem d9_judge_24 : zd b9_judge 24 .iaload 1 25 := ⟨by decide +kernel, rfl⟩
theorem d9_judge_25 : zdb b9_judge 25 (.if_icmp .ge 38) 38 28 63 := ⟨by decide +kernel, rfl, by decide⟩
theorem d9_judge_28 : zd b9_judge 28 (.iload_n 3) 1 29 := ⟨by decide +kernel, rfl⟩
theorem d9_judge_29 : zd b9_judge 29 (.aload_n 0) 1 30 := ⟨by decide +kernel, rfl⟩
theorem d9_judge_30 : zd b9_judge 30 (.getfield 9) 3 33 := ⟨by decide +kernel, rfl⟩
theorem d9_judge_33 : zd b9_judge 33 (.iconst 3) 1 34 := ⟨by decide +kernel, rfl⟩
theorem d9_judge_34 : zd b9_judge 34 .iaload 1 35 := ⟨by decide +kernel, rfl⟩
theorem d9_judge_35 : zdb b9_judge 35 (.if_icmp .ge 28) 28 38 63 := ⟨by decide +kernel, rfl, by decide⟩
theorem d9_judge_38 : zd b9_judge 38 (.aload_n 0) 1 39 := ⟨by decide +kernel, rfl⟩
theorem d9_judge_39 : zd b9_judge 39 (.getfield 28) 3 42 := ⟨by decide +kernel, rfl⟩
theorem d9_judge_42 : zd b9_judge 42 (.bipush 24) 2 44 := ⟨by decide +kernel, rfl⟩
theorem d9_judge_44 : zd b9_judge 44 (.iload_n 1) 1 45 := ⟨by decide +kernel, rfl⟩
theorem d9_judge_45 : zd b9_judge 45 .imul 1 46 := ⟨by decide +kernel, rfl⟩
theorem d9_judge_46 : zd b9_judge 46 (.iload_n 3) 1 47 := ⟨by decide +kernel, rfl⟩
theorem d9_judge_47 : zd b9_judge 47 .iadd 1 48 := ⟨by decide +kernel, rfl⟩
theorem d9_judge_48 : zd b9_judge 48 .iaload 1 49 := ⟨by decide +kernel, rfl⟩
theorem d9_judge_49 : zd b9_judge 49 (.aload_n 0) 1 50 := ⟨by decide +kernel, rfl⟩
theorem d9_judge_50 : zd b9_judge 50 (.iload_n 3) 1 51 := ⟨by decide +kernel, rfl⟩
theorem d9_judge_51 : zd b9_judge 51 (.invokevirtual 146) 3 54 := ⟨by decide +kernel, rfl⟩
theorem d9_judge_54 : zdb b9_judge 54 (.if_icmp .ne 9) 9 57 63 := ⟨by decide +kernel, rfl, by decide⟩
theorem d9_judge_57 : zd b9_judge 57 (.iinc 3 1) 3 60 := ⟨by decide +kernel, rfl⟩
theorem d9_judge_60 : zdb b9_judge 60 (.goto (-42)) (-42) 63 18 := ⟨by decide +kernel, rfl, by decide⟩
theorem d9_judge_63 : zd b9_judge 63 (.iload_n 3) 1 64 := ⟨by decide +kernel, rfl⟩
theorem d9_judge_64 : zd b9_judge 64 .ireturn 1 65 := ⟨by decide +kernel, rfl⟩
def b9_judge_18 (k : Nat) (q18 : Int32 → Int32 → ZS → Option (Int32 × ZS)) (x1 : Int32) (x3 : Int32) (σ : ZS) : Option (Int32 × ZS) :=
  if zin x1 4 then (
  if (σ 109 x1.toNatClampNeg) ≤ x3 then (
  some (x3, σ))
  else (
  if (σ 104 3) ≤ x3 then (
  some (x3, σ))
  else (
  if zin (((24 : Int32) * x1) + x3) 96 then (
  zbd (f9_dueOf k x3 σ) fun r5 s5 =>
  if (σ 110 (((24 : Int32) * x1) + x3).toNatClampNeg) = r5 then (
  q18 x1 (x3 + (1 : Int32)) s5)
  else (
  some (x3, s5))) else none))) else none
def f9_judge_18 (k : Nat) : Nat → Int32 → Int32 → ZS → Option (Int32 × ZS)
  | 0 => fun _ _ _ => none
  | n + 1 => b9_judge_18 k  (f9_judge_18 k  n)
theorem j9_judge_18 {x : ZX} {g : ZG} (C : zC x g b9_judge R9 (some .int) 4 8 222) {k : Nat} {r : Int32} {σr : ZS}  {q18 : Int32 → Int32 → ZS → Option (Int32 × ZS)} (hq18 : (∀ (x1 : Int32) (x3 : Int32) (σ : ZS), q18 x1 x3 σ = some (r, σr) → zw x g 4 0 0 (zMQ x g (some (zi r)) σr) σ 18 [some (zr 103), some (zi x1), none, some (zi x3)] [])) {x1 : Int32} {x3 : Int32} {σ : ZS} (hf : b9_judge_18 k q18 x1 x3 σ = some (r, σr)) : zw x g 4 0 0 (zMQ x g (some (zi r)) σr) σ 18 [some (zr 103), some (zi x1), none, some (zi x3)] [] := by
  unfold b9_judge_18 at hf
  refine z_iload_n C d9_judge_18 rfl ?_
  refine z_aload_n C d9_judge_19 rfl ?_
  refine z_getR C d9_judge_20 fl_823 kZ_103 109 rfl (zn0 kZ_109) ?_
  refine z_iload_n C d9_judge_23 rfl ?_
  obtain ⟨g1, hf⟩ := zgo hf
  refine z_iald C d9_judge_24 kZ_109 kL_109 g1 (x1.toNatClampNeg) rfl ?_
  refine z_icmp_ge C d9_judge_25 (fun c2 => ?_) (fun c2 => ?_)
  · have hf := zit c2 hf
    refine z_iload_n C d9_judge_63 rfl ?_
    exact z_iret C d9_judge_64 hf
  · have hf := zie c2 hf
    refine z_iload_n C d9_judge_28 rfl ?_
    refine z_aload_n C d9_judge_29 rfl ?_
    refine z_getR C d9_judge_30 fl_817 kZ_103 104 rfl (zn0 kZ_104) ?_
    refine z_iconst C (3 : Int32) d9_judge_33 kI_3 ?_
    refine z_iald C d9_judge_34 kZ_104 kL_104 ⟨by decide, by decide⟩ (3) kN_3 ?_
    refine z_icmp_ge C d9_judge_35 (fun c3 => ?_) (fun c3 => ?_)
    · have hf := zit c3 hf
      refine z_iload_n C d9_judge_63 rfl ?_
      exact z_iret C d9_judge_64 hf
    · have hf := zie c3 hf
      refine z_aload_n C d9_judge_38 rfl ?_
      refine z_getR C d9_judge_39 fl_824 kZ_103 110 rfl (zn0 kZ_110) ?_
      refine z_bipush C (24 : Int32) d9_judge_42 kB_24 ?_
      refine z_iload_n C d9_judge_44 rfl ?_
      refine z_imul C d9_judge_45 ?_
      refine z_iload_n C d9_judge_46 rfl ?_
      refine z_iadd C d9_judge_47 ?_
      obtain ⟨g4, hf⟩ := zgo hf
      refine z_iald C d9_judge_48 kZ_110 kL_110 g4 ((((24 : Int32) * x1) + x3).toNatClampNeg) rfl ?_
      refine z_aload_n C d9_judge_49 rfl ?_
      refine z_iload_n C d9_judge_50 rfl ?_
      obtain ⟨r5, s5, h5, hf⟩ := zbx hf
      refine z_callVi C (as := [zi x3]) d9_judge_51 w_994 yy9_dueOf (c9_dueOf x.2.1 g h5) yc9_dueOf kZ_103 rfl rfl (Nat.le_of_ble_eq_true rfl) ⟨Nat.le_of_ble_eq_true rfl, Nat.le_of_ble_eq_true rfl⟩ ⟨Nat.zero_le _, Nat.zero_le _⟩ ?_
      refine z_icmp_ne C d9_judge_54 (fun c6 => ?_) (fun c6 => ?_)
      · have hf := zit c6 hf
        refine z_iinc C d9_judge_57 rfl kI_1 (Nat.le_of_ble_eq_true rfl) rfl (L' := [some (zr 103), some (zi x1), none, some (zi (x3 + (1 : Int32)))]) rfl ?_
        refine z_goto C d9_judge_60 ?_
        exact hq18 _ _ _ hf
      · have hf := zie c6 hf
        refine z_iload_n C d9_judge_63 rfl ?_
        exact z_iret C d9_judge_64 hf
theorem j9_judge_18l {x : ZX} {g : ZG} (C : zC x g b9_judge R9 (some .int) 4 8 222) {k : Nat} {r : Int32} {σr : ZS}  : ∀ (n : Nat) (x1 : Int32) (x3 : Int32) (σ : ZS), f9_judge_18 k  n x1 x3 σ = some (r, σr) → zw x g 4 0 0 (zMQ x g (some (zi r)) σr) σ 18 [some (zr 103), some (zi x1), none, some (zi x3)] [] := by
  intro n
  induction n with
  | zero => intro x1 x3 σ hf; exact absurd (show none = some (r, σr) from hf) (fun z => by cases z)
  | succ n ih => intro x1 x3 σ hf; exact j9_judge_18 C  ih (show b9_judge_18 k  (f9_judge_18 k  n) x1 x3 σ = some (r, σr) from hf)
def f9_judge (k : Nat) (x1 : Int32) (σ : ZS) : Option (Int32 × ZS) :=
  zbd (f9_notThere k x1 σ) fun r1 s1 =>
  if r1 = 0 then (
  f9_judge_18 k  k x1 (0 : Int32) s1)
  else (
  zbd (f9_error k r1 s1) fun r3 s3 =>
  some (r3, s3))
theorem c9_judge (l : Launch) (g : ZG) {k : Nat} {x1 : Int32} {σ : ZS} {r : Int32} {σr : ZS} (hf : f9_judge k x1 σ = some (r, σr)) : zT l g y9_judge b9_judge 4 (some .int) 8 222 [zr 103, zi x1] σ (some (zi r)) σr := by
  unfold f9_judge at hf
  refine zT_start (own := R9) rfl (by decide +kernel) 2 (L := [some (zr 103), some (zi x1), none, none]) rfl rfl (fun x hl C => ?_)
  subst hl
  refine z_aload_n C d9_judge_0 rfl ?_
  refine z_iload_n C d9_judge_1 rfl ?_
  obtain ⟨r1, s1, h1, hf⟩ := zbx hf
  refine z_callVi C (as := [zi x1]) d9_judge_2 w_1254 yy9_notThere (c9_notThere x.2.1 g h1) yc9_notThere kZ_103 rfl rfl (Nat.le_of_ble_eq_true rfl) ⟨Nat.le_of_ble_eq_true rfl, Nat.le_of_ble_eq_true rfl⟩ ⟨Nat.zero_le _, Nat.zero_le _⟩ ?_
  refine z_istore_n C d9_judge_5 (Nat.le_of_ble_eq_true rfl) rfl (L' := [some (zr 103), some (zi x1), some (zi r1), none]) rfl ?_
  refine z_iload_n C d9_judge_6 rfl ?_
  refine z_if_eq C d9_judge_7 (fun c2 => ?_) (fun c2 => ?_)
  · have hf := zit c2 hf
    refine z_iconst C (0 : Int32) d9_judge_16 kI_0 ?_
    refine z_istore_n C d9_judge_17 (Nat.le_of_ble_eq_true rfl) rfl (L' := [some (zr 103), some (zi x1), some (zi r1), some (zi (0 : Int32))]) rfl ?_
    refine z_drop [true, true, false, true] (L' := [some (zr 103), some (zi x1), none, some (zi (0 : Int32))]) rfl ?_
    exact j9_judge_18l C  _ _ _ _ hf
  · have hf := zie c2 hf
    refine z_aload_n C d9_judge_10 rfl ?_
    refine z_iload_n C d9_judge_11 rfl ?_
    obtain ⟨r3, s3, h3, hf⟩ := zbx hf
    refine z_callVi C (as := [zi r1]) d9_judge_12 w_916 yy9_error (c9_error x.2.1 g h3) yc9_error kZ_103 rfl rfl (Nat.le_of_ble_eq_true rfl) ⟨Nat.le_of_ble_eq_true rfl, Nat.le_of_ble_eq_true rfl⟩ ⟨Nat.zero_le _, Nat.zero_le _⟩ ?_
    exact z_iret C d9_judge_15 hf
theorem d9_law_0 : zd b9_law 0 (.iload_n 1) 1 1 := ⟨by decide +kernel, rfl⟩
theorem d9_law_1 : zd b9_law 1 (.iconst 0) 1 2 := ⟨by decide +kernel, rfl⟩
theorem d9_law_2 : zd b9_law 2 (.iconst 1) 1 3 := ⟨by decide +kernel, rfl⟩
theorem d9_law_3 : zd b9_law 3 (.invokestatic 56) 3 6 := ⟨by decide +kernel, rfl⟩
theorem d9_law_6 : zdb b9_law 6 (.ifCond .eq 15) 15 9 21 := ⟨by decide +kernel, rfl, by decide⟩
theorem d9_law_9 : zd b9_law 9 (.aload_n 0) 1 10 := ⟨by decide +kernel, rfl⟩
theorem d9_law_10 : zd b9_law 10 (.iload_n 1) 1 11 := ⟨by decide +kernel, rfl⟩
theorem d9_law_11 : zd b9_law 11 (.iload_n 2) 1 12 := ⟨by decide +kernel, rfl⟩
theorem d9_law_12 : zd b9_law 12 (.iload_n 3) 1 13 := ⟨by decide +kernel, rfl⟩
theorem d9_law_13 : zd b9_law 13 (.iload 4) 2 15 := ⟨by decide +kernel, rfl⟩
theorem d9_law_15 : zd b9_law 15 (.invokevirtual 85) 3 18 := ⟨by decide +kernel, rfl⟩
theorem d9_law_18 : zdb b9_law 18 (.goto 9) 9 21 27 := ⟨by decide +kernel, rfl, by decide⟩
theorem d9_law_21 : zd b9_law 21 (.aload_n 0) 1 22 := ⟨by decide +kernel, rfl⟩
theorem d9_law_22 : zd b9_law 22 (.ldc 130) 2 24 := ⟨by decide +kernel, rfl⟩
theorem d9_law_24 : zd b9_law 24 (.invokevirtual 131) 3 27 := ⟨by decide +kernel, rfl⟩
theorem d9_law_27 : zd b9_law 27 .ireturn 1 28 := ⟨by decide +kernel, rfl⟩
def f9_law (k : Nat) (x1 : Int32) (x2 : Int32) (x3 : Int32) (x4 : Int32) (σ : ZS) : Option (Int32 × ZS) :=
  zbd (f9_in k x1 (0 : Int32) (1 : Int32) σ) fun r1 s1 =>
  if r1 = 0 then (
  zbd (f9_error k (-1000000001 : Int32) s1) fun r3 s3 =>
  some (r3, s3))
  else (
  zbd (f9_gives k x1 x2 x3 x4 s1) fun r4 s4 =>
  some (r4, s4))
theorem c9_law (l : Launch) (g : ZG) {k : Nat} {x1 : Int32} {x2 : Int32} {x3 : Int32} {x4 : Int32} {σ : ZS} {r : Int32} {σr : ZS} (hf : f9_law k x1 x2 x3 x4 σ = some (r, σr)) : zT l g y9_law b9_law 5 (some .int) 4 132 [zr 103, zi x1, zi x2, zi x3, zi x4] σ (some (zi r)) σr := by
  unfold f9_law at hf
  refine zT_start (own := R9) rfl (by decide +kernel) 0 (L := [some (zr 103), some (zi x1), some (zi x2), some (zi x3), some (zi x4)]) rfl rfl (fun x hl C => ?_)
  subst hl
  refine z_iload_n C d9_law_0 rfl ?_
  refine z_iconst C (0 : Int32) d9_law_1 kI_0 ?_
  refine z_iconst C (1 : Int32) d9_law_2 kI_1 ?_
  obtain ⟨r1, s1, h1, hf⟩ := zbx hf
  refine z_callSi C (as := [zi x1, zi (0 : Int32), zi (1 : Int32)]) d9_law_3 w_906 yy9_in (c9_in x.2.1 g h1) rfl rfl (Nat.le_of_ble_eq_true rfl) ⟨Nat.le_of_ble_eq_true rfl, Nat.le_of_ble_eq_true rfl⟩ ⟨Nat.zero_le _, Nat.zero_le _⟩ ?_
  refine z_if_eq C d9_law_6 (fun c2 => ?_) (fun c2 => ?_)
  · have hf := zit c2 hf
    refine z_aload_n C d9_law_21 rfl ?_
    refine z_ldc C (-1000000001 : Int32) d9_law_22 w_915 ?_
    obtain ⟨r3, s3, h3, hf⟩ := zbx hf
    refine z_callVi C (as := [zi (-1000000001 : Int32)]) d9_law_24 w_916 yy9_error (c9_error x.2.1 g h3) yc9_error kZ_103 rfl rfl (Nat.le_of_ble_eq_true rfl) ⟨Nat.le_of_ble_eq_true rfl, Nat.le_of_ble_eq_true rfl⟩ ⟨Nat.zero_le _, Nat.zero_le _⟩ ?_
    exact z_iret C d9_law_27 hf
  · have hf := zie c2 hf
    refine z_aload_n C d9_law_9 rfl ?_
    refine z_iload_n C d9_law_10 rfl ?_
    refine z_iload_n C d9_law_11 rfl ?_
    refine z_iload_n C d9_law_12 rfl ?_
    refine z_iload C d9_law_13 rfl ?_
    obtain ⟨r4, s4, h4, hf⟩ := zbx hf
    refine z_callVi C (as := [zi x1, zi x2, zi x3, zi x4]) d9_law_15 w_1013 yy9_gives (c9_gives x.2.1 g h4) yc9_gives kZ_103 rfl rfl (Nat.le_of_ble_eq_true rfl) ⟨Nat.le_of_ble_eq_true rfl, Nat.le_of_ble_eq_true rfl⟩ ⟨Nat.zero_le _, Nat.zero_le _⟩ ?_
    refine z_goto C d9_law_18 ?_
    exact z_iret C d9_law_27 hf
