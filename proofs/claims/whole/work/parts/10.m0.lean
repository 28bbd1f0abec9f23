/-! methods, printed by wip/whole/gen: GlassTax.error, GlassTax$Glass.isOne, GlassTax$Street.glassOf, GlassTax.as, GlassTax.isNoCell, GlassTax.isNoWay, GlassTax$Look.cellAt, GlassTax$Glass.roundFrom, GlassTax$Glass.byTurn, GlassTax$Glass.onward, GlassTax$Look.enter, GlassTax$Look.meet, GlassTax$Look.nextCell, GlassTax$Street.glassAt, GlassTax$Street.isNight, GlassTax$Look.follow, GlassTax.at, GlassTax.isNoKm, GlassTax.become, GlassTax$Voices.tracedAt, GlassTax.body, GlassTax$Street.personOf, GlassTax$Street.waitingAt, GlassTax.check, GlassTax.count, GlassTax$Street.addByte, GlassTax.feed, GlassTax.writeSpin, GlassTax$Look.seesCell -/
theorem d8_error_0 : zd b8_error 0 (.iload_n 1) 1 1 := ⟨by decide +kernel, rfl⟩
theorem d8_error_1 : zdb b8_error 1 (.ifCond .lt 22) 22 4 23 := ⟨by decide +kernel, rfl, by decide⟩
theorem d8_error_4 : zd b8_error 4 (.iload_n 1) 1 5 := ⟨by decide +kernel, rfl⟩
theorem d8_error_5 : zd b8_error 5 (.aload_n 0) 1 6 := ⟨by decide +kernel, rfl⟩
theorem d8_error_6 : zd b8_error 6 (.getfield 53) 3 9 := ⟨by decide +kernel, rfl⟩
theorem d8_error_9 : zd b8_error 9 .arraylength 1 10 := ⟨by decide +kernel, rfl⟩
theorem d8_error_10 : zdb b8_error 10 (.if_icmp .ge 13) 13 13 23 := ⟨by decide +kernel, rfl, by decide⟩
theorem d8_error_13 : zd b8_error 13 (.aload_n 0) 1 14 := ⟨by decide +kernel, rfl⟩
theorem d8_error_14 : zd b8_error 14 (.getfield 53) 3 17 := ⟨by decide +kernel, rfl⟩
theorem d8_error_17 : zd b8_error 17 (.iload_n 1) 1 18 := ⟨by decide +kernel, rfl⟩
theorem d8_error_18 : zd b8_error 18 .dup2 1 19 := ⟨by decide +kernel, rfl⟩
theorem d8_error_19 : zd b8_error 19 .iaload 1 20 := ⟨by decide +kernel, rfl⟩
theorem d8_error_20 : zd b8_error 20 (.iconst 1) 1 21 := ⟨by decide +kernel, rfl⟩
theorem d8_error_21 : zd b8_error 21 .iadd 1 22 := ⟨by decide +kernel, rfl⟩
theorem d8_error_22 : zd b8_error 22 .iastore 1 23 := ⟨by decide +kernel, rfl⟩
theorem d8_error_23 : zd b8_error 23 (.ldc_w 295) 3 26 := ⟨by decide +kernel, rfl⟩
theorem d8_error_26 : zd b8_error 26 (.iload_n 1) 1 27 := ⟨by decide +kernel, rfl⟩
theorem d8_error_27 : zd b8_error 27 .isub 1 28 := ⟨by decide +kernel, rfl⟩
theorem d8_error_28 : zd b8_error 28 .ireturn 1 29 := ⟨by decide +kernel, rfl⟩
def f8_error (k : Nat) (x1 : Int32) (σ : ZS) : Option (Int32 × ZS) :=
  if x1 < 0 then (
  some (((-1000000000 : Int32) - x1), σ))
  else (
  if (7 : Int32) ≤ x1 then (
  some (((-1000000000 : Int32) - x1), σ))
  else (
  if zin x1 7 then (
  if zin x1 7 then (
  zput (zu σ 94 (x1.toNatClampNeg) ((σ 94 x1.toNatClampNeg) + (1 : Int32))) fun s5 =>
  some (((-1000000000 : Int32) - x1), s5)) else none) else none))
theorem c8_error (l : Launch) (g : ZG) {k : Nat} {x1 : Int32} {σ : ZS} {r : Int32} {σr : ZS} (hf : f8_error k x1 σ = some (r, σr)) : zT l g y8_error b8_error 2 (some .int) 1 60 [zr 1, zi x1] σ (some (zi r)) σr := by
  unfold f8_error at hf
  refine zT_start (own := R8) rfl (by decide +kernel) 0 (L := [some (zr 1), some (zi x1)]) rfl rfl (fun x hl C => ?_)
  subst hl
  refine z_iload_n C d8_error_0 rfl ?_
  refine z_if_lt C d8_error_1 (fun c1 => ?_) (fun c1 => ?_)
  · have hf := zit c1 hf
    refine z_ldcw C (-1000000000 : Int32) d8_error_23 w_312 ?_
    refine z_iload_n C d8_error_26 rfl ?_
    refine z_isub C d8_error_27 ?_
    exact z_iret C d8_error_28 hf
  · have hf := zie c1 hf
    refine z_iload_n C d8_error_4 rfl ?_
    refine z_aload_n C d8_error_5 rfl ?_
    refine z_getR C d8_error_6 fl_269 kZ_1 94 rfl (zn0 kZ_94) ?_
    refine z_alen C (7 : Int32) d8_error_9 kZ_94 kL_94 kO_7 ?_
    refine z_icmp_ge C d8_error_10 (fun c2 => ?_) (fun c2 => ?_)
    · have hf := zit c2 hf
      refine z_ldcw C (-1000000000 : Int32) d8_error_23 w_312 ?_
      refine z_iload_n C d8_error_26 rfl ?_
      refine z_isub C d8_error_27 ?_
      exact z_iret C d8_error_28 hf
    · have hf := zie c2 hf
      refine z_aload_n C d8_error_13 rfl ?_
      refine z_getR C d8_error_14 fl_269 kZ_1 94 rfl (zn0 kZ_94) ?_
      refine z_iload_n C d8_error_17 rfl ?_
      refine z_dup2 C d8_error_18 rfl rfl ?_
      obtain ⟨g3, hf⟩ := zgo hf
      refine z_iald C d8_error_19 kZ_94 kL_94 g3 (x1.toNatClampNeg) rfl ?_
      refine z_iconst C (1 : Int32) d8_error_20 kI_1 ?_
      refine z_iadd C d8_error_21 ?_
      obtain ⟨g4, hf⟩ := zgo hf
      obtain ⟨s5, e5, hf⟩ := zpx hf
      refine z_iast C d8_error_22 kZ_94 kL_94 g4 rfl e5 ?_
      refine z_ldcw C (-1000000000 : Int32) d8_error_23 w_312 ?_
      refine z_iload_n C d8_error_26 rfl ?_
      refine z_isub C d8_error_27 ?_
      exact z_iret C d8_error_28 hf
theorem d0_isOne_0 : zd b0_isOne 0 (.aload_n 0) 1 1 := ⟨by decide +kernel, rfl⟩
theorem d0_isOne_1 : zd b0_isOne 1 (.getfield 9) 3 4 := ⟨by decide +kernel, rfl⟩
theorem d0_isOne_4 : zd b0_isOne 4 (.istore_n 2) 1 5 := ⟨by decide +kernel, rfl⟩
theorem d0_isOne_5 : zd b0_isOne 5 (.iconst 0) 1 6 := ⟨by decide +kernel, rfl⟩
theorem d0_isOne_6 : zd b0_isOne 6 (.istore_n 3) 1 7 := ⟨by decide +kernel, rfl⟩
theorem d0_isOne_7 : zd b0_isOne 7 (.iload_n 3) 1 8 := ⟨by decide +kernel, rfl⟩
theorem d0_isOne_8 : zd b0_isOne 8 (.getstatic 27) 3 11 := ⟨by decide +kernel, rfl⟩
theorem d0_isOne_11 : zd b0_isOne 11 .arraylength 1 12 := ⟨by decide +kernel, rfl⟩
theorem d0_isOne_12 : zdb b0_isOne 12 (.if_icmp .ge 34) 34 15 46 := ⟨by decide +kernel, rfl, by decide⟩
theorem d0_isOne_15 : zd b0_isOne 15 (.iload_n 2) 1 16 := ⟨by decide +kernel, rfl⟩
theorem d0_isOne_16 : zdb b0_isOne 16 (.ifCond .le 30) 30 19 46 := ⟨by decide +kernel, rfl, by decide⟩
theorem d0_isOne_19 : zd b0_isOne 19 (.iload_n 2) 1 20 := ⟨by decide +kernel, rfl⟩
theorem d0_isOne_20 : zd b0_isOne 20 (.getstatic 27) 3 23 := ⟨by decide +kernel, rfl⟩
theorem d0_isOne_23 : zd b0_isOne 23 .arraylength 1 24 := ⟨by decide +kernel, rfl⟩
theorem d0_isOne_24 : zdb b0_isOne 24 (.if_icmp .ge 22) 22 27 46 := ⟨by decide +kernel, rfl, by decide⟩
theorem d0_isOne_27 : zd b0_isOne 27 (.iload_n 2) 1 28 := ⟨by decide +kernel, rfl⟩
theorem d0_isOne_28 : zd b0_isOne 28 (.iload_n 1) 1 29 := ⟨by decide +kernel, rfl⟩
theorem d0_isOne_29 : zdb b0_isOne 29 (.if_icmp .ne 5) 5 32 34 := ⟨by decide +kernel, rfl, by decide⟩
theorem d0_isOne_32 : zd b0_isOne 32 (.iconst 1) 1 33 := ⟨by decide +kernel, rfl⟩
theorem d0_isOne_33 : zd b0_isOne 33 .ireturn 1 34 := ⟨by decide +kernel, rfl⟩
theorem d0_isOne_34 : zd b0_isOne 34 (.getstatic 27) 3 37 := ⟨by decide +kernel, rfl⟩
theorem d0_isOne_37 : zd b0_isOne 37 (.iload_n 2) 1 38 := ⟨by decide +kernel, rfl⟩
theorem d0_isOne_38 : zd b0_isOne 38 .iaload 1 39 := ⟨by decide +kernel, rfl⟩
theorem d0_isOne_39 : zd b0_isOne 39 (.istore_n 2) 1 40 := ⟨by decide +kernel, rfl⟩
theorem d0_isOne_40 : zd b0_isOne 40 (.iinc 3 1) 3 43 := ⟨by decide +kernel, rfl⟩
theorem d0_isOne_43 : zdb b0_isOne 43 (.goto (-36)) (-36) 46 7 := ⟨by decide +kernel, rfl, by decide⟩
theorem d0_isOne_46 : zd b0_isOne 46 (.iload_n 2) 1 47 := ⟨by decide +kernel, rfl⟩
theorem d0_isOne_47 : zd b0_isOne 47 (.iload_n 1) 1 48 := ⟨by decide +kernel, rfl⟩
theorem d0_isOne_48 : zdb b0_isOne 48 (.if_icmp .ne 7) 7 51 55 := ⟨by decide +kernel, rfl, by decide⟩
theorem d0_isOne_51 : zd b0_isOne 51 (.iconst 1) 1 52 := ⟨by decide +kernel, rfl⟩
theorem d0_isOne_52 : zdb b0_isOne 52 (.goto 4) 4 55 56 := ⟨by decide +kernel, rfl, by decide⟩
theorem d0_isOne_55 : zd b0_isOne 55 (.iconst 0) 1 56 := ⟨by decide +kernel, rfl⟩
theorem d0_isOne_56 : zd b0_isOne 56 .ireturn 1 57 := ⟨by decide +kernel, rfl⟩
def b0_isOne_7 (k : Nat) (t : Nat) (q7 : Int32 → Int32 → Int32 → ZS → Option (Int32 × ZS)) (x1 : Int32) (x2 : Int32) (x3 : Int32) (σ : ZS) : Option (Int32 × ZS) :=
  if (7 : Int32) ≤ x3 then (
  if x2 = x1 then (
  some ((1 : Int32), σ))
  else (
  some ((0 : Int32), σ)))
  else (
  if x2 ≤ 0 then (
  if x2 = x1 then (
  some ((1 : Int32), σ))
  else (
  some ((0 : Int32), σ)))
  else (
  if (7 : Int32) ≤ x2 then (
  if x2 = x1 then (
  some ((1 : Int32), σ))
  else (
  some ((0 : Int32), σ)))
  else (
  if x2 = x1 then (
  some ((1 : Int32), σ))
  else (
  if zin x2 7 then (
  q7 x1 (zKA.getD x2.toNatClampNeg 0) (x3 + (1 : Int32)) σ) else none))))
def f0_isOne_7 (k : Nat) (t : Nat) : Nat → Int32 → Int32 → Int32 → ZS → Option (Int32 × ZS)
  | 0 => fun _ _ _ _ => none
  | n + 1 => b0_isOne_7 k t  (f0_isOne_7 k t  n)
theorem j0_isOne_7 {x : ZX} {g : ZG} (C : zC x g b0_isOne R0 (some .boolean) 4 1 60) {k : Nat} {t : Nat} (ht : zsh t = 1) {r : Int32} {σr : ZS}  {q7 : Int32 → Int32 → Int32 → ZS → Option (Int32 × ZS)} (hq7 : (∀ (x1 : Int32) (x2 : Int32) (x3 : Int32) (σ : ZS), q7 x1 x2 x3 σ = some (r, σr) → zw x g 4 0 0 (zMQ x g (some (zi r)) σr) σ 7 [none, some (zi x1), some (zi x2), some (zi x3)] [])) {x1 : Int32} {x2 : Int32} {x3 : Int32} {σ : ZS} (hf : b0_isOne_7 k t q7 x1 x2 x3 σ = some (r, σr)) : zw x g 4 0 0 (zMQ x g (some (zi r)) σr) σ 7 [none, some (zi x1), some (zi x2), some (zi x3)] [] := by
  unfold b0_isOne_7 at hf
  refine z_iload_n C d0_isOne_7 rfl ?_
  refine z_gets0 C d0_isOne_8 w_369 ?_
  refine z_alen0 C d0_isOne_11 ?_
  refine z_icmp_ge C d0_isOne_12 (fun c1 => ?_) (fun c1 => ?_)
  · have hf := zit c1 hf
    refine z_iload_n C d0_isOne_46 rfl ?_
    refine z_iload_n C d0_isOne_47 rfl ?_
    refine z_icmp_ne C d0_isOne_48 (fun c2 => ?_) (fun c2 => ?_)
    · have hf := zit c2 hf
      refine z_iconst C (1 : Int32) d0_isOne_51 kI_1 ?_
      refine z_goto C d0_isOne_52 ?_
      exact z_zret C d0_isOne_56 (Or.inr rfl) hf
    · have hf := zie c2 hf
      refine z_iconst C (0 : Int32) d0_isOne_55 kI_0 ?_
      exact z_zret C d0_isOne_56 (Or.inl rfl) hf
  · have hf := zie c1 hf
    refine z_iload_n C d0_isOne_15 rfl ?_
    refine z_if_le C d0_isOne_16 (fun c3 => ?_) (fun c3 => ?_)
    · have hf := zit c3 hf
      refine z_iload_n C d0_isOne_46 rfl ?_
      refine z_iload_n C d0_isOne_47 rfl ?_
      refine z_icmp_ne C d0_isOne_48 (fun c4 => ?_) (fun c4 => ?_)
      · have hf := zit c4 hf
        refine z_iconst C (1 : Int32) d0_isOne_51 kI_1 ?_
        refine z_goto C d0_isOne_52 ?_
        exact z_zret C d0_isOne_56 (Or.inr rfl) hf
      · have hf := zie c4 hf
        refine z_iconst C (0 : Int32) d0_isOne_55 kI_0 ?_
        exact z_zret C d0_isOne_56 (Or.inl rfl) hf
    · have hf := zie c3 hf
      refine z_iload_n C d0_isOne_19 rfl ?_
      refine z_gets0 C d0_isOne_20 w_369 ?_
      refine z_alen0 C d0_isOne_23 ?_
      refine z_icmp_ge C d0_isOne_24 (fun c5 => ?_) (fun c5 => ?_)
      · have hf := zit c5 hf
        refine z_iload_n C d0_isOne_46 rfl ?_
        refine z_iload_n C d0_isOne_47 rfl ?_
        refine z_icmp_ne C d0_isOne_48 (fun c6 => ?_) (fun c6 => ?_)
        · have hf := zit c6 hf
          refine z_iconst C (1 : Int32) d0_isOne_51 kI_1 ?_
          refine z_goto C d0_isOne_52 ?_
          exact z_zret C d0_isOne_56 (Or.inr rfl) hf
        · have hf := zie c6 hf
          refine z_iconst C (0 : Int32) d0_isOne_55 kI_0 ?_
          exact z_zret C d0_isOne_56 (Or.inl rfl) hf
      · have hf := zie c5 hf
        refine z_iload_n C d0_isOne_27 rfl ?_
        refine z_iload_n C d0_isOne_28 rfl ?_
        refine z_icmp_ne C d0_isOne_29 (fun c7 => ?_) (fun c7 => ?_)
        · have hf := zit c7 hf
          refine z_iconst C (1 : Int32) d0_isOne_32 kI_1 ?_
          exact z_zret C d0_isOne_33 (Or.inr rfl) hf
        · have hf := zie c7 hf
          refine z_gets0 C d0_isOne_34 w_369 ?_
          refine z_iload_n C d0_isOne_37 rfl ?_
          obtain ⟨g8, hf⟩ := zgo hf
          refine z_iald0 C d0_isOne_38 g8 ?_
          refine z_istore_n C d0_isOne_39 (Nat.le_of_ble_eq_true rfl) rfl (L' := [none, some (zi x1), some (zi (zKA.getD x2.toNatClampNeg 0)), some (zi x3)]) rfl ?_
          refine z_iinc C d0_isOne_40 rfl kI_1 (Nat.le_of_ble_eq_true rfl) rfl (L' := [none, some (zi x1), some (zi (zKA.getD x2.toNatClampNeg 0)), some (zi (x3 + (1 : Int32)))]) rfl ?_
          refine z_goto C d0_isOne_43 ?_
          exact hq7 _ _ _ _ hf
theorem j0_isOne_7l {x : ZX} {g : ZG} (C : zC x g b0_isOne R0 (some .boolean) 4 1 60) {k : Nat} {t : Nat} (ht : zsh t = 1) {r : Int32} {σr : ZS}  : ∀ (n : Nat) (x1 : Int32) (x2 : Int32) (x3 : Int32) (σ : ZS), f0_isOne_7 k t  n x1 x2 x3 σ = some (r, σr) → zw x g 4 0 0 (zMQ x g (some (zi r)) σr) σ 7 [none, some (zi x1), some (zi x2), some (zi x3)] [] := by
  intro n
  induction n with
  | zero => intro x1 x2 x3 σ hf; exact absurd (show none = some (r, σr) from hf) (fun z => by cases z)
  | succ n ih => intro x1 x2 x3 σ hf; exact j0_isOne_7 C ht  ih (show b0_isOne_7 k t  (f0_isOne_7 k t  n) x1 x2 x3 σ = some (r, σr) from hf)
def f0_isOne (k : Nat) (t : Nat) (x1 : Int32) (σ : ZS) : Option (Int32 × ZS) :=
  if zsh t = 1 then (
  f0_isOne_7 k t  k x1 (σ t 0) (0 : Int32) σ) else none
theorem c0_isOne (l : Launch) (g : ZG) {k : Nat} {t : Nat} {x1 : Int32} {σ : ZS} {r : Int32} {σr : ZS} (hf : f0_isOne k t x1 σ = some (r, σr)) : zT l g y0_isOne b0_isOne 4 (some .boolean) 1 60 [zr t, zi x1] σ (some (zi r)) σr := by
  unfold f0_isOne at hf
  obtain ⟨ht, hf⟩ := zgo hf
  refine zT_start (own := R0) rfl (by decide +kernel) 2 (L := [some (zr t), some (zi x1), none, none]) rfl rfl (fun x hl C => ?_)
  subst hl
  refine z_aload_n C d0_isOne_0 rfl ?_
  refine z_getI C d0_isOne_1 fl_46 ht ?_
  refine z_istore_n C d0_isOne_4 (Nat.le_of_ble_eq_true rfl) rfl (L' := [some (zr t), some (zi x1), some (zi (σ t 0)), none]) rfl ?_
  refine z_iconst C (0 : Int32) d0_isOne_5 kI_0 ?_
  refine z_istore_n C d0_isOne_6 (Nat.le_of_ble_eq_true rfl) rfl (L' := [some (zr t), some (zi x1), some (zi (σ t 0)), some (zi (0 : Int32))]) rfl ?_
  refine z_drop [false, true, true, true] (L' := [none, some (zi x1), some (zi (σ t 0)), some (zi (0 : Int32))]) rfl ?_
  exact j0_isOne_7l C ht  _ _ _ _ _ hf
theorem d5_glassOf_0 : zd b5_glassOf 0 (.iload_n 1) 1 1 := ⟨by decide +kernel, rfl⟩
theorem d5_glassOf_1 : zdb b5_glassOf 1 (.ifCond .lt 20) 20 4 21 := ⟨by decide +kernel, rfl, by decide⟩
theorem d5_glassOf_4 : zd b5_glassOf 4 (.iload_n 1) 1 5 := ⟨by decide +kernel, rfl⟩
theorem d5_glassOf_5 : zd b5_glassOf 5 (.aload_n 0) 1 6 := ⟨by decide +kernel, rfl⟩
theorem d5_glassOf_6 : zd b5_glassOf 6 (.getfield 68) 3 9 := ⟨by decide +kernel, rfl⟩
theorem d5_glassOf_9 : zdb b5_glassOf 9 (.if_icmp .ge 12) 12 12 21 := ⟨by decide +kernel, rfl, by decide⟩
theorem d5_glassOf_12 : zd b5_glassOf 12 (.iload_n 1) 1 13 := ⟨by decide +kernel, rfl⟩
theorem d5_glassOf_13 : zd b5_glassOf 13 (.aload_n 0) 1 14 := ⟨by decide +kernel, rfl⟩
theorem d5_glassOf_14 : zd b5_glassOf 14 (.getfield 11) 3 17 := ⟨by decide +kernel, rfl⟩
theorem d5_glassOf_17 : zd b5_glassOf 17 .arraylength 1 18 := ⟨by decide +kernel, rfl⟩
theorem d5_glassOf_18 : zdb b5_glassOf 18 (.if_icmp .lt 5) 5 21 23 := ⟨by decide +kernel, rfl, by decide⟩
theorem d5_glassOf_21 : zd b5_glassOf 21 .aconst_null 1 22 := ⟨by decide +kernel, rfl⟩
theorem d5_glassOf_22 : zd b5_glassOf 22 .areturn 1 23 := ⟨by decide +kernel, rfl⟩
theorem d5_glassOf_23 : zd b5_glassOf 23 (.aload_n 0) 1 24 := ⟨by decide +kernel, rfl⟩
theorem d5_glassOf_24 : zd b5_glassOf 24 (.getfield 11) 3 27 := ⟨by decide +kernel, rfl⟩
theorem d5_glassOf_27 : zd b5_glassOf 27 (.iload_n 1) 1 28 := ⟨by decide +kernel, rfl⟩
theorem d5_glassOf_28 : zd b5_glassOf 28 .aaload 1 29 := ⟨by decide +kernel, rfl⟩
theorem d5_glassOf_29 : zd b5_glassOf 29 .areturn 1 30 := ⟨by decide +kernel, rfl⟩
def f5_glassOf (k : Nat) (t : Nat) (x1 : Int32) (σ : ZS) : Option (Nat × ZS) :=
  if zsh t = 6 then (
  if x1 < 0 then (
  some (0, σ))
  else (
  if (σ t 6) ≤ x1 then (
  some (0, σ))
  else (
  if x1 < (8 : Int32) then (
  if zin x1 8 then (
  some ((t + 7 + x1.toNatClampNeg), σ)) else none)
  else (
  some (0, σ))))) else none
theorem c5_glassOf (l : Launch) (g : ZG) {k : Nat} {t : Nat} {x1 : Int32} {σ : ZS} {r : Nat} {σr : ZS} (hf : f5_glassOf k t x1 σ = some (r, σr)) : zT l g y5_glassOf b5_glassOf 2 (some (.object "GlassTax$Glass")) 1 60 [zr t, zi x1] σ (some (zr r)) σr := by
  unfold f5_glassOf at hf
  obtain ⟨ht, hf⟩ := zgo hf
  refine zT_start (own := R5) rfl (by decide +kernel) 0 (L := [some (zr t), some (zi x1)]) rfl rfl (fun x hl C => ?_)
  subst hl
  refine z_iload_n C d5_glassOf_0 rfl ?_
  refine z_if_lt C d5_glassOf_1 (fun c1 => ?_) (fun c1 => ?_)
  · have hf := zit c1 hf
    refine z_null C d5_glassOf_21 ?_
    exact z_aret C d5_glassOf_22 hf
  · have hf := zie c1 hf
    refine z_iload_n C d5_glassOf_4 rfl ?_
    refine z_aload_n C d5_glassOf_5 rfl ?_
    refine z_getI C d5_glassOf_6 fl_126 ht ?_
    refine z_icmp_ge C d5_glassOf_9 (fun c2 => ?_) (fun c2 => ?_)
    · have hf := zit c2 hf
      refine z_null C d5_glassOf_21 ?_
      exact z_aret C d5_glassOf_22 hf
    · have hf := zie c2 hf
      refine z_iload_n C d5_glassOf_12 rfl ?_
      refine z_aload_n C d5_glassOf_13 rfl ?_
      refine z_getR C d5_glassOf_14 fl_118 ht (t + 1) rfl (zn0 (zD6_1 ht)) ?_
      refine z_alenR C (8 : Int32) d5_glassOf_17 (zD6_1 ht) (by decide) (by decide) kO_8 ?_
      refine z_icmp_lt C d5_glassOf_18 (fun c3 => ?_) (fun c3 => ?_)
      · have hf := zit c3 hf
        refine z_aload_n C d5_glassOf_23 rfl ?_
        refine z_getR C d5_glassOf_24 fl_118 ht (t + 1) rfl (zn0 (zD6_1 ht)) ?_
        refine z_iload_n C d5_glassOf_27 rfl ?_
        obtain ⟨g4, hf⟩ := zgo hf
        refine z_aald C d5_glassOf_28 (zD6_1 ht) (by decide) (by decide) g4 (t + 7 + x1.toNatClampNeg) (by show (t + 1) + 6 + 1 * x1.toNatClampNeg = (t + 7 + x1.toNatClampNeg); omega) (zn0 (zE11 ht g4)) ?_
        exact z_aret C d5_glassOf_29 hf
      · have hf := zie c3 hf
        refine z_null C d5_glassOf_21 ?_
        exact z_aret C d5_glassOf_22 hf
theorem d8_as_0 : zd b8_as 0 (.aload_n 0) 1 1 := ⟨by decide +kernel, rfl⟩
theorem d8_as_1 : zd b8_as 1 (.getfield 10) 3 4 := ⟨by decide +kernel, rfl⟩
theorem d8_as_4 : zd b8_as 4 (.iload_n 1) 1 5 := ⟨by decide +kernel, rfl⟩
theorem d8_as_5 : zd b8_as 5 (.invokevirtual 82) 3 8 := ⟨by decide +kernel, rfl⟩
theorem d8_as_8 : zd b8_as 8 (.astore_n 3) 1 9 := ⟨by decide +kernel, rfl⟩
theorem d8_as_9 : zd b8_as 9 (.aload_n 3) 1 10 := ⟨by decide +kernel, rfl⟩
theorem d8_as_10 : zdb b8_as 10 (.ifnull 13) 13 13 23 := ⟨by decide +kernel, rfl, by decide⟩
theorem d8_as_13 : zd b8_as 13 (.iload_n 2) 1 14 := ⟨by decide +kernel, rfl⟩
theorem d8_as_14 : zdb b8_as 14 (.ifCond .lt 9) 9 17 23 := ⟨by decide +kernel, rfl, by decide⟩
theorem d8_as_17 : zd b8_as 17 (.iload_n 2) 1 18 := ⟨by decide +kernel, rfl⟩
theorem d8_as_18 : zd b8_as 18 (.bipush 6) 2 20 := ⟨by decide +kernel, rfl⟩
theorem d8_as_20 : zdb b8_as 20 (.if_icmp .le 9) 9 23 29 := ⟨by decide +kernel, rfl, by decide⟩
theorem d8_as_23 : zd b8_as 23 (.aload_n 0) 1 24 := ⟨by decide +kernel, rfl⟩
theorem d8_as_24 : zd b8_as 24 (.iconst 1) 1 25 := ⟨by decide +kernel, rfl⟩
theorem d8_as_25 : zd b8_as 25 (.invokevirtual 67) 3 28 := ⟨by decide +kernel, rfl⟩
theorem d8_as_28 : zd b8_as 28 .ireturn 1 29 := ⟨by decide +kernel, rfl⟩
theorem d8_as_29 : zd b8_as 29 (.aload_n 3) 1 30 := ⟨by decide +kernel, rfl⟩
theorem d8_as_30 : zd b8_as 30 (.iload_n 2) 1 31 := ⟨by decide +kernel, rfl⟩
theorem d8_as_31 : zd b8_as 31 (.invokevirtual 114) 3 34 := ⟨by decide +kernel, rfl⟩
theorem d8_as_34 : zdb b8_as 34 (.ifCond .eq 10) 10 37 44 := ⟨by decide +kernel, rfl, by decide⟩
theorem d8_as_37 : zd b8_as 37 (.aload_n 3) 1 38 := ⟨by decide +kernel, rfl⟩
theorem d8_as_38 : zd b8_as 38 (.getfield 91) 3 41 := ⟨by decide +kernel, rfl⟩
theorem d8_as_41 : zdb b8_as 41 (.goto 8) 8 44 49 := ⟨by decide +kernel, rfl, by decide⟩
theorem d8_as_44 : zd b8_as 44 (.aload_n 0) 1 45 := ⟨by decide +kernel, rfl⟩
theorem d8_as_45 : zd b8_as 45 (.iconst 5) 1 46 := ⟨by decide +kernel, rfl⟩
theorem d8_as_46 : zd b8_as 46 (.invokevirtual 67) 3 49 := ⟨by decide +kernel, rfl⟩
theorem d8_as_49 : zd b8_as 49 .ireturn 1 50 := ⟨by decide +kernel, rfl⟩
def f8_as (k : Nat) (x1 : Int32) (x2 : Int32) (σ : ZS) : Option (Int32 × ZS) :=
  zbd (f5_glassOf k 2 x1 σ) fun r1 s1 =>
  if r1 = 0 then (
  zbd (f8_error k (1 : Int32) s1) fun r3 s3 =>
  some (r3, s3))
  else (
  if x2 < 0 then (
  zbd (f8_error k (1 : Int32) s1) fun r5 s5 =>
  some (r5, s5))
  else (
  if x2 ≤ (6 : Int32) then (
  if zsh r1 = 1 then (
  zbd (f0_isOne k r1 x2 s1) fun r7 s7 =>
  if r7 = 0 then (
  zbd (f8_error k (5 : Int32) s7) fun r10 s10 =>
  some (r10, s10))
  else (
  some ((s7 r1 1), s7))) else none)
  else (
  zbd (f8_error k (1 : Int32) s1) fun r11 s11 =>
  some (r11, s11))))
theorem c8_as (l : Launch) (g : ZG) {k : Nat} {x1 : Int32} {x2 : Int32} {σ : ZS} {r : Int32} {σr : ZS} (hf : f8_as k x1 x2 σ = some (r, σr)) : zT l g y8_as b8_as 4 (some .int) 2 83 [zr 1, zi x1, zi x2] σ (some (zi r)) σr := by
  unfold f8_as at hf
  refine zT_start (own := R8) rfl (by decide +kernel) 1 (L := [some (zr 1), some (zi x1), some (zi x2), none]) rfl rfl (fun x hl C => ?_)
  subst hl
  refine z_aload_n C d8_as_0 rfl ?_
  refine z_getR C d8_as_1 fl_261 kZ_1 2 rfl (zn0 kZ_2) ?_
  refine z_iload_n C d8_as_4 rfl ?_
  obtain ⟨r1, s1, h1, hf⟩ := zbx hf
  refine z_callVr C (as := [zi x1]) d8_as_5 w_334 yy5_glassOf (c5_glassOf x.2.1 g h1) yc5_glassOf kZ_2 rfl rfl (Nat.le_of_ble_eq_true rfl) ⟨Nat.le_of_ble_eq_true rfl, Nat.le_of_ble_eq_true rfl⟩ ⟨Nat.zero_le _, Nat.zero_le _⟩ ?_
  refine z_astore_n C d8_as_8 (Nat.le_of_ble_eq_true rfl) rfl (L' := [some (zr 1), some (zi x1), some (zi x2), some (zr r1)]) rfl ?_
  refine z_aload_n C d8_as_9 rfl ?_
  refine z_ifnull C d8_as_10 (fun c2 => ?_) (fun c2 => ?_)
  · have hf := zit c2 hf
    refine z_aload_n C d8_as_23 rfl ?_
    refine z_iconst C (1 : Int32) d8_as_24 kI_1 ?_
    obtain ⟨r3, s3, h3, hf⟩ := zbx hf
    refine z_callVi C (as := [zi (1 : Int32)]) d8_as_25 w_308 yy8_error (c8_error x.2.1 g h3) yc8_error kZ_1 rfl rfl (Nat.le_of_ble_eq_true rfl) ⟨Nat.le_of_ble_eq_true rfl, Nat.le_of_ble_eq_true rfl⟩ ⟨Nat.zero_le _, Nat.zero_le _⟩ ?_
    exact z_iret C d8_as_28 hf
  · have hf := zie c2 hf
    refine z_iload_n C d8_as_13 rfl ?_
    refine z_if_lt C d8_as_14 (fun c4 => ?_) (fun c4 => ?_)
    · have hf := zit c4 hf
      refine z_aload_n C d8_as_23 rfl ?_
      refine z_iconst C (1 : Int32) d8_as_24 kI_1 ?_
      obtain ⟨r5, s5, h5, hf⟩ := zbx hf
      refine z_callVi C (as := [zi (1 : Int32)]) d8_as_25 w_308 yy8_error (c8_error x.2.1 g h5) yc8_error kZ_1 rfl rfl (Nat.le_of_ble_eq_true rfl) ⟨Nat.le_of_ble_eq_true rfl, Nat.le_of_ble_eq_true rfl⟩ ⟨Nat.zero_le _, Nat.zero_le _⟩ ?_
      exact z_iret C d8_as_28 hf
    · have hf := zie c4 hf
      refine z_iload_n C d8_as_17 rfl ?_
      refine z_bipush C (6 : Int32) d8_as_18 kB_6 ?_
      refine z_icmp_le C d8_as_20 (fun c6 => ?_) (fun c6 => ?_)
      · have hf := zit c6 hf
        refine z_aload_n C d8_as_29 rfl ?_
        refine z_iload_n C d8_as_30 rfl ?_
        obtain ⟨g8, hf⟩ := zgo hf
        obtain ⟨r7, s7, h7, hf⟩ := zbx hf
        refine z_callVi C (as := [zi x2]) d8_as_31 w_365 yy0_isOne (c0_isOne x.2.1 g h7) yc0_isOne g8 rfl rfl (Nat.le_of_ble_eq_true rfl) ⟨Nat.le_of_ble_eq_true rfl, Nat.le_of_ble_eq_true rfl⟩ ⟨Nat.zero_le _, Nat.zero_le _⟩ ?_
        refine z_if_eq C d8_as_34 (fun c9 => ?_) (fun c9 => ?_)
        · have hf := zit c9 hf
          refine z_aload_n C d8_as_44 rfl ?_
          refine z_iconst C (5 : Int32) d8_as_45 kI_5 ?_
          obtain ⟨r10, s10, h10, hf⟩ := zbx hf
          refine z_callVi C (as := [zi (5 : Int32)]) d8_as_46 w_308 yy8_error (c8_error x.2.1 g h10) yc8_error kZ_1 rfl rfl (Nat.le_of_ble_eq_true rfl) ⟨Nat.le_of_ble_eq_true rfl, Nat.le_of_ble_eq_true rfl⟩ ⟨Nat.zero_le _, Nat.zero_le _⟩ ?_
          exact z_iret C d8_as_49 hf
        · have hf := zie c9 hf
          refine z_aload_n C d8_as_37 rfl ?_
          refine z_getI C d8_as_38 fl_52 g8 ?_
          refine z_goto C d8_as_41 ?_
          exact z_iret C d8_as_49 hf
      · have hf := zie c6 hf
        refine z_aload_n C d8_as_23 rfl ?_
        refine z_iconst C (1 : Int32) d8_as_24 kI_1 ?_
        obtain ⟨r11, s11, h11, hf⟩ := zbx hf
        refine z_callVi C (as := [zi (1 : Int32)]) d8_as_25 w_308 yy8_error (c8_error x.2.1 g h11) yc8_error kZ_1 rfl rfl (Nat.le_of_ble_eq_true rfl) ⟨Nat.le_of_ble_eq_true rfl, Nat.le_of_ble_eq_true rfl⟩ ⟨Nat.zero_le _, Nat.zero_le _⟩ ?_
        exact z_iret C d8_as_28 hf
theorem d8_isNoCell_0 : zd b8_isNoCell 0 (.iload_n 0) 1 1 := ⟨by decide +kernel, rfl⟩
theorem d8_isNoCell_1 : zdb b8_isNoCell 1 (.ifCond .lt 9) 9 4 10 := ⟨by decide +kernel, rfl, by decide⟩
theorem d8_isNoCell_4 : zd b8_isNoCell 4 (.iload_n 0) 1 5 := ⟨by decide +kernel, rfl⟩
theorem d8_isNoCell_5 : zd b8_isNoCell 5 (.bipush 64) 2 7 := ⟨by decide +kernel, rfl⟩
theorem d8_isNoCell_7 : zdb b8_isNoCell 7 (.if_icmp .lt 7) 7 10 14 := ⟨by decide +kernel, rfl, by decide⟩
theorem d8_isNoCell_10 : zd b8_isNoCell 10 (.iconst 1) 1 11 := ⟨by decide +kernel, rfl⟩
theorem d8_isNoCell_11 : zdb b8_isNoCell 11 (.goto 4) 4 14 15 := ⟨by decide +kernel, rfl, by decide⟩
theorem d8_isNoCell_14 : zd b8_isNoCell 14 (.iconst 0) 1 15 := ⟨by decide +kernel, rfl⟩
theorem d8_isNoCell_15 : zd b8_isNoCell 15 .ireturn 1 16 := ⟨by decide +kernel, rfl⟩
def f8_isNoCell (k : Nat) (x0 : Int32) (σ : ZS) : Option (Int32 × ZS) :=
  if x0 < 0 then (
  some ((1 : Int32), σ))
  else (
  if x0 < (64 : Int32) then (
  some ((0 : Int32), σ))
  else (
  some ((1 : Int32), σ)))
theorem c8_isNoCell (l : Launch) (g : ZG) {k : Nat} {x0 : Int32} {σ : ZS} {r : Int32} {σr : ZS} (hf : f8_isNoCell k x0 σ = some (r, σr)) : zT l g y8_isNoCell b8_isNoCell 1 (some .boolean) 1 60 [zi x0] σ (some (zi r)) σr := by
  unfold f8_isNoCell at hf
  refine zT_start (own := R8) rfl (by decide +kernel) 0 (L := [some (zi x0)]) rfl rfl (fun x hl C => ?_)
  subst hl
  refine z_iload_n C d8_isNoCell_0 rfl ?_
  refine z_if_lt C d8_isNoCell_1 (fun c1 => ?_) (fun c1 => ?_)
  · have hf := zit c1 hf
    refine z_iconst C (1 : Int32) d8_isNoCell_10 kI_1 ?_
    refine z_goto C d8_isNoCell_11 ?_
    exact z_zret C d8_isNoCell_15 (Or.inr rfl) hf
  · have hf := zie c1 hf
    refine z_iload_n C d8_isNoCell_4 rfl ?_
    refine z_bipush C (64 : Int32) d8_isNoCell_5 kB_64 ?_
    refine z_icmp_lt C d8_isNoCell_7 (fun c2 => ?_) (fun c2 => ?_)
    · have hf := zit c2 hf
      refine z_iconst C (0 : Int32) d8_isNoCell_14 kI_0 ?_
      exact z_zret C d8_isNoCell_15 (Or.inl rfl) hf
    · have hf := zie c2 hf
      refine z_iconst C (1 : Int32) d8_isNoCell_10 kI_1 ?_
      refine z_goto C d8_isNoCell_11 ?_
      exact z_zret C d8_isNoCell_15 (Or.inr rfl) hf
theorem d8_isNoWay_0 : zd b8_isNoWay 0 (.iload_n 0) 1 1 := ⟨by decide +kernel, rfl⟩
theorem d8_isNoWay_1 : zdb b8_isNoWay 1 (.ifCond .lt 8) 8 4 9 := ⟨by decide +kernel, rfl, by decide⟩
theorem d8_isNoWay_4 : zd b8_isNoWay 4 (.iload_n 0) 1 5 := ⟨by decide +kernel, rfl⟩
theorem d8_isNoWay_5 : zd b8_isNoWay 5 (.iconst 4) 1 6 := ⟨by decide +kernel, rfl⟩
theorem d8_isNoWay_6 : zdb b8_isNoWay 6 (.if_icmp .lt 7) 7 9 13 := ⟨by decide +kernel, rfl, by decide⟩
theorem d8_isNoWay_9 : zd b8_isNoWay 9 (.iconst 1) 1 10 := ⟨by decide +kernel, rfl⟩
theorem d8_isNoWay_10 : zdb b8_isNoWay 10 (.goto 4) 4 13 14 := ⟨by decide +kernel, rfl, by decide⟩
theorem d8_isNoWay_13 : zd b8_isNoWay 13 (.iconst 0) 1 14 := ⟨by decide +kernel, rfl⟩
theorem d8_isNoWay_14 : zd b8_isNoWay 14 .ireturn 1 15 := ⟨by decide +kernel, rfl⟩
def f8_isNoWay (k : Nat) (x0 : Int32) (σ : ZS) : Option (Int32 × ZS) :=
  if x0 < 0 then (
  some ((1 : Int32), σ))
  else (
  if x0 < (4 : Int32) then (
  some ((0 : Int32), σ))
  else (
  some ((1 : Int32), σ)))
theorem c8_isNoWay (l : Launch) (g : ZG) {k : Nat} {x0 : Int32} {σ : ZS} {r : Int32} {σr : ZS} (hf : f8_isNoWay k x0 σ = some (r, σr)) : zT l g y8_isNoWay b8_isNoWay 1 (some .boolean) 1 60 [zi x0] σ (some (zi r)) σr := by
  unfold f8_isNoWay at hf
  refine zT_start (own := R8) rfl (by decide +kernel) 0 (L := [some (zi x0)]) rfl rfl (fun x hl C => ?_)
  subst hl
  refine z_iload_n C d8_isNoWay_0 rfl ?_
  refine z_if_lt C d8_isNoWay_1 (fun c1 => ?_) (fun c1 => ?_)
  · have hf := zit c1 hf
    refine z_iconst C (1 : Int32) d8_isNoWay_9 kI_1 ?_
    refine z_goto C d8_isNoWay_10 ?_
    exact z_zret C d8_isNoWay_14 (Or.inr rfl) hf
  · have hf := zie c1 hf
    refine z_iload_n C d8_isNoWay_4 rfl ?_
    refine z_iconst C (4 : Int32) d8_isNoWay_5 kI_4 ?_
    refine z_icmp_lt C d8_isNoWay_6 (fun c2 => ?_) (fun c2 => ?_)
    · have hf := zit c2 hf
      refine z_iconst C (0 : Int32) d8_isNoWay_13 kI_0 ?_
      exact z_zret C d8_isNoWay_14 (Or.inl rfl) hf
    · have hf := zie c2 hf
      refine z_iconst C (1 : Int32) d8_isNoWay_9 kI_1 ?_
      refine z_goto C d8_isNoWay_10 ?_
      exact z_zret C d8_isNoWay_14 (Or.inr rfl) hf
theorem d1_cellAt_0 : zd b1_cellAt 0 (.iload_n 1) 1 1 := ⟨by decide +kernel, rfl⟩
theorem d1_cellAt_1 : zdb b1_cellAt 1 (.ifCond .lt 20) 20 4 21 := ⟨by decide +kernel, rfl, by decide⟩
theorem d1_cellAt_4 : zd b1_cellAt 4 (.iload_n 1) 1 5 := ⟨by decide +kernel, rfl⟩
theorem d1_cellAt_5 : zd b1_cellAt 5 (.aload_n 0) 1 6 := ⟨by decide +kernel, rfl⟩
theorem d1_cellAt_6 : zd b1_cellAt 6 (.getfield 24) 3 9 := ⟨by decide +kernel, rfl⟩
theorem d1_cellAt_9 : zdb b1_cellAt 9 (.if_icmp .ge 12) 12 12 21 := ⟨by decide +kernel, rfl, by decide⟩
theorem d1_cellAt_12 : zd b1_cellAt 12 (.iload_n 1) 1 13 := ⟨by decide +kernel, rfl⟩
theorem d1_cellAt_13 : zd b1_cellAt 13 (.aload_n 0) 1 14 := ⟨by decide +kernel, rfl⟩
theorem d1_cellAt_14 : zd b1_cellAt 14 (.getfield 11) 3 17 := ⟨by decide +kernel, rfl⟩
theorem d1_cellAt_17 : zd b1_cellAt 17 .arraylength 1 18 := ⟨by decide +kernel, rfl⟩
theorem d1_cellAt_18 : zdb b1_cellAt 18 (.if_icmp .lt 7) 7 21 25 := ⟨by decide +kernel, rfl, by decide⟩
theorem d1_cellAt_21 : zd b1_cellAt 21 (.iconst (-1)) 1 22 := ⟨by decide +kernel, rfl⟩
theorem d1_cellAt_22 : zdb b1_cellAt 22 (.goto 9) 9 25 31 := ⟨by decide +kernel, rfl, by decide⟩
theorem d1_cellAt_25 : zd b1_cellAt 25 (.aload_n 0) 1 26 := ⟨by decide +kernel, rfl⟩
theorem d1_cellAt_26 : zd b1_cellAt 26 (.getfield 11) 3 29 := ⟨by decide +kernel, rfl⟩
theorem d1_cellAt_29 : zd b1_cellAt 29 (.iload_n 1) 1 30 := ⟨by decide +kernel, rfl⟩
theorem d1_cellAt_30 : zd b1_cellAt 30 .iaload 1 31 := ⟨by decide +kernel, rfl⟩
theorem d1_cellAt_31 : zd b1_cellAt 31 .ireturn 1 32 := ⟨by decide +kernel, rfl⟩
def f1_cellAt (k : Nat) (x1 : Int32) (σ : ZS) : Option (Int32 × ZS) :=
  if x1 < 0 then (
  some ((-1 : Int32), σ))
  else (
  if (σ 83 2) ≤ x1 then (
  some ((-1 : Int32), σ))
  else (
  if x1 < (257 : Int32) then (
  if zin x1 257 then (
  some ((σ 84 x1.toNatClampNeg), σ)) else none)
  else (
  some ((-1 : Int32), σ))))
theorem c1_cellAt (l : Launch) (g : ZG) {k : Nat} {x1 : Int32} {σ : ZS} {r : Int32} {σr : ZS} (hf : f1_cellAt k x1 σ = some (r, σr)) : zT l g y1_cellAt b1_cellAt 2 (some .int) 1 60 [zr 83, zi x1] σ (some (zi r)) σr := by
  unfold f1_cellAt at hf
  refine zT_start (own := R1) rfl (by decide +kernel) 0 (L := [some (zr 83), some (zi x1)]) rfl rfl (fun x hl C => ?_)
  subst hl
  refine z_iload_n C d1_cellAt_0 rfl ?_
  refine z_if_lt C d1_cellAt_1 (fun c1 => ?_) (fun c1 => ?_)
  · have hf := zit c1 hf
    refine z_iconst C (-1 : Int32) d1_cellAt_21 kI_m1 ?_
    refine z_goto C d1_cellAt_22 ?_
    exact z_iret C d1_cellAt_31 hf
  · have hf := zie c1 hf
    refine z_iload_n C d1_cellAt_4 rfl ?_
    refine z_aload_n C d1_cellAt_5 rfl ?_
    refine z_getI C d1_cellAt_6 fl_170 kZ_83 ?_
    refine z_icmp_ge C d1_cellAt_9 (fun c2 => ?_) (fun c2 => ?_)
    · have hf := zit c2 hf
      refine z_iconst C (-1 : Int32) d1_cellAt_21 kI_m1 ?_
      refine z_goto C d1_cellAt_22 ?_
      exact z_iret C d1_cellAt_31 hf
    · have hf := zie c2 hf
      refine z_iload_n C d1_cellAt_12 rfl ?_
      refine z_aload_n C d1_cellAt_13 rfl ?_
      refine z_getR C d1_cellAt_14 fl_168 kZ_83 84 rfl (zn0 kZ_84) ?_
      refine z_alen C (257 : Int32) d1_cellAt_17 kZ_84 kL_84 kO_257 ?_
      refine z_icmp_lt C d1_cellAt_18 (fun c3 => ?_) (fun c3 => ?_)
      · have hf := zit c3 hf
        refine z_aload_n C d1_cellAt_25 rfl ?_
        refine z_getR C d1_cellAt_26 fl_168 kZ_83 84 rfl (zn0 kZ_84) ?_
        refine z_iload_n C d1_cellAt_29 rfl ?_
        obtain ⟨g4, hf⟩ := zgo hf
        refine z_iald C d1_cellAt_30 kZ_84 kL_84 g4 (x1.toNatClampNeg) rfl ?_
        exact z_iret C d1_cellAt_31 hf
      · have hf := zie c3 hf
        refine z_iconst C (-1 : Int32) d1_cellAt_21 kI_m1 ?_
        refine z_goto C d1_cellAt_22 ?_
        exact z_iret C d1_cellAt_31 hf
theorem d0_roundFrom_0 : zd b0_roundFrom 0 (.iload_n 0) 1 1 := ⟨by decide +kernel, rfl⟩
theorem d0_roundFrom_1 : zd b0_roundFrom 1 (.iconst 2) 1 2 := ⟨by decide +kernel, rfl⟩
theorem d0_roundFrom_2 : zd b0_roundFrom 2 .ixor 1 3 := ⟨by decide +kernel, rfl⟩
theorem d0_roundFrom_3 : zd b0_roundFrom 3 .ireturn 1 4 := ⟨by decide +kernel, rfl⟩
def f0_roundFrom (k : Nat) (x0 : Int32) (σ : ZS) : Option (Int32 × ZS) :=
  some ((x0 ^^^ (2 : Int32)), σ)
theorem c0_roundFrom (l : Launch) (g : ZG) {k : Nat} {x0 : Int32} {σ : ZS} {r : Int32} {σr : ZS} (hf : f0_roundFrom k x0 σ = some (r, σr)) : zT l g y0_roundFrom b0_roundFrom 1 (some .int) 1 60 [zi x0] σ (some (zi r)) σr := by
  unfold f0_roundFrom at hf
  refine zT_start (own := R0) rfl (by decide +kernel) 0 (L := [some (zi x0)]) rfl rfl (fun x hl C => ?_)
  subst hl
  refine z_iload_n C d0_roundFrom_0 rfl ?_
  refine z_iconst C (2 : Int32) d0_roundFrom_1 kI_2 ?_
  refine z_ixor C d0_roundFrom_2 ?_
  exact z_iret C d0_roundFrom_3 hf
theorem d0_byTurn_0 : zd b0_byTurn 0 (.aload_n 0) 1 1 := ⟨by decide +kernel, rfl⟩
theorem d0_byTurn_1 : zd b0_byTurn 1 (.getfield 21) 3 4 := ⟨by decide +kernel, rfl⟩
theorem d0_byTurn_4 : decode b0_byTurn 4 = .ok ((.tableswitch 52 0 2 #[28, 32, 36]), 28) := by decide +kernel
theorem d0_byTurn_32 : zd b0_byTurn 32 (.iload_n 1) 1 33 := ⟨by decide +kernel, rfl⟩
theorem d0_byTurn_33 : zd b0_byTurn 33 (.iconst 1) 1 34 := ⟨by decide +kernel, rfl⟩
theorem d0_byTurn_34 : zd b0_byTurn 34 .ixor 1 35 := ⟨by decide +kernel, rfl⟩
theorem d0_byTurn_35 : zd b0_byTurn 35 .ireturn 1 36 := ⟨by decide +kernel, rfl⟩
theorem d0_byTurn_36 : zd b0_byTurn 36 (.iconst 3) 1 37 := ⟨by decide +kernel, rfl⟩
theorem d0_byTurn_37 : zd b0_byTurn 37 (.iload_n 1) 1 38 := ⟨by decide +kernel, rfl⟩
theorem d0_byTurn_38 : zd b0_byTurn 38 .isub 1 39 := ⟨by decide +kernel, rfl⟩
theorem d0_byTurn_39 : zd b0_byTurn 39 .ireturn 1 40 := ⟨by decide +kernel, rfl⟩
theorem d0_byTurn_40 : zd b0_byTurn 40 (.iload_n 1) 1 41 := ⟨by decide +kernel, rfl⟩
theorem d0_byTurn_41 : zd b0_byTurn 41 (.iconst 2) 1 42 := ⟨by decide +kernel, rfl⟩
theorem d0_byTurn_42 : zd b0_byTurn 42 .irem 1 43 := ⟨by decide +kernel, rfl⟩
theorem d0_byTurn_43 : zd b0_byTurn 43 (.iconst 1) 1 44 := ⟨by decide +kernel, rfl⟩
theorem d0_byTurn_44 : zdb b0_byTurn 44 (.if_icmp .ne 10) 10 47 54 := ⟨by decide +kernel, rfl, by decide⟩
theorem d0_byTurn_47 : zd b0_byTurn 47 (.iload_n 1) 1 48 := ⟨by decide +kernel, rfl⟩
theorem d0_byTurn_48 : zd b0_byTurn 48 (.invokestatic 35) 3 51 := ⟨by decide +kernel, rfl⟩
theorem d0_byTurn_51 : zdb b0_byTurn 51 (.goto 4) 4 54 55 := ⟨by decide +kernel, rfl, by decide⟩
theorem d0_byTurn_54 : zd b0_byTurn 54 (.iload_n 1) 1 55 := ⟨by decide +kernel, rfl⟩
theorem d0_byTurn_55 : zd b0_byTurn 55 .ireturn 1 56 := ⟨by decide +kernel, rfl⟩
theorem d0_byTurn_56 : zd b0_byTurn 56 (.iload_n 1) 1 57 := ⟨by decide +kernel, rfl⟩
theorem d0_byTurn_57 : zd b0_byTurn 57 (.iconst 2) 1 58 := ⟨by decide +kernel, rfl⟩
theorem d0_byTurn_58 : zd b0_byTurn 58 .irem 1 59 := ⟨by decide +kernel, rfl⟩
theorem d0_byTurn_59 : zdb b0_byTurn 59 (.ifCond .ne 10) 10 62 69 := ⟨by decide +kernel, rfl, by decide⟩
theorem d0_byTurn_62 : zd b0_byTurn 62 (.iload_n 1) 1 63 := ⟨by decide +kernel, rfl⟩
theorem d0_byTurn_63 : zd b0_byTurn 63 (.invokestatic 35) 3 66 := ⟨by decide +kernel, rfl⟩
theorem d0_byTurn_66 : zdb b0_byTurn 66 (.goto 4) 4 69 70 := ⟨by decide +kernel, rfl, by decide⟩
theorem d0_byTurn_69 : zd b0_byTurn 69 (.iload_n 1) 1 70 := ⟨by decide +kernel, rfl⟩
theorem d0_byTurn_70 : zd b0_byTurn 70 .ireturn 1 71 := ⟨by decide +kernel, rfl⟩
def f0_byTurn (k : Nat) (t : Nat) (x1 : Int32) (σ : ZS) : Option (Int32 × ZS) :=
  if zsh t = 1 then (
  if (σ t 3) = (0 : Int32) then (
  some ((x1 ^^^ (1 : Int32)), σ))
  else (
  if (σ t 3) = (1 : Int32) then (
  some (((3 : Int32) - x1), σ))
  else (
  if (σ t 3) = (2 : Int32) then (
  if (x1 % (2 : Int32)) = (1 : Int32) then (
  zbd (f0_roundFrom k x1 σ) fun r5 s5 =>
  some (r5, s5))
  else (
  some (x1, σ)))
  else (
  if (x1 % (2 : Int32)) = 0 then (
  zbd (f0_roundFrom k x1 σ) fun r7 s7 =>
  some (r7, s7))
  else (
  some (x1, σ)))))) else none
theorem c0_byTurn (l : Launch) (g : ZG) {k : Nat} {t : Nat} {x1 : Int32} {σ : ZS} {r : Int32} {σr : ZS} (hf : f0_byTurn k t x1 σ = some (r, σr)) : zT l g y0_byTurn b0_byTurn 2 (some .int) 2 80 [zr t, zi x1] σ (some (zi r)) σr := by
  unfold f0_byTurn at hf
  obtain ⟨ht, hf⟩ := zgo hf
  refine zT_start (own := R0) rfl (by decide +kernel) 0 (L := [some (zr t), some (zi x1)]) rfl rfl (fun x hl C => ?_)
  subst hl
  refine z_aload_n C d0_byTurn_0 rfl ?_
  refine z_getI C d0_byTurn_1 fl_57 ht ?_
  refine z_tsw C [((0 : Int32), 32), ((1 : Int32), 36), ((2 : Int32), 40)] (d := 56) d0_byTurn_4 (by decide) (by decide) (by decide +kernel) ?_
  refine z_swc (fun c1 => ?_) (fun c1 => ?_)
  · have hf := zit c1 hf
    refine z_iload_n C d0_byTurn_32 rfl ?_
    refine z_iconst C (1 : Int32) d0_byTurn_33 kI_1 ?_
    refine z_ixor C d0_byTurn_34 ?_
    exact z_iret C d0_byTurn_35 hf
  · have hf := zie c1 hf
    refine z_swc (fun c2 => ?_) (fun c2 => ?_)
    · have hf := zit c2 hf
      refine z_iconst C (3 : Int32) d0_byTurn_36 kI_3 ?_
      refine z_iload_n C d0_byTurn_37 rfl ?_
      refine z_isub C d0_byTurn_38 ?_
      exact z_iret C d0_byTurn_39 hf
    · have hf := zie c2 hf
      refine z_swc (fun c3 => ?_) (fun c3 => ?_)
      · have hf := zit c3 hf
        refine z_iload_n C d0_byTurn_40 rfl ?_
        refine z_iconst C (2 : Int32) d0_byTurn_41 kI_2 ?_
        refine z_irem C d0_byTurn_42 (by decide) ?_
        refine z_iconst C (1 : Int32) d0_byTurn_43 kI_1 ?_
        refine z_icmp_ne C d0_byTurn_44 (fun c4 => ?_) (fun c4 => ?_)
        · have hf := zit c4 hf
          refine z_iload_n C d0_byTurn_47 rfl ?_
          obtain ⟨r5, s5, h5, hf⟩ := zbx hf
          refine z_callSi C (as := [zi x1]) d0_byTurn_48 w_354 yy0_roundFrom (c0_roundFrom x.2.1 g h5) rfl rfl (Nat.le_of_ble_eq_true rfl) ⟨Nat.le_of_ble_eq_true rfl, Nat.le_of_ble_eq_true rfl⟩ ⟨Nat.zero_le _, Nat.zero_le _⟩ ?_
          refine z_goto C d0_byTurn_51 ?_
          exact z_iret C d0_byTurn_55 hf
        · have hf := zie c4 hf
          refine z_iload_n C d0_byTurn_54 rfl ?_
          exact z_iret C d0_byTurn_55 hf
      · have hf := zie c3 hf
        refine z_sw0 ?_
        refine z_iload_n C d0_byTurn_56 rfl ?_
        refine z_iconst C (2 : Int32) d0_byTurn_57 kI_2 ?_
        refine z_irem C d0_byTurn_58 (by decide) ?_
        refine z_if_ne C d0_byTurn_59 (fun c6 => ?_) (fun c6 => ?_)
        · have hf := zit c6 hf
          refine z_iload_n C d0_byTurn_62 rfl ?_
          obtain ⟨r7, s7, h7, hf⟩ := zbx hf
          refine z_callSi C (as := [zi x1]) d0_byTurn_63 w_354 yy0_roundFrom (c0_roundFrom x.2.1 g h7) rfl rfl (Nat.le_of_ble_eq_true rfl) ⟨Nat.le_of_ble_eq_true rfl, Nat.le_of_ble_eq_true rfl⟩ ⟨Nat.zero_le _, Nat.zero_le _⟩ ?_
          refine z_goto C d0_byTurn_66 ?_
          exact z_iret C d0_byTurn_70 hf
        · have hf := zie c6 hf
          refine z_iload_n C d0_byTurn_69 rfl ?_
          exact z_iret C d0_byTurn_70 hf
theorem d0_onward_0 : zd b0_onward 0 (.aload_n 0) 1 1 := ⟨by decide +kernel, rfl⟩
theorem d0_onward_1 : zd b0_onward 1 (.getfield 9) 3 4 := ⟨by decide +kernel, rfl⟩
theorem d0_onward_4 : decode b0_onward 4 = .ok ((.tableswitch 142 1 6 #[40, 55, 69, 74, 94, 121]), 40) := by decide +kernel
theorem d0_onward_44 : zd b0_onward 44 (.iload_n 1) 1 45 := ⟨by decide +kernel, rfl⟩
theorem d0_onward_45 : zd b0_onward 45 (.iconst 2) 1 46 := ⟨by decide +kernel, rfl⟩
theorem d0_onward_46 : zdb b0_onward 46 (.if_icmp .ge 11) 11 49 57 := ⟨by decide +kernel, rfl, by decide⟩
theorem d0_onward_49 : zd b0_onward 49 (.aload_n 0) 1 50 := ⟨by decide +kernel, rfl⟩
theorem d0_onward_50 : zd b0_onward 50 (.iload_n 1) 1 51 := ⟨by decide +kernel, rfl⟩
theorem d0_onward_51 : zd b0_onward 51 (.invokevirtual 31) 3 54 := ⟨by decide +kernel, rfl⟩
theorem d0_onward_54 : zdb b0_onward 54 (.goto 4) 4 57 58 := ⟨by decide +kernel, rfl, by decide⟩
theorem d0_onward_57 : zd b0_onward 57 (.iload_n 1) 1 58 := ⟨by decide +kernel, rfl⟩
theorem d0_onward_58 : zd b0_onward 58 .ireturn 1 59 := ⟨by decide +kernel, rfl⟩
theorem d0_onward_59 : zd b0_onward 59 (.iload_n 2) 1 60 := ⟨by decide +kernel, rfl⟩
theorem d0_onward_60 : zdb b0_onward 60 (.ifCond .eq 11) 11 63 71 := ⟨by decide +kernel, rfl, by decide⟩
theorem d0_onward_63 : zd b0_onward 63 (.aload_n 0) 1 64 := ⟨by decide +kernel, rfl⟩
theorem d0_onward_64 : zd b0_onward 64 (.iload_n 1) 1 65 := ⟨by decide +kernel, rfl⟩
theorem d0_onward_65 : zd b0_onward 65 (.invokevirtual 31) 3 68 := ⟨by decide +kernel, rfl⟩
theorem d0_onward_68 : zdb b0_onward 68 (.goto 4) 4 71 72 := ⟨by decide +kernel, rfl, by decide⟩
theorem d0_onward_71 : zd b0_onward 71 (.iload_n 1) 1 72 := ⟨by decide +kernel, rfl⟩
theorem d0_onward_72 : zd b0_onward 72 .ireturn 1 73 := ⟨by decide +kernel, rfl⟩
theorem d0_onward_73 : zd b0_onward 73 (.iload_n 1) 1 74 := ⟨by decide +kernel, rfl⟩
theorem d0_onward_74 : zd b0_onward 74 (.invokestatic 35) 3 77 := ⟨by decide +kernel, rfl⟩
theorem d0_onward_77 : zd b0_onward 77 .ireturn 1 78 := ⟨by decide +kernel, rfl⟩
theorem d0_onward_78 : zd b0_onward 78 (.iload_n 1) 1 79 := ⟨by decide +kernel, rfl⟩
theorem d0_onward_79 : zd b0_onward 79 (.iconst 2) 1 80 := ⟨by decide +kernel, rfl⟩
theorem d0_onward_80 : zdb b0_onward 80 (.if_icmp .ge 14) 14 83 94 := ⟨by decide +kernel, rfl, by decide⟩
theorem d0_onward_83 : zd b0_onward 83 (.aload_n 0) 1 84 := ⟨by decide +kernel, rfl⟩
theorem d0_onward_84 : zd b0_onward 84 (.iload_n 1) 1 85 := ⟨by decide +kernel, rfl⟩
theorem d0_onward_85 : zd b0_onward 85 (.invokevirtual 31) 3 88 := ⟨by decide +kernel, rfl⟩
theorem d0_onward_88 : zd b0_onward 88 (.invokestatic 35) 3 91 := ⟨by decide +kernel, rfl⟩
theorem d0_onward_91 : zdb b0_onward 91 (.goto 6) 6 94 97 := ⟨by decide +kernel, rfl, by decide⟩
theorem d0_onward_94 : zd b0_onward 94 (.iload_n 1) 1 95 := ⟨by decide +kernel, rfl⟩
theorem d0_onward_95 : zd b0_onward 95 (.iconst 1) 1 96 := ⟨by decide +kernel, rfl⟩
theorem d0_onward_96 : zd b0_onward 96 .ixor 1 97 := ⟨by decide +kernel, rfl⟩
theorem d0_onward_97 : zd b0_onward 97 .ireturn 1 98 := ⟨by decide +kernel, rfl⟩
theorem d0_onward_98 : zd b0_onward 98 (.iload_n 2) 1 99 := ⟨by decide +kernel, rfl⟩
theorem d0_onward_99 : zdb b0_onward 99 (.ifCond .eq 9) 9 102 108 := ⟨by decide +kernel, rfl, by decide⟩
theorem d0_onward_102 : zd b0_onward 102 (.aload_n 0) 1 103 := ⟨by decide +kernel, rfl⟩
theorem d0_onward_103 : zd b0_onward 103 (.iload_n 1) 1 104 := ⟨by decide +kernel, rfl⟩
theorem d0_onward_104 : zd b0_onward 104 (.invokevirtual 31) 3 107 := ⟨by decide +kernel, rfl⟩
theorem d0_onward_107 : zd b0_onward 107 .ireturn 1 108 := ⟨by decide +kernel, rfl⟩
theorem d0_onward_108 : zd b0_onward 108 (.aload_n 0) 1 109 := ⟨by decide +kernel, rfl⟩
theorem d0_onward_109 : zd b0_onward 109 (.getfield 15) 3 112 := ⟨by decide +kernel, rfl⟩
theorem d0_onward_112 : zd b0_onward 112 (.iconst 4) 1 113 := ⟨by decide +kernel, rfl⟩
theorem d0_onward_113 : zdb b0_onward 113 (.if_icmp .le 10) 10 116 123 := ⟨by decide +kernel, rfl, by decide⟩
theorem d0_onward_116 : zd b0_onward 116 (.iload_n 1) 1 117 := ⟨by decide +kernel, rfl⟩
theorem d0_onward_117 : zd b0_onward 117 (.invokestatic 35) 3 120 := ⟨by decide +kernel, rfl⟩
theorem d0_onward_120 : zdb b0_onward 120 (.goto 4) 4 123 124 := ⟨by decide +kernel, rfl, by decide⟩
theorem d0_onward_123 : zd b0_onward 123 (.iload_n 1) 1 124 := ⟨by decide +kernel, rfl⟩
theorem d0_onward_124 : zd b0_onward 124 .ireturn 1 125 := ⟨by decide +kernel, rfl⟩
theorem d0_onward_125 : zd b0_onward 125 (.aload_n 0) 1 126 := ⟨by decide +kernel, rfl⟩
theorem d0_onward_126 : zd b0_onward 126 (.getfield 24) 3 129 := ⟨by decide +kernel, rfl⟩
theorem d0_onward_129 : zd b0_onward 129 (.aload_n 0) 1 130 := ⟨by decide +kernel, rfl⟩
theorem d0_onward_130 : zd b0_onward 130 (.getfield 15) 3 133 := ⟨by decide +kernel, rfl⟩
theorem d0_onward_133 : zdb b0_onward 133 (.if_icmp .le 7) 7 136 140 := ⟨by decide +kernel, rfl, by decide⟩
theorem d0_onward_136 : zd b0_onward 136 (.iconst (-1)) 1 137 := ⟨by decide +kernel, rfl⟩
theorem d0_onward_137 : zdb b0_onward 137 (.goto 8) 8 140 145 := ⟨by decide +kernel, rfl, by decide⟩
theorem d0_onward_140 : zd b0_onward 140 (.aload_n 0) 1 141 := ⟨by decide +kernel, rfl⟩
theorem d0_onward_141 : zd b0_onward 141 (.iload_n 1) 1 142 := ⟨by decide +kernel, rfl⟩
theorem d0_onward_142 : zd b0_onward 142 (.invokevirtual 31) 3 145 := ⟨by decide +kernel, rfl⟩
theorem d0_onward_145 : zd b0_onward 145 .ireturn 1 146 := ⟨by decide +kernel, rfl⟩
theorem d0_onward_146 : zd b0_onward 146 (.aload_n 0) 1 147 := ⟨by decide +kernel, rfl⟩
theorem d0_onward_147 : zd b0_onward 147 (.iload_n 1) 1 148 := ⟨by decide +kernel, rfl⟩
theorem d0_onward_148 : zd b0_onward 148 (.invokevirtual 31) 3 151 := ⟨by decide +kernel, rfl⟩
theorem d0_onward_151 : zd b0_onward 151 .ireturn 1 152 := ⟨by decide +kernel, rfl⟩
def f0_onward (k : Nat) (t : Nat) (x1 : Int32) (x2 : Int32) (σ : ZS) : Option (Int32 × ZS) :=
  if zsh t = 1 then (
  if (σ t 0) = (1 : Int32) then (
  if (2 : Int32) ≤ x1 then (
  some (x1, σ))
  else (
  zbd (f0_byTurn k t x1 σ) fun r3 s3 =>
  some (r3, s3)))
  else (
  if (σ t 0) = (2 : Int32) then (
  if x2 = 0 then (
  some (x1, σ))
  else (
  zbd (f0_byTurn k t x1 σ) fun r6 s6 =>
  some (r6, s6)))
  else (
  if (σ t 0) = (3 : Int32) then (
  zbd (f0_roundFrom k x1 σ) fun r8 s8 =>
  some (r8, s8))
  else (
  if (σ t 0) = (4 : Int32) then (
  if (2 : Int32) ≤ x1 then (
  some ((x1 ^^^ (1 : Int32)), σ))
  else (
  zbd (f0_byTurn k t x1 σ) fun r11 s11 =>
  zbd (f0_roundFrom k r11 s11) fun r12 s12 =>
  some (r12, s12)))
  else (
  if (σ t 0) = (5 : Int32) then (
  if x2 = 0 then (
  if (σ t 1) ≤ (4 : Int32) then (
  some (x1, σ))
  else (
  zbd (f0_roundFrom k x1 σ) fun r16 s16 =>
  some (r16, s16)))
  else (
  zbd (f0_byTurn k t x1 σ) fun r17 s17 =>
  some (r17, s17)))
  else (
  if (σ t 0) = (6 : Int32) then (
  if (σ t 4) ≤ (σ t 1) then (
  zbd (f0_byTurn k t x1 σ) fun r20 s20 =>
  some (r20, s20))
  else (
  some ((-1 : Int32), σ)))
  else (
  zbd (f0_byTurn k t x1 σ) fun r21 s21 =>
  some (r21, s21)))))))) else none
theorem c0_onward (l : Launch) (g : ZG) {k : Nat} {t : Nat} {x1 : Int32} {x2 : Int32} {σ : ZS} {r : Int32} {σr : ZS} (hf : f0_onward k t x1 x2 σ = some (r, σr)) : zT l g y0_onward b0_onward 3 (some .int) 3 101 [zr t, zi x1, zi x2] σ (some (zi r)) σr := by
  unfold f0_onward at hf
  obtain ⟨ht, hf⟩ := zgo hf
  refine zT_start (own := R0) rfl (by decide +kernel) 0 (L := [some (zr t), some (zi x1), some (zi x2)]) rfl rfl (fun x hl C => ?_)
  subst hl
  refine z_aload_n C d0_onward_0 rfl ?_
  refine z_getI C d0_onward_1 fl_46 ht ?_
  refine z_tsw C [((1 : Int32), 44), ((2 : Int32), 59), ((3 : Int32), 73), ((4 : Int32), 78), ((5 : Int32), 98), ((6 : Int32), 125)] (d := 146) d0_onward_4 (by decide) (by decide) (by decide +kernel) ?_
  refine z_swc (fun c1 => ?_) (fun c1 => ?_)
  · have hf := zit c1 hf
    refine z_iload_n C d0_onward_44 rfl ?_
    refine z_iconst C (2 : Int32) d0_onward_45 kI_2 ?_
    refine z_icmp_ge C d0_onward_46 (fun c2 => ?_) (fun c2 => ?_)
    · have hf := zit c2 hf
      refine z_iload_n C d0_onward_57 rfl ?_
      exact z_iret C d0_onward_58 hf
    · have hf := zie c2 hf
      refine z_aload_n C d0_onward_49 rfl ?_
      refine z_iload_n C d0_onward_50 rfl ?_
      obtain ⟨r3, s3, h3, hf⟩ := zbx hf
      refine z_callVi C (as := [zi x1]) d0_onward_51 w_350 yy0_byTurn (c0_byTurn x.2.1 g h3) yc0_byTurn ht rfl rfl (Nat.le_of_ble_eq_true rfl) ⟨Nat.le_of_ble_eq_true rfl, Nat.le_of_ble_eq_true rfl⟩ ⟨Nat.zero_le _, Nat.zero_le _⟩ ?_
      refine z_goto C d0_onward_54 ?_
      exact z_iret C d0_onward_58 hf
  · have hf := zie c1 hf
    refine z_swc (fun c4 => ?_) (fun c4 => ?_)
    · have hf := zit c4 hf
      refine z_iload_n C d0_onward_59 rfl ?_
      refine z_if_eq C d0_onward_60 (fun c5 => ?_) (fun c5 => ?_)
      · have hf := zit c5 hf
        refine z_iload_n C d0_onward_71 rfl ?_
        exact z_iret C d0_onward_72 hf
      · have hf := zie c5 hf
        refine z_aload_n C d0_onward_63 rfl ?_
        refine z_iload_n C d0_onward_64 rfl ?_
        obtain ⟨r6, s6, h6, hf⟩ := zbx hf
        refine z_callVi C (as := [zi x1]) d0_onward_65 w_350 yy0_byTurn (c0_byTurn x.2.1 g h6) yc0_byTurn ht rfl rfl (Nat.le_of_ble_eq_true rfl) ⟨Nat.le_of_ble_eq_true rfl, Nat.le_of_ble_eq_true rfl⟩ ⟨Nat.zero_le _, Nat.zero_le _⟩ ?_
        refine z_goto C d0_onward_68 ?_
        exact z_iret C d0_onward_72 hf
    · have hf := zie c4 hf
      refine z_swc (fun c7 => ?_) (fun c7 => ?_)
      · have hf := zit c7 hf
        refine z_iload_n C d0_onward_73 rfl ?_
        obtain ⟨r8, s8, h8, hf⟩ := zbx hf
        refine z_callSi C (as := [zi x1]) d0_onward_74 w_354 yy0_roundFrom (c0_roundFrom x.2.1 g h8) rfl rfl (Nat.le_of_ble_eq_true rfl) ⟨Nat.le_of_ble_eq_true rfl, Nat.le_of_ble_eq_true rfl⟩ ⟨Nat.zero_le _, Nat.zero_le _⟩ ?_
        exact z_iret C d0_onward_77 hf
      · have hf := zie c7 hf
        refine z_swc (fun c9 => ?_) (fun c9 => ?_)
        · have hf := zit c9 hf
          refine z_iload_n C d0_onward_78 rfl ?_
          refine z_iconst C (2 : Int32) d0_onward_79 kI_2 ?_
          refine z_icmp_ge C d0_onward_80 (fun c10 => ?_) (fun c10 => ?_)
          · have hf := zit c10 hf
            refine z_iload_n C d0_onward_94 rfl ?_
            refine z_iconst C (1 : Int32) d0_onward_95 kI_1 ?_
            refine z_ixor C d0_onward_96 ?_
            exact z_iret C d0_onward_97 hf
          · have hf := zie c10 hf
            refine z_aload_n C d0_onward_83 rfl ?_
            refine z_iload_n C d0_onward_84 rfl ?_
            obtain ⟨r11, s11, h11, hf⟩ := zbx hf
            refine z_callVi C (as := [zi x1]) d0_onward_85 w_350 yy0_byTurn (c0_byTurn x.2.1 g h11) yc0_byTurn ht rfl rfl (Nat.le_of_ble_eq_true rfl) ⟨Nat.le_of_ble_eq_true rfl, Nat.le_of_ble_eq_true rfl⟩ ⟨Nat.zero_le _, Nat.zero_le _⟩ ?_
            obtain ⟨r12, s12, h12, hf⟩ := zbx hf
            refine z_callSi C (as := [zi r11]) d0_onward_88 w_354 yy0_roundFrom (c0_roundFrom x.2.1 g h12) rfl rfl (Nat.le_of_ble_eq_true rfl) ⟨Nat.le_of_ble_eq_true rfl, Nat.le_of_ble_eq_true rfl⟩ ⟨Nat.zero_le _, Nat.zero_le _⟩ ?_
            refine z_goto C d0_onward_91 ?_
            exact z_iret C d0_onward_97 hf
        · have hf := zie c9 hf
          refine z_swc (fun c13 => ?_) (fun c13 => ?_)
          · have hf := zit c13 hf
            refine z_iload_n C d0_onward_98 rfl ?_
            refine z_if_eq C d0_onward_99 (fun c14 => ?_) (fun c14 => ?_)
            · have hf := zit c14 hf
              refine z_aload_n C d0_onward_108 rfl ?_
              refine z_getI C d0_onward_109 fl_50 ht ?_
              refine z_iconst C (4 : Int32) d0_onward_112 kI_4 ?_
              refine z_icmp_le C d0_onward_113 (fun c15 => ?_) (fun c15 => ?_)
              · have hf := zit c15 hf
                refine z_iload_n C d0_onward_123 rfl ?_
                exact z_iret C d0_onward_124 hf
              · have hf := zie c15 hf
                refine z_iload_n C d0_onward_116 rfl ?_
                obtain ⟨r16, s16, h16, hf⟩ := zbx hf
                refine z_callSi C (as := [zi x1]) d0_onward_117 w_354 yy0_roundFrom (c0_roundFrom x.2.1 g h16) rfl rfl (Nat.le_of_ble_eq_true rfl) ⟨Nat.le_of_ble_eq_true rfl, Nat.le_of_ble_eq_true rfl⟩ ⟨Nat.zero_le _, Nat.zero_le _⟩ ?_
                refine z_goto C d0_onward_120 ?_
                exact z_iret C d0_onward_124 hf
            · have hf := zie c14 hf
              refine z_aload_n C d0_onward_102 rfl ?_
              refine z_iload_n C d0_onward_103 rfl ?_
              obtain ⟨r17, s17, h17, hf⟩ := zbx hf
              refine z_callVi C (as := [zi x1]) d0_onward_104 w_350 yy0_byTurn (c0_byTurn x.2.1 g h17) yc0_byTurn ht rfl rfl (Nat.le_of_ble_eq_true rfl) ⟨Nat.le_of_ble_eq_true rfl, Nat.le_of_ble_eq_true rfl⟩ ⟨Nat.zero_le _, Nat.zero_le _⟩ ?_
              exact z_iret C d0_onward_107 hf
          · have hf := zie c13 hf
            refine z_swc (fun c18 => ?_) (fun c18 => ?_)
            · have hf := zit c18 hf
              refine z_aload_n C d0_onward_125 rfl ?_
              refine z_getI C d0_onward_126 fl_60 ht ?_
              refine z_aload_n C d0_onward_129 rfl ?_
              refine z_getI C d0_onward_130 fl_50 ht ?_
              refine z_icmp_le C d0_onward_133 (fun c19 => ?_) (fun c19 => ?_)
              · have hf := zit c19 hf
                refine z_aload_n C d0_onward_140 rfl ?_
                refine z_iload_n C d0_onward_141 rfl ?_
                obtain ⟨r20, s20, h20, hf⟩ := zbx hf
                refine z_callVi C (as := [zi x1]) d0_onward_142 w_350 yy0_byTurn (c0_byTurn x.2.1 g h20) yc0_byTurn ht rfl rfl (Nat.le_of_ble_eq_true rfl) ⟨Nat.le_of_ble_eq_true rfl, Nat.le_of_ble_eq_true rfl⟩ ⟨Nat.zero_le _, Nat.zero_le _⟩ ?_
                exact z_iret C d0_onward_145 hf
              · have hf := zie c19 hf
                refine z_iconst C (-1 : Int32) d0_onward_136 kI_m1 ?_
                refine z_goto C d0_onward_137 ?_
                exact z_iret C d0_onward_145 hf
            · have hf := zie c18 hf
              refine z_sw0 ?_
              refine z_aload_n C d0_onward_146 rfl ?_
              refine z_iload_n C d0_onward_147 rfl ?_
              obtain ⟨r21, s21, h21, hf⟩ := zbx hf
              refine z_callVi C (as := [zi x1]) d0_onward_148 w_350 yy0_byTurn (c0_byTurn x.2.1 g h21) yc0_byTurn ht rfl rfl (Nat.le_of_ble_eq_true rfl) ⟨Nat.le_of_ble_eq_true rfl, Nat.le_of_ble_eq_true rfl⟩ ⟨Nat.zero_le _, Nat.zero_le _⟩ ?_
              exact z_iret C d0_onward_151 hf
theorem d1_enter_0 : zd b1_enter 0 (.aload_n 0) 1 1 := ⟨by decide +kernel, rfl⟩
theorem d1_enter_1 : zd b1_enter 1 (.getfield 24) 3 4 := ⟨by decide +kernel, rfl⟩
theorem d1_enter_4 : zdb b1_enter 4 (.ifCond .lt 35) 35 7 39 := ⟨by decide +kernel, rfl, by decide⟩
theorem d1_enter_7 : zd b1_enter 7 (.aload_n 0) 1 8 := ⟨by decide +kernel, rfl⟩
theorem d1_enter_8 : zd b1_enter 8 (.getfield 24) 3 11 := ⟨by decide +kernel, rfl⟩
theorem d1_enter_11 : zd b1_enter 11 (.aload_n 0) 1 12 := ⟨by decide +kernel, rfl⟩
theorem d1_enter_12 : zd b1_enter 12 (.getfield 11) 3 15 := ⟨by decide +kernel, rfl⟩
theorem d1_enter_15 : zd b1_enter 15 .arraylength 1 16 := ⟨by decide +kernel, rfl⟩
theorem d1_enter_16 : zdb b1_enter 16 (.if_icmp .ge 23) 23 19 39 := ⟨by decide +kernel, rfl, by decide⟩
theorem d1_enter_19 : zd b1_enter 19 (.aload_n 0) 1 20 := ⟨by decide +kernel, rfl⟩
theorem d1_enter_20 : zd b1_enter 20 (.getfield 11) 3 23 := ⟨by decide +kernel, rfl⟩
theorem d1_enter_23 : zd b1_enter 23 (.aload_n 0) 1 24 := ⟨by decide +kernel, rfl⟩
theorem d1_enter_24 : zd b1_enter 24 (.getfield 24) 3 27 := ⟨by decide +kernel, rfl⟩
theorem d1_enter_27 : zd b1_enter 27 (.iload_n 1) 1 28 := ⟨by decide +kernel, rfl⟩
theorem d1_enter_28 : zd b1_enter 28 .iastore 1 29 := ⟨by decide +kernel, rfl⟩
theorem d1_enter_29 : zd b1_enter 29 (.aload_n 0) 1 30 := ⟨by decide +kernel, rfl⟩
theorem d1_enter_30 : zd b1_enter 30 .dup 1 31 := ⟨by decide +kernel, rfl⟩
theorem d1_enter_31 : zd b1_enter 31 (.getfield 24) 3 34 := ⟨by decide +kernel, rfl⟩
theorem d1_enter_34 : zd b1_enter 34 (.iconst 1) 1 35 := ⟨by decide +kernel, rfl⟩
theorem d1_enter_35 : zd b1_enter 35 .iadd 1 36 := ⟨by decide +kernel, rfl⟩
theorem d1_enter_36 : zd b1_enter 36 (.putfield 24) 3 39 := ⟨by decide +kernel, rfl⟩
theorem d1_enter_39 : zd b1_enter 39 .return_ 1 40 := ⟨by decide +kernel, rfl⟩
def f1_enter (k : Nat) (x1 : Int32) (σ : ZS) : Option (Unit × ZS) :=
  if (σ 83 2) < 0 then (
  some ((), σ))
  else (
  if (257 : Int32) ≤ (σ 83 2) then (
  some ((), σ))
  else (
  if zin (σ 83 2) 257 then (
  zput (zu σ 84 ((σ 83 2).toNatClampNeg) x1) fun s4 =>
  zput (zu s4 83 2 ((s4 83 2) + (1 : Int32))) fun s5 =>
  some ((), s5)) else none))
theorem c1_enter (l : Launch) (g : ZG) {k : Nat} {x1 : Int32} {σ : ZS} {r : Unit} {σr : ZS} (hf : f1_enter k x1 σ = some (r, σr)) : zT l g y1_enter b1_enter 2 none 1 60 [zr 83, zi x1] σ none σr := by
  unfold f1_enter at hf
  refine zT_start (own := R1) rfl (by decide +kernel) 0 (L := [some (zr 83), some (zi x1)]) rfl rfl (fun x hl C => ?_)
  subst hl
  refine z_aload_n C d1_enter_0 rfl ?_
  refine z_getI C d1_enter_1 fl_170 kZ_83 ?_
  refine z_if_lt C d1_enter_4 (fun c1 => ?_) (fun c1 => ?_)
  · have hf := zit c1 hf
    exact z_vret C d1_enter_39 hf
  · have hf := zie c1 hf
    refine z_aload_n C d1_enter_7 rfl ?_
    refine z_getI C d1_enter_8 fl_170 kZ_83 ?_
    refine z_aload_n C d1_enter_11 rfl ?_
    refine z_getR C d1_enter_12 fl_168 kZ_83 84 rfl (zn0 kZ_84) ?_
    refine z_alen C (257 : Int32) d1_enter_15 kZ_84 kL_84 kO_257 ?_
    refine z_icmp_ge C d1_enter_16 (fun c2 => ?_) (fun c2 => ?_)
    · have hf := zit c2 hf
      exact z_vret C d1_enter_39 hf
    · have hf := zie c2 hf
      refine z_aload_n C d1_enter_19 rfl ?_
      refine z_getR C d1_enter_20 fl_168 kZ_83 84 rfl (zn0 kZ_84) ?_
      refine z_aload_n C d1_enter_23 rfl ?_
      refine z_getI C d1_enter_24 fl_170 kZ_83 ?_
      refine z_iload_n C d1_enter_27 rfl ?_
      obtain ⟨g3, hf⟩ := zgo hf
      obtain ⟨s4, e4, hf⟩ := zpx hf
      refine z_iast C d1_enter_28 kZ_84 kL_84 g3 rfl e4 ?_
      refine z_aload_n C d1_enter_29 rfl ?_
      refine z_dup C d1_enter_30 rfl ?_
      refine z_getI C d1_enter_31 fl_170 kZ_83 ?_
      refine z_iconst C (1 : Int32) d1_enter_34 kI_1 ?_
      refine z_iadd C d1_enter_35 ?_
      obtain ⟨s5, e5, hf⟩ := zpx hf
      refine z_putI C d1_enter_36 fl_170 ft_1_2 kZ_83 e5 ?_
      exact z_vret C d1_enter_39 hf
theorem d1_meet_0 : zd b1_meet 0 (.aload_n 0) 1 1 := ⟨by decide +kernel, rfl⟩
theorem d1_meet_1 : zd b1_meet 1 (.getfield 28) 3 4 := ⟨by decide +kernel, rfl⟩
theorem d1_meet_4 : zdb b1_meet 4 (.ifCond .lt 35) 35 7 39 := ⟨by decide +kernel, rfl, by decide⟩
theorem d1_meet_7 : zd b1_meet 7 (.aload_n 0) 1 8 := ⟨by decide +kernel, rfl⟩
theorem d1_meet_8 : zd b1_meet 8 (.getfield 28) 3 11 := ⟨by decide +kernel, rfl⟩
theorem d1_meet_11 : zd b1_meet 11 (.aload_n 0) 1 12 := ⟨by decide +kernel, rfl⟩
theorem d1_meet_12 : zd b1_meet 12 (.getfield 15) 3 15 := ⟨by decide +kernel, rfl⟩
theorem d1_meet_15 : zd b1_meet 15 .arraylength 1 16 := ⟨by decide +kernel, rfl⟩
theorem d1_meet_16 : zdb b1_meet 16 (.if_icmp .ge 23) 23 19 39 := ⟨by decide +kernel, rfl, by decide⟩
theorem d1_meet_19 : zd b1_meet 19 (.aload_n 0) 1 20 := ⟨by decide +kernel, rfl⟩
theorem d1_meet_20 : zd b1_meet 20 (.getfield 15) 3 23 := ⟨by decide +kernel, rfl⟩
theorem d1_meet_23 : zd b1_meet 23 (.aload_n 0) 1 24 := ⟨by decide +kernel, rfl⟩
theorem d1_meet_24 : zd b1_meet 24 (.getfield 28) 3 27 := ⟨by decide +kernel, rfl⟩
theorem d1_meet_27 : zd b1_meet 27 (.iload_n 1) 1 28 := ⟨by decide +kernel, rfl⟩
theorem d1_meet_28 : zd b1_meet 28 .iastore 1 29 := ⟨by decide +kernel, rfl⟩
theorem d1_meet_29 : zd b1_meet 29 (.aload_n 0) 1 30 := ⟨by decide +kernel, rfl⟩
theorem d1_meet_30 : zd b1_meet 30 .dup 1 31 := ⟨by decide +kernel, rfl⟩
theorem d1_meet_31 : zd b1_meet 31 (.getfield 28) 3 34 := ⟨by decide +kernel, rfl⟩
theorem d1_meet_34 : zd b1_meet 34 (.iconst 1) 1 35 := ⟨by decide +kernel, rfl⟩
theorem d1_meet_35 : zd b1_meet 35 .iadd 1 36 := ⟨by decide +kernel, rfl⟩
theorem d1_meet_36 : zd b1_meet 36 (.putfield 28) 3 39 := ⟨by decide +kernel, rfl⟩
theorem d1_meet_39 : zd b1_meet 39 .return_ 1 40 := ⟨by decide +kernel, rfl⟩
def f1_meet (k : Nat) (x1 : Int32) (σ : ZS) : Option (Unit × ZS) :=
  if (σ 83 3) < 0 then (
  some ((), σ))
  else (
  if (257 : Int32) ≤ (σ 83 3) then (
  some ((), σ))
  else (
  if zin (σ 83 3) 257 then (
  zput (zu σ 85 ((σ 83 3).toNatClampNeg) x1) fun s4 =>
  zput (zu s4 83 3 ((s4 83 3) + (1 : Int32))) fun s5 =>
  some ((), s5)) else none))
theorem c1_meet (l : Launch) (g : ZG) {k : Nat} {x1 : Int32} {σ : ZS} {r : Unit} {σr : ZS} (hf : f1_meet k x1 σ = some (r, σr)) : zT l g y1_meet b1_meet 2 none 1 60 [zr 83, zi x1] σ none σr := by
  unfold f1_meet at hf
  refine zT_start (own := R1) rfl (by decide +kernel) 0 (L := [some (zr 83), some (zi x1)]) rfl rfl (fun x hl C => ?_)
  subst hl
  refine z_aload_n C d1_meet_0 rfl ?_
  refine z_getI C d1_meet_1 fl_172 kZ_83 ?_
  refine z_if_lt C d1_meet_4 (fun c1 => ?_) (fun c1 => ?_)
  · have hf := zit c1 hf
    exact z_vret C d1_meet_39 hf
  · have hf := zie c1 hf
    refine z_aload_n C d1_meet_7 rfl ?_
    refine z_getI C d1_meet_8 fl_172 kZ_83 ?_
    refine z_aload_n C d1_meet_11 rfl ?_
    refine z_getR C d1_meet_12 fl_169 kZ_83 85 rfl (zn0 kZ_85) ?_
    refine z_alen C (257 : Int32) d1_meet_15 kZ_85 kL_85 kO_257 ?_
    refine z_icmp_ge C d1_meet_16 (fun c2 => ?_) (fun c2 => ?_)
    · have hf := zit c2 hf
      exact z_vret C d1_meet_39 hf
    · have hf := zie c2 hf
      refine z_aload_n C d1_meet_19 rfl ?_
      refine z_getR C d1_meet_20 fl_169 kZ_83 85 rfl (zn0 kZ_85) ?_
      refine z_aload_n C d1_meet_23 rfl ?_
      refine z_getI C d1_meet_24 fl_172 kZ_83 ?_
      refine z_iload_n C d1_meet_27 rfl ?_
      obtain ⟨g3, hf⟩ := zgo hf
      obtain ⟨s4, e4, hf⟩ := zpx hf
      refine z_iast C d1_meet_28 kZ_85 kL_85 g3 rfl e4 ?_
      refine z_aload_n C d1_meet_29 rfl ?_
      refine z_dup C d1_meet_30 rfl ?_
      refine z_getI C d1_meet_31 fl_172 kZ_83 ?_
      refine z_iconst C (1 : Int32) d1_meet_34 kI_1 ?_
      refine z_iadd C d1_meet_35 ?_
      obtain ⟨s5, e5, hf⟩ := zpx hf
      refine z_putI C d1_meet_36 fl_172 ft_1_3 kZ_83 e5 ?_
      exact z_vret C d1_meet_39 hf
theorem d1_nextCell_0 : zd b1_nextCell 0 (.iload_n 1) 1 1 := ⟨by decide +kernel, rfl⟩
theorem d1_nextCell_1 : decode b1_nextCell 1 = .ok ((.tableswitch 74 0 2 #[27, 42, 59]), 27) := by decide +kernel
theorem d1_nextCell_28 : zd b1_nextCell 28 (.iload_n 0) 1 29 := ⟨by decide +kernel, rfl⟩
theorem d1_nextCell_29 : zd b1_nextCell 29 (.bipush 8) 2 31 := ⟨by decide +kernel, rfl⟩
theorem d1_nextCell_31 : zdb b1_nextCell 31 (.if_icmp .lt 10) 10 34 41 := ⟨by decide +kernel, rfl, by decide⟩
theorem d1_nextCell_34 : zd b1_nextCell 34 (.iload_n 0) 1 35 := ⟨by decide +kernel, rfl⟩
theorem d1_nextCell_35 : zd b1_nextCell 35 (.bipush 8) 2 37 := ⟨by decide +kernel, rfl⟩
theorem d1_nextCell_37 : zd b1_nextCell 37 .isub 1 38 := ⟨by decide +kernel, rfl⟩
theorem d1_nextCell_38 : zdb b1_nextCell 38 (.goto 4) 4 41 42 := ⟨by decide +kernel, rfl, by decide⟩
theorem d1_nextCell_41 : zd b1_nextCell 41 (.iconst (-1)) 1 42 := ⟨by decide +kernel, rfl⟩
theorem d1_nextCell_42 : zd b1_nextCell 42 .ireturn 1 43 := ⟨by decide +kernel, rfl⟩
theorem d1_nextCell_43 : zd b1_nextCell 43 (.iload_n 0) 1 44 := ⟨by decide +kernel, rfl⟩
theorem d1_nextCell_44 : zd b1_nextCell 44 (.bipush 8) 2 46 := ⟨by decide +kernel, rfl⟩
theorem d1_nextCell_46 : zd b1_nextCell 46 .irem 1 47 := ⟨by decide +kernel, rfl⟩
theorem d1_nextCell_47 : zd b1_nextCell 47 (.bipush 7) 2 49 := ⟨by decide +kernel, rfl⟩
theorem d1_nextCell_49 : zdb b1_nextCell 49 (.if_icmp .ge 9) 9 52 58 := ⟨by decide +kernel, rfl, by decide⟩
theorem d1_nextCell_52 : zd b1_nextCell 52 (.iload_n 0) 1 53 := ⟨by decide +kernel, rfl⟩
theorem d1_nextCell_53 : zd b1_nextCell 53 (.iconst 1) 1 54 := ⟨by decide +kernel, rfl⟩
theorem d1_nextCell_54 : zd b1_nextCell 54 .iadd 1 55 := ⟨by decide +kernel, rfl⟩
theorem d1_nextCell_55 : zdb b1_nextCell 55 (.goto 4) 4 58 59 := ⟨by decide +kernel, rfl, by decide⟩
theorem d1_nextCell_58 : zd b1_nextCell 58 (.iconst (-1)) 1 59 := ⟨by decide +kernel, rfl⟩
theorem d1_nextCell_59 : zd b1_nextCell 59 .ireturn 1 60 := ⟨by decide +kernel, rfl⟩
theorem d1_nextCell_60 : zd b1_nextCell 60 (.iload_n 0) 1 61 := ⟨by decide +kernel, rfl⟩
theorem d1_nextCell_61 : zd b1_nextCell 61 (.bipush 56) 2 63 := ⟨by decide +kernel, rfl⟩
theorem d1_nextCell_63 : zdb b1_nextCell 63 (.if_icmp .ge 10) 10 66 73 := ⟨by decide +kernel, rfl, by decide⟩
theorem d1_nextCell_66 : zd b1_nextCell 66 (.iload_n 0) 1 67 := ⟨by decide +kernel, rfl⟩
theorem d1_nextCell_67 : zd b1_nextCell 67 (.bipush 8) 2 69 := ⟨by decide +kernel, rfl⟩
theorem d1_nextCell_69 : zd b1_nextCell 69 .iadd 1 70 := ⟨by decide +kernel, rfl⟩
theorem d1_nextCell_70 : zdb b1_nextCell 70 (.goto 4) 4 73 74 := ⟨by decide +kernel, rfl, by decide⟩
theorem d1_nextCell_73 : zd b1_nextCell 73 (.iconst (-1)) 1 74 := ⟨by decide +kernel, rfl⟩
theorem d1_nextCell_74 : zd b1_nextCell 74 .ireturn 1 75 := ⟨by decide +kernel, rfl⟩
theorem d1_nextCell_75 : zd b1_nextCell 75 (.iload_n 0) 1 76 := ⟨by decide +kernel, rfl⟩
theorem d1_nextCell_76 : zd b1_nextCell 76 (.bipush 8) 2 78 := ⟨by decide +kernel, rfl⟩
theorem d1_nextCell_78 : zd b1_nextCell 78 .irem 1 79 := ⟨by decide +kernel, rfl⟩
theorem d1_nextCell_79 : zdb b1_nextCell 79 (.ifCond .le 9) 9 82 88 := ⟨by decide +kernel, rfl, by decide⟩
theorem d1_nextCell_82 : zd b1_nextCell 82 (.iload_n 0) 1 83 := ⟨by decide +kernel, rfl⟩
theorem d1_nextCell_83 : zd b1_nextCell 83 (.iconst 1) 1 84 := ⟨by decide +kernel, rfl⟩
theorem d1_nextCell_84 : zd b1_nextCell 84 .isub 1 85 := ⟨by decide +kernel, rfl⟩
theorem d1_nextCell_85 : zdb b1_nextCell 85 (.goto 4) 4 88 89 := ⟨by decide +kernel, rfl, by decide⟩
theorem d1_nextCell_88 : zd b1_nextCell 88 (.iconst (-1)) 1 89 := ⟨by decide +kernel, rfl⟩
theorem d1_nextCell_89 : zd b1_nextCell 89 .ireturn 1 90 := ⟨by decide +kernel, rfl⟩
def f1_nextCell (k : Nat) (x0 : Int32) (x1 : Int32) (σ : ZS) : Option (Int32 × ZS) :=
  if x1 = (0 : Int32) then (
  if x0 < (8 : Int32) then (
  some ((-1 : Int32), σ))
  else (
  some ((x0 - (8 : Int32)), σ)))
  else (
  if x1 = (1 : Int32) then (
  if (7 : Int32) ≤ (x0 % (8 : Int32)) then (
  some ((-1 : Int32), σ))
  else (
  some ((x0 + (1 : Int32)), σ)))
  else (
  if x1 = (2 : Int32) then (
  if (56 : Int32) ≤ x0 then (
  some ((-1 : Int32), σ))
  else (
  some ((x0 + (8 : Int32)), σ)))
  else (
  if (x0 % (8 : Int32)) ≤ 0 then (
  some ((-1 : Int32), σ))
  else (
  some ((x0 - (1 : Int32)), σ)))))
theorem c1_nextCell (l : Launch) (g : ZG) {k : Nat} {x0 : Int32} {x1 : Int32} {σ : ZS} {r : Int32} {σr : ZS} (hf : f1_nextCell k x0 x1 σ = some (r, σr)) : zT l g y1_nextCell b1_nextCell 2 (some .int) 1 60 [zi x0, zi x1] σ (some (zi r)) σr := by
  unfold f1_nextCell at hf
  refine zT_start (own := R1) rfl (by decide +kernel) 0 (L := [some (zi x0), some (zi x1)]) rfl rfl (fun x hl C => ?_)
  subst hl
  refine z_iload_n C d1_nextCell_0 rfl ?_
  refine z_tsw C [((0 : Int32), 28), ((1 : Int32), 43), ((2 : Int32), 60)] (d := 75) d1_nextCell_1 (by decide) (by decide) (by decide +kernel) ?_
  refine z_swc (fun c1 => ?_) (fun c1 => ?_)
  · have hf := zit c1 hf
    refine z_iload_n C d1_nextCell_28 rfl ?_
    refine z_bipush C (8 : Int32) d1_nextCell_29 kB_8 ?_
    refine z_icmp_lt C d1_nextCell_31 (fun c2 => ?_) (fun c2 => ?_)
    · have hf := zit c2 hf
      refine z_iconst C (-1 : Int32) d1_nextCell_41 kI_m1 ?_
      exact z_iret C d1_nextCell_42 hf
    · have hf := zie c2 hf
      refine z_iload_n C d1_nextCell_34 rfl ?_
      refine z_bipush C (8 : Int32) d1_nextCell_35 kB_8 ?_
      refine z_isub C d1_nextCell_37 ?_
      refine z_goto C d1_nextCell_38 ?_
      exact z_iret C d1_nextCell_42 hf
  · have hf := zie c1 hf
    refine z_swc (fun c3 => ?_) (fun c3 => ?_)
    · have hf := zit c3 hf
      refine z_iload_n C d1_nextCell_43 rfl ?_
      refine z_bipush C (8 : Int32) d1_nextCell_44 kB_8 ?_
      refine z_irem C d1_nextCell_46 (by decide) ?_
      refine z_bipush C (7 : Int32) d1_nextCell_47 kB_7 ?_
      refine z_icmp_ge C d1_nextCell_49 (fun c4 => ?_) (fun c4 => ?_)
      · have hf := zit c4 hf
        refine z_iconst C (-1 : Int32) d1_nextCell_58 kI_m1 ?_
        exact z_iret C d1_nextCell_59 hf
      · have hf := zie c4 hf
        refine z_iload_n C d1_nextCell_52 rfl ?_
        refine z_iconst C (1 : Int32) d1_nextCell_53 kI_1 ?_
        refine z_iadd C d1_nextCell_54 ?_
        refine z_goto C d1_nextCell_55 ?_
        exact z_iret C d1_nextCell_59 hf
    · have hf := zie c3 hf
      refine z_swc (fun c5 => ?_) (fun c5 => ?_)
      · have hf := zit c5 hf
        refine z_iload_n C d1_nextCell_60 rfl ?_
        refine z_bipush C (56 : Int32) d1_nextCell_61 kB_56 ?_
        refine z_icmp_ge C d1_nextCell_63 (fun c6 => ?_) (fun c6 => ?_)
        · have hf := zit c6 hf
          refine z_iconst C (-1 : Int32) d1_nextCell_73 kI_m1 ?_
          exact z_iret C d1_nextCell_74 hf
        · have hf := zie c6 hf
          refine z_iload_n C d1_nextCell_66 rfl ?_
          refine z_bipush C (8 : Int32) d1_nextCell_67 kB_8 ?_
          refine z_iadd C d1_nextCell_69 ?_
          refine z_goto C d1_nextCell_70 ?_
          exact z_iret C d1_nextCell_74 hf
      · have hf := zie c5 hf
        refine z_sw0 ?_
        refine z_iload_n C d1_nextCell_75 rfl ?_
        refine z_bipush C (8 : Int32) d1_nextCell_76 kB_8 ?_
        refine z_irem C d1_nextCell_78 (by decide) ?_
        refine z_if_le C d1_nextCell_79 (fun c7 => ?_) (fun c7 => ?_)
        · have hf := zit c7 hf
          refine z_iconst C (-1 : Int32) d1_nextCell_88 kI_m1 ?_
          exact z_iret C d1_nextCell_89 hf
        · have hf := zie c7 hf
          refine z_iload_n C d1_nextCell_82 rfl ?_
          refine z_iconst C (1 : Int32) d1_nextCell_83 kI_1 ?_
          refine z_isub C d1_nextCell_84 ?_
          refine z_goto C d1_nextCell_85 ?_
          exact z_iret C d1_nextCell_89 hf
theorem d5_glassAt_0 : zd b5_glassAt 0 (.iload_n 1) 1 1 := ⟨by decide +kernel, rfl⟩
theorem d5_glassAt_1 : zdb b5_glassAt 1 (.ifCond .lt 12) 12 4 13 := ⟨by decide +kernel, rfl, by decide⟩
theorem d5_glassAt_4 : zd b5_glassAt 4 (.iload_n 1) 1 5 := ⟨by decide +kernel, rfl⟩
theorem d5_glassAt_5 : zd b5_glassAt 5 (.aload_n 0) 1 6 := ⟨by decide +kernel, rfl⟩
theorem d5_glassAt_6 : zd b5_glassAt 6 (.getfield 29) 3 9 := ⟨by decide +kernel, rfl⟩
theorem d5_glassAt_9 : zd b5_glassAt 9 .arraylength 1 10 := ⟨by decide +kernel, rfl⟩
theorem d5_glassAt_10 : zdb b5_glassAt 10 (.if_icmp .lt 7) 7 13 17 := ⟨by decide +kernel, rfl, by decide⟩
theorem d5_glassAt_13 : zd b5_glassAt 13 (.iconst (-1)) 1 14 := ⟨by decide +kernel, rfl⟩
theorem d5_glassAt_14 : zdb b5_glassAt 14 (.goto 9) 9 17 23 := ⟨by decide +kernel, rfl, by decide⟩
theorem d5_glassAt_17 : zd b5_glassAt 17 (.aload_n 0) 1 18 := ⟨by decide +kernel, rfl⟩
theorem d5_glassAt_18 : zd b5_glassAt 18 (.getfield 29) 3 21 := ⟨by decide +kernel, rfl⟩
theorem d5_glassAt_21 : zd b5_glassAt 21 (.iload_n 1) 1 22 := ⟨by decide +kernel, rfl⟩
theorem d5_glassAt_22 : zd b5_glassAt 22 .iaload 1 23 := ⟨by decide +kernel, rfl⟩
theorem d5_glassAt_23 : zd b5_glassAt 23 .ireturn 1 24 := ⟨by decide +kernel, rfl⟩
def f5_glassAt (k : Nat) (t : Nat) (x1 : Int32) (σ : ZS) : Option (Int32 × ZS) :=
  if zsh t = 6 then (
  if x1 < 0 then (
  some ((-1 : Int32), σ))
  else (
  if x1 < (64 : Int32) then (
  if zin x1 64 then (
  some ((σ (t + 4) x1.toNatClampNeg), σ)) else none)
  else (
  some ((-1 : Int32), σ)))) else none
theorem c5_glassAt (l : Launch) (g : ZG) {k : Nat} {t : Nat} {x1 : Int32} {σ : ZS} {r : Int32} {σr : ZS} (hf : f5_glassAt k t x1 σ = some (r, σr)) : zT l g y5_glassAt b5_glassAt 2 (some .int) 1 60 [zr t, zi x1] σ (some (zi r)) σr := by
  unfold f5_glassAt at hf
  obtain ⟨ht, hf⟩ := zgo hf
  refine zT_start (own := R5) rfl (by decide +kernel) 0 (L := [some (zr t), some (zi x1)]) rfl rfl (fun x hl C => ?_)
  subst hl
  refine z_iload_n C d5_glassAt_0 rfl ?_
  refine z_if_lt C d5_glassAt_1 (fun c1 => ?_) (fun c1 => ?_)
  · have hf := zit c1 hf
    refine z_iconst C (-1 : Int32) d5_glassAt_13 kI_m1 ?_
    refine z_goto C d5_glassAt_14 ?_
    exact z_iret C d5_glassAt_23 hf
  · have hf := zie c1 hf
    refine z_iload_n C d5_glassAt_4 rfl ?_
    refine z_aload_n C d5_glassAt_5 rfl ?_
    refine z_getR C d5_glassAt_6 fl_121 ht (t + 4) rfl (zn0 (zD6_4 ht)) ?_
    refine z_alen C (64 : Int32) d5_glassAt_9 (zD6_4 ht) (zN6_4 ht) kO_64 ?_
    refine z_icmp_lt C d5_glassAt_10 (fun c2 => ?_) (fun c2 => ?_)
    · have hf := zit c2 hf
      refine z_aload_n C d5_glassAt_17 rfl ?_
      refine z_getR C d5_glassAt_18 fl_121 ht (t + 4) rfl (zn0 (zD6_4 ht)) ?_
      refine z_iload_n C d5_glassAt_21 rfl ?_
      obtain ⟨g3, hf⟩ := zgo hf
      refine z_iald C d5_glassAt_22 (zD6_4 ht) (zN6_4 ht) g3 (x1.toNatClampNeg) rfl ?_
      exact z_iret C d5_glassAt_23 hf
    · have hf := zie c2 hf
      refine z_iconst C (-1 : Int32) d5_glassAt_13 kI_m1 ?_
      refine z_goto C d5_glassAt_14 ?_
      exact z_iret C d5_glassAt_23 hf
theorem d5_isNight_0 : zd b5_isNight 0 (.aload_n 0) 1 1 := ⟨by decide +kernel, rfl⟩
theorem d5_isNight_1 : zd b5_isNight 1 (.getfield 80) 3 4 := ⟨by decide +kernel, rfl⟩
theorem d5_isNight_4 : zd b5_isNight 4 (.bipush 24) 2 6 := ⟨by decide +kernel, rfl⟩
theorem d5_isNight_6 : zd b5_isNight 6 .irem 1 7 := ⟨by decide +kernel, rfl⟩
theorem d5_isNight_7 : zd b5_isNight 7 (.bipush 18) 2 9 := ⟨by decide +kernel, rfl⟩
theorem d5_isNight_9 : zdb b5_isNight 9 (.if_icmp .ge 15) 15 12 24 := ⟨by decide +kernel, rfl, by decide⟩
theorem d5_isNight_12 : zd b5_isNight 12 (.aload_n 0) 1 13 := ⟨by decide +kernel, rfl⟩
theorem d5_isNight_13 : zd b5_isNight 13 (.getfield 80) 3 16 := ⟨by decide +kernel, rfl⟩
theorem d5_isNight_16 : zd b5_isNight 16 (.bipush 24) 2 18 := ⟨by decide +kernel, rfl⟩
theorem d5_isNight_18 : zd b5_isNight 18 .irem 1 19 := ⟨by decide +kernel, rfl⟩
theorem d5_isNight_19 : zd b5_isNight 19 (.bipush 6) 2 21 := ⟨by decide +kernel, rfl⟩
theorem d5_isNight_21 : zdb b5_isNight 21 (.if_icmp .ge 7) 7 24 28 := ⟨by decide +kernel, rfl, by decide⟩
theorem d5_isNight_24 : zd b5_isNight 24 (.iconst 1) 1 25 := ⟨by decide +kernel, rfl⟩
theorem d5_isNight_25 : zdb b5_isNight 25 (.goto 4) 4 28 29 := ⟨by decide +kernel, rfl, by decide⟩
theorem d5_isNight_28 : zd b5_isNight 28 (.iconst 0) 1 29 := ⟨by decide +kernel, rfl⟩
theorem d5_isNight_29 : zd b5_isNight 29 .ireturn 1 30 := ⟨by decide +kernel, rfl⟩
def f5_isNight (k : Nat) (t : Nat)  (σ : ZS) : Option (Int32 × ZS) :=
  if zsh t = 6 then (
  if (18 : Int32) ≤ ((σ t 10) % (24 : Int32)) then (
  some ((1 : Int32), σ))
  else (
  if (6 : Int32) ≤ ((σ t 10) % (24 : Int32)) then (
  some ((0 : Int32), σ))
  else (
  some ((1 : Int32), σ)))) else none
theorem c5_isNight (l : Launch) (g : ZG) {k : Nat} {t : Nat}  {σ : ZS} {r : Int32} {σr : ZS} (hf : f5_isNight k t  σ = some (r, σr)) : zT l g y5_isNight b5_isNight 1 (some .boolean) 1 60 [zr t] σ (some (zi r)) σr := by
  unfold f5_isNight at hf
  obtain ⟨ht, hf⟩ := zgo hf
  refine zT_start (own := R5) rfl (by decide +kernel) 0 (L := [some (zr t)]) rfl rfl (fun x hl C => ?_)
  subst hl
  refine z_aload_n C d5_isNight_0 rfl ?_
  refine z_getI C d5_isNight_1 fl_133 ht ?_
  refine z_bipush C (24 : Int32) d5_isNight_4 kB_24 ?_
  refine z_irem C d5_isNight_6 (by decide) ?_
  refine z_bipush C (18 : Int32) d5_isNight_7 kB_18 ?_
  refine z_icmp_ge C d5_isNight_9 (fun c1 => ?_) (fun c1 => ?_)
  · have hf := zit c1 hf
    refine z_iconst C (1 : Int32) d5_isNight_24 kI_1 ?_
    refine z_goto C d5_isNight_25 ?_
    exact z_zret C d5_isNight_29 (Or.inr rfl) hf
  · have hf := zie c1 hf
    refine z_aload_n C d5_isNight_12 rfl ?_
    refine z_getI C d5_isNight_13 fl_133 ht ?_
    refine z_bipush C (24 : Int32) d5_isNight_16 kB_24 ?_
    refine z_irem C d5_isNight_18 (by decide) ?_
    refine z_bipush C (6 : Int32) d5_isNight_19 kB_6 ?_
    refine z_icmp_ge C d5_isNight_21 (fun c2 => ?_) (fun c2 => ?_)
    · have hf := zit c2 hf
      refine z_iconst C (0 : Int32) d5_isNight_28 kI_0 ?_
      exact z_zret C d5_isNight_29 (Or.inl rfl) hf
    · have hf := zie c2 hf
      refine z_iconst C (1 : Int32) d5_isNight_24 kI_1 ?_
      refine z_goto C d5_isNight_25 ?_
      exact z_zret C d5_isNight_29 (Or.inr rfl) hf
theorem d1_follow_0 : zd b1_follow 0 (.aload_n 1) 1 1 := ⟨by decide +kernel, rfl⟩
theorem d1_follow_1 : zd b1_follow 1 (.invokevirtual 18) 3 4 := ⟨by decide +kernel, rfl⟩
theorem d1_follow_4 : zd b1_follow 4 (.istore 4) 2 6 := ⟨by decide +kernel, rfl⟩
theorem d1_follow_6 : zd b1_follow 6 (.aload_n 0) 1 7 := ⟨by decide +kernel, rfl⟩
theorem d1_follow_7 : zd b1_follow 7 (.iconst 0) 1 8 := ⟨by decide +kernel, rfl⟩
theorem d1_follow_8 : zd b1_follow 8 (.putfield 24) 3 11 := ⟨by decide +kernel, rfl⟩
theorem d1_follow_11 : zd b1_follow 11 (.aload_n 0) 1 12 := ⟨by decide +kernel, rfl⟩
theorem d1_follow_12 : zd b1_follow 12 (.iconst 0) 1 13 := ⟨by decide +kernel, rfl⟩
theorem d1_follow_13 : zd b1_follow 13 (.putfield 28) 3 16 := ⟨by decide +kernel, rfl⟩
theorem d1_follow_16 : zd b1_follow 16 (.aload_n 0) 1 17 := ⟨by decide +kernel, rfl⟩
theorem d1_follow_17 : zd b1_follow 17 (.iconst 0) 1 18 := ⟨by decide +kernel, rfl⟩
theorem d1_follow_18 : zd b1_follow 18 (.putfield 31) 3 21 := ⟨by decide +kernel, rfl⟩
theorem d1_follow_21 : zd b1_follow 21 (.aload_n 0) 1 22 := ⟨by decide +kernel, rfl⟩
theorem d1_follow_22 : zd b1_follow 22 (.iload_n 2) 1 23 := ⟨by decide +kernel, rfl⟩
theorem d1_follow_23 : zd b1_follow 23 (.invokevirtual 35) 3 26 := ⟨by decide +kernel, rfl⟩
theorem d1_follow_26 : zd b1_follow 26 (.iload_n 2) 1 27 := ⟨by decide +kernel, rfl⟩
theorem d1_follow_27 : zd b1_follow 27 (.istore 5) 2 29 := ⟨by decide +kernel, rfl⟩
theorem d1_follow_29 : zd b1_follow 29 (.iload_n 3) 1 30 := ⟨by decide +kernel, rfl⟩
theorem d1_follow_30 : zd b1_follow 30 (.istore 6) 2 32 := ⟨by decide +kernel, rfl⟩
theorem d1_follow_32 : zd b1_follow 32 (.iconst 0) 1 33 := ⟨by decide +kernel, rfl⟩
theorem d1_follow_33 : zd b1_follow 33 (.istore 7) 2 35 := ⟨by decide +kernel, rfl⟩
theorem d1_follow_35 : zd b1_follow 35 (.iload 7) 2 37 := ⟨by decide +kernel, rfl⟩
theorem d1_follow_37 : zd b1_follow 37 (.sipush 257) 3 40 := ⟨by decide +kernel, rfl⟩
theorem d1_follow_40 : zdb b1_follow 40 (.if_icmp .ge 106) 106 43 146 := ⟨by decide +kernel, rfl, by decide⟩
theorem d1_follow_43 : zd b1_follow 43 (.iload 6) 2 45 := ⟨by decide +kernel, rfl⟩
theorem d1_follow_45 : zd b1_follow 45 (.iconst (-1)) 1 46 := ⟨by decide +kernel, rfl⟩
theorem d1_follow_46 : zdb b1_follow 46 (.if_icmp .eq 100) 100 49 146 := ⟨by decide +kernel, rfl, by decide⟩
theorem d1_follow_49 : zd b1_follow 49 (.iload 5) 2 51 := ⟨by decide +kernel, rfl⟩
theorem d1_follow_51 : zd b1_follow 51 (.iload 6) 2 53 := ⟨by decide +kernel, rfl⟩
theorem d1_follow_53 : zd b1_follow 53 (.invokestatic 39) 3 56 := ⟨by decide +kernel, rfl⟩
theorem d1_follow_56 : zd b1_follow 56 (.istore 5) 2 58 := ⟨by decide +kernel, rfl⟩
theorem d1_follow_58 : zd b1_follow 58 (.iload 5) 2 60 := ⟨by decide +kernel, rfl⟩
theorem d1_follow_60 : zdb b1_follow 60 (.ifCond .ge 4) 4 63 64 := ⟨by decide +kernel, rfl, by decide⟩
theorem d1_follow_63 : zd b1_follow 63 .return_ 1 64 := ⟨by decide +kernel, rfl⟩
theorem d1_follow_64 : zd b1_follow 64 (.aload_n 0) 1 65 := ⟨by decide +kernel, rfl⟩
theorem d1_follow_65 : zd b1_follow 65 (.getfield 24) 3 68 := ⟨by decide +kernel, rfl⟩
theorem d1_follow_68 : zd b1_follow 68 (.sipush 257) 3 71 := ⟨by decide +kernel, rfl⟩
theorem d1_follow_71 : zdb b1_follow 71 (.if_icmp .lt 9) 9 74 80 := ⟨by decide +kernel, rfl, by decide⟩
theorem d1_follow_74 : zd b1_follow 74 (.aload_n 0) 1 75 := ⟨by decide +kernel, rfl⟩
theorem d1_follow_75 : zd b1_follow 75 (.iconst 1) 1 76 := ⟨by decide +kernel, rfl⟩
theorem d1_follow_76 : zd b1_follow 76 (.putfield 31) 3 79 := ⟨by decide +kernel, rfl⟩
theorem d1_follow_79 : zd b1_follow 79 .return_ 1 80 := ⟨by decide +kernel, rfl⟩
theorem d1_follow_80 : zd b1_follow 80 (.aload_n 0) 1 81 := ⟨by decide +kernel, rfl⟩
theorem d1_follow_81 : zd b1_follow 81 (.iload 5) 2 83 := ⟨by decide +kernel, rfl⟩
theorem d1_follow_83 : zd b1_follow 83 (.invokevirtual 35) 3 86 := ⟨by decide +kernel, rfl⟩
theorem d1_follow_86 : zd b1_follow 86 (.aload_n 1) 1 87 := ⟨by decide +kernel, rfl⟩
theorem d1_follow_87 : zd b1_follow 87 (.iload 5) 2 89 := ⟨by decide +kernel, rfl⟩
theorem d1_follow_89 : zd b1_follow 89 (.invokevirtual 43) 3 92 := ⟨by decide +kernel, rfl⟩
theorem d1_follow_92 : zd b1_follow 92 (.istore 8) 2 94 := ⟨by decide +kernel, rfl⟩
theorem d1_follow_94 : zd b1_follow 94 (.aload_n 1) 1 95 := ⟨by decide +kernel, rfl⟩
theorem d1_follow_95 : zd b1_follow 95 (.iload 8) 2 97 := ⟨by decide +kernel, rfl⟩
theorem d1_follow_97 : zd b1_follow 97 (.invokevirtual 47) 3 100 := ⟨by decide +kernel, rfl⟩
theorem d1_follow_100 : zd b1_follow 100 (.astore 9) 2 102 := ⟨by decide +kernel, rfl⟩
theorem d1_follow_102 : zd b1_follow 102 (.aload 9) 2 104 := ⟨by decide +kernel, rfl⟩
theorem d1_follow_104 : zdb b1_follow 104 (.ifnonnull 8) 8 107 112 := ⟨by decide +kernel, rfl, by decide⟩
theorem d1_follow_107 : zd b1_follow 107 (.iload 6) 2 109 := ⟨by decide +kernel, rfl⟩
theorem d1_follow_109 : zdb b1_follow 109 (.goto 12) 12 112 121 := ⟨by decide +kernel, rfl, by decide⟩
theorem d1_follow_112 : zd b1_follow 112 (.aload 9) 2 114 := ⟨by decide +kernel, rfl⟩
theorem d1_follow_114 : zd b1_follow 114 (.iload 6) 2 116 := ⟨by decide +kernel, rfl⟩
theorem d1_follow_116 : zd b1_follow 116 (.iload 4) 2 118 := ⟨by decide +kernel, rfl⟩
theorem d1_follow_118 : zd b1_follow 118 (.invokevirtual 51) 3 121 := ⟨by decide +kernel, rfl⟩
theorem d1_follow_121 : zd b1_follow 121 (.istore 10) 2 123 := ⟨by decide +kernel, rfl⟩
theorem d1_follow_123 : zd b1_follow 123 (.iload 10) 2 125 := ⟨by decide +kernel, rfl⟩
theorem d1_follow_125 : zd b1_follow 125 (.iload 6) 2 127 := ⟨by decide +kernel, rfl⟩
theorem d1_follow_127 : zdb b1_follow 127 (.if_icmp .eq 13) 13 130 140 := ⟨by decide +kernel, rfl, by decide⟩
theorem d1_follow_130 : zd b1_follow 130 (.aload_n 0) 1 131 := ⟨by decide +kernel, rfl⟩
theorem d1_follow_131 : zd b1_follow 131 (.iload 8) 2 133 := ⟨by decide +kernel, rfl⟩
theorem d1_follow_133 : zd b1_follow 133 (.invokevirtual 57) 3 136 := ⟨by decide +kernel, rfl⟩
theorem d1_follow_136 : zd b1_follow 136 (.iload 10) 2 138 := ⟨by decide +kernel, rfl⟩
theorem d1_follow_138 : zd b1_follow 138 (.istore 6) 2 140 := ⟨by decide +kernel, rfl⟩
theorem d1_follow_140 : zd b1_follow 140 (.iinc 7 1) 3 143 := ⟨by decide +kernel, rfl⟩
theorem d1_follow_143 : zdb b1_follow 143 (.goto (-108)) (-108) 146 35 := ⟨by decide +kernel, rfl, by decide⟩
theorem d1_follow_146 : zd b1_follow 146 .return_ 1 147 := ⟨by decide +kernel, rfl⟩
def b1_follow_121 (k : Nat) (q35 : Nat → Int32 → Int32 → Int32 → Int32 → ZS → Option (Unit × ZS)) (x1 : Nat) (x4 : Int32) (x5 : Int32) (x6 : Int32) (x7 : Int32) (x8 : Int32) (v0 : Int32) (σ : ZS) : Option (Unit × ZS) :=
  if v0 = x6 then (
  q35 x1 x4 x5 x6 (x7 + (1 : Int32)) σ)
  else (
  zbd (f1_meet k x8 σ) fun _ s2 =>
  q35 x1 x4 x5 v0 (x7 + (1 : Int32)) s2)
theorem j1_follow_121 {x : ZX} {g : ZG} (C : zC x g b1_follow R1 none 11 4 123) {k : Nat} {r : Unit} {σr : ZS}  {q35 : Nat → Int32 → Int32 → Int32 → Int32 → ZS → Option (Unit × ZS)} (hq35 : (∀ (x1 : Nat) (x4 : Int32) (x5 : Int32) (x6 : Int32) (x7 : Int32) (σ : ZS), q35 x1 x4 x5 x6 x7 σ = some (r, σr) → zw x g 11 0 0 (zMQ x g none σr) σ 35 [some (zr 83), some (zr x1), none, none, some (zi x4), some (zi x5), some (zi x6), some (zi x7), none, none, none] [])) {x1 : Nat} {x4 : Int32} {x5 : Int32} {x6 : Int32} {x7 : Int32} {x8 : Int32} {v0 : Int32} {σ : ZS} (hf : b1_follow_121 k q35 x1 x4 x5 x6 x7 x8 v0 σ = some (r, σr)) : zw x g 11 0 0 (zMQ x g none σr) σ 121 [some (zr 83), some (zr x1), none, none, some (zi x4), some (zi x5), some (zi x6), some (zi x7), some (zi x8), none, none] [zi v0] := by
  unfold b1_follow_121 at hf
  refine z_istore C d1_follow_121 (Nat.le_of_ble_eq_true rfl) rfl (L' := [some (zr 83), some (zr x1), none, none, some (zi x4), some (zi x5), some (zi x6), some (zi x7), some (zi x8), none, some (zi v0)]) rfl ?_
  refine z_iload C d1_follow_123 rfl ?_
  refine z_iload C d1_follow_125 rfl ?_
  refine z_icmp_eq C d1_follow_127 (fun c1 => ?_) (fun c1 => ?_)
  · have hf := zit c1 hf
    refine z_iinc C d1_follow_140 rfl kI_1 (Nat.le_of_ble_eq_true rfl) rfl (L' := [some (zr 83), some (zr x1), none, none, some (zi x4), some (zi x5), some (zi x6), some (zi (x7 + (1 : Int32))), some (zi x8), none, some (zi v0)]) rfl ?_
    refine z_goto C d1_follow_143 ?_
    refine z_drop [true, true, false, false, true, true, true, true, false, false, false] (L' := [some (zr 83), some (zr x1), none, none, some (zi x4), some (zi x5), some (zi x6), some (zi (x7 + (1 : Int32))), none, none, none]) rfl ?_
    exact hq35 _ _ _ _ _ _ hf
  · have hf := zie c1 hf
    refine z_aload_n C d1_follow_130 rfl ?_
    refine z_iload C d1_follow_131 rfl ?_
    obtain ⟨r2, s2, h2, hf⟩ := zbx hf
    refine z_callVv C (as := [zi x8]) d1_follow_133 w_416 yy1_meet (c1_meet x.2.1 g h2) yc1_meet kZ_83 rfl rfl (Nat.le_of_ble_eq_true rfl) ⟨Nat.le_of_ble_eq_true rfl, Nat.le_of_ble_eq_true rfl⟩ ⟨Nat.zero_le _, Nat.zero_le _⟩ ?_
    refine z_iload C d1_follow_136 rfl ?_
    refine z_istore C d1_follow_138 (Nat.le_of_ble_eq_true rfl) rfl (L' := [some (zr 83), some (zr x1), none, none, some (zi x4), some (zi x5), some (zi v0), some (zi x7), some (zi x8), none, some (zi v0)]) rfl ?_
    refine z_iinc C d1_follow_140 rfl kI_1 (Nat.le_of_ble_eq_true rfl) rfl (L' := [some (zr 83), some (zr x1), none, none, some (zi x4), some (zi x5), some (zi v0), some (zi (x7 + (1 : Int32))), some (zi x8), none, some (zi v0)]) rfl ?_
    refine z_goto C d1_follow_143 ?_
    refine z_drop [true, true, false, false, true, true, true, true, false, false, false] (L' := [some (zr 83), some (zr x1), none, none, some (zi x4), some (zi x5), some (zi v0), some (zi (x7 + (1 : Int32))), none, none, none]) rfl ?_
    exact hq35 _ _ _ _ _ _ hf
def b1_follow_35 (k : Nat) (q35 : Nat → Int32 → Int32 → Int32 → Int32 → ZS → Option (Unit × ZS)) (x1 : Nat) (x4 : Int32) (x5 : Int32) (x6 : Int32) (x7 : Int32) (σ : ZS) : Option (Unit × ZS) :=
  if (257 : Int32) ≤ x7 then (
  some ((), σ))
  else (
  if x6 = (-1 : Int32) then (
  some ((), σ))
  else (
  zbd (f1_nextCell k x5 x6 σ) fun r3 s3 =>
  if 0 ≤ r3 then (
  if (s3 83 2) < (257 : Int32) then (
  zbd (f1_enter k r3 s3) fun _ s6 =>
  if zsh x1 = 6 then (
  zbd (f5_glassAt k x1 r3 s6) fun r7 s7 =>
  zbd (f5_glassOf k x1 r7 s7) fun r9 s9 =>
  if r9 = 0 then (
  b1_follow_121 k q35 x1 x4 r3 x6 x7 r7 x6 s9)
  else (
  if zsh r9 = 1 then (
  zbd (f0_onward k r9 x6 x4 s9) fun r11 s11 =>
  b1_follow_121 k q35 x1 x4 r3 x6 x7 r7 r11 s11) else none)) else none)
  else (
  zput (zu s3 83 4 (1 : Int32)) fun s13 =>
  some ((), s13)))
  else (
  some ((), s3))))
def f1_follow_35 (k : Nat) : Nat → Nat → Int32 → Int32 → Int32 → Int32 → ZS → Option (Unit × ZS)
  | 0 => fun _ _ _ _ _ _ => none
  | n + 1 => b1_follow_35 k  (f1_follow_35 k  n)
theorem j1_follow_35 {x : ZX} {g : ZG} (C : zC x g b1_follow R1 none 11 4 123) {k : Nat} {r : Unit} {σr : ZS}  {q35 : Nat → Int32 → Int32 → Int32 → Int32 → ZS → Option (Unit × ZS)} (hq35 : (∀ (x1 : Nat) (x4 : Int32) (x5 : Int32) (x6 : Int32) (x7 : Int32) (σ : ZS), q35 x1 x4 x5 x6 x7 σ = some (r, σr) → zw x g 11 0 0 (zMQ x g none σr) σ 35 [some (zr 83), some (zr x1), none, none, some (zi x4), some (zi x5), some (zi x6), some (zi x7), none, none, none] [])) {x1 : Nat} {x4 : Int32} {x5 : Int32} {x6 : Int32} {x7 : Int32} {σ : ZS} (hf : b1_follow_35 k q35 x1 x4 x5 x6 x7 σ = some (r, σr)) : zw x g 11 0 0 (zMQ x g none σr) σ 35 [some (zr 83), some (zr x1), none, none, some (zi x4), some (zi x5), some (zi x6), some (zi x7), none, none, none] [] := by
  unfold b1_follow_35 at hf
  refine z_iload C d1_follow_35 rfl ?_
  refine z_sipush C (257 : Int32) d1_follow_37 kS_257 ?_
  refine z_icmp_ge C d1_follow_40 (fun c1 => ?_) (fun c1 => ?_)
  · have hf := zit c1 hf
    exact z_vret C d1_follow_146 hf
  · have hf := zie c1 hf
    refine z_iload C d1_follow_43 rfl ?_
    refine z_iconst C (-1 : Int32) d1_follow_45 kI_m1 ?_
    refine z_icmp_eq C d1_follow_46 (fun c2 => ?_) (fun c2 => ?_)
    · have hf := zit c2 hf
      exact z_vret C d1_follow_146 hf
    · have hf := zie c2 hf
      refine z_iload C d1_follow_49 rfl ?_
      refine z_iload C d1_follow_51 rfl ?_
      obtain ⟨r3, s3, h3, hf⟩ := zbx hf
      refine z_callSi C (as := [zi x5, zi x6]) d1_follow_53 w_410 yy1_nextCell (c1_nextCell x.2.1 g h3) rfl rfl (Nat.le_of_ble_eq_true rfl) ⟨Nat.le_of_ble_eq_true rfl, Nat.le_of_ble_eq_true rfl⟩ ⟨Nat.zero_le _, Nat.zero_le _⟩ ?_
      refine z_istore C d1_follow_56 (Nat.le_of_ble_eq_true rfl) rfl (L' := [some (zr 83), some (zr x1), none, none, some (zi x4), some (zi r3), some (zi x6), some (zi x7), none, none, none]) rfl ?_
      refine z_iload C d1_follow_58 rfl ?_
      refine z_if_ge C d1_follow_60 (fun c4 => ?_) (fun c4 => ?_)
      · have hf := zit c4 hf
        refine z_aload_n C d1_follow_64 rfl ?_
        refine z_getI C d1_follow_65 fl_170 kZ_83 ?_
        refine z_sipush C (257 : Int32) d1_follow_68 kS_257 ?_
        refine z_icmp_lt C d1_follow_71 (fun c5 => ?_) (fun c5 => ?_)
        · have hf := zit c5 hf
          refine z_aload_n C d1_follow_80 rfl ?_
          refine z_iload C d1_follow_81 rfl ?_
          obtain ⟨r6, s6, h6, hf⟩ := zbx hf
          refine z_callVv C (as := [zi r3]) d1_follow_83 w_406 yy1_enter (c1_enter x.2.1 g h6) yc1_enter kZ_83 rfl rfl (Nat.le_of_ble_eq_true rfl) ⟨Nat.le_of_ble_eq_true rfl, Nat.le_of_ble_eq_true rfl⟩ ⟨Nat.zero_le _, Nat.zero_le _⟩ ?_
          refine z_aload_n C d1_follow_86 rfl ?_
          refine z_iload C d1_follow_87 rfl ?_
          obtain ⟨g8, hf⟩ := zgo hf
          obtain ⟨r7, s7, h7, hf⟩ := zbx hf
          refine z_callVi C (as := [zi r3]) d1_follow_89 w_413 yy5_glassAt (c5_glassAt x.2.1 g h7) yc5_glassAt g8 rfl rfl (Nat.le_of_ble_eq_true rfl) ⟨Nat.le_of_ble_eq_true rfl, Nat.le_of_ble_eq_true rfl⟩ ⟨Nat.zero_le _, Nat.zero_le _⟩ ?_
          refine z_istore C d1_follow_92 (Nat.le_of_ble_eq_true rfl) rfl (L' := [some (zr 83), some (zr x1), none, none, some (zi x4), some (zi r3), some (zi x6), some (zi x7), some (zi r7), none, none]) rfl ?_
          refine z_aload_n C d1_follow_94 rfl ?_
          refine z_iload C d1_follow_95 rfl ?_
          obtain ⟨r9, s9, h9, hf⟩ := zbx hf
          refine z_callVr C (as := [zi r7]) d1_follow_97 w_414 yy5_glassOf (c5_glassOf x.2.1 g h9) yc5_glassOf g8 rfl rfl (Nat.le_of_ble_eq_true rfl) ⟨Nat.le_of_ble_eq_true rfl, Nat.le_of_ble_eq_true rfl⟩ ⟨Nat.zero_le _, Nat.zero_le _⟩ ?_
          refine z_astore C d1_follow_100 (Nat.le_of_ble_eq_true rfl) rfl (L' := [some (zr 83), some (zr x1), none, none, some (zi x4), some (zi r3), some (zi x6), some (zi x7), some (zi r7), some (zr r9), none]) rfl ?_
          refine z_aload C d1_follow_102 rfl ?_
          refine z_ifnonnull C d1_follow_104 (fun c10 => ?_) (fun c10 => ?_)
          · have hf := zit c10 hf
            refine z_iload C d1_follow_107 rfl ?_
            refine z_goto C d1_follow_109 ?_
            refine z_drop [true, true, false, false, true, true, true, true, true, false, false] (L' := [some (zr 83), some (zr x1), none, none, some (zi x4), some (zi r3), some (zi x6), some (zi x7), some (zi r7), none, none]) rfl ?_
            exact j1_follow_121 C hq35 hf
          · have hf := zie c10 hf
            refine z_aload C d1_follow_112 rfl ?_
            refine z_iload C d1_follow_114 rfl ?_
            refine z_iload C d1_follow_116 rfl ?_
            obtain ⟨g12, hf⟩ := zgo hf
            obtain ⟨r11, s11, h11, hf⟩ := zbx hf
            refine z_callVi C (as := [zi x6, zi x4]) d1_follow_118 w_415 yy0_onward (c0_onward x.2.1 g h11) yc0_onward g12 rfl rfl (Nat.le_of_ble_eq_true rfl) ⟨Nat.le_of_ble_eq_true rfl, Nat.le_of_ble_eq_true rfl⟩ ⟨Nat.zero_le _, Nat.zero_le _⟩ ?_
            refine z_drop [true, true, false, false, true, true, true, true, true, false, false] (L' := [some (zr 83), some (zr x1), none, none, some (zi x4), some (zi r3), some (zi x6), some (zi x7), some (zi r7), none, none]) rfl ?_
            exact j1_follow_121 C hq35 hf
        · have hf := zie c5 hf
          refine z_aload_n C d1_follow_74 rfl ?_
          refine z_iconst C (1 : Int32) d1_follow_75 kI_1 ?_
          obtain ⟨s13, e13, hf⟩ := zpx hf
          refine z_putZ C d1_follow_76 fl_175 ft_1_4 kZ_83 (Or.inr rfl) e13 ?_
          exact z_vret C d1_follow_79 hf
      · have hf := zie c4 hf
        exact z_vret C d1_follow_63 hf
theorem j1_follow_35l {x : ZX} {g : ZG} (C : zC x g b1_follow R1 none 11 4 123) {k : Nat} {r : Unit} {σr : ZS}  : ∀ (n : Nat) (x1 : Nat) (x4 : Int32) (x5 : Int32) (x6 : Int32) (x7 : Int32) (σ : ZS), f1_follow_35 k  n x1 x4 x5 x6 x7 σ = some (r, σr) → zw x g 11 0 0 (zMQ x g none σr) σ 35 [some (zr 83), some (zr x1), none, none, some (zi x4), some (zi x5), some (zi x6), some (zi x7), none, none, none] [] := by
  intro n
  induction n with
  | zero => intro x1 x4 x5 x6 x7 σ hf; exact absurd (show none = some (r, σr) from hf) (fun z => by cases z)
  | succ n ih => intro x1 x4 x5 x6 x7 σ hf; exact j1_follow_35 C  ih (show b1_follow_35 k  (f1_follow_35 k  n) x1 x4 x5 x6 x7 σ = some (r, σr) from hf)
def f1_follow (k : Nat) (x1 : Nat) (x2 : Int32) (x3 : Int32) (σ : ZS) : Option (Unit × ZS) :=
  if zsh x1 = 6 then (
  zbd (f5_isNight k x1 σ) fun r1 s1 =>
  zput (zu s1 83 2 (0 : Int32)) fun s3 =>
  zput (zu s3 83 3 (0 : Int32)) fun s4 =>
  zput (zu s4 83 4 (0 : Int32)) fun s5 =>
  zbd (f1_enter k x2 s5) fun _ s6 =>
  f1_follow_35 k  k x1 r1 x2 x3 (0 : Int32) s6) else none
theorem c1_follow (l : Launch) (g : ZG) {k : Nat} {x1 : Nat} {x2 : Int32} {x3 : Int32} {σ : ZS} {r : Unit} {σr : ZS} (hf : f1_follow k x1 x2 x3 σ = some (r, σr)) : zT l g y1_follow b1_follow 11 none 4 123 [zr 83, zr x1, zi x2, zi x3] σ none σr := by
  unfold f1_follow at hf
  refine zT_start (own := R1) rfl (by decide +kernel) 7 (L := [some (zr 83), some (zr x1), some (zi x2), some (zi x3), none, none, none, none, none, none, none]) rfl rfl (fun x hl C => ?_)
  subst hl
  refine z_aload_n C d1_follow_0 rfl ?_
  obtain ⟨g2, hf⟩ := zgo hf
  obtain ⟨r1, s1, h1, hf⟩ := zbx hf
  refine z_callVi C (as := []) d1_follow_1 w_405 yy5_isNight (c5_isNight x.2.1 g h1) yc5_isNight g2 rfl rfl (Nat.le_of_ble_eq_true rfl) ⟨Nat.le_of_ble_eq_true rfl, Nat.le_of_ble_eq_true rfl⟩ ⟨Nat.zero_le _, Nat.zero_le _⟩ ?_
  refine z_istore C d1_follow_4 (Nat.le_of_ble_eq_true rfl) rfl (L' := [some (zr 83), some (zr x1), some (zi x2), some (zi x3), some (zi r1), none, none, none, none, none, none]) rfl ?_
  refine z_aload_n C d1_follow_6 rfl ?_
  refine z_iconst C (0 : Int32) d1_follow_7 kI_0 ?_
  obtain ⟨s3, e3, hf⟩ := zpx hf
  refine z_putI C d1_follow_8 fl_170 ft_1_2 kZ_83 e3 ?_
  refine z_aload_n C d1_follow_11 rfl ?_
  refine z_iconst C (0 : Int32) d1_follow_12 kI_0 ?_
  obtain ⟨s4, e4, hf⟩ := zpx hf
  refine z_putI C d1_follow_13 fl_172 ft_1_3 kZ_83 e4 ?_
  refine z_aload_n C d1_follow_16 rfl ?_
  refine z_iconst C (0 : Int32) d1_follow_17 kI_0 ?_
  obtain ⟨s5, e5, hf⟩ := zpx hf
  refine z_putZ C d1_follow_18 fl_175 ft_1_4 kZ_83 (Or.inl rfl) e5 ?_
  refine z_aload_n C d1_follow_21 rfl ?_
  refine z_iload_n C d1_follow_22 rfl ?_
  obtain ⟨r6, s6, h6, hf⟩ := zbx hf
  refine z_callVv C (as := [zi x2]) d1_follow_23 w_406 yy1_enter (c1_enter x.2.1 g h6) yc1_enter kZ_83 rfl rfl (Nat.le_of_ble_eq_true rfl) ⟨Nat.le_of_ble_eq_true rfl, Nat.le_of_ble_eq_true rfl⟩ ⟨Nat.zero_le _, Nat.zero_le _⟩ ?_
  refine z_iload_n C d1_follow_26 rfl ?_
  refine z_istore C d1_follow_27 (Nat.le_of_ble_eq_true rfl) rfl (L' := [some (zr 83), some (zr x1), some (zi x2), some (zi x3), some (zi r1), some (zi x2), none, none, none, none, none]) rfl ?_
  refine z_iload_n C d1_follow_29 rfl ?_
  refine z_istore C d1_follow_30 (Nat.le_of_ble_eq_true rfl) rfl (L' := [some (zr 83), some (zr x1), some (zi x2), some (zi x3), some (zi r1), some (zi x2), some (zi x3), none, none, none, none]) rfl ?_
  refine z_iconst C (0 : Int32) d1_follow_32 kI_0 ?_
  refine z_istore C d1_follow_33 (Nat.le_of_ble_eq_true rfl) rfl (L' := [some (zr 83), some (zr x1), some (zi x2), some (zi x3), some (zi r1), some (zi x2), some (zi x3), some (zi (0 : Int32)), none, none, none]) rfl ?_
  refine z_drop [true, true, false, false, true, true, true, true, false, false, false] (L' := [some (zr 83), some (zr x1), none, none, some (zi r1), some (zi x2), some (zi x3), some (zi (0 : Int32)), none, none, none]) rfl ?_
  exact j1_follow_35l C  _ _ _ _ _ _ _ hf
theorem d8_at_0 : zd b8_at 0 (.iload_n 1) 1 1 := ⟨by decide +kernel, rfl⟩
theorem d8_at_1 : zd b8_at 1 (.invokestatic 61) 3 4 := ⟨by decide +kernel, rfl⟩
theorem d8_at_4 : zdb b8_at 4 (.ifCond .ne 14) 14 7 18 := ⟨by decide +kernel, rfl, by decide⟩
theorem d8_at_7 : zd b8_at 7 (.iload_n 2) 1 8 := ⟨by decide +kernel, rfl⟩
theorem d8_at_8 : zd b8_at 8 (.invokestatic 103) 3 11 := ⟨by decide +kernel, rfl⟩
theorem d8_at_11 : zdb b8_at 11 (.ifCond .ne 7) 7 14 18 := ⟨by decide +kernel, rfl, by decide⟩
theorem d8_at_14 : zd b8_at 14 (.iload_n 3) 1 15 := ⟨by decide +kernel, rfl⟩
theorem d8_at_15 : zdb b8_at 15 (.ifCond .ge 9) 9 18 24 := ⟨by decide +kernel, rfl, by decide⟩
theorem d8_at_18 : zd b8_at 18 (.aload_n 0) 1 19 := ⟨by decide +kernel, rfl⟩
theorem d8_at_19 : zd b8_at 19 (.iconst 1) 1 20 := ⟨by decide +kernel, rfl⟩
theorem d8_at_20 : zd b8_at 20 (.invokevirtual 67) 3 23 := ⟨by decide +kernel, rfl⟩
theorem d8_at_23 : zd b8_at 23 .ireturn 1 24 := ⟨by decide +kernel, rfl⟩
theorem d8_at_24 : zd b8_at 24 (.aload_n 0) 1 25 := ⟨by decide +kernel, rfl⟩
theorem d8_at_25 : zd b8_at 25 (.getfield 25) 3 28 := ⟨by decide +kernel, rfl⟩
theorem d8_at_28 : zd b8_at 28 (.aload_n 0) 1 29 := ⟨by decide +kernel, rfl⟩
theorem d8_at_29 : zd b8_at 29 (.getfield 10) 3 32 := ⟨by decide +kernel, rfl⟩
theorem d8_at_32 : zd b8_at 32 (.iload_n 1) 1 33 := ⟨by decide +kernel, rfl⟩
theorem d8_at_33 : zd b8_at 33 (.iload_n 2) 1 34 := ⟨by decide +kernel, rfl⟩
theorem d8_at_34 : zd b8_at 34 (.invokevirtual 200) 3 37 := ⟨by decide +kernel, rfl⟩
theorem d8_at_37 : zd b8_at 37 (.iload_n 3) 1 38 := ⟨by decide +kernel, rfl⟩
theorem d8_at_38 : zd b8_at 38 (.aload_n 0) 1 39 := ⟨by decide +kernel, rfl⟩
theorem d8_at_39 : zd b8_at 39 (.getfield 25) 3 42 := ⟨by decide +kernel, rfl⟩
theorem d8_at_42 : zd b8_at 42 (.getfield 211) 3 45 := ⟨by decide +kernel, rfl⟩
theorem d8_at_45 : zdb b8_at 45 (.if_icmp .ge 14) 14 48 59 := ⟨by decide +kernel, rfl, by decide⟩
theorem d8_at_48 : zd b8_at 48 (.aload_n 0) 1 49 := ⟨by decide +kernel, rfl⟩
theorem d8_at_49 : zd b8_at 49 (.getfield 25) 3 52 := ⟨by decide +kernel, rfl⟩
theorem d8_at_52 : zd b8_at 52 (.iload_n 3) 1 53 := ⟨by decide +kernel, rfl⟩
theorem d8_at_53 : zd b8_at 53 (.invokevirtual 214) 3 56 := ⟨by decide +kernel, rfl⟩
theorem d8_at_56 : zdb b8_at 56 (.goto 8) 8 59 64 := ⟨by decide +kernel, rfl, by decide⟩
theorem d8_at_59 : zd b8_at 59 (.aload_n 0) 1 60 := ⟨by decide +kernel, rfl⟩
theorem d8_at_60 : zd b8_at 60 (.iconst 2) 1 61 := ⟨by decide +kernel, rfl⟩
theorem d8_at_61 : zd b8_at 61 (.invokevirtual 67) 3 64 := ⟨by decide +kernel, rfl⟩
theorem d8_at_64 : zd b8_at 64 .ireturn 1 65 := ⟨by decide +kernel, rfl⟩
def f8_at (k : Nat) (x1 : Int32) (x2 : Int32) (x3 : Int32) (σ : ZS) : Option (Int32 × ZS) :=
  zbd (f8_isNoCell k x1 σ) fun r1 s1 =>
  if r1 = 0 then (
  zbd (f8_isNoWay k x2 s1) fun r3 s3 =>
  if r3 = 0 then (
  if 0 ≤ x3 then (
  zbd (f1_follow k 2 x1 x2 s3) fun _ s6 =>
  if (s6 83 2) ≤ x3 then (
  zbd (f8_error k (2 : Int32) s6) fun r8 s8 =>
  some (r8, s8))
  else (
  zbd (f1_cellAt k x3 s6) fun r9 s9 =>
  some (r9, s9)))
  else (
  zbd (f8_error k (1 : Int32) s3) fun r10 s10 =>
  some (r10, s10)))
  else (
  zbd (f8_error k (1 : Int32) s3) fun r11 s11 =>
  some (r11, s11)))
  else (
  zbd (f8_error k (1 : Int32) s1) fun r12 s12 =>
  some (r12, s12))
theorem c8_at (l : Launch) (g : ZG) {k : Nat} {x1 : Int32} {x2 : Int32} {x3 : Int32} {σ : ZS} {r : Int32} {σr : ZS} (hf : f8_at k x1 x2 x3 σ = some (r, σr)) : zT l g y8_at b8_at 4 (some .int) 5 153 [zr 1, zi x1, zi x2, zi x3] σ (some (zi r)) σr := by
  unfold f8_at at hf
  refine zT_start (own := R8) rfl (by decide +kernel) 0 (L := [some (zr 1), some (zi x1), some (zi x2), some (zi x3)]) rfl rfl (fun x hl C => ?_)
  subst hl
  refine z_iload_n C d8_at_0 rfl ?_
  obtain ⟨r1, s1, h1, hf⟩ := zbx hf
  refine z_callSi C (as := [zi x1]) d8_at_1 w_302 yy8_isNoCell (c8_isNoCell x.2.1 g h1) rfl rfl (Nat.le_of_ble_eq_true rfl) ⟨Nat.le_of_ble_eq_true rfl, Nat.le_of_ble_eq_true rfl⟩ ⟨Nat.zero_le _, Nat.zero_le _⟩ ?_
  refine z_if_ne C d8_at_4 (fun c2 => ?_) (fun c2 => ?_)
  · have hf := zit c2 hf
    refine z_iload_n C d8_at_7 rfl ?_
    obtain ⟨r3, s3, h3, hf⟩ := zbx hf
    refine z_callSi C (as := [zi x2]) d8_at_8 w_339 yy8_isNoWay (c8_isNoWay x.2.1 g h3) rfl rfl (Nat.le_of_ble_eq_true rfl) ⟨Nat.le_of_ble_eq_true rfl, Nat.le_of_ble_eq_true rfl⟩ ⟨Nat.zero_le _, Nat.zero_le _⟩ ?_
    refine z_if_ne C d8_at_11 (fun c4 => ?_) (fun c4 => ?_)
    · have hf := zit c4 hf
      refine z_iload_n C d8_at_14 rfl ?_
      refine z_if_ge C d8_at_15 (fun c5 => ?_) (fun c5 => ?_)
      · have hf := zit c5 hf
        refine z_aload_n C d8_at_24 rfl ?_
        refine z_getR C d8_at_25 fl_264 kZ_1 83 rfl (zn0 kZ_83) ?_
        refine z_aload_n C d8_at_28 rfl ?_
        refine z_getR C d8_at_29 fl_261 kZ_1 2 rfl (zn0 kZ_2) ?_
        refine z_iload_n C d8_at_32 rfl ?_
        refine z_iload_n C d8_at_33 rfl ?_
        obtain ⟨r6, s6, h6, hf⟩ := zbx hf
        refine z_callVv C (as := [zr 2, zi x1, zi x2]) d8_at_34 w_615 yy1_follow (c1_follow x.2.1 g h6) yc1_follow kZ_83 rfl rfl (Nat.le_of_ble_eq_true rfl) ⟨Nat.le_of_ble_eq_true rfl, Nat.le_of_ble_eq_true rfl⟩ ⟨Nat.zero_le _, Nat.zero_le _⟩ ?_
        refine z_iload_n C d8_at_37 rfl ?_
        refine z_aload_n C d8_at_38 rfl ?_
        refine z_getR C d8_at_39 fl_264 kZ_1 83 rfl (zn0 kZ_83) ?_
        refine z_getI C d8_at_42 fl_171 kZ_83 ?_
        refine z_icmp_ge C d8_at_45 (fun c7 => ?_) (fun c7 => ?_)
        · have hf := zit c7 hf
          refine z_aload_n C d8_at_59 rfl ?_
          refine z_iconst C (2 : Int32) d8_at_60 kI_2 ?_
          obtain ⟨r8, s8, h8, hf⟩ := zbx hf
          refine z_callVi C (as := [zi (2 : Int32)]) d8_at_61 w_308 yy8_error (c8_error x.2.1 g h8) yc8_error kZ_1 rfl rfl (Nat.le_of_ble_eq_true rfl) ⟨Nat.le_of_ble_eq_true rfl, Nat.le_of_ble_eq_true rfl⟩ ⟨Nat.zero_le _, Nat.zero_le _⟩ ?_
          exact z_iret C d8_at_64 hf
        · have hf := zie c7 hf
          refine z_aload_n C d8_at_48 rfl ?_
          refine z_getR C d8_at_49 fl_264 kZ_1 83 rfl (zn0 kZ_83) ?_
          refine z_iload_n C d8_at_52 rfl ?_
          obtain ⟨r9, s9, h9, hf⟩ := zbx hf
          refine z_callVi C (as := [zi x3]) d8_at_53 w_617 yy1_cellAt (c1_cellAt x.2.1 g h9) yc1_cellAt kZ_83 rfl rfl (Nat.le_of_ble_eq_true rfl) ⟨Nat.le_of_ble_eq_true rfl, Nat.le_of_ble_eq_true rfl⟩ ⟨Nat.zero_le _, Nat.zero_le _⟩ ?_
          refine z_goto C d8_at_56 ?_
          exact z_iret C d8_at_64 hf
      · have hf := zie c5 hf
        refine z_aload_n C d8_at_18 rfl ?_
        refine z_iconst C (1 : Int32) d8_at_19 kI_1 ?_
        obtain ⟨r10, s10, h10, hf⟩ := zbx hf
        refine z_callVi C (as := [zi (1 : Int32)]) d8_at_20 w_308 yy8_error (c8_error x.2.1 g h10) yc8_error kZ_1 rfl rfl (Nat.le_of_ble_eq_true rfl) ⟨Nat.le_of_ble_eq_true rfl, Nat.le_of_ble_eq_true rfl⟩ ⟨Nat.zero_le _, Nat.zero_le _⟩ ?_
        exact z_iret C d8_at_23 hf
    · have hf := zie c4 hf
      refine z_aload_n C d8_at_18 rfl ?_
      refine z_iconst C (1 : Int32) d8_at_19 kI_1 ?_
      obtain ⟨r11, s11, h11, hf⟩ := zbx hf
      refine z_callVi C (as := [zi (1 : Int32)]) d8_at_20 w_308 yy8_error (c8_error x.2.1 g h11) yc8_error kZ_1 rfl rfl (Nat.le_of_ble_eq_true rfl) ⟨Nat.le_of_ble_eq_true rfl, Nat.le_of_ble_eq_true rfl⟩ ⟨Nat.zero_le _, Nat.zero_le _⟩ ?_
      exact z_iret C d8_at_23 hf
  · have hf := zie c2 hf
    refine z_aload_n C d8_at_18 rfl ?_
    refine z_iconst C (1 : Int32) d8_at_19 kI_1 ?_
    obtain ⟨r12, s12, h12, hf⟩ := zbx hf
    refine z_callVi C (as := [zi (1 : Int32)]) d8_at_20 w_308 yy8_error (c8_error x.2.1 g h12) yc8_error kZ_1 rfl rfl (Nat.le_of_ble_eq_true rfl) ⟨Nat.le_of_ble_eq_true rfl, Nat.le_of_ble_eq_true rfl⟩ ⟨Nat.zero_le _, Nat.zero_le _⟩ ?_
    exact z_iret C d8_at_23 hf
theorem d8_isNoKm_0 : zd b8_isNoKm 0 (.iload_n 0) 1 1 := ⟨by decide +kernel, rfl⟩
theorem d8_isNoKm_1 : zdb b8_isNoKm 1 (.ifCond .lt 9) 9 4 10 := ⟨by decide +kernel, rfl, by decide⟩
theorem d8_isNoKm_4 : zd b8_isNoKm 4 (.iload_n 0) 1 5 := ⟨by decide +kernel, rfl⟩
theorem d8_isNoKm_5 : zd b8_isNoKm 5 (.bipush 69) 2 7 := ⟨by decide +kernel, rfl⟩
theorem d8_isNoKm_7 : zdb b8_isNoKm 7 (.if_icmp .le 7) 7 10 14 := ⟨by decide +kernel, rfl, by decide⟩
theorem d8_isNoKm_10 : zd b8_isNoKm 10 (.iconst 1) 1 11 := ⟨by decide +kernel, rfl⟩
theorem d8_isNoKm_11 : zdb b8_isNoKm 11 (.goto 4) 4 14 15 := ⟨by decide +kernel, rfl, by decide⟩
theorem d8_isNoKm_14 : zd b8_isNoKm 14 (.iconst 0) 1 15 := ⟨by decide +kernel, rfl⟩
theorem d8_isNoKm_15 : zd b8_isNoKm 15 .ireturn 1 16 := ⟨by decide +kernel, rfl⟩
def f8_isNoKm (k : Nat) (x0 : Int32) (σ : ZS) : Option (Int32 × ZS) :=
  if x0 < 0 then (
  some ((1 : Int32), σ))
  else (
  if x0 ≤ (69 : Int32) then (
  some ((0 : Int32), σ))
  else (
  some ((1 : Int32), σ)))
theorem c8_isNoKm (l : Launch) (g : ZG) {k : Nat} {x0 : Int32} {σ : ZS} {r : Int32} {σr : ZS} (hf : f8_isNoKm k x0 σ = some (r, σr)) : zT l g y8_isNoKm b8_isNoKm 1 (some .boolean) 1 60 [zi x0] σ (some (zi r)) σr := by
  unfold f8_isNoKm at hf
  refine zT_start (own := R8) rfl (by decide +kernel) 0 (L := [some (zi x0)]) rfl rfl (fun x hl C => ?_)
  subst hl
  refine z_iload_n C d8_isNoKm_0 rfl ?_
  refine z_if_lt C d8_isNoKm_1 (fun c1 => ?_) (fun c1 => ?_)
  · have hf := zit c1 hf
    refine z_iconst C (1 : Int32) d8_isNoKm_10 kI_1 ?_
    refine z_goto C d8_isNoKm_11 ?_
    exact z_zret C d8_isNoKm_15 (Or.inr rfl) hf
  · have hf := zie c1 hf
    refine z_iload_n C d8_isNoKm_4 rfl ?_
    refine z_bipush C (69 : Int32) d8_isNoKm_5 kB_69 ?_
    refine z_icmp_le C d8_isNoKm_7 (fun c2 => ?_) (fun c2 => ?_)
    · have hf := zit c2 hf
      refine z_iconst C (0 : Int32) d8_isNoKm_14 kI_0 ?_
      exact z_zret C d8_isNoKm_15 (Or.inl rfl) hf
    · have hf := zie c2 hf
      refine z_iconst C (1 : Int32) d8_isNoKm_10 kI_1 ?_
      refine z_goto C d8_isNoKm_11 ?_
      exact z_zret C d8_isNoKm_15 (Or.inr rfl) hf
theorem d8_become_0 : zd b8_become 0 (.aload_n 0) 1 1 := ⟨by decide +kernel, rfl⟩
theorem d8_become_1 : zd b8_become 1 (.getfield 10) 3 4 := ⟨by decide +kernel, rfl⟩
theorem d8_become_4 : zd b8_become 4 (.iload_n 1) 1 5 := ⟨by decide +kernel, rfl⟩
theorem d8_become_5 : zd b8_become 5 (.invokevirtual 82) 3 8 := ⟨by decide +kernel, rfl⟩
theorem d8_become_8 : zd b8_become 8 (.astore_n 3) 1 9 := ⟨by decide +kernel, rfl⟩
theorem d8_become_9 : zd b8_become 9 (.aload_n 3) 1 10 := ⟨by decide +kernel, rfl⟩
theorem d8_become_10 : zdb b8_become 10 (.ifnull 10) 10 13 20 := ⟨by decide +kernel, rfl, by decide⟩
theorem d8_become_13 : zd b8_become 13 (.iload_n 2) 1 14 := ⟨by decide +kernel, rfl⟩
theorem d8_become_14 : zd b8_become 14 (.invokestatic 57) 3 17 := ⟨by decide +kernel, rfl⟩
theorem d8_become_17 : zdb b8_become 17 (.ifCond .eq 9) 9 20 26 := ⟨by decide +kernel, rfl, by decide⟩
theorem d8_become_20 : zd b8_become 20 (.aload_n 0) 1 21 := ⟨by decide +kernel, rfl⟩
theorem d8_become_21 : zd b8_become 21 (.iconst 1) 1 22 := ⟨by decide +kernel, rfl⟩
theorem d8_become_22 : zd b8_become 22 (.invokevirtual 67) 3 25 := ⟨by decide +kernel, rfl⟩
theorem d8_become_25 : zd b8_become 25 .ireturn 1 26 := ⟨by decide +kernel, rfl⟩
theorem d8_become_26 : zd b8_become 26 (.aload_n 3) 1 27 := ⟨by decide +kernel, rfl⟩
theorem d8_become_27 : zd b8_become 27 (.getfield 86) 3 30 := ⟨by decide +kernel, rfl⟩
theorem d8_become_30 : zd b8_become 30 (.istore 4) 2 32 := ⟨by decide +kernel, rfl⟩
theorem d8_become_32 : zd b8_become 32 (.aload_n 3) 1 33 := ⟨by decide +kernel, rfl⟩
theorem d8_become_33 : zd b8_become 33 (.iload_n 2) 1 34 := ⟨by decide +kernel, rfl⟩
theorem d8_become_34 : zd b8_become 34 (.bipush 10) 2 36 := ⟨by decide +kernel, rfl⟩
theorem d8_become_36 : zd b8_become 36 .idiv 1 37 := ⟨by decide +kernel, rfl⟩
theorem d8_become_37 : zd b8_become 37 (.putfield 86) 3 40 := ⟨by decide +kernel, rfl⟩
theorem d8_become_40 : zd b8_become 40 (.aload_n 3) 1 41 := ⟨by decide +kernel, rfl⟩
theorem d8_become_41 : zd b8_become 41 (.iload_n 2) 1 42 := ⟨by decide +kernel, rfl⟩
theorem d8_become_42 : zd b8_become 42 (.bipush 10) 2 44 := ⟨by decide +kernel, rfl⟩
theorem d8_become_44 : zd b8_become 44 .irem 1 45 := ⟨by decide +kernel, rfl⟩
theorem d8_become_45 : zd b8_become 45 (.putfield 91) 3 48 := ⟨by decide +kernel, rfl⟩
theorem d8_become_48 : zd b8_become 48 (.iload 4) 2 50 := ⟨by decide +kernel, rfl⟩
theorem d8_become_50 : zd b8_become 50 .ireturn 1 51 := ⟨by decide +kernel, rfl⟩
def f8_become (k : Nat) (x1 : Int32) (x2 : Int32) (σ : ZS) : Option (Int32 × ZS) :=
  zbd (f5_glassOf k 2 x1 σ) fun r1 s1 =>
  if r1 = 0 then (
  zbd (f8_error k (1 : Int32) s1) fun r3 s3 =>
  some (r3, s3))
  else (
  zbd (f8_isNoKm k x2 s1) fun r4 s4 =>
  if r4 = 0 then (
  if zsh r1 = 1 then (
  zput (zu s4 r1 0 (x2 / (10 : Int32))) fun s7 =>
  zput (zu s7 r1 1 (x2 % (10 : Int32))) fun s8 =>
  some ((s4 r1 0), s8)) else none)
  else (
  zbd (f8_error k (1 : Int32) s4) fun r9 s9 =>
  some (r9, s9)))
theorem c8_become (l : Launch) (g : ZG) {k : Nat} {x1 : Int32} {x2 : Int32} {σ : ZS} {r : Int32} {σr : ZS} (hf : f8_become k x1 x2 σ = some (r, σr)) : zT l g y8_become b8_become 5 (some .int) 2 81 [zr 1, zi x1, zi x2] σ (some (zi r)) σr := by
  unfold f8_become at hf
  refine zT_start (own := R8) rfl (by decide +kernel) 2 (L := [some (zr 1), some (zi x1), some (zi x2), none, none]) rfl rfl (fun x hl C => ?_)
  subst hl
  refine z_aload_n C d8_become_0 rfl ?_
  refine z_getR C d8_become_1 fl_261 kZ_1 2 rfl (zn0 kZ_2) ?_
  refine z_iload_n C d8_become_4 rfl ?_
  obtain ⟨r1, s1, h1, hf⟩ := zbx hf
  refine z_callVr C (as := [zi x1]) d8_become_5 w_334 yy5_glassOf (c5_glassOf x.2.1 g h1) yc5_glassOf kZ_2 rfl rfl (Nat.le_of_ble_eq_true rfl) ⟨Nat.le_of_ble_eq_true rfl, Nat.le_of_ble_eq_true rfl⟩ ⟨Nat.zero_le _, Nat.zero_le _⟩ ?_
  refine z_astore_n C d8_become_8 (Nat.le_of_ble_eq_true rfl) rfl (L' := [some (zr 1), some (zi x1), some (zi x2), some (zr r1), none]) rfl ?_
  refine z_aload_n C d8_become_9 rfl ?_
  refine z_ifnull C d8_become_10 (fun c2 => ?_) (fun c2 => ?_)
  · have hf := zit c2 hf
    refine z_aload_n C d8_become_20 rfl ?_
    refine z_iconst C (1 : Int32) d8_become_21 kI_1 ?_
    obtain ⟨r3, s3, h3, hf⟩ := zbx hf
    refine z_callVi C (as := [zi (1 : Int32)]) d8_become_22 w_308 yy8_error (c8_error x.2.1 g h3) yc8_error kZ_1 rfl rfl (Nat.le_of_ble_eq_true rfl) ⟨Nat.le_of_ble_eq_true rfl, Nat.le_of_ble_eq_true rfl⟩ ⟨Nat.zero_le _, Nat.zero_le _⟩ ?_
    exact z_iret C d8_become_25 hf
  · have hf := zie c2 hf
    refine z_iload_n C d8_become_13 rfl ?_
    obtain ⟨r4, s4, h4, hf⟩ := zbx hf
    refine z_callSi C (as := [zi x2]) d8_become_14 w_299 yy8_isNoKm (c8_isNoKm x.2.1 g h4) rfl rfl (Nat.le_of_ble_eq_true rfl) ⟨Nat.le_of_ble_eq_true rfl, Nat.le_of_ble_eq_true rfl⟩ ⟨Nat.zero_le _, Nat.zero_le _⟩ ?_
    refine z_if_eq C d8_become_17 (fun c5 => ?_) (fun c5 => ?_)
    · have hf := zit c5 hf
      refine z_aload_n C d8_become_26 rfl ?_
      obtain ⟨g6, hf⟩ := zgo hf
      refine z_getI C d8_become_27 fl_48 g6 ?_
      refine z_istore C d8_become_30 (Nat.le_of_ble_eq_true rfl) rfl (L' := [some (zr 1), some (zi x1), some (zi x2), some (zr r1), some (zi (s4 r1 0))]) rfl ?_
      refine z_aload_n C d8_become_32 rfl ?_
      refine z_iload_n C d8_become_33 rfl ?_
      refine z_bipush C (10 : Int32) d8_become_34 kB_10 ?_
      refine z_idiv C d8_become_36 (by decide) ?_
      obtain ⟨s7, e7, hf⟩ := zpx hf
      refine z_putI C d8_become_37 fl_48 ft_0_0 g6 e7 ?_
      refine z_aload_n C d8_become_40 rfl ?_
      refine z_iload_n C d8_become_41 rfl ?_
      refine z_bipush C (10 : Int32) d8_become_42 kB_10 ?_
      refine z_irem C d8_become_44 (by decide) ?_
      obtain ⟨s8, e8, hf⟩ := zpx hf
      refine z_putI C d8_become_45 fl_52 ft_0_1 g6 e8 ?_
      refine z_iload C d8_become_48 rfl ?_
      exact z_iret C d8_become_50 hf
    · have hf := zie c5 hf
      refine z_aload_n C d8_become_20 rfl ?_
      refine z_iconst C (1 : Int32) d8_become_21 kI_1 ?_
      obtain ⟨r9, s9, h9, hf⟩ := zbx hf
      refine z_callVi C (as := [zi (1 : Int32)]) d8_become_22 w_308 yy8_error (c8_error x.2.1 g h9) yc8_error kZ_1 rfl rfl (Nat.le_of_ble_eq_true rfl) ⟨Nat.le_of_ble_eq_true rfl, Nat.le_of_ble_eq_true rfl⟩ ⟨Nat.zero_le _, Nat.zero_le _⟩ ?_
      exact z_iret C d8_become_25 hf
theorem d7_tracedAt_0 : zd b7_tracedAt 0 (.iload_n 1) 1 1 := ⟨by decide +kernel, rfl⟩
theorem d7_tracedAt_1 : zdb b7_tracedAt 1 (.ifCond .lt 20) 20 4 21 := ⟨by decide +kernel, rfl, by decide⟩
theorem d7_tracedAt_4 : zd b7_tracedAt 4 (.iload_n 1) 1 5 := ⟨by decide +kernel, rfl⟩
theorem d7_tracedAt_5 : zd b7_tracedAt 5 (.aload_n 0) 1 6 := ⟨by decide +kernel, rfl⟩
theorem d7_tracedAt_6 : zd b7_tracedAt 6 (.getfield 29) 3 9 := ⟨by decide +kernel, rfl⟩
theorem d7_tracedAt_9 : zdb b7_tracedAt 9 (.if_icmp .ge 12) 12 12 21 := ⟨by decide +kernel, rfl, by decide⟩
theorem d7_tracedAt_12 : zd b7_tracedAt 12 (.iload_n 1) 1 13 := ⟨by decide +kernel, rfl⟩
theorem d7_tracedAt_13 : zd b7_tracedAt 13 (.aload_n 0) 1 14 := ⟨by decide +kernel, rfl⟩
theorem d7_tracedAt_14 : zd b7_tracedAt 14 (.getfield 11) 3 17 := ⟨by decide +kernel, rfl⟩
theorem d7_tracedAt_17 : zd b7_tracedAt 17 .arraylength 1 18 := ⟨by decide +kernel, rfl⟩
theorem d7_tracedAt_18 : zdb b7_tracedAt 18 (.if_icmp .lt 7) 7 21 25 := ⟨by decide +kernel, rfl, by decide⟩
theorem d7_tracedAt_21 : zd b7_tracedAt 21 (.iconst 0) 1 22 := ⟨by decide +kernel, rfl⟩
theorem d7_tracedAt_22 : zdb b7_tracedAt 22 (.goto 9) 9 25 31 := ⟨by decide +kernel, rfl, by decide⟩
theorem d7_tracedAt_25 : zd b7_tracedAt 25 (.aload_n 0) 1 26 := ⟨by decide +kernel, rfl⟩
theorem d7_tracedAt_26 : zd b7_tracedAt 26 (.getfield 11) 3 29 := ⟨by decide +kernel, rfl⟩
theorem d7_tracedAt_29 : zd b7_tracedAt 29 (.iload_n 1) 1 30 := ⟨by decide +kernel, rfl⟩
theorem d7_tracedAt_30 : zd b7_tracedAt 30 .iaload 1 31 := ⟨by decide +kernel, rfl⟩
theorem d7_tracedAt_31 : zd b7_tracedAt 31 .ireturn 1 32 := ⟨by decide +kernel, rfl⟩
def f7_tracedAt (k : Nat) (x1 : Int32) (σ : ZS) : Option (Int32 × ZS) :=
  if x1 < 0 then (
  some ((0 : Int32), σ))
  else (
  if (σ 90 1) ≤ x1 then (
  some ((0 : Int32), σ))
  else (
  if x1 < (30 : Int32) then (
  if zin x1 30 then (
  some ((σ 91 x1.toNatClampNeg), σ)) else none)
  else (
  some ((0 : Int32), σ))))
theorem c7_tracedAt (l : Launch) (g : ZG) {k : Nat} {x1 : Int32} {σ : ZS} {r : Int32} {σr : ZS} (hf : f7_tracedAt k x1 σ = some (r, σr)) : zT l g y7_tracedAt b7_tracedAt 2 (some .int) 1 60 [zr 90, zi x1] σ (some (zi r)) σr := by
  unfold f7_tracedAt at hf
  refine zT_start (own := R7) rfl (by decide +kernel) 0 (L := [some (zr 90), some (zi x1)]) rfl rfl (fun x hl C => ?_)
  subst hl
  refine z_iload_n C d7_tracedAt_0 rfl ?_
  refine z_if_lt C d7_tracedAt_1 (fun c1 => ?_) (fun c1 => ?_)
  · have hf := zit c1 hf
    refine z_iconst C (0 : Int32) d7_tracedAt_21 kI_0 ?_
    refine z_goto C d7_tracedAt_22 ?_
    exact z_iret C d7_tracedAt_31 hf
  · have hf := zie c1 hf
    refine z_iload_n C d7_tracedAt_4 rfl ?_
    refine z_aload_n C d7_tracedAt_5 rfl ?_
    refine z_getI C d7_tracedAt_6 fl_221 kZ_90 ?_
    refine z_icmp_ge C d7_tracedAt_9 (fun c2 => ?_) (fun c2 => ?_)
    · have hf := zit c2 hf
      refine z_iconst C (0 : Int32) d7_tracedAt_21 kI_0 ?_
      refine z_goto C d7_tracedAt_22 ?_
      exact z_iret C d7_tracedAt_31 hf
    · have hf := zie c2 hf
      refine z_iload_n C d7_tracedAt_12 rfl ?_
      refine z_aload_n C d7_tracedAt_13 rfl ?_
      refine z_getR C d7_tracedAt_14 fl_220 kZ_90 91 rfl (zn0 kZ_91) ?_
      refine z_alen C (30 : Int32) d7_tracedAt_17 kZ_91 kL_91 kO_30 ?_
      refine z_icmp_lt C d7_tracedAt_18 (fun c3 => ?_) (fun c3 => ?_)
      · have hf := zit c3 hf
        refine z_aload_n C d7_tracedAt_25 rfl ?_
        refine z_getR C d7_tracedAt_26 fl_220 kZ_90 91 rfl (zn0 kZ_91) ?_
        refine z_iload_n C d7_tracedAt_29 rfl ?_
        obtain ⟨g4, hf⟩ := zgo hf
        refine z_iald C d7_tracedAt_30 kZ_91 kL_91 g4 (x1.toNatClampNeg) rfl ?_
        exact z_iret C d7_tracedAt_31 hf
      · have hf := zie c3 hf
        refine z_iconst C (0 : Int32) d7_tracedAt_21 kI_0 ?_
        refine z_goto C d7_tracedAt_22 ?_
        exact z_iret C d7_tracedAt_31 hf
theorem d8_body_0 : zd b8_body 0 (.iload_n 1) 1 1 := ⟨by decide +kernel, rfl⟩
theorem d8_body_1 : zdb b8_body 1 (.ifCond .lt 14) 14 4 15 := ⟨by decide +kernel, rfl, by decide⟩
theorem d8_body_4 : zd b8_body 4 (.iload_n 1) 1 5 := ⟨by decide +kernel, rfl⟩
theorem d8_body_5 : zd b8_body 5 (.aload_n 0) 1 6 := ⟨by decide +kernel, rfl⟩
theorem d8_body_6 : zd b8_body 6 (.getfield 39) 3 9 := ⟨by decide +kernel, rfl⟩
theorem d8_body_9 : zd b8_body 9 (.getfield 251) 3 12 := ⟨by decide +kernel, rfl⟩
theorem d8_body_12 : zdb b8_body 12 (.if_icmp .lt 9) 9 15 21 := ⟨by decide +kernel, rfl, by decide⟩
theorem d8_body_15 : zd b8_body 15 (.aload_n 0) 1 16 := ⟨by decide +kernel, rfl⟩
theorem d8_body_16 : zd b8_body 16 (.iconst 2) 1 17 := ⟨by decide +kernel, rfl⟩
theorem d8_body_17 : zd b8_body 17 (.invokevirtual 67) 3 20 := ⟨by decide +kernel, rfl⟩
theorem d8_body_20 : zd b8_body 20 .ireturn 1 21 := ⟨by decide +kernel, rfl⟩
theorem d8_body_21 : zd b8_body 21 (.aload_n 0) 1 22 := ⟨by decide +kernel, rfl⟩
theorem d8_body_22 : zd b8_body 22 (.getfield 39) 3 25 := ⟨by decide +kernel, rfl⟩
theorem d8_body_25 : zd b8_body 25 (.iload_n 1) 1 26 := ⟨by decide +kernel, rfl⟩
theorem d8_body_26 : zd b8_body 26 (.invokevirtual 254) 3 29 := ⟨by decide +kernel, rfl⟩
theorem d8_body_29 : zd b8_body 29 .ireturn 1 30 := ⟨by decide +kernel, rfl⟩
def f8_body (k : Nat) (x1 : Int32) (σ : ZS) : Option (Int32 × ZS) :=
  if x1 < 0 then (
  zbd (f8_error k (2 : Int32) σ) fun r2 s2 =>
  some (r2, s2))
  else (
  if x1 < (σ 90 1) then (
  zbd (f7_tracedAt k x1 σ) fun r4 s4 =>
  some (r4, s4))
  else (
  zbd (f8_error k (2 : Int32) σ) fun r5 s5 =>
  some (r5, s5)))
theorem c8_body (l : Launch) (g : ZG) {k : Nat} {x1 : Int32} {σ : ZS} {r : Int32} {σr : ZS} (hf : f8_body k x1 σ = some (r, σr)) : zT l g y8_body b8_body 2 (some .int) 2 81 [zr 1, zi x1] σ (some (zi r)) σr := by
  unfold f8_body at hf
  refine zT_start (own := R8) rfl (by decide +kernel) 0 (L := [some (zr 1), some (zi x1)]) rfl rfl (fun x hl C => ?_)
  subst hl
  refine z_iload_n C d8_body_0 rfl ?_
  refine z_if_lt C d8_body_1 (fun c1 => ?_) (fun c1 => ?_)
  · have hf := zit c1 hf
    refine z_aload_n C d8_body_15 rfl ?_
    refine z_iconst C (2 : Int32) d8_body_16 kI_2 ?_
    obtain ⟨r2, s2, h2, hf⟩ := zbx hf
    refine z_callVi C (as := [zi (2 : Int32)]) d8_body_17 w_308 yy8_error (c8_error x.2.1 g h2) yc8_error kZ_1 rfl rfl (Nat.le_of_ble_eq_true rfl) ⟨Nat.le_of_ble_eq_true rfl, Nat.le_of_ble_eq_true rfl⟩ ⟨Nat.zero_le _, Nat.zero_le _⟩ ?_
    exact z_iret C d8_body_20 hf
  · have hf := zie c1 hf
    refine z_iload_n C d8_body_4 rfl ?_
    refine z_aload_n C d8_body_5 rfl ?_
    refine z_getR C d8_body_6 fl_266 kZ_1 90 rfl (zn0 kZ_90) ?_
    refine z_getI C d8_body_9 fl_222 kZ_90 ?_
    refine z_icmp_lt C d8_body_12 (fun c3 => ?_) (fun c3 => ?_)
    · have hf := zit c3 hf
      refine z_aload_n C d8_body_21 rfl ?_
      refine z_getR C d8_body_22 fl_266 kZ_1 90 rfl (zn0 kZ_90) ?_
      refine z_iload_n C d8_body_25 rfl ?_
      obtain ⟨r4, s4, h4, hf⟩ := zbx hf
      refine z_callVi C (as := [zi x1]) d8_body_26 w_741 yy7_tracedAt (c7_tracedAt x.2.1 g h4) yc7_tracedAt kZ_90 rfl rfl (Nat.le_of_ble_eq_true rfl) ⟨Nat.le_of_ble_eq_true rfl, Nat.le_of_ble_eq_true rfl⟩ ⟨Nat.zero_le _, Nat.zero_le _⟩ ?_
      exact z_iret C d8_body_29 hf
    · have hf := zie c3 hf
      refine z_aload_n C d8_body_15 rfl ?_
      refine z_iconst C (2 : Int32) d8_body_16 kI_2 ?_
      obtain ⟨r5, s5, h5, hf⟩ := zbx hf
      refine z_callVi C (as := [zi (2 : Int32)]) d8_body_17 w_308 yy8_error (c8_error x.2.1 g h5) yc8_error kZ_1 rfl rfl (Nat.le_of_ble_eq_true rfl) ⟨Nat.le_of_ble_eq_true rfl, Nat.le_of_ble_eq_true rfl⟩ ⟨Nat.zero_le _, Nat.zero_le _⟩ ?_
      exact z_iret C d8_body_20 hf
theorem d5_personOf_0 : zd b5_personOf 0 (.iload_n 1) 1 1 := ⟨by decide +kernel, rfl⟩
theorem d5_personOf_1 : zdb b5_personOf 1 (.ifCond .lt 20) 20 4 21 := ⟨by decide +kernel, rfl, by decide⟩
theorem d5_personOf_4 : zd b5_personOf 4 (.iload_n 1) 1 5 := ⟨by decide +kernel, rfl⟩
theorem d5_personOf_5 : zd b5_personOf 5 (.aload_n 0) 1 6 := ⟨by decide +kernel, rfl⟩
theorem d5_personOf_6 : zd b5_personOf 6 (.getfield 71) 3 9 := ⟨by decide +kernel, rfl⟩
theorem d5_personOf_9 : zdb b5_personOf 9 (.if_icmp .ge 12) 12 12 21 := ⟨by decide +kernel, rfl, by decide⟩
theorem d5_personOf_12 : zd b5_personOf 12 (.iload_n 1) 1 13 := ⟨by decide +kernel, rfl⟩
theorem d5_personOf_13 : zd b5_personOf 13 (.aload_n 0) 1 14 := ⟨by decide +kernel, rfl⟩
theorem d5_personOf_14 : zd b5_personOf 14 (.getfield 19) 3 17 := ⟨by decide +kernel, rfl⟩
theorem d5_personOf_17 : zd b5_personOf 17 .arraylength 1 18 := ⟨by decide +kernel, rfl⟩
theorem d5_personOf_18 : zdb b5_personOf 18 (.if_icmp .lt 5) 5 21 23 := ⟨by decide +kernel, rfl, by decide⟩
theorem d5_personOf_21 : zd b5_personOf 21 .aconst_null 1 22 := ⟨by decide +kernel, rfl⟩
theorem d5_personOf_22 : zd b5_personOf 22 .areturn 1 23 := ⟨by decide +kernel, rfl⟩
theorem d5_personOf_23 : zd b5_personOf 23 (.aload_n 0) 1 24 := ⟨by decide +kernel, rfl⟩
theorem d5_personOf_24 : zd b5_personOf 24 (.getfield 19) 3 27 := ⟨by decide +kernel, rfl⟩
theorem d5_personOf_27 : zd b5_personOf 27 (.iload_n 1) 1 28 := ⟨by decide +kernel, rfl⟩
theorem d5_personOf_28 : zd b5_personOf 28 .aaload 1 29 := ⟨by decide +kernel, rfl⟩
theorem d5_personOf_29 : zd b5_personOf 29 .areturn 1 30 := ⟨by decide +kernel, rfl⟩
def f5_personOf (k : Nat) (t : Nat) (x1 : Int32) (σ : ZS) : Option (Nat × ZS) :=
  if zsh t = 6 then (
  if x1 < 0 then (
  some (0, σ))
  else (
  if (σ t 7) ≤ x1 then (
  some (0, σ))
  else (
  if x1 < (6 : Int32) then (
  if zin x1 6 then (
  some ((t + 15 + x1.toNatClampNeg), σ)) else none)
  else (
  some (0, σ))))) else none
theorem c5_personOf (l : Launch) (g : ZG) {k : Nat} {t : Nat} {x1 : Int32} {σ : ZS} {r : Nat} {σr : ZS} (hf : f5_personOf k t x1 σ = some (r, σr)) : zT l g y5_personOf b5_personOf 2 (some (.object "GlassTax$Person")) 1 60 [zr t, zi x1] σ (some (zr r)) σr := by
  unfold f5_personOf at hf
  obtain ⟨ht, hf⟩ := zgo hf
  refine zT_start (own := R5) rfl (by decide +kernel) 0 (L := [some (zr t), some (zi x1)]) rfl rfl (fun x hl C => ?_)
  subst hl
  refine z_iload_n C d5_personOf_0 rfl ?_
  refine z_if_lt C d5_personOf_1 (fun c1 => ?_) (fun c1 => ?_)
  · have hf := zit c1 hf
    refine z_null C d5_personOf_21 ?_
    exact z_aret C d5_personOf_22 hf
  · have hf := zie c1 hf
    refine z_iload_n C d5_personOf_4 rfl ?_
    refine z_aload_n C d5_personOf_5 rfl ?_
    refine z_getI C d5_personOf_6 fl_127 ht ?_
    refine z_icmp_ge C d5_personOf_9 (fun c2 => ?_) (fun c2 => ?_)
    · have hf := zit c2 hf
      refine z_null C d5_personOf_21 ?_
      exact z_aret C d5_personOf_22 hf
    · have hf := zie c2 hf
      refine z_iload_n C d5_personOf_12 rfl ?_
      refine z_aload_n C d5_personOf_13 rfl ?_
      refine z_getR C d5_personOf_14 fl_119 ht (t + 2) rfl (zn0 (zD6_2 ht)) ?_
      refine z_alenR C (6 : Int32) d5_personOf_17 (zD6_2 ht) (by decide) (by decide) kO_6 ?_
      refine z_icmp_lt C d5_personOf_18 (fun c3 => ?_) (fun c3 => ?_)
      · have hf := zit c3 hf
        refine z_aload_n C d5_personOf_23 rfl ?_
        refine z_getR C d5_personOf_24 fl_119 ht (t + 2) rfl (zn0 (zD6_2 ht)) ?_
        refine z_iload_n C d5_personOf_27 rfl ?_
        obtain ⟨g4, hf⟩ := zgo hf
        refine z_aald C d5_personOf_28 (zD6_2 ht) (by decide) (by decide) g4 (t + 15 + x1.toNatClampNeg) (by show (t + 2) + 13 + 1 * x1.toNatClampNeg = (t + 15 + x1.toNatClampNeg); omega) (zn0 (zE12 ht g4)) ?_
        exact z_aret C d5_personOf_29 hf
      · have hf := zie c3 hf
        refine z_null C d5_personOf_21 ?_
        exact z_aret C d5_personOf_22 hf
theorem d5_waitingAt_0 : zd b5_waitingAt 0 (.iload_n 1) 1 1 := ⟨by decide +kernel, rfl⟩
theorem d5_waitingAt_1 : zdb b5_waitingAt 1 (.ifCond .lt 12) 12 4 13 := ⟨by decide +kernel, rfl, by decide⟩
theorem d5_waitingAt_4 : zd b5_waitingAt 4 (.iload_n 1) 1 5 := ⟨by decide +kernel, rfl⟩
theorem d5_waitingAt_5 : zd b5_waitingAt 5 (.aload_n 0) 1 6 := ⟨by decide +kernel, rfl⟩
theorem d5_waitingAt_6 : zd b5_waitingAt 6 (.getfield 36) 3 9 := ⟨by decide +kernel, rfl⟩
theorem d5_waitingAt_9 : zd b5_waitingAt 9 .arraylength 1 10 := ⟨by decide +kernel, rfl⟩
theorem d5_waitingAt_10 : zdb b5_waitingAt 10 (.if_icmp .lt 7) 7 13 17 := ⟨by decide +kernel, rfl, by decide⟩
theorem d5_waitingAt_13 : zd b5_waitingAt 13 (.iconst 0) 1 14 := ⟨by decide +kernel, rfl⟩
theorem d5_waitingAt_14 : zdb b5_waitingAt 14 (.goto 9) 9 17 23 := ⟨by decide +kernel, rfl, by decide⟩
theorem d5_waitingAt_17 : zd b5_waitingAt 17 (.aload_n 0) 1 18 := ⟨by decide +kernel, rfl⟩
theorem d5_waitingAt_18 : zd b5_waitingAt 18 (.getfield 36) 3 21 := ⟨by decide +kernel, rfl⟩
theorem d5_waitingAt_21 : zd b5_waitingAt 21 (.iload_n 1) 1 22 := ⟨by decide +kernel, rfl⟩
theorem d5_waitingAt_22 : zd b5_waitingAt 22 .iaload 1 23 := ⟨by decide +kernel, rfl⟩
theorem d5_waitingAt_23 : zd b5_waitingAt 23 .ireturn 1 24 := ⟨by decide +kernel, rfl⟩
def f5_waitingAt (k : Nat) (t : Nat) (x1 : Int32) (σ : ZS) : Option (Int32 × ZS) :=
  if zsh t = 6 then (
  if x1 < 0 then (
  some ((0 : Int32), σ))
  else (
  if x1 < (24 : Int32) then (
  if zin x1 24 then (
  some ((σ (t + 6) x1.toNatClampNeg), σ)) else none)
  else (
  some ((0 : Int32), σ)))) else none
theorem c5_waitingAt (l : Launch) (g : ZG) {k : Nat} {t : Nat} {x1 : Int32} {σ : ZS} {r : Int32} {σr : ZS} (hf : f5_waitingAt k t x1 σ = some (r, σr)) : zT l g y5_waitingAt b5_waitingAt 2 (some .int) 1 60 [zr t, zi x1] σ (some (zi r)) σr := by
  unfold f5_waitingAt at hf
  obtain ⟨ht, hf⟩ := zgo hf
  refine zT_start (own := R5) rfl (by decide +kernel) 0 (L := [some (zr t), some (zi x1)]) rfl rfl (fun x hl C => ?_)
  subst hl
  refine z_iload_n C d5_waitingAt_0 rfl ?_
  refine z_if_lt C d5_waitingAt_1 (fun c1 => ?_) (fun c1 => ?_)
  · have hf := zit c1 hf
    refine z_iconst C (0 : Int32) d5_waitingAt_13 kI_0 ?_
    refine z_goto C d5_waitingAt_14 ?_
    exact z_iret C d5_waitingAt_23 hf
  · have hf := zie c1 hf
    refine z_iload_n C d5_waitingAt_4 rfl ?_
    refine z_aload_n C d5_waitingAt_5 rfl ?_
    refine z_getR C d5_waitingAt_6 fl_124 ht (t + 6) rfl (zn0 (zD6_6 ht)) ?_
    refine z_alen C (24 : Int32) d5_waitingAt_9 (zD6_6 ht) (zN6_6 ht) kO_24 ?_
    refine z_icmp_lt C d5_waitingAt_10 (fun c2 => ?_) (fun c2 => ?_)
    · have hf := zit c2 hf
      refine z_aload_n C d5_waitingAt_17 rfl ?_
      refine z_getR C d5_waitingAt_18 fl_124 ht (t + 6) rfl (zn0 (zD6_6 ht)) ?_
      refine z_iload_n C d5_waitingAt_21 rfl ?_
      obtain ⟨g3, hf⟩ := zgo hf
      refine z_iald C d5_waitingAt_22 (zD6_6 ht) (zN6_6 ht) g3 (x1.toNatClampNeg) rfl ?_
      exact z_iret C d5_waitingAt_23 hf
    · have hf := zie c2 hf
      refine z_iconst C (0 : Int32) d5_waitingAt_13 kI_0 ?_
      refine z_goto C d5_waitingAt_14 ?_
      exact z_iret C d5_waitingAt_23 hf
theorem d8_check_0 : zd b8_check 0 (.aload_n 0) 1 1 := ⟨by decide +kernel, rfl⟩
theorem d8_check_1 : zd b8_check 1 (.getfield 10) 3 4 := ⟨by decide +kernel, rfl⟩
theorem d8_check_4 : zd b8_check 4 (.getfield 286) 3 7 := ⟨by decide +kernel, rfl⟩
theorem d8_check_7 : zd b8_check 7 (.istore_n 1) 1 8 := ⟨by decide +kernel, rfl⟩
theorem d8_check_8 : zd b8_check 8 (.aload_n 0) 1 9 := ⟨by decide +kernel, rfl⟩
theorem d8_check_9 : zd b8_check 9 (.getfield 10) 3 12 := ⟨by decide +kernel, rfl⟩
theorem d8_check_12 : zd b8_check 12 (.iconst 0) 1 13 := ⟨by decide +kernel, rfl⟩
theorem d8_check_13 : zd b8_check 13 (.putfield 286) 3 16 := ⟨by decide +kernel, rfl⟩
theorem d8_check_16 : zd b8_check 16 (.iconst 0) 1 17 := ⟨by decide +kernel, rfl⟩
theorem d8_check_17 : zd b8_check 17 (.istore_n 2) 1 18 := ⟨by decide +kernel, rfl⟩
theorem d8_check_18 : zd b8_check 18 (.iload_n 2) 1 19 := ⟨by decide +kernel, rfl⟩
theorem d8_check_19 : zd b8_check 19 (.iload_n 1) 1 20 := ⟨by decide +kernel, rfl⟩
theorem d8_check_20 : zdb b8_check 20 (.if_icmp .ge 41) 41 23 61 := ⟨by decide +kernel, rfl, by decide⟩
theorem d8_check_23 : zd b8_check 23 (.aload_n 0) 1 24 := ⟨by decide +kernel, rfl⟩
theorem d8_check_24 : zd b8_check 24 (.getfield 10) 3 27 := ⟨by decide +kernel, rfl⟩
theorem d8_check_27 : zd b8_check 27 (.iload_n 2) 1 28 := ⟨by decide +kernel, rfl⟩
theorem d8_check_28 : zd b8_check 28 (.invokevirtual 128) 3 31 := ⟨by decide +kernel, rfl⟩
theorem d8_check_31 : zd b8_check 31 (.astore_n 3) 1 32 := ⟨by decide +kernel, rfl⟩
theorem d8_check_32 : zd b8_check 32 (.aload_n 3) 1 33 := ⟨by decide +kernel, rfl⟩
theorem d8_check_33 : zdb b8_check 33 (.ifnull 18) 18 36 51 := ⟨by decide +kernel, rfl, by decide⟩
theorem d8_check_36 : zd b8_check 36 (.aload_n 3) 1 37 := ⟨by decide +kernel, rfl⟩
theorem d8_check_37 : zd b8_check 37 (.getfield 138) 3 40 := ⟨by decide +kernel, rfl⟩
theorem d8_check_40 : zd b8_check 40 (.aload_n 0) 1 41 := ⟨by decide +kernel, rfl⟩
theorem d8_check_41 : zd b8_check 41 (.getfield 10) 3 44 := ⟨by decide +kernel, rfl⟩
theorem d8_check_44 : zd b8_check 44 (.iload_n 2) 1 45 := ⟨by decide +kernel, rfl⟩
theorem d8_check_45 : zd b8_check 45 (.invokevirtual 292) 3 48 := ⟨by decide +kernel, rfl⟩
theorem d8_check_48 : zdb b8_check 48 (.if_icmp .eq 7) 7 51 55 := ⟨by decide +kernel, rfl, by decide⟩
theorem d8_check_51 : zd b8_check 51 (.iconst 1) 1 52 := ⟨by decide +kernel, rfl⟩
theorem d8_check_52 : zd b8_check 52 (.iload_n 2) 1 53 := ⟨by decide +kernel, rfl⟩
theorem d8_check_53 : zd b8_check 53 .iadd 1 54 := ⟨by decide +kernel, rfl⟩
theorem d8_check_54 : zd b8_check 54 .ireturn 1 55 := ⟨by decide +kernel, rfl⟩
theorem d8_check_55 : zd b8_check 55 (.iinc 2 1) 3 58 := ⟨by decide +kernel, rfl⟩
theorem d8_check_58 : zdb b8_check 58 (.goto (-40)) (-40) 61 18 := ⟨by decide +kernel, rfl, by decide⟩
theorem d8_check_61 : zd b8_check 61 (.iconst 0) 1 62 := ⟨by decide +kernel, rfl⟩
theorem d8_check_62 : zd b8_check 62 .ireturn 1 63 := ⟨by decide +kernel, rfl⟩
def b8_check_18 (k : Nat) (q18 : Int32 → Int32 → ZS → Option (Int32 × ZS)) (x1 : Int32) (x2 : Int32) (σ : ZS) : Option (Int32 × ZS) :=
  if x1 ≤ x2 then (
  some ((0 : Int32), σ))
  else (
  zbd (f5_personOf k 2 x2 σ) fun r2 s2 =>
  if r2 = 0 then (
  some (((1 : Int32) + x2), s2))
  else (
  if zsh r2 = 3 then (
  zbd (f5_waitingAt k 2 x2 s2) fun r5 s5 =>
  if (s2 r2 2) = r5 then (
  q18 x1 (x2 + (1 : Int32)) s5)
  else (
  some (((1 : Int32) + x2), s5))) else none))
def f8_check_18 (k : Nat) : Nat → Int32 → Int32 → ZS → Option (Int32 × ZS)
  | 0 => fun _ _ _ => none
  | n + 1 => b8_check_18 k  (f8_check_18 k  n)
theorem j8_check_18 {x : ZX} {g : ZG} (C : zC x g b8_check R8 (some .int) 4 2 81) {k : Nat} {r : Int32} {σr : ZS}  {q18 : Int32 → Int32 → ZS → Option (Int32 × ZS)} (hq18 : (∀ (x1 : Int32) (x2 : Int32) (σ : ZS), q18 x1 x2 σ = some (r, σr) → zw x g 4 0 0 (zMQ x g (some (zi r)) σr) σ 18 [some (zr 1), some (zi x1), some (zi x2), none] [])) {x1 : Int32} {x2 : Int32} {σ : ZS} (hf : b8_check_18 k q18 x1 x2 σ = some (r, σr)) : zw x g 4 0 0 (zMQ x g (some (zi r)) σr) σ 18 [some (zr 1), some (zi x1), some (zi x2), none] [] := by
  unfold b8_check_18 at hf
  refine z_iload_n C d8_check_18 rfl ?_
  refine z_iload_n C d8_check_19 rfl ?_
  refine z_icmp_ge C d8_check_20 (fun c1 => ?_) (fun c1 => ?_)
  · have hf := zit c1 hf
    refine z_iconst C (0 : Int32) d8_check_61 kI_0 ?_
    exact z_iret C d8_check_62 hf
  · have hf := zie c1 hf
    refine z_aload_n C d8_check_23 rfl ?_
    refine z_getR C d8_check_24 fl_261 kZ_1 2 rfl (zn0 kZ_2) ?_
    refine z_iload_n C d8_check_27 rfl ?_
    obtain ⟨r2, s2, h2, hf⟩ := zbx hf
    refine z_callVr C (as := [zi x2]) d8_check_28 w_396 yy5_personOf (c5_personOf x.2.1 g h2) yc5_personOf kZ_2 rfl rfl (Nat.le_of_ble_eq_true rfl) ⟨Nat.le_of_ble_eq_true rfl, Nat.le_of_ble_eq_true rfl⟩ ⟨Nat.zero_le _, Nat.zero_le _⟩ ?_
    refine z_astore_n C d8_check_31 (Nat.le_of_ble_eq_true rfl) rfl (L' := [some (zr 1), some (zi x1), some (zi x2), some (zr r2)]) rfl ?_
    refine z_aload_n C d8_check_32 rfl ?_
    refine z_ifnull C d8_check_33 (fun c3 => ?_) (fun c3 => ?_)
    · have hf := zit c3 hf
      refine z_iconst C (1 : Int32) d8_check_51 kI_1 ?_
      refine z_iload_n C d8_check_52 rfl ?_
      refine z_iadd C d8_check_53 ?_
      exact z_iret C d8_check_54 hf
    · have hf := zie c3 hf
      refine z_aload_n C d8_check_36 rfl ?_
      obtain ⟨g4, hf⟩ := zgo hf
      refine z_getI C d8_check_37 fl_88 g4 ?_
      refine z_aload_n C d8_check_40 rfl ?_
      refine z_getR C d8_check_41 fl_261 kZ_1 2 rfl (zn0 kZ_2) ?_
      refine z_iload_n C d8_check_44 rfl ?_
      obtain ⟨r5, s5, h5, hf⟩ := zbx hf
      refine z_callVi C (as := [zi x2]) d8_check_45 w_799 yy5_waitingAt (c5_waitingAt x.2.1 g h5) yc5_waitingAt kZ_2 rfl rfl (Nat.le_of_ble_eq_true rfl) ⟨Nat.le_of_ble_eq_true rfl, Nat.le_of_ble_eq_true rfl⟩ ⟨Nat.zero_le _, Nat.zero_le _⟩ ?_
      refine z_icmp_eq C d8_check_48 (fun c6 => ?_) (fun c6 => ?_)
      · have hf := zit c6 hf
        refine z_iinc C d8_check_55 rfl kI_1 (Nat.le_of_ble_eq_true rfl) rfl (L' := [some (zr 1), some (zi x1), some (zi (x2 + (1 : Int32))), some (zr r2)]) rfl ?_
        refine z_goto C d8_check_58 ?_
        refine z_drop [true, true, true, false] (L' := [some (zr 1), some (zi x1), some (zi (x2 + (1 : Int32))), none]) rfl ?_
        exact hq18 _ _ _ hf
      · have hf := zie c6 hf
        refine z_iconst C (1 : Int32) d8_check_51 kI_1 ?_
        refine z_iload_n C d8_check_52 rfl ?_
        refine z_iadd C d8_check_53 ?_
        exact z_iret C d8_check_54 hf
theorem j8_check_18l {x : ZX} {g : ZG} (C : zC x g b8_check R8 (some .int) 4 2 81) {k : Nat} {r : Int32} {σr : ZS}  : ∀ (n : Nat) (x1 : Int32) (x2 : Int32) (σ : ZS), f8_check_18 k  n x1 x2 σ = some (r, σr) → zw x g 4 0 0 (zMQ x g (some (zi r)) σr) σ 18 [some (zr 1), some (zi x1), some (zi x2), none] [] := by
  intro n
  induction n with
  | zero => intro x1 x2 σ hf; exact absurd (show none = some (r, σr) from hf) (fun z => by cases z)
  | succ n ih => intro x1 x2 σ hf; exact j8_check_18 C  ih (show b8_check_18 k  (f8_check_18 k  n) x1 x2 σ = some (r, σr) from hf)
def f8_check (k : Nat)  (σ : ZS) : Option (Int32 × ZS) :=
  zput (zu σ 2 9 (0 : Int32)) fun s1 =>
  f8_check_18 k  k (σ 2 9) (0 : Int32) s1
theorem c8_check (l : Launch) (g : ZG) {k : Nat}  {σ : ZS} {r : Int32} {σr : ZS} (hf : f8_check k  σ = some (r, σr)) : zT l g y8_check b8_check 4 (some .int) 2 81 [zr 1] σ (some (zi r)) σr := by
  unfold f8_check at hf
  refine zT_start (own := R8) rfl (by decide +kernel) 3 (L := [some (zr 1), none, none, none]) rfl rfl (fun x hl C => ?_)
  subst hl
  refine z_aload_n C d8_check_0 rfl ?_
  refine z_getR C d8_check_1 fl_261 kZ_1 2 rfl (zn0 kZ_2) ?_
  refine z_getI C d8_check_4 fl_132 kZ_2 ?_
  refine z_istore_n C d8_check_7 (Nat.le_of_ble_eq_true rfl) rfl (L' := [some (zr 1), some (zi (σ 2 9)), none, none]) rfl ?_
  refine z_aload_n C d8_check_8 rfl ?_
  refine z_getR C d8_check_9 fl_261 kZ_1 2 rfl (zn0 kZ_2) ?_
  refine z_iconst C (0 : Int32) d8_check_12 kI_0 ?_
  obtain ⟨s1, e1, hf⟩ := zpx hf
  refine z_putI C d8_check_13 fl_132 ft_5_9 kZ_2 e1 ?_
  refine z_iconst C (0 : Int32) d8_check_16 kI_0 ?_
  refine z_istore_n C d8_check_17 (Nat.le_of_ble_eq_true rfl) rfl (L' := [some (zr 1), some (zi (σ 2 9)), some (zi (0 : Int32)), none]) rfl ?_
  exact j8_check_18l C  _ _ _ _ hf
theorem d8_count_0 : zd b8_count 0 (.iload_n 1) 1 1 := ⟨by decide +kernel, rfl⟩
theorem d8_count_1 : decode b8_count 1 = .ok ((.tableswitch 99 0 6 #[43, 51, 59, 67, 75, 83, 91]), 43) := by decide +kernel
theorem d8_count_44 : zd b8_count 44 (.aload_n 0) 1 45 := ⟨by decide +kernel, rfl⟩
theorem d8_count_45 : zd b8_count 45 (.getfield 10) 3 48 := ⟨by decide +kernel, rfl⟩
theorem d8_count_48 : zd b8_count 48 (.getfield 71) 3 51 := ⟨by decide +kernel, rfl⟩
theorem d8_count_51 : zd b8_count 51 .ireturn 1 52 := ⟨by decide +kernel, rfl⟩
theorem d8_count_52 : zd b8_count 52 (.aload_n 0) 1 53 := ⟨by decide +kernel, rfl⟩
theorem d8_count_53 : zd b8_count 53 (.getfield 10) 3 56 := ⟨by decide +kernel, rfl⟩
theorem d8_count_56 : zd b8_count 56 (.getfield 121) 3 59 := ⟨by decide +kernel, rfl⟩
theorem d8_count_59 : zd b8_count 59 .ireturn 1 60 := ⟨by decide +kernel, rfl⟩
theorem d8_count_60 : zd b8_count 60 (.aload_n 0) 1 61 := ⟨by decide +kernel, rfl⟩
theorem d8_count_61 : zd b8_count 61 (.getfield 10) 3 64 := ⟨by decide +kernel, rfl⟩
theorem d8_count_64 : zd b8_count 64 (.getfield 151) 3 67 := ⟨by decide +kernel, rfl⟩
theorem d8_count_67 : zd b8_count 67 .ireturn 1 68 := ⟨by decide +kernel, rfl⟩
theorem d8_count_68 : zd b8_count 68 (.aload_n 0) 1 69 := ⟨by decide +kernel, rfl⟩
theorem d8_count_69 : zd b8_count 69 (.getfield 10) 3 72 := ⟨by decide +kernel, rfl⟩
theorem d8_count_72 : zd b8_count 72 (.getfield 154) 3 75 := ⟨by decide +kernel, rfl⟩
theorem d8_count_75 : zd b8_count 75 .ireturn 1 76 := ⟨by decide +kernel, rfl⟩
theorem d8_count_76 : zd b8_count 76 (.aload_n 0) 1 77 := ⟨by decide +kernel, rfl⟩
theorem d8_count_77 : zd b8_count 77 (.getfield 10) 3 80 := ⟨by decide +kernel, rfl⟩
theorem d8_count_80 : zd b8_count 80 (.getfield 286) 3 83 := ⟨by decide +kernel, rfl⟩
theorem d8_count_83 : zd b8_count 83 .ireturn 1 84 := ⟨by decide +kernel, rfl⟩
theorem d8_count_84 : zd b8_count 84 (.aload_n 0) 1 85 := ⟨by decide +kernel, rfl⟩
theorem d8_count_85 : zd b8_count 85 (.getfield 39) 3 88 := ⟨by decide +kernel, rfl⟩
theorem d8_count_88 : zd b8_count 88 (.getfield 251) 3 91 := ⟨by decide +kernel, rfl⟩
theorem d8_count_91 : zd b8_count 91 .ireturn 1 92 := ⟨by decide +kernel, rfl⟩
theorem d8_count_92 : zd b8_count 92 (.aload_n 0) 1 93 := ⟨by decide +kernel, rfl⟩
theorem d8_count_93 : zd b8_count 93 (.getfield 10) 3 96 := ⟨by decide +kernel, rfl⟩
theorem d8_count_96 : zd b8_count 96 (.getfield 197) 3 99 := ⟨by decide +kernel, rfl⟩
theorem d8_count_99 : zd b8_count 99 .ireturn 1 100 := ⟨by decide +kernel, rfl⟩
theorem d8_count_100 : zd b8_count 100 (.aload_n 0) 1 101 := ⟨by decide +kernel, rfl⟩
theorem d8_count_101 : zd b8_count 101 (.iconst 1) 1 102 := ⟨by decide +kernel, rfl⟩
theorem d8_count_102 : zd b8_count 102 (.invokevirtual 67) 3 105 := ⟨by decide +kernel, rfl⟩
theorem d8_count_105 : zd b8_count 105 .ireturn 1 106 := ⟨by decide +kernel, rfl⟩
def f8_count (k : Nat) (x1 : Int32) (σ : ZS) : Option (Int32 × ZS) :=
  if x1 = (0 : Int32) then (
  some ((σ 2 6), σ))
  else (
  if x1 = (1 : Int32) then (
  some ((σ 2 7), σ))
  else (
  if x1 = (2 : Int32) then (
  some ((σ 2 10), σ))
  else (
  if x1 = (3 : Int32) then (
  some ((σ 2 8), σ))
  else (
  if x1 = (4 : Int32) then (
  some ((σ 2 9), σ))
  else (
  if x1 = (5 : Int32) then (
  some ((σ 90 1), σ))
  else (
  if x1 = (6 : Int32) then (
  some ((σ 2 11), σ))
  else (
  zbd (f8_error k (1 : Int32) σ) fun r8 s8 =>
  some (r8, s8))))))))
theorem c8_count (l : Launch) (g : ZG) {k : Nat} {x1 : Int32} {σ : ZS} {r : Int32} {σr : ZS} (hf : f8_count k x1 σ = some (r, σr)) : zT l g y8_count b8_count 2 (some .int) 2 81 [zr 1, zi x1] σ (some (zi r)) σr := by
  unfold f8_count at hf
  refine zT_start (own := R8) rfl (by decide +kernel) 0 (L := [some (zr 1), some (zi x1)]) rfl rfl (fun x hl C => ?_)
  subst hl
  refine z_iload_n C d8_count_0 rfl ?_
  refine z_tsw C [((0 : Int32), 44), ((1 : Int32), 52), ((2 : Int32), 60), ((3 : Int32), 68), ((4 : Int32), 76), ((5 : Int32), 84), ((6 : Int32), 92)] (d := 100) d8_count_1 (by decide) (by decide) (by decide +kernel) ?_
  refine z_swc (fun c1 => ?_) (fun c1 => ?_)
  · have hf := zit c1 hf
    refine z_aload_n C d8_count_44 rfl ?_
    refine z_getR C d8_count_45 fl_261 kZ_1 2 rfl (zn0 kZ_2) ?_
    refine z_getI C d8_count_48 fl_125 kZ_2 ?_
    exact z_iret C d8_count_51 hf
  · have hf := zie c1 hf
    refine z_swc (fun c2 => ?_) (fun c2 => ?_)
    · have hf := zit c2 hf
      refine z_aload_n C d8_count_52 rfl ?_
      refine z_getR C d8_count_53 fl_261 kZ_1 2 rfl (zn0 kZ_2) ?_
      refine z_getI C d8_count_56 fl_128 kZ_2 ?_
      exact z_iret C d8_count_59 hf
    · have hf := zie c2 hf
      refine z_swc (fun c3 => ?_) (fun c3 => ?_)
      · have hf := zit c3 hf
        refine z_aload_n C d8_count_60 rfl ?_
        refine z_getR C d8_count_61 fl_261 kZ_1 2 rfl (zn0 kZ_2) ?_
        refine z_getI C d8_count_64 fl_134 kZ_2 ?_
        exact z_iret C d8_count_67 hf
      · have hf := zie c3 hf
        refine z_swc (fun c4 => ?_) (fun c4 => ?_)
        · have hf := zit c4 hf
          refine z_aload_n C d8_count_68 rfl ?_
          refine z_getR C d8_count_69 fl_261 kZ_1 2 rfl (zn0 kZ_2) ?_
          refine z_getI C d8_count_72 fl_130 kZ_2 ?_
          exact z_iret C d8_count_75 hf
        · have hf := zie c4 hf
          refine z_swc (fun c5 => ?_) (fun c5 => ?_)
          · have hf := zit c5 hf
            refine z_aload_n C d8_count_76 rfl ?_
            refine z_getR C d8_count_77 fl_261 kZ_1 2 rfl (zn0 kZ_2) ?_
            refine z_getI C d8_count_80 fl_132 kZ_2 ?_
            exact z_iret C d8_count_83 hf
          · have hf := zie c5 hf
            refine z_swc (fun c6 => ?_) (fun c6 => ?_)
            · have hf := zit c6 hf
              refine z_aload_n C d8_count_84 rfl ?_
              refine z_getR C d8_count_85 fl_266 kZ_1 90 rfl (zn0 kZ_90) ?_
              refine z_getI C d8_count_88 fl_222 kZ_90 ?_
              exact z_iret C d8_count_91 hf
            · have hf := zie c6 hf
              refine z_swc (fun c7 => ?_) (fun c7 => ?_)
              · have hf := zit c7 hf
                refine z_aload_n C d8_count_92 rfl ?_
                refine z_getR C d8_count_93 fl_261 kZ_1 2 rfl (zn0 kZ_2) ?_
                refine z_getI C d8_count_96 fl_136 kZ_2 ?_
                exact z_iret C d8_count_99 hf
              · have hf := zie c7 hf
                refine z_sw0 ?_
                refine z_aload_n C d8_count_100 rfl ?_
                refine z_iconst C (1 : Int32) d8_count_101 kI_1 ?_
                obtain ⟨r8, s8, h8, hf⟩ := zbx hf
                refine z_callVi C (as := [zi (1 : Int32)]) d8_count_102 w_308 yy8_error (c8_error x.2.1 g h8) yc8_error kZ_1 rfl rfl (Nat.le_of_ble_eq_true rfl) ⟨Nat.le_of_ble_eq_true rfl, Nat.le_of_ble_eq_true rfl⟩ ⟨Nat.zero_le _, Nat.zero_le _⟩ ?_
                exact z_iret C d8_count_105 hf
theorem d5_addByte_0 : zd b5_addByte 0 (.aload_n 0) 1 1 := ⟨by decide +kernel, rfl⟩
theorem d5_addByte_1 : zd b5_addByte 1 (.getfield 74) 3 4 := ⟨by decide +kernel, rfl⟩
theorem d5_addByte_4 : zdb b5_addByte 4 (.ifCond .lt 35) 35 7 39 := ⟨by decide +kernel, rfl, by decide⟩
theorem d5_addByte_7 : zd b5_addByte 7 (.aload_n 0) 1 8 := ⟨by decide +kernel, rfl⟩
theorem d5_addByte_8 : zd b5_addByte 8 (.getfield 74) 3 11 := ⟨by decide +kernel, rfl⟩
theorem d5_addByte_11 : zd b5_addByte 11 (.aload_n 0) 1 12 := ⟨by decide +kernel, rfl⟩
theorem d5_addByte_12 : zd b5_addByte 12 (.getfield 33) 3 15 := ⟨by decide +kernel, rfl⟩
theorem d5_addByte_15 : zd b5_addByte 15 .arraylength 1 16 := ⟨by decide +kernel, rfl⟩
theorem d5_addByte_16 : zdb b5_addByte 16 (.if_icmp .ge 23) 23 19 39 := ⟨by decide +kernel, rfl, by decide⟩
theorem d5_addByte_19 : zd b5_addByte 19 (.aload_n 0) 1 20 := ⟨by decide +kernel, rfl⟩
theorem d5_addByte_20 : zd b5_addByte 20 (.getfield 33) 3 23 := ⟨by decide +kernel, rfl⟩
theorem d5_addByte_23 : zd b5_addByte 23 (.aload_n 0) 1 24 := ⟨by decide +kernel, rfl⟩
theorem d5_addByte_24 : zd b5_addByte 24 (.getfield 74) 3 27 := ⟨by decide +kernel, rfl⟩
theorem d5_addByte_27 : zd b5_addByte 27 (.iload_n 1) 1 28 := ⟨by decide +kernel, rfl⟩
theorem d5_addByte_28 : zd b5_addByte 28 .iastore 1 29 := ⟨by decide +kernel, rfl⟩
theorem d5_addByte_29 : zd b5_addByte 29 (.aload_n 0) 1 30 := ⟨by decide +kernel, rfl⟩
theorem d5_addByte_30 : zd b5_addByte 30 .dup 1 31 := ⟨by decide +kernel, rfl⟩
theorem d5_addByte_31 : zd b5_addByte 31 (.getfield 74) 3 34 := ⟨by decide +kernel, rfl⟩
theorem d5_addByte_34 : zd b5_addByte 34 (.iconst 1) 1 35 := ⟨by decide +kernel, rfl⟩
theorem d5_addByte_35 : zd b5_addByte 35 .iadd 1 36 := ⟨by decide +kernel, rfl⟩
theorem d5_addByte_36 : zd b5_addByte 36 (.putfield 74) 3 39 := ⟨by decide +kernel, rfl⟩
theorem d5_addByte_39 : zd b5_addByte 39 .return_ 1 40 := ⟨by decide +kernel, rfl⟩
def f5_addByte (k : Nat) (t : Nat) (x1 : Int32) (σ : ZS) : Option (Unit × ZS) :=
  if zsh t = 6 then (
  if (σ t 8) < 0 then (
  some ((), σ))
  else (
  if (60 : Int32) ≤ (σ t 8) then (
  some ((), σ))
  else (
  if zin (σ t 8) 60 then (
  zput (zu σ (t + 5) ((σ t 8).toNatClampNeg) x1) fun s4 =>
  zput (zu s4 t 8 ((s4 t 8) + (1 : Int32))) fun s5 =>
  some ((), s5)) else none))) else none
theorem c5_addByte (l : Launch) (g : ZG) {k : Nat} {t : Nat} {x1 : Int32} {σ : ZS} {r : Unit} {σr : ZS} (hf : f5_addByte k t x1 σ = some (r, σr)) : zT l g y5_addByte b5_addByte 2 none 1 60 [zr t, zi x1] σ none σr := by
  unfold f5_addByte at hf
  obtain ⟨ht, hf⟩ := zgo hf
  refine zT_start (own := R5) rfl (by decide +kernel) 0 (L := [some (zr t), some (zi x1)]) rfl rfl (fun x hl C => ?_)
  subst hl
  refine z_aload_n C d5_addByte_0 rfl ?_
  refine z_getI C d5_addByte_1 fl_129 ht ?_
  refine z_if_lt C d5_addByte_4 (fun c1 => ?_) (fun c1 => ?_)
  · have hf := zit c1 hf
    exact z_vret C d5_addByte_39 hf
  · have hf := zie c1 hf
    refine z_aload_n C d5_addByte_7 rfl ?_
    refine z_getI C d5_addByte_8 fl_129 ht ?_
    refine z_aload_n C d5_addByte_11 rfl ?_
    refine z_getR C d5_addByte_12 fl_122 ht (t + 5) rfl (zn0 (zD6_5 ht)) ?_
    refine z_alen C (60 : Int32) d5_addByte_15 (zD6_5 ht) (zN6_5 ht) kO_60 ?_
    refine z_icmp_ge C d5_addByte_16 (fun c2 => ?_) (fun c2 => ?_)
    · have hf := zit c2 hf
      exact z_vret C d5_addByte_39 hf
    · have hf := zie c2 hf
      refine z_aload_n C d5_addByte_19 rfl ?_
      refine z_getR C d5_addByte_20 fl_122 ht (t + 5) rfl (zn0 (zD6_5 ht)) ?_
      refine z_aload_n C d5_addByte_23 rfl ?_
      refine z_getI C d5_addByte_24 fl_129 ht ?_
      refine z_iload_n C d5_addByte_27 rfl ?_
      obtain ⟨g3, hf⟩ := zgo hf
      obtain ⟨s4, e4, hf⟩ := zpx hf
      refine z_iast C d5_addByte_28 (zD6_5 ht) (zN6_5 ht) g3 rfl e4 ?_
      refine z_aload_n C d5_addByte_29 rfl ?_
      refine z_dup C d5_addByte_30 rfl ?_
      refine z_getI C d5_addByte_31 fl_129 ht ?_
      refine z_iconst C (1 : Int32) d5_addByte_34 kI_1 ?_
      refine z_iadd C d5_addByte_35 ?_
      obtain ⟨s5, e5, hf⟩ := zpx hf
      refine z_putI C d5_addByte_36 fl_129 ft_5_8 ht e5 ?_
      exact z_vret C d5_addByte_39 hf
theorem d8_feed_0 : zd b8_feed 0 (.iload_n 3) 1 1 := ⟨by decide +kernel, rfl⟩
theorem d8_feed_1 : zd b8_feed 1 (.iconst 1) 1 2 := ⟨by decide +kernel, rfl⟩
theorem d8_feed_2 : zdb b8_feed 2 (.if_icmp .lt 9) 9 5 11 := ⟨by decide +kernel, rfl, by decide⟩
theorem d8_feed_5 : zd b8_feed 5 (.iload_n 3) 1 6 := ⟨by decide +kernel, rfl⟩
theorem d8_feed_6 : zd b8_feed 6 (.bipush 8) 2 8 := ⟨by decide +kernel, rfl⟩
theorem d8_feed_8 : zdb b8_feed 8 (.if_icmp .le 9) 9 11 17 := ⟨by decide +kernel, rfl, by decide⟩
theorem d8_feed_11 : zd b8_feed 11 (.aload_n 0) 1 12 := ⟨by decide +kernel, rfl⟩
theorem d8_feed_12 : zd b8_feed 12 (.iconst 1) 1 13 := ⟨by decide +kernel, rfl⟩
theorem d8_feed_13 : zd b8_feed 13 (.invokevirtual 67) 3 16 := ⟨by decide +kernel, rfl⟩
theorem d8_feed_16 : zd b8_feed 16 .ireturn 1 17 := ⟨by decide +kernel, rfl⟩
theorem d8_feed_17 : zd b8_feed 17 (.aload_n 0) 1 18 := ⟨by decide +kernel, rfl⟩
theorem d8_feed_18 : zd b8_feed 18 (.getfield 10) 3 21 := ⟨by decide +kernel, rfl⟩
theorem d8_feed_21 : zd b8_feed 21 (.getfield 154) 3 24 := ⟨by decide +kernel, rfl⟩
theorem d8_feed_24 : zd b8_feed 24 (.iload_n 3) 1 25 := ⟨by decide +kernel, rfl⟩
theorem d8_feed_25 : zd b8_feed 25 .iadd 1 26 := ⟨by decide +kernel, rfl⟩
theorem d8_feed_26 : zd b8_feed 26 (.bipush 60) 2 28 := ⟨by decide +kernel, rfl⟩
theorem d8_feed_28 : zdb b8_feed 28 (.if_icmp .le 9) 9 31 37 := ⟨by decide +kernel, rfl, by decide⟩
theorem d8_feed_31 : zd b8_feed 31 (.aload_n 0) 1 32 := ⟨by decide +kernel, rfl⟩
theorem d8_feed_32 : zd b8_feed 32 (.iconst 4) 1 33 := ⟨by decide +kernel, rfl⟩
theorem d8_feed_33 : zd b8_feed 33 (.invokevirtual 67) 3 36 := ⟨by decide +kernel, rfl⟩
theorem d8_feed_36 : zd b8_feed 36 .ireturn 1 37 := ⟨by decide +kernel, rfl⟩
theorem d8_feed_37 : zd b8_feed 37 (.iconst 0) 1 38 := ⟨by decide +kernel, rfl⟩
theorem d8_feed_38 : zd b8_feed 38 (.istore 4) 2 40 := ⟨by decide +kernel, rfl⟩
theorem d8_feed_40 : zd b8_feed 40 (.iload 4) 2 42 := ⟨by decide +kernel, rfl⟩
theorem d8_feed_42 : zd b8_feed 42 (.iload_n 3) 1 43 := ⟨by decide +kernel, rfl⟩
theorem d8_feed_43 : zdb b8_feed 43 (.if_icmp .ge 28) 28 46 71 := ⟨by decide +kernel, rfl, by decide⟩
theorem d8_feed_46 : zd b8_feed 46 (.aload_n 0) 1 47 := ⟨by decide +kernel, rfl⟩
theorem d8_feed_47 : zd b8_feed 47 (.getfield 10) 3 50 := ⟨by decide +kernel, rfl⟩
theorem d8_feed_50 : zd b8_feed 50 (.lload_n 1) 1 51 := ⟨by decide +kernel, rfl⟩
theorem d8_feed_51 : zd b8_feed 51 (.bipush 8) 2 53 := ⟨by decide +kernel, rfl⟩
theorem d8_feed_53 : zd b8_feed 53 (.iload 4) 2 55 := ⟨by decide +kernel, rfl⟩
theorem d8_feed_55 : zd b8_feed 55 .imul 1 56 := ⟨by decide +kernel, rfl⟩
theorem d8_feed_56 : zd b8_feed 56 .lushr 1 57 := ⟨by decide +kernel, rfl⟩
theorem d8_feed_57 : zd b8_feed 57 .l2i 1 58 := ⟨by decide +kernel, rfl⟩
theorem d8_feed_58 : zd b8_feed 58 (.sipush 255) 3 61 := ⟨by decide +kernel, rfl⟩
theorem d8_feed_61 : zd b8_feed 61 .iand 1 62 := ⟨by decide +kernel, rfl⟩
theorem d8_feed_62 : zd b8_feed 62 (.invokevirtual 157) 3 65 := ⟨by decide +kernel, rfl⟩
theorem d8_feed_65 : zd b8_feed 65 (.iinc 4 1) 3 68 := ⟨by decide +kernel, rfl⟩
theorem d8_feed_68 : zdb b8_feed 68 (.goto (-28)) (-28) 71 40 := ⟨by decide +kernel, rfl, by decide⟩
theorem d8_feed_71 : zd b8_feed 71 (.aload_n 0) 1 72 := ⟨by decide +kernel, rfl⟩
theorem d8_feed_72 : zd b8_feed 72 (.getfield 10) 3 75 := ⟨by decide +kernel, rfl⟩
theorem d8_feed_75 : zd b8_feed 75 (.getfield 154) 3 78 := ⟨by decide +kernel, rfl⟩
theorem d8_feed_78 : zd b8_feed 78 .ireturn 1 79 := ⟨by decide +kernel, rfl⟩
def b8_feed_40 (k : Nat) (q40 : Int64 → Int32 → Int32 → ZS → Option (Int32 × ZS)) (x1 : Int64) (x3 : Int32) (x4 : Int32) (σ : ZS) : Option (Int32 × ZS) :=
  if x3 ≤ x4 then (
  some ((σ 2 8), σ))
  else (
  zbd (f5_addByte k 2 ((x1.toUInt64 >>> (((8 : Int32) * x4).toInt64.toUInt64 &&& Int64.toUInt64 63)).toInt64.toInt32 &&& (255 : Int32)) σ) fun _ s2 =>
  q40 x1 x3 (x4 + (1 : Int32)) s2)
def f8_feed_40 (k : Nat) : Nat → Int64 → Int32 → Int32 → ZS → Option (Int32 × ZS)
  | 0 => fun _ _ _ _ => none
  | n + 1 => b8_feed_40 k  (f8_feed_40 k  n)
theorem j8_feed_40 {x : ZX} {g : ZG} (C : zC x g b8_feed R8 (some .int) 5 2 81) {k : Nat} {r : Int32} {σr : ZS}  {q40 : Int64 → Int32 → Int32 → ZS → Option (Int32 × ZS)} (hq40 : (∀ (x1 : Int64) (x3 : Int32) (x4 : Int32) (σ : ZS), q40 x1 x3 x4 σ = some (r, σr) → zw x g 5 0 0 (zMQ x g (some (zi r)) σr) σ 40 [some (zr 1), some (zj x1), none, some (zi x3), some (zi x4)] [])) {x1 : Int64} {x3 : Int32} {x4 : Int32} {σ : ZS} (hf : b8_feed_40 k q40 x1 x3 x4 σ = some (r, σr)) : zw x g 5 0 0 (zMQ x g (some (zi r)) σr) σ 40 [some (zr 1), some (zj x1), none, some (zi x3), some (zi x4)] [] := by
  unfold b8_feed_40 at hf
  refine z_iload C d8_feed_40 rfl ?_
  refine z_iload_n C d8_feed_42 rfl ?_
  refine z_icmp_ge C d8_feed_43 (fun c1 => ?_) (fun c1 => ?_)
  · have hf := zit c1 hf
    refine z_aload_n C d8_feed_71 rfl ?_
    refine z_getR C d8_feed_72 fl_261 kZ_1 2 rfl (zn0 kZ_2) ?_
    refine z_getI C d8_feed_75 fl_130 kZ_2 ?_
    exact z_iret C d8_feed_78 hf
  · have hf := zie c1 hf
    refine z_aload_n C d8_feed_46 rfl ?_
    refine z_getR C d8_feed_47 fl_261 kZ_1 2 rfl (zn0 kZ_2) ?_
    refine z_lload_n C d8_feed_50 rfl ?_
    refine z_bipush C (8 : Int32) d8_feed_51 kB_8 ?_
    refine z_iload C d8_feed_53 rfl ?_
    refine z_imul C d8_feed_55 ?_
    refine z_lushr C d8_feed_56 ?_
    refine z_l2i C d8_feed_57 ?_
    refine z_sipush C (255 : Int32) d8_feed_58 kS_255 ?_
    refine z_iand C d8_feed_61 ?_
    obtain ⟨r2, s2, h2, hf⟩ := zbx hf
    refine z_callVv C (as := [zi ((x1.toUInt64 >>> (((8 : Int32) * x4).toInt64.toUInt64 &&& Int64.toUInt64 63)).toInt64.toInt32 &&& (255 : Int32))]) d8_feed_62 w_467 yy5_addByte (c5_addByte x.2.1 g h2) yc5_addByte kZ_2 rfl rfl (Nat.le_of_ble_eq_true rfl) ⟨Nat.le_of_ble_eq_true rfl, Nat.le_of_ble_eq_true rfl⟩ ⟨Nat.zero_le _, Nat.zero_le _⟩ ?_
    refine z_iinc C d8_feed_65 rfl kI_1 (Nat.le_of_ble_eq_true rfl) rfl (L' := [some (zr 1), some (zj x1), none, some (zi x3), some (zi (x4 + (1 : Int32)))]) rfl ?_
    refine z_goto C d8_feed_68 ?_
    exact hq40 _ _ _ _ hf
theorem j8_feed_40l {x : ZX} {g : ZG} (C : zC x g b8_feed R8 (some .int) 5 2 81) {k : Nat} {r : Int32} {σr : ZS}  : ∀ (n : Nat) (x1 : Int64) (x3 : Int32) (x4 : Int32) (σ : ZS), f8_feed_40 k  n x1 x3 x4 σ = some (r, σr) → zw x g 5 0 0 (zMQ x g (some (zi r)) σr) σ 40 [some (zr 1), some (zj x1), none, some (zi x3), some (zi x4)] [] := by
  intro n
  induction n with
  | zero => intro x1 x3 x4 σ hf; exact absurd (show none = some (r, σr) from hf) (fun z => by cases z)
  | succ n ih => intro x1 x3 x4 σ hf; exact j8_feed_40 C  ih (show b8_feed_40 k  (f8_feed_40 k  n) x1 x3 x4 σ = some (r, σr) from hf)
def f8_feed (k : Nat) (x1 : Int64) (x3 : Int32) (σ : ZS) : Option (Int32 × ZS) :=
  if x3 < (1 : Int32) then (
  zbd (f8_error k (1 : Int32) σ) fun r2 s2 =>
  some (r2, s2))
  else (
  if x3 ≤ (8 : Int32) then (
  if ((σ 2 8) + x3) ≤ (60 : Int32) then (
  f8_feed_40 k  k x1 x3 (0 : Int32) σ)
  else (
  zbd (f8_error k (4 : Int32) σ) fun r5 s5 =>
  some (r5, s5)))
  else (
  zbd (f8_error k (1 : Int32) σ) fun r6 s6 =>
  some (r6, s6)))
theorem c8_feed (l : Launch) (g : ZG) {k : Nat} {x1 : Int64} {x3 : Int32} {σ : ZS} {r : Int32} {σr : ZS} (hf : f8_feed k x1 x3 σ = some (r, σr)) : zT l g y8_feed b8_feed 5 (some .int) 2 81 [zr 1, zj x1, zi x3] σ (some (zi r)) σr := by
  unfold f8_feed at hf
  refine zT_start (own := R8) rfl (by decide +kernel) 1 (L := [some (zr 1), some (zj x1), none, some (zi x3), none]) rfl rfl (fun x hl C => ?_)
  subst hl
  refine z_iload_n C d8_feed_0 rfl ?_
  refine z_iconst C (1 : Int32) d8_feed_1 kI_1 ?_
  refine z_icmp_lt C d8_feed_2 (fun c1 => ?_) (fun c1 => ?_)
  · have hf := zit c1 hf
    refine z_aload_n C d8_feed_11 rfl ?_
    refine z_iconst C (1 : Int32) d8_feed_12 kI_1 ?_
    obtain ⟨r2, s2, h2, hf⟩ := zbx hf
    refine z_callVi C (as := [zi (1 : Int32)]) d8_feed_13 w_308 yy8_error (c8_error x.2.1 g h2) yc8_error kZ_1 rfl rfl (Nat.le_of_ble_eq_true rfl) ⟨Nat.le_of_ble_eq_true rfl, Nat.le_of_ble_eq_true rfl⟩ ⟨Nat.zero_le _, Nat.zero_le _⟩ ?_
    exact z_iret C d8_feed_16 hf
  · have hf := zie c1 hf
    refine z_iload_n C d8_feed_5 rfl ?_
    refine z_bipush C (8 : Int32) d8_feed_6 kB_8 ?_
    refine z_icmp_le C d8_feed_8 (fun c3 => ?_) (fun c3 => ?_)
    · have hf := zit c3 hf
      refine z_aload_n C d8_feed_17 rfl ?_
      refine z_getR C d8_feed_18 fl_261 kZ_1 2 rfl (zn0 kZ_2) ?_
      refine z_getI C d8_feed_21 fl_130 kZ_2 ?_
      refine z_iload_n C d8_feed_24 rfl ?_
      refine z_iadd C d8_feed_25 ?_
      refine z_bipush C (60 : Int32) d8_feed_26 kB_60 ?_
      refine z_icmp_le C d8_feed_28 (fun c4 => ?_) (fun c4 => ?_)
      · have hf := zit c4 hf
        refine z_iconst C (0 : Int32) d8_feed_37 kI_0 ?_
        refine z_istore C d8_feed_38 (Nat.le_of_ble_eq_true rfl) rfl (L' := [some (zr 1), some (zj x1), none, some (zi x3), some (zi (0 : Int32))]) rfl ?_
        exact j8_feed_40l C  _ _ _ _ _ hf
      · have hf := zie c4 hf
        refine z_aload_n C d8_feed_31 rfl ?_
        refine z_iconst C (4 : Int32) d8_feed_32 kI_4 ?_
        obtain ⟨r5, s5, h5, hf⟩ := zbx hf
        refine z_callVi C (as := [zi (4 : Int32)]) d8_feed_33 w_308 yy8_error (c8_error x.2.1 g h5) yc8_error kZ_1 rfl rfl (Nat.le_of_ble_eq_true rfl) ⟨Nat.le_of_ble_eq_true rfl, Nat.le_of_ble_eq_true rfl⟩ ⟨Nat.zero_le _, Nat.zero_le _⟩ ?_
        exact z_iret C d8_feed_36 hf
    · have hf := zie c3 hf
      refine z_aload_n C d8_feed_11 rfl ?_
      refine z_iconst C (1 : Int32) d8_feed_12 kI_1 ?_
      obtain ⟨r6, s6, h6, hf⟩ := zbx hf
      refine z_callVi C (as := [zi (1 : Int32)]) d8_feed_13 w_308 yy8_error (c8_error x.2.1 g h6) yc8_error kZ_1 rfl rfl (Nat.le_of_ble_eq_true rfl) ⟨Nat.le_of_ble_eq_true rfl, Nat.le_of_ble_eq_true rfl⟩ ⟨Nat.zero_le _, Nat.zero_le _⟩ ?_
      exact z_iret C d8_feed_16 hf
theorem d8_writeSpin_0 : zd b8_writeSpin 0 (.iload_n 1) 1 1 := ⟨by decide +kernel, rfl⟩
theorem d8_writeSpin_1 : zdb b8_writeSpin 1 (.ifCond .lt 30) 30 4 31 := ⟨by decide +kernel, rfl, by decide⟩
theorem d8_writeSpin_4 : zd b8_writeSpin 4 (.iload_n 1) 1 5 := ⟨by decide +kernel, rfl⟩
theorem d8_writeSpin_5 : zd b8_writeSpin 5 (.iconst 1) 1 6 := ⟨by decide +kernel, rfl⟩
theorem d8_writeSpin_6 : zd b8_writeSpin 6 .iadd 1 7 := ⟨by decide +kernel, rfl⟩
theorem d8_writeSpin_7 : zd b8_writeSpin 7 (.aload_n 0) 1 8 := ⟨by decide +kernel, rfl⟩
theorem d8_writeSpin_8 : zd b8_writeSpin 8 (.getfield 49) 3 11 := ⟨by decide +kernel, rfl⟩
theorem d8_writeSpin_11 : zd b8_writeSpin 11 .arraylength 1 12 := ⟨by decide +kernel, rfl⟩
theorem d8_writeSpin_12 : zdb b8_writeSpin 12 (.if_icmp .ge 19) 19 15 31 := ⟨by decide +kernel, rfl, by decide⟩
theorem d8_writeSpin_15 : zd b8_writeSpin 15 (.aload_n 0) 1 16 := ⟨by decide +kernel, rfl⟩
theorem d8_writeSpin_16 : zd b8_writeSpin 16 (.getfield 49) 3 19 := ⟨by decide +kernel, rfl⟩
theorem d8_writeSpin_19 : zd b8_writeSpin 19 (.iload_n 1) 1 20 := ⟨by decide +kernel, rfl⟩
theorem d8_writeSpin_20 : zd b8_writeSpin 20 (.iload_n 2) 1 21 := ⟨by decide +kernel, rfl⟩
theorem d8_writeSpin_21 : zd b8_writeSpin 21 .iastore 1 22 := ⟨by decide +kernel, rfl⟩
theorem d8_writeSpin_22 : zd b8_writeSpin 22 (.aload_n 0) 1 23 := ⟨by decide +kernel, rfl⟩
theorem d8_writeSpin_23 : zd b8_writeSpin 23 (.getfield 49) 3 26 := ⟨by decide +kernel, rfl⟩
theorem d8_writeSpin_26 : zd b8_writeSpin 26 (.iload_n 1) 1 27 := ⟨by decide +kernel, rfl⟩
theorem d8_writeSpin_27 : zd b8_writeSpin 27 (.iconst 1) 1 28 := ⟨by decide +kernel, rfl⟩
theorem d8_writeSpin_28 : zd b8_writeSpin 28 .iadd 1 29 := ⟨by decide +kernel, rfl⟩
theorem d8_writeSpin_29 : zd b8_writeSpin 29 (.iload_n 3) 1 30 := ⟨by decide +kernel, rfl⟩
theorem d8_writeSpin_30 : zd b8_writeSpin 30 .iastore 1 31 := ⟨by decide +kernel, rfl⟩
theorem d8_writeSpin_31 : zd b8_writeSpin 31 .return_ 1 32 := ⟨by decide +kernel, rfl⟩
def f8_writeSpin (k : Nat) (x1 : Int32) (x2 : Int32) (x3 : Int32) (σ : ZS) : Option (Unit × ZS) :=
  if x1 < 0 then (
  some ((), σ))
  else (
  if (4 : Int32) ≤ (x1 + (1 : Int32)) then (
  some ((), σ))
  else (
  if zin x1 4 then (
  zput (zu σ 93 (x1.toNatClampNeg) x2) fun s4 =>
  if zin (x1 + (1 : Int32)) 4 then (
  zput (zu s4 93 ((x1 + (1 : Int32)).toNatClampNeg) x3) fun s6 =>
  some ((), s6)) else none) else none))
theorem c8_writeSpin (l : Launch) (g : ZG) {k : Nat} {x1 : Int32} {x2 : Int32} {x3 : Int32} {σ : ZS} {r : Unit} {σr : ZS} (hf : f8_writeSpin k x1 x2 x3 σ = some (r, σr)) : zT l g y8_writeSpin b8_writeSpin 4 none 1 60 [zr 1, zi x1, zi x2, zi x3] σ none σr := by
  unfold f8_writeSpin at hf
  refine zT_start (own := R8) rfl (by decide +kernel) 0 (L := [some (zr 1), some (zi x1), some (zi x2), some (zi x3)]) rfl rfl (fun x hl C => ?_)
  subst hl
  refine z_iload_n C d8_writeSpin_0 rfl ?_
  refine z_if_lt C d8_writeSpin_1 (fun c1 => ?_) (fun c1 => ?_)
  · have hf := zit c1 hf
    exact z_vret C d8_writeSpin_31 hf
  · have hf := zie c1 hf
    refine z_iload_n C d8_writeSpin_4 rfl ?_
    refine z_iconst C (1 : Int32) d8_writeSpin_5 kI_1 ?_
    refine z_iadd C d8_writeSpin_6 ?_
    refine z_aload_n C d8_writeSpin_7 rfl ?_
    refine z_getR C d8_writeSpin_8 fl_268 kZ_1 93 rfl (zn0 kZ_93) ?_
    refine z_alen C (4 : Int32) d8_writeSpin_11 kZ_93 kL_93 kO_4 ?_
    refine z_icmp_ge C d8_writeSpin_12 (fun c2 => ?_) (fun c2 => ?_)
    · have hf := zit c2 hf
      exact z_vret C d8_writeSpin_31 hf
    · have hf := zie c2 hf
      refine z_aload_n C d8_writeSpin_15 rfl ?_
      refine z_getR C d8_writeSpin_16 fl_268 kZ_1 93 rfl (zn0 kZ_93) ?_
      refine z_iload_n C d8_writeSpin_19 rfl ?_
      refine z_iload_n C d8_writeSpin_20 rfl ?_
      obtain ⟨g3, hf⟩ := zgo hf
      obtain ⟨s4, e4, hf⟩ := zpx hf
      refine z_iast C d8_writeSpin_21 kZ_93 kL_93 g3 rfl e4 ?_
      refine z_aload_n C d8_writeSpin_22 rfl ?_
      refine z_getR C d8_writeSpin_23 fl_268 kZ_1 93 rfl (zn0 kZ_93) ?_
      refine z_iload_n C d8_writeSpin_26 rfl ?_
      refine z_iconst C (1 : Int32) d8_writeSpin_27 kI_1 ?_
      refine z_iadd C d8_writeSpin_28 ?_
      refine z_iload_n C d8_writeSpin_29 rfl ?_
      obtain ⟨g5, hf⟩ := zgo hf
      obtain ⟨s6, e6, hf⟩ := zpx hf
      refine z_iast C d8_writeSpin_30 kZ_93 kL_93 g5 rfl e6 ?_
      exact z_vret C d8_writeSpin_31 hf
theorem d1_seesCell_0 : zd b1_seesCell 0 (.iconst 0) 1 1 := ⟨by decide +kernel, rfl⟩
theorem d1_seesCell_1 : zd b1_seesCell 1 (.istore_n 2) 1 2 := ⟨by decide +kernel, rfl⟩
theorem d1_seesCell_2 : zd b1_seesCell 2 (.iload_n 2) 1 3 := ⟨by decide +kernel, rfl⟩
theorem d1_seesCell_3 : zd b1_seesCell 3 (.aload_n 0) 1 4 := ⟨by decide +kernel, rfl⟩
theorem d1_seesCell_4 : zd b1_seesCell 4 (.getfield 24) 3 7 := ⟨by decide +kernel, rfl⟩
theorem d1_seesCell_7 : zdb b1_seesCell 7 (.if_icmp .ge 30) 30 10 37 := ⟨by decide +kernel, rfl, by decide⟩
theorem d1_seesCell_10 : zd b1_seesCell 10 (.iload_n 2) 1 11 := ⟨by decide +kernel, rfl⟩
theorem d1_seesCell_11 : zd b1_seesCell 11 (.aload_n 0) 1 12 := ⟨by decide +kernel, rfl⟩
theorem d1_seesCell_12 : zd b1_seesCell 12 (.getfield 11) 3 15 := ⟨by decide +kernel, rfl⟩
theorem d1_seesCell_15 : zd b1_seesCell 15 .arraylength 1 16 := ⟨by decide +kernel, rfl⟩
theorem d1_seesCell_16 : zdb b1_seesCell 16 (.if_icmp .ge 21) 21 19 37 := ⟨by decide +kernel, rfl, by decide⟩
theorem d1_seesCell_19 : zd b1_seesCell 19 (.aload_n 0) 1 20 := ⟨by decide +kernel, rfl⟩
theorem d1_seesCell_20 : zd b1_seesCell 20 (.getfield 11) 3 23 := ⟨by decide +kernel, rfl⟩
theorem d1_seesCell_23 : zd b1_seesCell 23 (.iload_n 2) 1 24 := ⟨by decide +kernel, rfl⟩
theorem d1_seesCell_24 : zd b1_seesCell 24 .iaload 1 25 := ⟨by decide +kernel, rfl⟩
theorem d1_seesCell_25 : zd b1_seesCell 25 (.iload_n 1) 1 26 := ⟨by decide +kernel, rfl⟩
theorem d1_seesCell_26 : zdb b1_seesCell 26 (.if_icmp .ne 5) 5 29 31 := ⟨by decide +kernel, rfl, by decide⟩
theorem d1_seesCell_29 : zd b1_seesCell 29 (.iconst 1) 1 30 := ⟨by decide +kernel, rfl⟩
theorem d1_seesCell_30 : zd b1_seesCell 30 .ireturn 1 31 := ⟨by decide +kernel, rfl⟩
theorem d1_seesCell_31 : zd b1_seesCell 31 (.iinc 2 1) 3 34 := ⟨by decide +kernel, rfl⟩
theorem d1_seesCell_34 : zdb b1_seesCell 34 (.goto (-32)) (-32) 37 2 := ⟨by decide +kernel, rfl, by decide⟩
theorem d1_seesCell_37 : zd b1_seesCell 37 (.iconst 0) 1 38 := ⟨by decide +kernel, rfl⟩
theorem d1_seesCell_38 : zd b1_seesCell 38 .ireturn 1 39 := ⟨by decide +kernel, rfl⟩
def b1_seesCell_2 (k : Nat) (q2 : Int32 → Int32 → ZS → Option (Int32 × ZS)) (x1 : Int32) (x2 : Int32) (σ : ZS) : Option (Int32 × ZS) :=
  if (σ 83 2) ≤ x2 then (
  some ((0 : Int32), σ))
  else (
  if (257 : Int32) ≤ x2 then (
  some ((0 : Int32), σ))
  else (
  if zin x2 257 then (
  if (σ 84 x2.toNatClampNeg) = x1 then (
  some ((1 : Int32), σ))
  else (
  q2 x1 (x2 + (1 : Int32)) σ)) else none))
def f1_seesCell_2 (k : Nat) : Nat → Int32 → Int32 → ZS → Option (Int32 × ZS)
  | 0 => fun _ _ _ => none
  | n + 1 => b1_seesCell_2 k  (f1_seesCell_2 k  n)
theorem j1_seesCell_2 {x : ZX} {g : ZG} (C : zC x g b1_seesCell R1 (some .boolean) 3 1 60) {k : Nat} {r : Int32} {σr : ZS}  {q2 : Int32 → Int32 → ZS → Option (Int32 × ZS)} (hq2 : (∀ (x1 : Int32) (x2 : Int32) (σ : ZS), q2 x1 x2 σ = some (r, σr) → zw x g 3 0 0 (zMQ x g (some (zi r)) σr) σ 2 [some (zr 83), some (zi x1), some (zi x2)] [])) {x1 : Int32} {x2 : Int32} {σ : ZS} (hf : b1_seesCell_2 k q2 x1 x2 σ = some (r, σr)) : zw x g 3 0 0 (zMQ x g (some (zi r)) σr) σ 2 [some (zr 83), some (zi x1), some (zi x2)] [] := by
  unfold b1_seesCell_2 at hf
  refine z_iload_n C d1_seesCell_2 rfl ?_
  refine z_aload_n C d1_seesCell_3 rfl ?_
  refine z_getI C d1_seesCell_4 fl_170 kZ_83 ?_
  refine z_icmp_ge C d1_seesCell_7 (fun c1 => ?_) (fun c1 => ?_)
  · have hf := zit c1 hf
    refine z_iconst C (0 : Int32) d1_seesCell_37 kI_0 ?_
    exact z_zret C d1_seesCell_38 (Or.inl rfl) hf
  · have hf := zie c1 hf
    refine z_iload_n C d1_seesCell_10 rfl ?_
    refine z_aload_n C d1_seesCell_11 rfl ?_
    refine z_getR C d1_seesCell_12 fl_168 kZ_83 84 rfl (zn0 kZ_84) ?_
    refine z_alen C (257 : Int32) d1_seesCell_15 kZ_84 kL_84 kO_257 ?_
    refine z_icmp_ge C d1_seesCell_16 (fun c2 => ?_) (fun c2 => ?_)
    · have hf := zit c2 hf
      refine z_iconst C (0 : Int32) d1_seesCell_37 kI_0 ?_
      exact z_zret C d1_seesCell_38 (Or.inl rfl) hf
    · have hf := zie c2 hf
      refine z_aload_n C d1_seesCell_19 rfl ?_
      refine z_getR C d1_seesCell_20 fl_168 kZ_83 84 rfl (zn0 kZ_84) ?_
      refine z_iload_n C d1_seesCell_23 rfl ?_
      obtain ⟨g3, hf⟩ := zgo hf
      refine z_iald C d1_seesCell_24 kZ_84 kL_84 g3 (x2.toNatClampNeg) rfl ?_
      refine z_iload_n C d1_seesCell_25 rfl ?_
      refine z_icmp_ne C d1_seesCell_26 (fun c4 => ?_) (fun c4 => ?_)
      · have hf := zit c4 hf
        refine z_iconst C (1 : Int32) d1_seesCell_29 kI_1 ?_
        exact z_zret C d1_seesCell_30 (Or.inr rfl) hf
      · have hf := zie c4 hf
        refine z_iinc C d1_seesCell_31 rfl kI_1 (Nat.le_of_ble_eq_true rfl) rfl (L' := [some (zr 83), some (zi x1), some (zi (x2 + (1 : Int32)))]) rfl ?_
        refine z_goto C d1_seesCell_34 ?_
        exact hq2 _ _ _ hf
theorem j1_seesCell_2l {x : ZX} {g : ZG} (C : zC x g b1_seesCell R1 (some .boolean) 3 1 60) {k : Nat} {r : Int32} {σr : ZS}  : ∀ (n : Nat) (x1 : Int32) (x2 : Int32) (σ : ZS), f1_seesCell_2 k  n x1 x2 σ = some (r, σr) → zw x g 3 0 0 (zMQ x g (some (zi r)) σr) σ 2 [some (zr 83), some (zi x1), some (zi x2)] [] := by
  intro n
  induction n with
  | zero => intro x1 x2 σ hf; exact absurd (show none = some (r, σr) from hf) (fun z => by cases z)
  | succ n ih => intro x1 x2 σ hf; exact j1_seesCell_2 C  ih (show b1_seesCell_2 k  (f1_seesCell_2 k  n) x1 x2 σ = some (r, σr) from hf)
def f1_seesCell (k : Nat) (x1 : Int32) (σ : ZS) : Option (Int32 × ZS) :=
  f1_seesCell_2 k  k x1 (0 : Int32) σ
theorem c1_seesCell (l : Launch) (g : ZG) {k : Nat} {x1 : Int32} {σ : ZS} {r : Int32} {σr : ZS} (hf : f1_seesCell k x1 σ = some (r, σr)) : zT l g y1_seesCell b1_seesCell 3 (some .boolean) 1 60 [zr 83, zi x1] σ (some (zi r)) σr := by
  unfold f1_seesCell at hf
  refine zT_start (own := R1) rfl (by decide +kernel) 1 (L := [some (zr 83), some (zi x1), none]) rfl rfl (fun x hl C => ?_)
  subst hl
  refine z_iconst C (0 : Int32) d1_seesCell_0 kI_0 ?_
  refine z_istore_n C d1_seesCell_1 (Nat.le_of_ble_eq_true rfl) rfl (L' := [some (zr 83), some (zi x1), some (zi (0 : Int32))]) rfl ?_
  exact j1_seesCell_2l C  _ _ _ _ hf
