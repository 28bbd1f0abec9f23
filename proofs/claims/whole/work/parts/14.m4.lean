/-! methods, printed by wip/whole/gen: GlassTax$Text.add, GlassTax$Reader.isDigit, GlassTax$Reader.readNumber, java/lang/String.isLatin1, jdk/internal/util/Preconditions.checkIndex, java/lang/String.checkIndex, java/lang/StringLatin1.charAt, java/lang/String.charAt, java/lang/String.coder, java/lang/String.length, GlassTax$Reader.readPart, GlassTax$Reader.readLevel, GlassTax$Reader.readUnit, GlassTax$Reader.readOpen, GlassTax$Reader.fault, GlassTax.text, GlassTax.then, GlassTax.throwsOn, GlassTax.told, GlassTax.turnsOf, GlassTax.untell, GlassTax$Voices.bodyFrom -/
theorem d6_add_0 : zd b6_add 0 (.aload_n 0) 1 1 := ⟨by decide +kernel, rfl⟩
theorem d6_add_1 : zd b6_add 1 (.getfield 24) 3 4 := ⟨by decide +kernel, rfl⟩
theorem d6_add_4 : zdb b6_add 4 (.ifCond .lt 35) 35 7 39 := ⟨by decide +kernel, rfl, by decide⟩
theorem d6_add_7 : zd b6_add 7 (.aload_n 0) 1 8 := ⟨by decide +kernel, rfl⟩
theorem d6_add_8 : zd b6_add 8 (.getfield 24) 3 11 := ⟨by decide +kernel, rfl⟩
theorem d6_add_11 : zd b6_add 11 (.aload_n 0) 1 12 := ⟨by decide +kernel, rfl⟩
theorem d6_add_12 : zd b6_add 12 (.getfield 9) 3 15 := ⟨by decide +kernel, rfl⟩
theorem d6_add_15 : zd b6_add 15 .arraylength 1 16 := ⟨by decide +kernel, rfl⟩
theorem d6_add_16 : zdb b6_add 16 (.if_icmp .ge 23) 23 19 39 := ⟨by decide +kernel, rfl, by decide⟩
theorem d6_add_19 : zd b6_add 19 (.aload_n 0) 1 20 := ⟨by decide +kernel, rfl⟩
theorem d6_add_20 : zd b6_add 20 (.getfield 9) 3 23 := ⟨by decide +kernel, rfl⟩
theorem d6_add_23 : zd b6_add 23 (.aload_n 0) 1 24 := ⟨by decide +kernel, rfl⟩
theorem d6_add_24 : zd b6_add 24 (.getfield 24) 3 27 := ⟨by decide +kernel, rfl⟩
theorem d6_add_27 : zd b6_add 27 (.iload_n 1) 1 28 := ⟨by decide +kernel, rfl⟩
theorem d6_add_28 : zd b6_add 28 .iastore 1 29 := ⟨by decide +kernel, rfl⟩
theorem d6_add_29 : zd b6_add 29 (.aload_n 0) 1 30 := ⟨by decide +kernel, rfl⟩
theorem d6_add_30 : zd b6_add 30 .dup 1 31 := ⟨by decide +kernel, rfl⟩
theorem d6_add_31 : zd b6_add 31 (.getfield 24) 3 34 := ⟨by decide +kernel, rfl⟩
theorem d6_add_34 : zd b6_add 34 (.iconst 1) 1 35 := ⟨by decide +kernel, rfl⟩
theorem d6_add_35 : zd b6_add 35 .iadd 1 36 := ⟨by decide +kernel, rfl⟩
theorem d6_add_36 : zd b6_add 36 (.putfield 24) 3 39 := ⟨by decide +kernel, rfl⟩
theorem d6_add_39 : zd b6_add 39 .return_ 1 40 := ⟨by decide +kernel, rfl⟩
def f6_add (k : Nat) (t : Nat) (x1 : Int32) (σ : ZS) : Option (Unit × ZS) :=
  if zsh t = 7 then (
  if (σ t 2) < 0 then (
  some ((), σ))
  else (
  if (60 : Int32) ≤ (σ t 2) then (
  some ((), σ))
  else (
  if zin (σ t 2) 60 then (
  zput (zu σ (t + 1) ((σ t 2).toNatClampNeg) x1) fun s4 =>
  zput (zu s4 t 2 ((s4 t 2) + (1 : Int32))) fun s5 =>
  some ((), s5)) else none))) else none
theorem c6_add (l : Launch) (g : ZG) {k : Nat} {t : Nat} {x1 : Int32} {σ : ZS} {r : Unit} {σr : ZS} (hf : f6_add k t x1 σ = some (r, σr)) : zT l g y6_add b6_add 2 none 1 60 [zr t, zi x1] σ none σr := by
  unfold f6_add at hf
  obtain ⟨ht, hf⟩ := zgo hf
  refine zT_start (own := R6) rfl (by decide +kernel) 0 (L := [some (zr t), some (zi x1)]) rfl rfl (fun x hl C => ?_)
  subst hl
  refine z_aload_n C d6_add_0 rfl ?_
  refine z_getI C d6_add_1 fl_103 ht ?_
  refine z_if_lt C d6_add_4 (fun c1 => ?_) (fun c1 => ?_)
  · have hf := zit c1 hf
    exact z_vret C d6_add_39 hf
  · have hf := zie c1 hf
    refine z_aload_n C d6_add_7 rfl ?_
    refine z_getI C d6_add_8 fl_103 ht ?_
    refine z_aload_n C d6_add_11 rfl ?_
    refine z_getR C d6_add_12 fl_101 ht (t + 1) rfl (zn0 (zD7_1 ht)) ?_
    refine z_alen C (60 : Int32) d6_add_15 (zD7_1 ht) (zN7_1 ht) kO_60 ?_
    refine z_icmp_ge C d6_add_16 (fun c2 => ?_) (fun c2 => ?_)
    · have hf := zit c2 hf
      exact z_vret C d6_add_39 hf
    · have hf := zie c2 hf
      refine z_aload_n C d6_add_19 rfl ?_
      refine z_getR C d6_add_20 fl_101 ht (t + 1) rfl (zn0 (zD7_1 ht)) ?_
      refine z_aload_n C d6_add_23 rfl ?_
      refine z_getI C d6_add_24 fl_103 ht ?_
      refine z_iload_n C d6_add_27 rfl ?_
      obtain ⟨g3, hf⟩ := zgo hf
      obtain ⟨s4, e4, hf⟩ := zpx hf
      refine z_iast C d6_add_28 (zD7_1 ht) (zN7_1 ht) g3 rfl e4 ?_
      refine z_aload_n C d6_add_29 rfl ?_
      refine z_dup C d6_add_30 rfl ?_
      refine z_getI C d6_add_31 fl_103 ht ?_
      refine z_iconst C (1 : Int32) d6_add_34 kI_1 ?_
      refine z_iadd C d6_add_35 ?_
      obtain ⟨s5, e5, hf⟩ := zpx hf
      refine z_putI C d6_add_36 fl_103 ft_6_2 ht e5 ?_
      exact z_vret C d6_add_39 hf
theorem d3_isDigit_0 : zd b3_isDigit 0 (.iload_n 0) 1 1 := ⟨by decide +kernel, rfl⟩
theorem d3_isDigit_1 : zd b3_isDigit 1 (.bipush 48) 2 3 := ⟨by decide +kernel, rfl⟩
theorem d3_isDigit_3 : zdb b3_isDigit 3 (.if_icmp .lt 13) 13 6 16 := ⟨by decide +kernel, rfl, by decide⟩
theorem d3_isDigit_6 : zd b3_isDigit 6 (.iload_n 0) 1 7 := ⟨by decide +kernel, rfl⟩
theorem d3_isDigit_7 : zd b3_isDigit 7 (.bipush 57) 2 9 := ⟨by decide +kernel, rfl⟩
theorem d3_isDigit_9 : zdb b3_isDigit 9 (.if_icmp .gt 7) 7 12 16 := ⟨by decide +kernel, rfl, by decide⟩
theorem d3_isDigit_12 : zd b3_isDigit 12 (.iconst 1) 1 13 := ⟨by decide +kernel, rfl⟩
theorem d3_isDigit_13 : zdb b3_isDigit 13 (.goto 4) 4 16 17 := ⟨by decide +kernel, rfl, by decide⟩
theorem d3_isDigit_16 : zd b3_isDigit 16 (.iconst 0) 1 17 := ⟨by decide +kernel, rfl⟩
theorem d3_isDigit_17 : zd b3_isDigit 17 .ireturn 1 18 := ⟨by decide +kernel, rfl⟩
def f3_isDigit (k : Nat) (x0 : Int32) (σ : ZS) : Option (Int32 × ZS) :=
  if x0 < (48 : Int32) then (
  some ((0 : Int32), σ))
  else (
  if (57 : Int32) < x0 then (
  some ((0 : Int32), σ))
  else (
  some ((1 : Int32), σ)))
theorem c3_isDigit (l : Launch) (g : ZG) {k : Nat} {x0 : Int32} {σ : ZS} {r : Int32} {σr : ZS} (hf : f3_isDigit k x0 σ = some (r, σr)) : zT l g y3_isDigit b3_isDigit 1 (some .boolean) 1 60 [zi x0] σ (some (zi r)) σr := by
  unfold f3_isDigit at hf
  refine zT_start (own := R3) rfl (by decide +kernel) 0 (L := [some (zi x0)]) rfl rfl (fun x hl C => ?_)
  subst hl
  refine z_iload_n C d3_isDigit_0 rfl ?_
  refine z_bipush C (48 : Int32) d3_isDigit_1 kB_48 ?_
  refine z_icmp_lt C d3_isDigit_3 (fun c1 => ?_) (fun c1 => ?_)
  · have hf := zit c1 hf
    refine z_iconst C (0 : Int32) d3_isDigit_16 kI_0 ?_
    exact z_zret C d3_isDigit_17 (Or.inl rfl) hf
  · have hf := zie c1 hf
    refine z_iload_n C d3_isDigit_6 rfl ?_
    refine z_bipush C (57 : Int32) d3_isDigit_7 kB_57 ?_
    refine z_icmp_gt C d3_isDigit_9 (fun c2 => ?_) (fun c2 => ?_)
    · have hf := zit c2 hf
      refine z_iconst C (0 : Int32) d3_isDigit_16 kI_0 ?_
      exact z_zret C d3_isDigit_17 (Or.inl rfl) hf
    · have hf := zie c2 hf
      refine z_iconst C (1 : Int32) d3_isDigit_12 kI_1 ?_
      refine z_goto C d3_isDigit_13 ?_
      exact z_zret C d3_isDigit_17 (Or.inr rfl) hf
theorem d3_readNumber_0 : zd b3_readNumber 0 (.iconst 0) 1 1 := ⟨by decide +kernel, rfl⟩
theorem d3_readNumber_1 : zd b3_readNumber 1 (.istore_n 1) 1 2 := ⟨by decide +kernel, rfl⟩
theorem d3_readNumber_2 : zd b3_readNumber 2 (.iconst 0) 1 3 := ⟨by decide +kernel, rfl⟩
theorem d3_readNumber_3 : zd b3_readNumber 3 (.istore_n 2) 1 4 := ⟨by decide +kernel, rfl⟩
theorem d3_readNumber_4 : zd b3_readNumber 4 (.iload_n 2) 1 5 := ⟨by decide +kernel, rfl⟩
theorem d3_readNumber_5 : zd b3_readNumber 5 (.iconst 4) 1 6 := ⟨by decide +kernel, rfl⟩
theorem d3_readNumber_6 : zdb b3_readNumber 6 (.if_icmp .ge 42) 42 9 48 := ⟨by decide +kernel, rfl, by decide⟩
theorem d3_readNumber_9 : zd b3_readNumber 9 (.aload_n 0) 1 10 := ⟨by decide +kernel, rfl⟩
theorem d3_readNumber_10 : zd b3_readNumber 10 (.invokevirtual 48) 3 13 := ⟨by decide +kernel, rfl⟩
theorem d3_readNumber_13 : zd b3_readNumber 13 (.invokestatic 60) 3 16 := ⟨by decide +kernel, rfl⟩
theorem d3_readNumber_16 : zdb b3_readNumber 16 (.ifCond .eq 32) 32 19 48 := ⟨by decide +kernel, rfl, by decide⟩
theorem d3_readNumber_19 : zd b3_readNumber 19 (.bipush 10) 2 21 := ⟨by decide +kernel, rfl⟩
theorem d3_readNumber_21 : zd b3_readNumber 21 (.iload_n 1) 1 22 := ⟨by decide +kernel, rfl⟩
theorem d3_readNumber_22 : zd b3_readNumber 22 .imul 1 23 := ⟨by decide +kernel, rfl⟩
theorem d3_readNumber_23 : zd b3_readNumber 23 (.aload_n 0) 1 24 := ⟨by decide +kernel, rfl⟩
theorem d3_readNumber_24 : zd b3_readNumber 24 (.invokevirtual 48) 3 27 := ⟨by decide +kernel, rfl⟩
theorem d3_readNumber_27 : zd b3_readNumber 27 .iadd 1 28 := ⟨by decide +kernel, rfl⟩
theorem d3_readNumber_28 : zd b3_readNumber 28 (.bipush 48) 2 30 := ⟨by decide +kernel, rfl⟩
theorem d3_readNumber_30 : zd b3_readNumber 30 .isub 1 31 := ⟨by decide +kernel, rfl⟩
theorem d3_readNumber_31 : zd b3_readNumber 31 (.istore_n 1) 1 32 := ⟨by decide +kernel, rfl⟩
theorem d3_readNumber_32 : zd b3_readNumber 32 (.aload_n 0) 1 33 := ⟨by decide +kernel, rfl⟩
theorem d3_readNumber_33 : zd b3_readNumber 33 .dup 1 34 := ⟨by decide +kernel, rfl⟩
theorem d3_readNumber_34 : zd b3_readNumber 34 (.getfield 26) 3 37 := ⟨by decide +kernel, rfl⟩
theorem d3_readNumber_37 : zd b3_readNumber 37 (.iconst 1) 1 38 := ⟨by decide +kernel, rfl⟩
theorem d3_readNumber_38 : zd b3_readNumber 38 .iadd 1 39 := ⟨by decide +kernel, rfl⟩
theorem d3_readNumber_39 : zd b3_readNumber 39 (.putfield 26) 3 42 := ⟨by decide +kernel, rfl⟩
theorem d3_readNumber_42 : zd b3_readNumber 42 (.iinc 2 1) 3 45 := ⟨by decide +kernel, rfl⟩
theorem d3_readNumber_45 : zdb b3_readNumber 45 (.goto (-41)) (-41) 48 4 := ⟨by decide +kernel, rfl, by decide⟩
theorem d3_readNumber_48 : zd b3_readNumber 48 (.aload_n 0) 1 49 := ⟨by decide +kernel, rfl⟩
theorem d3_readNumber_49 : zd b3_readNumber 49 (.getfield 12) 3 52 := ⟨by decide +kernel, rfl⟩
theorem d3_readNumber_52 : zd b3_readNumber 52 (.iload_n 1) 1 53 := ⟨by decide +kernel, rfl⟩
theorem d3_readNumber_53 : zd b3_readNumber 53 (.invokevirtual 56) 3 56 := ⟨by decide +kernel, rfl⟩
theorem d3_readNumber_56 : zd b3_readNumber 56 .return_ 1 57 := ⟨by decide +kernel, rfl⟩
def b3_readNumber_4 (k : Nat) (q4 : Int32 → Int32 → ZS → Option (Unit × ZS)) (x1 : Int32) (x2 : Int32) (σ : ZS) : Option (Unit × ZS) :=
  if (4 : Int32) ≤ x2 then (
  zbd (f6_add k 87 x1 σ) fun _ s2 =>
  some ((), s2))
  else (
  zbd (f3_signHere k σ) fun r3 s3 =>
  zbd (f3_isDigit k r3 s3) fun r4 s4 =>
  if r4 = 0 then (
  zbd (f6_add k 87 x1 s4) fun _ s6 =>
  some ((), s6))
  else (
  zbd (f3_signHere k s4) fun r7 s7 =>
  zput (zu s7 86 3 ((s7 86 3) + (1 : Int32))) fun s8 =>
  q4 ((((10 : Int32) * x1) + r7) - (48 : Int32)) (x2 + (1 : Int32)) s8))
def f3_readNumber_4 (k : Nat) : Nat → Int32 → Int32 → ZS → Option (Unit × ZS)
  | 0 => fun _ _ _ => none
  | n + 1 => b3_readNumber_4 k  (f3_readNumber_4 k  n)
theorem j3_readNumber_4 {x : ZX} {g : ZG} (C : zC x g b3_readNumber R3 none 3 2 81) {k : Nat} {r : Unit} {σr : ZS}  {q4 : Int32 → Int32 → ZS → Option (Unit × ZS)} (hq4 : (∀ (x1 : Int32) (x2 : Int32) (σ : ZS), q4 x1 x2 σ = some (r, σr) → zw x g 3 0 0 (zMQ x g none σr) σ 4 [some (zr 86), some (zi x1), some (zi x2)] [])) {x1 : Int32} {x2 : Int32} {σ : ZS} (hf : b3_readNumber_4 k q4 x1 x2 σ = some (r, σr)) : zw x g 3 0 0 (zMQ x g none σr) σ 4 [some (zr 86), some (zi x1), some (zi x2)] [] := by
  unfold b3_readNumber_4 at hf
  refine z_iload_n C d3_readNumber_4 rfl ?_
  refine z_iconst C (4 : Int32) d3_readNumber_5 kI_4 ?_
  refine z_icmp_ge C d3_readNumber_6 (fun c1 => ?_) (fun c1 => ?_)
  · have hf := zit c1 hf
    refine z_aload_n C d3_readNumber_48 rfl ?_
    refine z_getR C d3_readNumber_49 fl_197 kZ_86 87 rfl (zn0 kZ_87) ?_
    refine z_iload_n C d3_readNumber_52 rfl ?_
    obtain ⟨r2, s2, h2, hf⟩ := zbx hf
    refine z_callVv C (as := [zi x1]) d3_readNumber_53 w_499 yy6_add (c6_add x.2.1 g h2) yc6_add kZ_87 rfl rfl (Nat.le_of_ble_eq_true rfl) ⟨Nat.le_of_ble_eq_true rfl, Nat.le_of_ble_eq_true rfl⟩ ⟨Nat.zero_le _, Nat.zero_le _⟩ ?_
    exact z_vret C d3_readNumber_56 hf
  · have hf := zie c1 hf
    refine z_aload_n C d3_readNumber_9 rfl ?_
    obtain ⟨r3, s3, h3, hf⟩ := zbx hf
    refine z_callVi C (as := []) d3_readNumber_10 w_488 yy3_signHere (c3_signHere x.2.1 g h3) yc3_signHere kZ_86 rfl rfl (Nat.le_of_ble_eq_true rfl) ⟨Nat.le_of_ble_eq_true rfl, Nat.le_of_ble_eq_true rfl⟩ ⟨Nat.zero_le _, Nat.zero_le _⟩ ?_
    obtain ⟨r4, s4, h4, hf⟩ := zbx hf
    refine z_callSi C (as := [zi r3]) d3_readNumber_13 w_492 yy3_isDigit (c3_isDigit x.2.1 g h4) rfl rfl (Nat.le_of_ble_eq_true rfl) ⟨Nat.le_of_ble_eq_true rfl, Nat.le_of_ble_eq_true rfl⟩ ⟨Nat.zero_le _, Nat.zero_le _⟩ ?_
    refine z_if_eq C d3_readNumber_16 (fun c5 => ?_) (fun c5 => ?_)
    · have hf := zit c5 hf
      refine z_aload_n C d3_readNumber_48 rfl ?_
      refine z_getR C d3_readNumber_49 fl_197 kZ_86 87 rfl (zn0 kZ_87) ?_
      refine z_iload_n C d3_readNumber_52 rfl ?_
      obtain ⟨r6, s6, h6, hf⟩ := zbx hf
      refine z_callVv C (as := [zi x1]) d3_readNumber_53 w_499 yy6_add (c6_add x.2.1 g h6) yc6_add kZ_87 rfl rfl (Nat.le_of_ble_eq_true rfl) ⟨Nat.le_of_ble_eq_true rfl, Nat.le_of_ble_eq_true rfl⟩ ⟨Nat.zero_le _, Nat.zero_le _⟩ ?_
      exact z_vret C d3_readNumber_56 hf
    · have hf := zie c5 hf
      refine z_bipush C (10 : Int32) d3_readNumber_19 kB_10 ?_
      refine z_iload_n C d3_readNumber_21 rfl ?_
      refine z_imul C d3_readNumber_22 ?_
      refine z_aload_n C d3_readNumber_23 rfl ?_
      obtain ⟨r7, s7, h7, hf⟩ := zbx hf
      refine z_callVi C (as := []) d3_readNumber_24 w_488 yy3_signHere (c3_signHere x.2.1 g h7) yc3_signHere kZ_86 rfl rfl (Nat.le_of_ble_eq_true rfl) ⟨Nat.le_of_ble_eq_true rfl, Nat.le_of_ble_eq_true rfl⟩ ⟨Nat.zero_le _, Nat.zero_le _⟩ ?_
      refine z_iadd C d3_readNumber_27 ?_
      refine z_bipush C (48 : Int32) d3_readNumber_28 kB_48 ?_
      refine z_isub C d3_readNumber_30 ?_
      refine z_istore_n C d3_readNumber_31 (Nat.le_of_ble_eq_true rfl) rfl (L' := [some (zr 86), some (zi ((((10 : Int32) * x1) + r7) - (48 : Int32))), some (zi x2)]) rfl ?_
      refine z_aload_n C d3_readNumber_32 rfl ?_
      refine z_dup C d3_readNumber_33 rfl ?_
      refine z_getI C d3_readNumber_34 fl_201 kZ_86 ?_
      refine z_iconst C (1 : Int32) d3_readNumber_37 kI_1 ?_
      refine z_iadd C d3_readNumber_38 ?_
      obtain ⟨s8, e8, hf⟩ := zpx hf
      refine z_putI C d3_readNumber_39 fl_201 ft_3_3 kZ_86 e8 ?_
      refine z_iinc C d3_readNumber_42 rfl kI_1 (Nat.le_of_ble_eq_true rfl) rfl (L' := [some (zr 86), some (zi ((((10 : Int32) * x1) + r7) - (48 : Int32))), some (zi (x2 + (1 : Int32)))]) rfl ?_
      refine z_goto C d3_readNumber_45 ?_
      exact hq4 _ _ _ hf
theorem j3_readNumber_4l {x : ZX} {g : ZG} (C : zC x g b3_readNumber R3 none 3 2 81) {k : Nat} {r : Unit} {σr : ZS}  : ∀ (n : Nat) (x1 : Int32) (x2 : Int32) (σ : ZS), f3_readNumber_4 k  n x1 x2 σ = some (r, σr) → zw x g 3 0 0 (zMQ x g none σr) σ 4 [some (zr 86), some (zi x1), some (zi x2)] [] := by
  intro n
  induction n with
  | zero => intro x1 x2 σ hf; exact absurd (show none = some (r, σr) from hf) (fun z => by cases z)
  | succ n ih => intro x1 x2 σ hf; exact j3_readNumber_4 C  ih (show b3_readNumber_4 k  (f3_readNumber_4 k  n) x1 x2 σ = some (r, σr) from hf)
def f3_readNumber (k : Nat)  (σ : ZS) : Option (Unit × ZS) :=
  f3_readNumber_4 k  k (0 : Int32) (0 : Int32) σ
theorem c3_readNumber (l : Launch) (g : ZG) {k : Nat}  {σ : ZS} {r : Unit} {σr : ZS} (hf : f3_readNumber k  σ = some (r, σr)) : zT l g y3_readNumber b3_readNumber 3 none 2 81 [zr 86] σ none σr := by
  unfold f3_readNumber at hf
  refine zT_start (own := R3) rfl (by decide +kernel) 2 (L := [some (zr 86), none, none]) rfl rfl (fun x hl C => ?_)
  subst hl
  refine z_iconst C (0 : Int32) d3_readNumber_0 kI_0 ?_
  refine z_istore_n C d3_readNumber_1 (Nat.le_of_ble_eq_true rfl) rfl (L' := [some (zr 86), some (zi (0 : Int32)), none]) rfl ?_
  refine z_iconst C (0 : Int32) d3_readNumber_2 kI_0 ?_
  refine z_istore_n C d3_readNumber_3 (Nat.le_of_ble_eq_true rfl) rfl (L' := [some (zr 86), some (zi (0 : Int32)), some (zi (0 : Int32))]) rfl ?_
  exact j3_readNumber_4l C  _ _ _ _ hf
theorem dS_isLatin1_0 : zd bS_isLatin1 0 (.getstatic 38) 3 3 := ⟨by decide +kernel, rfl⟩
theorem dS_isLatin1_3 : zdb bS_isLatin1 3 (.ifCond .eq 14) 14 6 17 := ⟨by decide +kernel, rfl, by decide⟩
theorem dS_isLatin1_6 : zd bS_isLatin1 6 (.aload_n 0) 1 7 := ⟨by decide +kernel, rfl⟩
theorem dS_isLatin1_7 : zd bS_isLatin1 7 (.getfield 15) 3 10 := ⟨by decide +kernel, rfl⟩
theorem dS_isLatin1_10 : zdb bS_isLatin1 10 (.ifCond .ne 7) 7 13 17 := ⟨by decide +kernel, rfl, by decide⟩
theorem dS_isLatin1_13 : zd bS_isLatin1 13 (.iconst 1) 1 14 := ⟨by decide +kernel, rfl⟩
theorem dS_isLatin1_14 : zdb bS_isLatin1 14 (.goto 4) 4 17 18 := ⟨by decide +kernel, rfl, by decide⟩
theorem dS_isLatin1_17 : zd bS_isLatin1 17 (.iconst 0) 1 18 := ⟨by decide +kernel, rfl⟩
theorem dS_isLatin1_18 : zd bS_isLatin1 18 .ireturn 1 19 := ⟨by decide +kernel, rfl⟩
def fS_isLatin1 (k : Nat)  (σ : ZS) : Option (Int32 × ZS) :=
  if (1 : Int32) = 0 then (
  some ((0 : Int32), σ))
  else (
  if (0 : Int32) = 0 then (
  some ((1 : Int32), σ))
  else (
  some ((0 : Int32), σ)))
theorem cS_isLatin1 (l : Launch) (g : ZG) {k : Nat}  {σ : ZS} {r : Int32} {σr : ZS} (hf : fS_isLatin1 k  σ = some (r, σr)) : zT l g yS_isLatin1 bS_isLatin1 1 (some .boolean) 1 60 [zr 1002] σ (some (zi r)) σr := by
  unfold fS_isLatin1 at hf
  refine zT_start (own := RJS) rfl (by decide +kernel) 0 (L := [some (zr 1002)]) rfl rfl (fun x hl C => ?_)
  subst hl
  refine z_getsC C dS_isLatin1_0 w_516 ?_
  refine z_if_eq C dS_isLatin1_3 (fun c1 => ?_) (fun c1 => ?_)
  · have hf := zit c1 hf
    refine z_iconst C (0 : Int32) dS_isLatin1_17 kI_0 ?_
    exact z_zret C dS_isLatin1_18 (Or.inl rfl) hf
  · have hf := zie c1 hf
    refine z_aload_n C dS_isLatin1_6 rfl ?_
    refine z_strC C dS_isLatin1_7 w_1300 ?_
    refine z_if_ne C dS_isLatin1_10 (fun c2 => ?_) (fun c2 => ?_)
    · have hf := zit c2 hf
      refine z_iconst C (1 : Int32) dS_isLatin1_13 kI_1 ?_
      refine z_goto C dS_isLatin1_14 ?_
      exact z_zret C dS_isLatin1_18 (Or.inr rfl) hf
    · have hf := zie c2 hf
      refine z_iconst C (0 : Int32) dS_isLatin1_17 kI_0 ?_
      exact z_zret C dS_isLatin1_18 (Or.inl rfl) hf
theorem dP_checkIndex_0 : zd bP_checkIndex 0 (.iload_n 0) 1 1 := ⟨by decide +kernel, rfl⟩
theorem dP_checkIndex_1 : zdb bP_checkIndex 1 (.ifCond .lt 8) 8 4 9 := ⟨by decide +kernel, rfl, by decide⟩
theorem dP_checkIndex_4 : zd bP_checkIndex 4 (.iload_n 0) 1 5 := ⟨by decide +kernel, rfl⟩
theorem dP_checkIndex_5 : zd bP_checkIndex 5 (.iload_n 1) 1 6 := ⟨by decide +kernel, rfl⟩
theorem dP_checkIndex_6 : zdb bP_checkIndex 6 (.if_icmp .lt 10) 10 9 16 := ⟨by decide +kernel, rfl, by decide⟩
theorem dP_checkIndex_9 : zd bP_checkIndex 9 (.aload_n 2) 1 10 := ⟨by decide +kernel, rfl⟩
theorem dP_checkIndex_10 : zd bP_checkIndex 10 (.iload_n 0) 1 11 := ⟨by decide +kernel, rfl⟩
theorem dP_checkIndex_11 : zd bP_checkIndex 11 (.iload_n 1) 1 12 := ⟨by decide +kernel, rfl⟩
theorem dP_checkIndex_12 : zd bP_checkIndex 12 (.invokestatic 95) 3 15 := ⟨by decide +kernel, rfl⟩
theorem dP_checkIndex_16 : zd bP_checkIndex 16 (.iload_n 0) 1 17 := ⟨by decide +kernel, rfl⟩
theorem dP_checkIndex_17 : zd bP_checkIndex 17 .ireturn 1 18 := ⟨by decide +kernel, rfl⟩
def fP_checkIndex (k : Nat) (x0 : Int32) (x1 : Int32) (σ : ZS) : Option (Int32 × ZS) :=
  if x0 < 0 then (
  none)
  else (
  if x0 < x1 then (
  some (x0, σ))
  else (
  none))
theorem cP_checkIndex (l : Launch) (g : ZG) {k : Nat} {x2 : Nat} {x0 : Int32} {x1 : Int32} {σ : ZS} {r : Int32} {σr : ZS} (hf : fP_checkIndex k x0 x1 σ = some (r, σr)) : zT l g yP_checkIndex bP_checkIndex 3 (some .int) 1 60 [zi x0, zi x1, zr x2] σ (some (zi r)) σr := by
  unfold fP_checkIndex at hf
  refine zT_start (own := RJP) rfl (by decide +kernel) 0 (L := [some (zi x0), some (zi x1), some (zr x2)]) rfl rfl (fun x hl C => ?_)
  subst hl
  refine z_iload_n C dP_checkIndex_0 rfl ?_
  refine z_if_lt C dP_checkIndex_1 (fun c1 => ?_) (fun c1 => ?_)
  · have hf := zit c1 hf
    refine z_aload_n C dP_checkIndex_9 rfl ?_
    refine z_iload_n C dP_checkIndex_10 rfl ?_
    refine z_iload_n C dP_checkIndex_11 rfl ?_
    cases hf
  · have hf := zie c1 hf
    refine z_iload_n C dP_checkIndex_4 rfl ?_
    refine z_iload_n C dP_checkIndex_5 rfl ?_
    refine z_icmp_lt C dP_checkIndex_6 (fun c2 => ?_) (fun c2 => ?_)
    · have hf := zit c2 hf
      refine z_iload_n C dP_checkIndex_16 rfl ?_
      exact z_iret C dP_checkIndex_17 hf
    · have hf := zie c2 hf
      refine z_aload_n C dP_checkIndex_9 rfl ?_
      refine z_iload_n C dP_checkIndex_10 rfl ?_
      refine z_iload_n C dP_checkIndex_11 rfl ?_
      cases hf
theorem dS_checkIndex_0 : zd bS_checkIndex 0 (.iload_n 0) 1 1 := ⟨by decide +kernel, rfl⟩
theorem dS_checkIndex_1 : zd bS_checkIndex 1 (.iload_n 1) 1 2 := ⟨by decide +kernel, rfl⟩
theorem dS_checkIndex_2 : zd bS_checkIndex 2 (.getstatic 1053) 3 5 := ⟨by decide +kernel, rfl⟩
theorem dS_checkIndex_5 : zd bS_checkIndex 5 (.invokestatic 1059) 3 8 := ⟨by decide +kernel, rfl⟩
theorem dS_checkIndex_8 : zd bS_checkIndex 8 .pop 1 9 := ⟨by decide +kernel, rfl⟩
theorem dS_checkIndex_9 : zd bS_checkIndex 9 .return_ 1 10 := ⟨by decide +kernel, rfl⟩
def fS_checkIndex (k : Nat) (x0 : Int32) (x1 : Int32) (σ : ZS) : Option (Unit × ZS) :=
  zbd (fP_checkIndex k x0 x1 σ) fun r1 s1 =>
  some ((), s1)
theorem cS_checkIndex (l : Launch) (g : ZG) {k : Nat} {x0 : Int32} {x1 : Int32} {σ : ZS} {r : Unit} {σr : ZS} (hf : fS_checkIndex k x0 x1 σ = some (r, σr)) : zT l g yS_checkIndex bS_checkIndex 2 none 2 82 [zi x0, zi x1] σ none σr := by
  unfold fS_checkIndex at hf
  refine zT_start (own := RJS) rfl (by decide +kernel) 0 (L := [some (zi x0), some (zi x1)]) rfl rfl (fun x hl C => ?_)
  subst hl
  refine z_iload_n C dS_checkIndex_0 rfl ?_
  refine z_iload_n C dS_checkIndex_1 rfl ?_
  refine z_getsF C dS_checkIndex_2 w_532 ?_
  obtain ⟨r1, s1, h1, hf⟩ := zbx hf
  refine z_callSi C (as := [zi x0, zi x1, zr (g.2.2.2 5)]) dS_checkIndex_5 w_534 yyP_checkIndex (cP_checkIndex x.2.1 g h1) rfl rfl (Nat.le_of_ble_eq_true rfl) ⟨Nat.le_of_ble_eq_true rfl, Nat.le_of_ble_eq_true rfl⟩ ⟨Nat.zero_le _, Nat.zero_le _⟩ ?_
  refine z_pop C dS_checkIndex_8 rfl ?_
  exact z_vret C dS_checkIndex_9 hf
theorem dL_charAt_0 : zd bL_charAt 0 (.iload_n 1) 1 1 := ⟨by decide +kernel, rfl⟩
theorem dL_charAt_1 : zd bL_charAt 1 (.aload_n 0) 1 2 := ⟨by decide +kernel, rfl⟩
theorem dL_charAt_2 : zd bL_charAt 2 .arraylength 1 3 := ⟨by decide +kernel, rfl⟩
theorem dL_charAt_3 : zd bL_charAt 3 (.invokestatic 9) 3 6 := ⟨by decide +kernel, rfl⟩
theorem dL_charAt_6 : zd bL_charAt 6 (.aload_n 0) 1 7 := ⟨by decide +kernel, rfl⟩
theorem dL_charAt_7 : zd bL_charAt 7 (.iload_n 1) 1 8 := ⟨by decide +kernel, rfl⟩
theorem dL_charAt_8 : zd bL_charAt 8 .baload 1 9 := ⟨by decide +kernel, rfl⟩
theorem dL_charAt_9 : zd bL_charAt 9 (.sipush 255) 3 12 := ⟨by decide +kernel, rfl⟩
theorem dL_charAt_12 : zd bL_charAt 12 .iand 1 13 := ⟨by decide +kernel, rfl⟩
theorem dL_charAt_13 : zd bL_charAt 13 .i2c 1 14 := ⟨by decide +kernel, rfl⟩
theorem dL_charAt_14 : zd bL_charAt 14 .ireturn 1 15 := ⟨by decide +kernel, rfl⟩
def fL_charAt (k : Nat) (x1 : Int32) (σ : ZS) : Option (Int32 × ZS) :=
  zbd (fS_checkIndex k x1 (6 : Int32) σ) fun _ s1 =>
  if zin x1 6 then (
  if narrow .char (.int ((((zBy.getD 0 []).getD x1.toNatClampNeg 0) &&& (255 : Int32)).toUInt32 % 65536).toInt32) = .int ((((zBy.getD 0 []).getD x1.toNatClampNeg 0) &&& (255 : Int32)).toUInt32 % 65536).toInt32 then (
  some (((((zBy.getD 0 []).getD x1.toNatClampNeg 0) &&& (255 : Int32)).toUInt32 % 65536).toInt32, s1)) else none) else none
theorem cL_charAt (l : Launch) (g : ZG) {k : Nat} {x1 : Int32} {σ : ZS} {r : Int32} {σr : ZS} (hf : fL_charAt k x1 σ = some (r, σr)) : zT l g yL_charAt bL_charAt 2 (some .char) 3 103 [zr 1003, zi x1] σ (some (zi r)) σr := by
  unfold fL_charAt at hf
  refine zT_start (own := RJL) rfl (by decide +kernel) 0 (L := [some (zr 1003), some (zi x1)]) rfl rfl (fun x hl C => ?_)
  subst hl
  refine z_iload_n C dL_charAt_0 rfl ?_
  refine z_aload_n C dL_charAt_1 rfl ?_
  refine z_blen C dL_charAt_2 ?_
  obtain ⟨r1, s1, h1, hf⟩ := zbx hf
  refine z_callSv C (as := [zi x1, zi (6 : Int32)]) dL_charAt_3 w_529 yyS_checkIndex (cS_checkIndex x.2.1 g h1) rfl rfl (Nat.le_of_ble_eq_true rfl) ⟨Nat.le_of_ble_eq_true rfl, Nat.le_of_ble_eq_true rfl⟩ ⟨Nat.zero_le _, Nat.zero_le _⟩ ?_
  refine z_aload_n C dL_charAt_6 rfl ?_
  refine z_iload_n C dL_charAt_7 rfl ?_
  obtain ⟨g2, hf⟩ := zgo hf
  refine z_bald C dL_charAt_8 g2 ?_
  refine z_sipush C (255 : Int32) dL_charAt_9 kS_255 ?_
  refine z_iand C dL_charAt_12 ?_
  refine z_i2c C dL_charAt_13 ?_
  obtain ⟨g3, hf⟩ := zgo hf
  exact z_cret C dL_charAt_14 g3 hf
theorem dS_charAt_0 : zd bS_charAt 0 (.aload_n 0) 1 1 := ⟨by decide +kernel, rfl⟩
theorem dS_charAt_1 : zd bS_charAt 1 (.invokevirtual 492) 3 4 := ⟨by decide +kernel, rfl⟩
theorem dS_charAt_4 : zdb bS_charAt 4 (.ifCond .eq 12) 12 7 16 := ⟨by decide +kernel, rfl, by decide⟩
theorem dS_charAt_7 : zd bS_charAt 7 (.aload_n 0) 1 8 := ⟨by decide +kernel, rfl⟩
theorem dS_charAt_8 : zd bS_charAt 8 (.getfield 9) 3 11 := ⟨by decide +kernel, rfl⟩
theorem dS_charAt_11 : zd bS_charAt 11 (.iload_n 1) 1 12 := ⟨by decide +kernel, rfl⟩
theorem dS_charAt_12 : zd bS_charAt 12 (.invokestatic 495) 3 15 := ⟨by decide +kernel, rfl⟩
theorem dS_charAt_15 : zd bS_charAt 15 .ireturn 1 16 := ⟨by decide +kernel, rfl⟩
theorem dS_charAt_16 : zd bS_charAt 16 (.aload_n 0) 1 17 := ⟨by decide +kernel, rfl⟩
theorem dS_charAt_17 : zd bS_charAt 17 (.getfield 9) 3 20 := ⟨by decide +kernel, rfl⟩
theorem dS_charAt_20 : zd bS_charAt 20 (.iload_n 1) 1 21 := ⟨by decide +kernel, rfl⟩
theorem dS_charAt_21 : zd bS_charAt 21 (.invokestatic 498) 3 24 := ⟨by decide +kernel, rfl⟩
def fS_charAt (k : Nat) (x1 : Int32) (σ : ZS) : Option (Int32 × ZS) :=
  zbd (fS_isLatin1 k σ) fun r1 s1 =>
  if r1 = 0 then (
  none)
  else (
  zbd (fL_charAt k x1 s1) fun r3 s3 =>
  if narrow .char (.int r3) = .int r3 then (
  some (r3, s3)) else none)
theorem cS_charAt (l : Launch) (g : ZG) {k : Nat} {x1 : Int32} {σ : ZS} {r : Int32} {σr : ZS} (hf : fS_charAt k x1 σ = some (r, σr)) : zT l g yS_charAt bS_charAt 2 (some .char) 4 124 [zr 1002, zi x1] σ (some (zi r)) σr := by
  unfold fS_charAt at hf
  refine zT_start (own := RJS) rfl (by decide +kernel) 0 (L := [some (zr 1002), some (zi x1)]) rfl rfl (fun x hl C => ?_)
  subst hl
  refine z_aload_n C dS_charAt_0 rfl ?_
  obtain ⟨r1, s1, h1, hf⟩ := zbx hf
  refine z_callTi C (as := []) dS_charAt_1 w_522 yyS_isLatin1 rfl (cS_isLatin1 x.2.1 g h1) rfl rfl (Nat.le_of_ble_eq_true rfl) ⟨Nat.le_of_ble_eq_true rfl, Nat.le_of_ble_eq_true rfl⟩ ⟨Nat.zero_le _, Nat.zero_le _⟩ ?_
  refine z_if_eq C dS_charAt_4 (fun c2 => ?_) (fun c2 => ?_)
  · have hf := zit c2 hf
    refine z_aload_n C dS_charAt_16 rfl ?_
    refine z_strV C dS_charAt_17 w_1299 ?_
    refine z_iload_n C dS_charAt_20 rfl ?_
    cases hf
  · have hf := zie c2 hf
    refine z_aload_n C dS_charAt_7 rfl ?_
    refine z_strV C dS_charAt_8 w_1299 ?_
    refine z_iload_n C dS_charAt_11 rfl ?_
    obtain ⟨r3, s3, h3, hf⟩ := zbx hf
    refine z_callSi C (as := [zr 1003, zi x1]) dS_charAt_12 w_526 yyL_charAt (cL_charAt x.2.1 g h3) rfl rfl (Nat.le_of_ble_eq_true rfl) ⟨Nat.le_of_ble_eq_true rfl, Nat.le_of_ble_eq_true rfl⟩ ⟨Nat.zero_le _, Nat.zero_le _⟩ ?_
    obtain ⟨g4, hf⟩ := zgo hf
    exact z_cret C dS_charAt_15 g4 hf
theorem dS_coder_0 : zd bS_coder 0 (.getstatic 38) 3 3 := ⟨by decide +kernel, rfl⟩
theorem dS_coder_3 : zdb bS_coder 3 (.ifCond .eq 10) 10 6 13 := ⟨by decide +kernel, rfl, by decide⟩
theorem dS_coder_6 : zd bS_coder 6 (.aload_n 0) 1 7 := ⟨by decide +kernel, rfl⟩
theorem dS_coder_7 : zd bS_coder 7 (.getfield 15) 3 10 := ⟨by decide +kernel, rfl⟩
theorem dS_coder_10 : zdb bS_coder 10 (.goto 4) 4 13 14 := ⟨by decide +kernel, rfl, by decide⟩
theorem dS_coder_13 : zd bS_coder 13 (.iconst 1) 1 14 := ⟨by decide +kernel, rfl⟩
theorem dS_coder_14 : zd bS_coder 14 .ireturn 1 15 := ⟨by decide +kernel, rfl⟩
def fS_coder (k : Nat)  (σ : ZS) : Option (Int32 × ZS) :=
  if (1 : Int32) = 0 then (
  some ((1 : Int32), σ))
  else (
  some ((0 : Int32), σ))
theorem cS_coder (l : Launch) (g : ZG) {k : Nat}  {σ : ZS} {r : Int32} {σr : ZS} (hf : fS_coder k  σ = some (r, σr)) : zT l g yS_coder bS_coder 1 (some .byte) 1 60 [zr 1002] σ (some (zi r)) σr := by
  unfold fS_coder at hf
  refine zT_start (own := RJS) rfl (by decide +kernel) 0 (L := [some (zr 1002)]) rfl rfl (fun x hl C => ?_)
  subst hl
  refine z_getsC C dS_coder_0 w_516 ?_
  refine z_if_eq C dS_coder_3 (fun c1 => ?_) (fun c1 => ?_)
  · have hf := zit c1 hf
    refine z_iconst C (1 : Int32) dS_coder_13 kI_1 ?_
    exact z_sret C dS_coder_14 rfl hf
  · have hf := zie c1 hf
    refine z_aload_n C dS_coder_6 rfl ?_
    refine z_strC C dS_coder_7 w_1300 ?_
    refine z_goto C dS_coder_10 ?_
    exact z_sret C dS_coder_14 rfl hf
theorem dS_length_0 : zd bS_length 0 (.aload_n 0) 1 1 := ⟨by decide +kernel, rfl⟩
theorem dS_length_1 : zd bS_length 1 (.getfield 9) 3 4 := ⟨by decide +kernel, rfl⟩
theorem dS_length_4 : zd bS_length 4 .arraylength 1 5 := ⟨by decide +kernel, rfl⟩
theorem dS_length_5 : zd bS_length 5 (.aload_n 0) 1 6 := ⟨by decide +kernel, rfl⟩
theorem dS_length_6 : zd bS_length 6 (.invokevirtual 335) 3 9 := ⟨by decide +kernel, rfl⟩
theorem dS_length_9 : zd bS_length 9 .ishr 1 10 := ⟨by decide +kernel, rfl⟩
theorem dS_length_10 : zd bS_length 10 .ireturn 1 11 := ⟨by decide +kernel, rfl⟩
def fS_length (k : Nat)  (σ : ZS) : Option (Int32 × ZS) :=
  zbd (fS_coder k σ) fun r1 s1 =>
  some (((6 : Int32) >>> (r1 &&& 31)), s1)
theorem cS_length (l : Launch) (g : ZG) {k : Nat}  {σ : ZS} {r : Int32} {σr : ZS} (hf : fS_length k  σ = some (r, σr)) : zT l g yS_length bS_length 1 (some .int) 2 80 [zr 1002] σ (some (zi r)) σr := by
  unfold fS_length at hf
  refine zT_start (own := RJS) rfl (by decide +kernel) 0 (L := [some (zr 1002)]) rfl rfl (fun x hl C => ?_)
  subst hl
  refine z_aload_n C dS_length_0 rfl ?_
  refine z_strV C dS_length_1 w_1299 ?_
  refine z_blen C dS_length_4 ?_
  refine z_aload_n C dS_length_5 rfl ?_
  obtain ⟨r1, s1, h1, hf⟩ := zbx hf
  refine z_callTi C (as := []) dS_length_6 w_512 yyS_coder rfl (cS_coder x.2.1 g h1) rfl rfl (Nat.le_of_ble_eq_true rfl) ⟨Nat.le_of_ble_eq_true rfl, Nat.le_of_ble_eq_true rfl⟩ ⟨Nat.zero_le _, Nat.zero_le _⟩ ?_
  refine z_ishr C dS_length_9 ?_
  exact z_iret C dS_length_10 hf
theorem d3_readPart_0 : zd b3_readPart 0 (.iload_n 1) 1 1 := ⟨by decide +kernel, rfl⟩
theorem d3_readPart_1 : zd b3_readPart 1 (.iconst 5) 1 2 := ⟨by decide +kernel, rfl⟩
theorem d3_readPart_2 : zdb b3_readPart 2 (.if_icmp .lt 11) 11 5 13 := ⟨by decide +kernel, rfl, by decide⟩
theorem d3_readPart_5 : zd b3_readPart 5 (.aload_n 0) 1 6 := ⟨by decide +kernel, rfl⟩
theorem d3_readPart_6 : zd b3_readPart 6 (.iload_n 2) 1 7 := ⟨by decide +kernel, rfl⟩
theorem d3_readPart_7 : zd b3_readPart 7 (.invokevirtual 41) 3 10 := ⟨by decide +kernel, rfl⟩
theorem d3_readPart_10 : zdb b3_readPart 10 (.goto 9) 9 13 19 := ⟨by decide +kernel, rfl, by decide⟩
theorem d3_readPart_13 : zd b3_readPart 13 (.aload_n 0) 1 14 := ⟨by decide +kernel, rfl⟩
theorem d3_readPart_14 : zd b3_readPart 14 (.iload_n 1) 1 15 := ⟨by decide +kernel, rfl⟩
theorem d3_readPart_15 : zd b3_readPart 15 (.iload_n 2) 1 16 := ⟨by decide +kernel, rfl⟩
theorem d3_readPart_16 : zd b3_readPart 16 (.invokevirtual 45) 3 19 := ⟨by decide +kernel, rfl⟩
theorem d3_readPart_19 : zd b3_readPart 19 .ireturn 1 20 := ⟨by decide +kernel, rfl⟩
theorem d3_readLevel_0 : zd b3_readLevel 0 (.aload_n 0) 1 1 := ⟨by decide +kernel, rfl⟩
theorem d3_readLevel_1 : zd b3_readLevel 1 (.iload_n 1) 1 2 := ⟨by decide +kernel, rfl⟩
theorem d3_readLevel_2 : zd b3_readLevel 2 (.iconst 1) 1 3 := ⟨by decide +kernel, rfl⟩
theorem d3_readLevel_3 : zd b3_readLevel 3 .iadd 1 4 := ⟨by decide +kernel, rfl⟩
theorem d3_readLevel_4 : zd b3_readLevel 4 (.iload_n 2) 1 5 := ⟨by decide +kernel, rfl⟩
theorem d3_readLevel_5 : zd b3_readLevel 5 (.invokevirtual 37) 3 8 := ⟨by decide +kernel, rfl⟩
theorem d3_readLevel_8 : zdb b3_readLevel 8 (.ifCond .ne 5) 5 11 13 := ⟨by decide +kernel, rfl, by decide⟩
theorem d3_readLevel_11 : zd b3_readLevel 11 (.iconst 0) 1 12 := ⟨by decide +kernel, rfl⟩
theorem d3_readLevel_12 : zd b3_readLevel 12 .ireturn 1 13 := ⟨by decide +kernel, rfl⟩
theorem d3_readLevel_13 : zd b3_readLevel 13 (.iconst 0) 1 14 := ⟨by decide +kernel, rfl⟩
theorem d3_readLevel_14 : zd b3_readLevel 14 (.istore_n 3) 1 15 := ⟨by decide +kernel, rfl⟩
theorem d3_readLevel_15 : zd b3_readLevel 15 (.iload_n 3) 1 16 := ⟨by decide +kernel, rfl⟩
theorem d3_readLevel_16 : zd b3_readLevel 16 (.bipush 60) 2 18 := ⟨by decide +kernel, rfl⟩
theorem d3_readLevel_18 : zdb b3_readLevel 18 (.if_icmp .ge 66) 66 21 84 := ⟨by decide +kernel, rfl, by decide⟩
theorem d3_readLevel_21 : zd b3_readLevel 21 (.aload_n 0) 1 22 := ⟨by decide +kernel, rfl⟩
theorem d3_readLevel_22 : zd b3_readLevel 22 (.invokevirtual 48) 3 25 := ⟨by decide +kernel, rfl⟩
theorem d3_readLevel_25 : zd b3_readLevel 25 (.invokestatic 52) 3 28 := ⟨by decide +kernel, rfl⟩
theorem d3_readLevel_28 : zd b3_readLevel 28 (.iload_n 1) 1 29 := ⟨by decide +kernel, rfl⟩
theorem d3_readLevel_29 : zdb b3_readLevel 29 (.if_icmp .ne 55) 55 32 84 := ⟨by decide +kernel, rfl, by decide⟩
theorem d3_readLevel_32 : zd b3_readLevel 32 (.aload_n 0) 1 33 := ⟨by decide +kernel, rfl⟩
theorem d3_readLevel_33 : zd b3_readLevel 33 (.invokevirtual 48) 3 36 := ⟨by decide +kernel, rfl⟩
theorem d3_readLevel_36 : zd b3_readLevel 36 (.istore 4) 2 38 := ⟨by decide +kernel, rfl⟩
theorem d3_readLevel_38 : zd b3_readLevel 38 (.aload_n 0) 1 39 := ⟨by decide +kernel, rfl⟩
theorem d3_readLevel_39 : zd b3_readLevel 39 .dup 1 40 := ⟨by decide +kernel, rfl⟩
theorem d3_readLevel_40 : zd b3_readLevel 40 (.getfield 26) 3 43 := ⟨by decide +kernel, rfl⟩
theorem d3_readLevel_43 : zd b3_readLevel 43 (.iconst 1) 1 44 := ⟨by decide +kernel, rfl⟩
theorem d3_readLevel_44 : zd b3_readLevel 44 .iadd 1 45 := ⟨by decide +kernel, rfl⟩
theorem d3_readLevel_45 : zd b3_readLevel 45 (.putfield 26) 3 48 := ⟨by decide +kernel, rfl⟩
theorem d3_readLevel_48 : zd b3_readLevel 48 (.aload_n 0) 1 49 := ⟨by decide +kernel, rfl⟩
theorem d3_readLevel_49 : zd b3_readLevel 49 (.iload_n 1) 1 50 := ⟨by decide +kernel, rfl⟩
theorem d3_readLevel_50 : zd b3_readLevel 50 (.iconst 1) 1 51 := ⟨by decide +kernel, rfl⟩
theorem d3_readLevel_51 : zd b3_readLevel 51 .iadd 1 52 := ⟨by decide +kernel, rfl⟩
theorem d3_readLevel_52 : zd b3_readLevel 52 (.iload_n 2) 1 53 := ⟨by decide +kernel, rfl⟩
theorem d3_readLevel_53 : zd b3_readLevel 53 (.invokevirtual 37) 3 56 := ⟨by decide +kernel, rfl⟩
theorem d3_readLevel_56 : zdb b3_readLevel 56 (.ifCond .ne 5) 5 59 61 := ⟨by decide +kernel, rfl, by decide⟩
theorem d3_readLevel_59 : zd b3_readLevel 59 (.iconst 0) 1 60 := ⟨by decide +kernel, rfl⟩
theorem d3_readLevel_60 : zd b3_readLevel 60 .ireturn 1 61 := ⟨by decide +kernel, rfl⟩
theorem d3_readLevel_61 : zd b3_readLevel 61 (.aload_n 0) 1 62 := ⟨by decide +kernel, rfl⟩
theorem d3_readLevel_62 : zd b3_readLevel 62 (.getfield 12) 3 65 := ⟨by decide +kernel, rfl⟩
theorem d3_readLevel_65 : zd b3_readLevel 65 (.iload 4) 2 67 := ⟨by decide +kernel, rfl⟩
theorem d3_readLevel_67 : zd b3_readLevel 67 .ineg 1 68 := ⟨by decide +kernel, rfl⟩
theorem d3_readLevel_68 : zd b3_readLevel 68 (.invokevirtual 56) 3 71 := ⟨by decide +kernel, rfl⟩
theorem d3_readLevel_71 : zd b3_readLevel 71 (.iload_n 1) 1 72 := ⟨by decide +kernel, rfl⟩
theorem d3_readLevel_72 : zd b3_readLevel 72 (.iconst 2) 1 73 := ⟨by decide +kernel, rfl⟩
theorem d3_readLevel_73 : zdb b3_readLevel 73 (.if_icmp .ne 5) 5 76 78 := ⟨by decide +kernel, rfl, by decide⟩
theorem d3_readLevel_76 : zd b3_readLevel 76 (.iconst 1) 1 77 := ⟨by decide +kernel, rfl⟩
theorem d3_readLevel_77 : zd b3_readLevel 77 .ireturn 1 78 := ⟨by decide +kernel, rfl⟩
theorem d3_readLevel_78 : zd b3_readLevel 78 (.iinc 3 1) 3 81 := ⟨by decide +kernel, rfl⟩
theorem d3_readLevel_81 : zdb b3_readLevel 81 (.goto (-66)) (-66) 84 15 := ⟨by decide +kernel, rfl, by decide⟩
theorem d3_readLevel_84 : zd b3_readLevel 84 (.iconst 1) 1 85 := ⟨by decide +kernel, rfl⟩
theorem d3_readLevel_85 : zd b3_readLevel 85 .ireturn 1 86 := ⟨by decide +kernel, rfl⟩
theorem d3_readUnit_0 : zd b3_readUnit 0 (.aload_n 0) 1 1 := ⟨by decide +kernel, rfl⟩
theorem d3_readUnit_1 : zd b3_readUnit 1 (.invokevirtual 48) 3 4 := ⟨by decide +kernel, rfl⟩
theorem d3_readUnit_4 : zd b3_readUnit 4 (.istore_n 2) 1 5 := ⟨by decide +kernel, rfl⟩
theorem d3_readUnit_5 : zd b3_readUnit 5 (.iload_n 2) 1 6 := ⟨by decide +kernel, rfl⟩
theorem d3_readUnit_6 : zd b3_readUnit 6 (.invokestatic 60) 3 9 := ⟨by decide +kernel, rfl⟩
theorem d3_readUnit_9 : zdb b3_readUnit 9 (.ifCond .eq 9) 9 12 18 := ⟨by decide +kernel, rfl, by decide⟩
theorem d3_readUnit_12 : zd b3_readUnit 12 (.aload_n 0) 1 13 := ⟨by decide +kernel, rfl⟩
theorem d3_readUnit_13 : zd b3_readUnit 13 (.invokevirtual 63) 3 16 := ⟨by decide +kernel, rfl⟩
theorem d3_readUnit_16 : zd b3_readUnit 16 (.iconst 1) 1 17 := ⟨by decide +kernel, rfl⟩
theorem d3_readUnit_17 : zd b3_readUnit 17 .ireturn 1 18 := ⟨by decide +kernel, rfl⟩
theorem d3_readUnit_18 : zd b3_readUnit 18 (.iload_n 2) 1 19 := ⟨by decide +kernel, rfl⟩
theorem d3_readUnit_19 : zd b3_readUnit 19 (.bipush 33) 2 21 := ⟨by decide +kernel, rfl⟩
theorem d3_readUnit_21 : zdb b3_readUnit 21 (.if_icmp .eq 9) 9 24 30 := ⟨by decide +kernel, rfl, by decide⟩
theorem d3_readUnit_24 : zd b3_readUnit 24 (.iload_n 2) 1 25 := ⟨by decide +kernel, rfl⟩
theorem d3_readUnit_25 : zd b3_readUnit 25 (.bipush 40) 2 27 := ⟨by decide +kernel, rfl⟩
theorem d3_readUnit_27 : zdb b3_readUnit 27 (.if_icmp .ne 25) 25 30 52 := ⟨by decide +kernel, rfl, by decide⟩
theorem d3_readUnit_30 : zd b3_readUnit 30 (.iload_n 1) 1 31 := ⟨by decide +kernel, rfl⟩
theorem d3_readUnit_31 : zd b3_readUnit 31 (.iconst 5) 1 32 := ⟨by decide +kernel, rfl⟩
theorem d3_readUnit_32 : zdb b3_readUnit 32 (.if_icmp .ge 18) 18 35 50 := ⟨by decide +kernel, rfl, by decide⟩
theorem d3_readUnit_35 : zd b3_readUnit 35 (.aload_n 0) 1 36 := ⟨by decide +kernel, rfl⟩
theorem d3_readUnit_36 : zd b3_readUnit 36 (.iload_n 2) 1 37 := ⟨by decide +kernel, rfl⟩
theorem d3_readUnit_37 : zd b3_readUnit 37 (.iload_n 1) 1 38 := ⟨by decide +kernel, rfl⟩
theorem d3_readUnit_38 : zd b3_readUnit 38 (.iconst 1) 1 39 := ⟨by decide +kernel, rfl⟩
theorem d3_readUnit_39 : zd b3_readUnit 39 .iadd 1 40 := ⟨by decide +kernel, rfl⟩
theorem d3_readUnit_40 : zd b3_readUnit 40 (.invokevirtual 66) 3 43 := ⟨by decide +kernel, rfl⟩
theorem d3_readUnit_43 : zdb b3_readUnit 43 (.ifCond .eq 7) 7 46 50 := ⟨by decide +kernel, rfl, by decide⟩
theorem d3_readUnit_46 : zd b3_readUnit 46 (.iconst 1) 1 47 := ⟨by decide +kernel, rfl⟩
theorem d3_readUnit_47 : zdb b3_readUnit 47 (.goto 4) 4 50 51 := ⟨by decide +kernel, rfl, by decide⟩
theorem d3_readUnit_50 : zd b3_readUnit 50 (.iconst 0) 1 51 := ⟨by decide +kernel, rfl⟩
theorem d3_readUnit_51 : zd b3_readUnit 51 .ireturn 1 52 := ⟨by decide +kernel, rfl⟩
theorem d3_readUnit_52 : zd b3_readUnit 52 (.iconst 0) 1 53 := ⟨by decide +kernel, rfl⟩
theorem d3_readUnit_53 : zd b3_readUnit 53 (.istore_n 3) 1 54 := ⟨by decide +kernel, rfl⟩
theorem d3_readUnit_54 : zd b3_readUnit 54 (.iload_n 3) 1 55 := ⟨by decide +kernel, rfl⟩
theorem d3_readUnit_55 : zd b3_readUnit 55 (.iconst 3) 1 56 := ⟨by decide +kernel, rfl⟩
theorem d3_readUnit_56 : zdb b3_readUnit 56 (.if_icmp .ge 67) 67 59 123 := ⟨by decide +kernel, rfl, by decide⟩
theorem d3_readUnit_59 : zd b3_readUnit 59 (.iconst 3) 1 60 := ⟨by decide +kernel, rfl⟩
theorem d3_readUnit_60 : zd b3_readUnit 60 (.aload_n 0) 1 61 := ⟨by decide +kernel, rfl⟩
theorem d3_readUnit_61 : zd b3_readUnit 61 (.getfield 29) 3 64 := ⟨by decide +kernel, rfl⟩
theorem d3_readUnit_64 : zd b3_readUnit 64 .imul 1 65 := ⟨by decide +kernel, rfl⟩
theorem d3_readUnit_65 : zd b3_readUnit 65 (.iload_n 3) 1 66 := ⟨by decide +kernel, rfl⟩
theorem d3_readUnit_66 : zd b3_readUnit 66 .iadd 1 67 := ⟨by decide +kernel, rfl⟩
theorem d3_readUnit_67 : zd b3_readUnit 67 (.istore 4) 2 69 := ⟨by decide +kernel, rfl⟩
theorem d3_readUnit_69 : zd b3_readUnit 69 (.iload 4) 2 71 := ⟨by decide +kernel, rfl⟩
theorem d3_readUnit_71 : zdb b3_readUnit 71 (.ifCond .lt 46) 46 74 117 := ⟨by decide +kernel, rfl, by decide⟩
theorem d3_readUnit_74 : zd b3_readUnit 74 (.iload 4) 2 76 := ⟨by decide +kernel, rfl⟩
theorem d3_readUnit_76 : zd b3_readUnit 76 (.ldc 69) 2 78 := ⟨by decide +kernel, rfl⟩
theorem d3_readUnit_78 : zd b3_readUnit 78 (.invokevirtual 71) 3 81 := ⟨by decide +kernel, rfl⟩
theorem d3_readUnit_81 : zdb b3_readUnit 81 (.if_icmp .ge 36) 36 84 117 := ⟨by decide +kernel, rfl, by decide⟩
theorem d3_readUnit_84 : zd b3_readUnit 84 (.ldc 69) 2 86 := ⟨by decide +kernel, rfl⟩
theorem d3_readUnit_86 : zd b3_readUnit 86 (.iload 4) 2 88 := ⟨by decide +kernel, rfl⟩
theorem d3_readUnit_88 : zd b3_readUnit 88 (.invokevirtual 75) 3 91 := ⟨by decide +kernel, rfl⟩
theorem d3_readUnit_91 : zd b3_readUnit 91 (.iload_n 2) 1 92 := ⟨by decide +kernel, rfl⟩
theorem d3_readUnit_92 : zdb b3_readUnit 92 (.if_icmp .ne 25) 25 95 117 := ⟨by decide +kernel, rfl, by decide⟩
theorem d3_readUnit_95 : zd b3_readUnit 95 (.aload_n 0) 1 96 := ⟨by decide +kernel, rfl⟩
theorem d3_readUnit_96 : zd b3_readUnit 96 (.getfield 12) 3 99 := ⟨by decide +kernel, rfl⟩
theorem d3_readUnit_99 : zd b3_readUnit 99 (.iconst (-1)) 1 100 := ⟨by decide +kernel, rfl⟩
theorem d3_readUnit_100 : zd b3_readUnit 100 (.iload_n 3) 1 101 := ⟨by decide +kernel, rfl⟩
theorem d3_readUnit_101 : zd b3_readUnit 101 .isub 1 102 := ⟨by decide +kernel, rfl⟩
theorem d3_readUnit_102 : zd b3_readUnit 102 (.invokevirtual 56) 3 105 := ⟨by decide +kernel, rfl⟩
theorem d3_readUnit_105 : zd b3_readUnit 105 (.aload_n 0) 1 106 := ⟨by decide +kernel, rfl⟩
theorem d3_readUnit_106 : zd b3_readUnit 106 .dup 1 107 := ⟨by decide +kernel, rfl⟩
theorem d3_readUnit_107 : zd b3_readUnit 107 (.getfield 26) 3 110 := ⟨by decide +kernel, rfl⟩
theorem d3_readUnit_110 : zd b3_readUnit 110 (.iconst 1) 1 111 := ⟨by decide +kernel, rfl⟩
theorem d3_readUnit_111 : zd b3_readUnit 111 .iadd 1 112 := ⟨by decide +kernel, rfl⟩
theorem d3_readUnit_112 : zd b3_readUnit 112 (.putfield 26) 3 115 := ⟨by decide +kernel, rfl⟩
theorem d3_readUnit_115 : zd b3_readUnit 115 (.iconst 1) 1 116 := ⟨by decide +kernel, rfl⟩
theorem d3_readUnit_116 : zd b3_readUnit 116 .ireturn 1 117 := ⟨by decide +kernel, rfl⟩
theorem d3_readUnit_117 : zd b3_readUnit 117 (.iinc 3 1) 3 120 := ⟨by decide +kernel, rfl⟩
theorem d3_readUnit_120 : zdb b3_readUnit 120 (.goto (-66)) (-66) 123 54 := ⟨by decide +kernel, rfl, by decide⟩
theorem d3_readUnit_123 : zd b3_readUnit 123 (.iconst 0) 1 124 := ⟨by decide +kernel, rfl⟩
theorem d3_readUnit_124 : zd b3_readUnit 124 .ireturn 1 125 := ⟨by decide +kernel, rfl⟩
theorem d3_readOpen_0 : zd b3_readOpen 0 (.aload_n 0) 1 1 := ⟨by decide +kernel, rfl⟩
theorem d3_readOpen_1 : zd b3_readOpen 1 .dup 1 2 := ⟨by decide +kernel, rfl⟩
theorem d3_readOpen_2 : zd b3_readOpen 2 (.getfield 26) 3 5 := ⟨by decide +kernel, rfl⟩
theorem d3_readOpen_5 : zd b3_readOpen 5 (.iconst 1) 1 6 := ⟨by decide +kernel, rfl⟩
theorem d3_readOpen_6 : zd b3_readOpen 6 .iadd 1 7 := ⟨by decide +kernel, rfl⟩
theorem d3_readOpen_7 : zd b3_readOpen 7 (.putfield 26) 3 10 := ⟨by decide +kernel, rfl⟩
theorem d3_readOpen_10 : zd b3_readOpen 10 (.iload_n 1) 1 11 := ⟨by decide +kernel, rfl⟩
theorem d3_readOpen_11 : zd b3_readOpen 11 (.bipush 33) 2 13 := ⟨by decide +kernel, rfl⟩
theorem d3_readOpen_13 : zdb b3_readOpen 13 (.if_icmp .ne 20) 20 16 33 := ⟨by decide +kernel, rfl, by decide⟩
theorem d3_readOpen_16 : zd b3_readOpen 16 (.aload_n 0) 1 17 := ⟨by decide +kernel, rfl⟩
theorem d3_readOpen_17 : zd b3_readOpen 17 (.iload_n 2) 1 18 := ⟨by decide +kernel, rfl⟩
theorem d3_readOpen_18 : zd b3_readOpen 18 (.invokevirtual 41) 3 21 := ⟨by decide +kernel, rfl⟩
theorem d3_readOpen_21 : zd b3_readOpen 21 (.istore_n 3) 1 22 := ⟨by decide +kernel, rfl⟩
theorem d3_readOpen_22 : zd b3_readOpen 22 (.aload_n 0) 1 23 := ⟨by decide +kernel, rfl⟩
theorem d3_readOpen_23 : zd b3_readOpen 23 (.getfield 12) 3 26 := ⟨by decide +kernel, rfl⟩
theorem d3_readOpen_26 : zd b3_readOpen 26 (.iload_n 1) 1 27 := ⟨by decide +kernel, rfl⟩
theorem d3_readOpen_27 : zd b3_readOpen 27 .ineg 1 28 := ⟨by decide +kernel, rfl⟩
theorem d3_readOpen_28 : zd b3_readOpen 28 (.invokevirtual 56) 3 31 := ⟨by decide +kernel, rfl⟩
theorem d3_readOpen_31 : zd b3_readOpen 31 (.iload_n 3) 1 32 := ⟨by decide +kernel, rfl⟩
theorem d3_readOpen_32 : zd b3_readOpen 32 .ireturn 1 33 := ⟨by decide +kernel, rfl⟩
theorem d3_readOpen_33 : zd b3_readOpen 33 (.aload_n 0) 1 34 := ⟨by decide +kernel, rfl⟩
theorem d3_readOpen_34 : zd b3_readOpen 34 (.iconst 0) 1 35 := ⟨by decide +kernel, rfl⟩
theorem d3_readOpen_35 : zd b3_readOpen 35 (.iload_n 2) 1 36 := ⟨by decide +kernel, rfl⟩
theorem d3_readOpen_36 : zd b3_readOpen 36 (.invokevirtual 37) 3 39 := ⟨by decide +kernel, rfl⟩
theorem d3_readOpen_39 : zdb b3_readOpen 39 (.ifCond .eq 12) 12 42 51 := ⟨by decide +kernel, rfl, by decide⟩
theorem d3_readOpen_42 : zd b3_readOpen 42 (.aload_n 0) 1 43 := ⟨by decide +kernel, rfl⟩
theorem d3_readOpen_43 : zd b3_readOpen 43 (.invokevirtual 48) 3 46 := ⟨by decide +kernel, rfl⟩
theorem d3_readOpen_46 : zd b3_readOpen 46 (.bipush 41) 2 48 := ⟨by decide +kernel, rfl⟩
theorem d3_readOpen_48 : zdb b3_readOpen 48 (.if_icmp .eq 5) 5 51 53 := ⟨by decide +kernel, rfl, by decide⟩
theorem d3_readOpen_51 : zd b3_readOpen 51 (.iconst 0) 1 52 := ⟨by decide +kernel, rfl⟩
theorem d3_readOpen_52 : zd b3_readOpen 52 .ireturn 1 53 := ⟨by decide +kernel, rfl⟩
theorem d3_readOpen_53 : zd b3_readOpen 53 (.aload_n 0) 1 54 := ⟨by decide +kernel, rfl⟩
theorem d3_readOpen_54 : zd b3_readOpen 54 .dup 1 55 := ⟨by decide +kernel, rfl⟩
theorem d3_readOpen_55 : zd b3_readOpen 55 (.getfield 26) 3 58 := ⟨by decide +kernel, rfl⟩
theorem d3_readOpen_58 : zd b3_readOpen 58 (.iconst 1) 1 59 := ⟨by decide +kernel, rfl⟩
theorem d3_readOpen_59 : zd b3_readOpen 59 .iadd 1 60 := ⟨by decide +kernel, rfl⟩
theorem d3_readOpen_60 : zd b3_readOpen 60 (.putfield 26) 3 63 := ⟨by decide +kernel, rfl⟩
theorem d3_readOpen_63 : zd b3_readOpen 63 (.iconst 1) 1 64 := ⟨by decide +kernel, rfl⟩
theorem d3_readOpen_64 : zd b3_readOpen 64 .ireturn 1 65 := ⟨by decide +kernel, rfl⟩
def zGRD (l : Launch) (g : ZG) (F Lo : Nat) (rc : Nat → List Int32 → ZS → Option (Int32 × ZS)) : Prop :=
  (∀ (a0 : Int32) (a1 : Int32) (σ : ZS) (r : Int32) (σr : ZS), rc 0 [a0, a1] σ = some (r, σr) → zT l g y3_readPart b3_readPart 3 (some .boolean) (F) (Lo) [zr 86, zi a0, zi a1] σ (some (zi r)) σr) ∧
  (∀ (a0 : Int32) (a1 : Int32) (σ : ZS) (r : Int32) (σr : ZS), rc 1 [a0, a1] σ = some (r, σr) → zT l g y3_readLevel b3_readLevel 5 (some .boolean) (F) (Lo) [zr 86, zi a0, zi a1] σ (some (zi r)) σr) ∧
  (∀ (a0 : Int32) (σ : ZS) (r : Int32) (σr : ZS), rc 2 [a0] σ = some (r, σr) → zT l g y3_readUnit b3_readUnit 5 (some .boolean) (F) (Lo) [zr 86, zi a0] σ (some (zi r)) σr) ∧
  (∀ (a0 : Int32) (a1 : Int32) (σ : ZS) (r : Int32) (σr : ZS), rc 3 [a0, a1] σ = some (r, σr) → zT l g y3_readOpen b3_readOpen 4 (some .boolean) (F) (Lo) [zr 86, zi a0, zi a1] σ (some (zi r)) σr)
def f3_readPart (k : Nat) (rc : Nat → List Int32 → ZS → Option (Int32 × ZS)) (x1 : Int32) (x2 : Int32) (σ : ZS) : Option (Int32 × ZS) :=
  if x1 < (5 : Int32) then (
  zbd (rc 1 [x1, x2] σ) fun r2 s2 =>
  if zbo r2 then (
  some (r2, s2)) else none)
  else (
  zbd (rc 2 [x2] σ) fun r4 s4 =>
  if zbo r4 then (
  some (r4, s4)) else none)
theorem c3_readPart (l : Launch) (g : ZG) {F Lo : Nat} {k : Nat} (hF : 5 ≤ F ∧ 145 ≤ Lo) {rc : Nat → List Int32 → ZS → Option (Int32 × ZS)} (hrc : zGRD l g F Lo rc) {x1 : Int32} {x2 : Int32} {σ : ZS} {r : Int32} {σr : ZS} (hf : f3_readPart k rc x1 x2 σ = some (r, σr)) : zT l g y3_readPart b3_readPart 3 (some .boolean) (F + 1) (Lo + 24) [zr 86, zi x1, zi x2] σ (some (zi r)) σr := by
  unfold f3_readPart at hf
  refine zT_start (own := R3) rfl (by decide +kernel) 0 (L := [some (zr 86), some (zi x1), some (zi x2)]) rfl rfl (fun x hl C => ?_)
  subst hl
  refine z_iload_n C d3_readPart_0 rfl ?_
  refine z_iconst C (5 : Int32) d3_readPart_1 kI_5 ?_
  refine z_icmp_lt C d3_readPart_2 (fun c1 => ?_) (fun c1 => ?_)
  · have hf := zit c1 hf
    refine z_aload_n C d3_readPart_13 rfl ?_
    refine z_iload_n C d3_readPart_14 rfl ?_
    refine z_iload_n C d3_readPart_15 rfl ?_
    obtain ⟨r2, s2, h2, hf⟩ := zbx hf
    refine z_callVi C (as := [zi x1, zi x2]) d3_readPart_16 w_556 yy3_readLevel (hrc.2.1 _ _ _ _ _ h2) yc3_readLevel kZ_86 rfl rfl (Nat.le_of_ble_eq_true rfl) ⟨by omega, by omega⟩ ⟨Nat.zero_le _, Nat.zero_le _⟩ ?_
    obtain ⟨g3, hf⟩ := zgo hf
    exact z_zret C d3_readPart_19 g3 hf
  · have hf := zie c1 hf
    refine z_aload_n C d3_readPart_5 rfl ?_
    refine z_iload_n C d3_readPart_6 rfl ?_
    obtain ⟨r4, s4, h4, hf⟩ := zbx hf
    refine z_callVi C (as := [zi x2]) d3_readPart_7 w_484 yy3_readUnit (hrc.2.2.1 _ _ _ _ h4) yc3_readUnit kZ_86 rfl rfl (Nat.le_of_ble_eq_true rfl) ⟨by omega, by omega⟩ ⟨Nat.zero_le _, Nat.zero_le _⟩ ?_
    refine z_goto C d3_readPart_10 ?_
    obtain ⟨g5, hf⟩ := zgo hf
    exact z_zret C d3_readPart_19 g5 hf
def b3_readLevel_15 (k : Nat) (rc : Nat → List Int32 → ZS → Option (Int32 × ZS)) (q15 : Int32 → Int32 → Int32 → ZS → Option (Int32 × ZS)) (x1 : Int32) (x2 : Int32) (x3 : Int32) (σ : ZS) : Option (Int32 × ZS) :=
  if (60 : Int32) ≤ x3 then (
  some ((1 : Int32), σ))
  else (
  zbd (f3_signHere k σ) fun r2 s2 =>
  zbd (f3_levelOf k r2 s2) fun r3 s3 =>
  if r3 = x1 then (
  zbd (f3_signHere k s3) fun r5 s5 =>
  zput (zu s5 86 3 ((s5 86 3) + (1 : Int32))) fun s6 =>
  zbd (rc 0 [(x1 + (1 : Int32)), x2] s6) fun r7 s7 =>
  if r7 = 0 then (
  some ((0 : Int32), s7))
  else (
  zbd (f6_add k 87 (-r5) s7) fun _ s9 =>
  if x1 = (2 : Int32) then (
  some ((1 : Int32), s9))
  else (
  q15 x1 x2 (x3 + (1 : Int32)) s9)))
  else (
  some ((1 : Int32), s3)))
def f3_readLevel_15 (k : Nat) (rc : Nat → List Int32 → ZS → Option (Int32 × ZS)) : Nat → Int32 → Int32 → Int32 → ZS → Option (Int32 × ZS)
  | 0 => fun _ _ _ _ => none
  | n + 1 => b3_readLevel_15 k rc  (f3_readLevel_15 k rc  n)
theorem j3_readLevel_15 {x : ZX} {g : ZG} {F Lo : Nat} (C : zC x g b3_readLevel R3 (some .boolean) 5 (F + 1) (Lo + 24)) {k : Nat} (hF : 5 ≤ F ∧ 145 ≤ Lo) {rc : Nat → List Int32 → ZS → Option (Int32 × ZS)} (hrc : zGRD x.2.1 g F Lo rc) {r : Int32} {σr : ZS}  {q15 : Int32 → Int32 → Int32 → ZS → Option (Int32 × ZS)} (hq15 : (∀ (x1 : Int32) (x2 : Int32) (x3 : Int32) (σ : ZS), q15 x1 x2 x3 σ = some (r, σr) → zw x g 5 0 0 (zMQ x g (some (zi r)) σr) σ 15 [some (zr 86), some (zi x1), some (zi x2), some (zi x3), none] [])) {x1 : Int32} {x2 : Int32} {x3 : Int32} {σ : ZS} (hf : b3_readLevel_15 k rc q15 x1 x2 x3 σ = some (r, σr)) : zw x g 5 0 0 (zMQ x g (some (zi r)) σr) σ 15 [some (zr 86), some (zi x1), some (zi x2), some (zi x3), none] [] := by
  unfold b3_readLevel_15 at hf
  refine z_iload_n C d3_readLevel_15 rfl ?_
  refine z_bipush C (60 : Int32) d3_readLevel_16 kB_60 ?_
  refine z_icmp_ge C d3_readLevel_18 (fun c1 => ?_) (fun c1 => ?_)
  · have hf := zit c1 hf
    refine z_iconst C (1 : Int32) d3_readLevel_84 kI_1 ?_
    exact z_zret C d3_readLevel_85 (Or.inr rfl) hf
  · have hf := zie c1 hf
    refine z_aload_n C d3_readLevel_21 rfl ?_
    obtain ⟨r2, s2, h2, hf⟩ := zbx hf
    refine z_callVi C (as := []) d3_readLevel_22 w_488 yy3_signHere (c3_signHere x.2.1 g h2) yc3_signHere kZ_86 rfl rfl (Nat.le_of_ble_eq_true rfl) ⟨by omega, by omega⟩ ⟨Nat.zero_le _, Nat.zero_le _⟩ ?_
    obtain ⟨r3, s3, h3, hf⟩ := zbx hf
    refine z_callSi C (as := [zi r2]) d3_readLevel_25 w_560 yy3_levelOf (c3_levelOf x.2.1 g h3) rfl rfl (Nat.le_of_ble_eq_true rfl) ⟨by omega, by omega⟩ ⟨Nat.zero_le _, Nat.zero_le _⟩ ?_
    refine z_iload_n C d3_readLevel_28 rfl ?_
    refine z_icmp_ne C d3_readLevel_29 (fun c4 => ?_) (fun c4 => ?_)
    · have hf := zit c4 hf
      refine z_aload_n C d3_readLevel_32 rfl ?_
      obtain ⟨r5, s5, h5, hf⟩ := zbx hf
      refine z_callVi C (as := []) d3_readLevel_33 w_488 yy3_signHere (c3_signHere x.2.1 g h5) yc3_signHere kZ_86 rfl rfl (Nat.le_of_ble_eq_true rfl) ⟨by omega, by omega⟩ ⟨Nat.zero_le _, Nat.zero_le _⟩ ?_
      refine z_istore C d3_readLevel_36 (Nat.le_of_ble_eq_true rfl) rfl (L' := [some (zr 86), some (zi x1), some (zi x2), some (zi x3), some (zi r5)]) rfl ?_
      refine z_aload_n C d3_readLevel_38 rfl ?_
      refine z_dup C d3_readLevel_39 rfl ?_
      refine z_getI C d3_readLevel_40 fl_201 kZ_86 ?_
      refine z_iconst C (1 : Int32) d3_readLevel_43 kI_1 ?_
      refine z_iadd C d3_readLevel_44 ?_
      obtain ⟨s6, e6, hf⟩ := zpx hf
      refine z_putI C d3_readLevel_45 fl_201 ft_3_3 kZ_86 e6 ?_
      refine z_aload_n C d3_readLevel_48 rfl ?_
      refine z_iload_n C d3_readLevel_49 rfl ?_
      refine z_iconst C (1 : Int32) d3_readLevel_50 kI_1 ?_
      refine z_iadd C d3_readLevel_51 ?_
      refine z_iload_n C d3_readLevel_52 rfl ?_
      obtain ⟨r7, s7, h7, hf⟩ := zbx hf
      refine z_callVi C (as := [zi (x1 + (1 : Int32)), zi x2]) d3_readLevel_53 w_480 yy3_readPart (hrc.1 _ _ _ _ _ h7) yc3_readPart kZ_86 rfl rfl (Nat.le_of_ble_eq_true rfl) ⟨by omega, by omega⟩ ⟨Nat.zero_le _, Nat.zero_le _⟩ ?_
      refine z_if_ne C d3_readLevel_56 (fun c8 => ?_) (fun c8 => ?_)
      · have hf := zit c8 hf
        refine z_iconst C (0 : Int32) d3_readLevel_59 kI_0 ?_
        exact z_zret C d3_readLevel_60 (Or.inl rfl) hf
      · have hf := zie c8 hf
        refine z_aload_n C d3_readLevel_61 rfl ?_
        refine z_getR C d3_readLevel_62 fl_197 kZ_86 87 rfl (zn0 kZ_87) ?_
        refine z_iload C d3_readLevel_65 rfl ?_
        refine z_ineg C d3_readLevel_67 ?_
        obtain ⟨r9, s9, h9, hf⟩ := zbx hf
        refine z_callVv C (as := [zi (-r5)]) d3_readLevel_68 w_499 yy6_add (c6_add x.2.1 g h9) yc6_add kZ_87 rfl rfl (Nat.le_of_ble_eq_true rfl) ⟨by omega, by omega⟩ ⟨Nat.zero_le _, Nat.zero_le _⟩ ?_
        refine z_iload_n C d3_readLevel_71 rfl ?_
        refine z_iconst C (2 : Int32) d3_readLevel_72 kI_2 ?_
        refine z_icmp_ne C d3_readLevel_73 (fun c10 => ?_) (fun c10 => ?_)
        · have hf := zit c10 hf
          refine z_iconst C (1 : Int32) d3_readLevel_76 kI_1 ?_
          exact z_zret C d3_readLevel_77 (Or.inr rfl) hf
        · have hf := zie c10 hf
          refine z_iinc C d3_readLevel_78 rfl kI_1 (Nat.le_of_ble_eq_true rfl) rfl (L' := [some (zr 86), some (zi x1), some (zi x2), some (zi (x3 + (1 : Int32))), some (zi r5)]) rfl ?_
          refine z_goto C d3_readLevel_81 ?_
          refine z_drop [true, true, true, true, false] (L' := [some (zr 86), some (zi x1), some (zi x2), some (zi (x3 + (1 : Int32))), none]) rfl ?_
          exact hq15 _ _ _ _ hf
    · have hf := zie c4 hf
      refine z_iconst C (1 : Int32) d3_readLevel_84 kI_1 ?_
      exact z_zret C d3_readLevel_85 (Or.inr rfl) hf
theorem j3_readLevel_15l {x : ZX} {g : ZG} {F Lo : Nat} (C : zC x g b3_readLevel R3 (some .boolean) 5 (F + 1) (Lo + 24)) {k : Nat} (hF : 5 ≤ F ∧ 145 ≤ Lo) {rc : Nat → List Int32 → ZS → Option (Int32 × ZS)} (hrc : zGRD x.2.1 g F Lo rc) {r : Int32} {σr : ZS}  : ∀ (n : Nat) (x1 : Int32) (x2 : Int32) (x3 : Int32) (σ : ZS), f3_readLevel_15 k rc  n x1 x2 x3 σ = some (r, σr) → zw x g 5 0 0 (zMQ x g (some (zi r)) σr) σ 15 [some (zr 86), some (zi x1), some (zi x2), some (zi x3), none] [] := by
  intro n
  induction n with
  | zero => intro x1 x2 x3 σ hf; exact absurd (show none = some (r, σr) from hf) (fun z => by cases z)
  | succ n ih => intro x1 x2 x3 σ hf; exact j3_readLevel_15 C hF hrc  ih (show b3_readLevel_15 k rc  (f3_readLevel_15 k rc  n) x1 x2 x3 σ = some (r, σr) from hf)
def f3_readLevel (k : Nat) (rc : Nat → List Int32 → ZS → Option (Int32 × ZS)) (x1 : Int32) (x2 : Int32) (σ : ZS) : Option (Int32 × ZS) :=
  zbd (rc 0 [(x1 + (1 : Int32)), x2] σ) fun r1 s1 =>
  if r1 = 0 then (
  some ((0 : Int32), s1))
  else (
  f3_readLevel_15 k rc  k x1 x2 (0 : Int32) s1)
theorem c3_readLevel (l : Launch) (g : ZG) {F Lo : Nat} {k : Nat} (hF : 5 ≤ F ∧ 145 ≤ Lo) {rc : Nat → List Int32 → ZS → Option (Int32 × ZS)} (hrc : zGRD l g F Lo rc) {x1 : Int32} {x2 : Int32} {σ : ZS} {r : Int32} {σr : ZS} (hf : f3_readLevel k rc x1 x2 σ = some (r, σr)) : zT l g y3_readLevel b3_readLevel 5 (some .boolean) (F + 1) (Lo + 24) [zr 86, zi x1, zi x2] σ (some (zi r)) σr := by
  unfold f3_readLevel at hf
  refine zT_start (own := R3) rfl (by decide +kernel) 2 (L := [some (zr 86), some (zi x1), some (zi x2), none, none]) rfl rfl (fun x hl C => ?_)
  subst hl
  refine z_aload_n C d3_readLevel_0 rfl ?_
  refine z_iload_n C d3_readLevel_1 rfl ?_
  refine z_iconst C (1 : Int32) d3_readLevel_2 kI_1 ?_
  refine z_iadd C d3_readLevel_3 ?_
  refine z_iload_n C d3_readLevel_4 rfl ?_
  obtain ⟨r1, s1, h1, hf⟩ := zbx hf
  refine z_callVi C (as := [zi (x1 + (1 : Int32)), zi x2]) d3_readLevel_5 w_480 yy3_readPart (hrc.1 _ _ _ _ _ h1) yc3_readPart kZ_86 rfl rfl (Nat.le_of_ble_eq_true rfl) ⟨by omega, by omega⟩ ⟨Nat.zero_le _, Nat.zero_le _⟩ ?_
  refine z_if_ne C d3_readLevel_8 (fun c2 => ?_) (fun c2 => ?_)
  · have hf := zit c2 hf
    refine z_iconst C (0 : Int32) d3_readLevel_11 kI_0 ?_
    exact z_zret C d3_readLevel_12 (Or.inl rfl) hf
  · have hf := zie c2 hf
    refine z_iconst C (0 : Int32) d3_readLevel_13 kI_0 ?_
    refine z_istore_n C d3_readLevel_14 (Nat.le_of_ble_eq_true rfl) rfl (L' := [some (zr 86), some (zi x1), some (zi x2), some (zi (0 : Int32)), none]) rfl ?_
    exact j3_readLevel_15l C hF hrc  _ _ _ _ _ hf
def b3_readUnit_54 (k : Nat) (rc : Nat → List Int32 → ZS → Option (Int32 × ZS)) (q54 : Int32 → Int32 → ZS → Option (Int32 × ZS)) (x2 : Int32) (x3 : Int32) (σ : ZS) : Option (Int32 × ZS) :=
  if (3 : Int32) ≤ x3 then (
  some ((0 : Int32), σ))
  else (
  if (((3 : Int32) * (σ 86 4)) + x3) < 0 then (
  q54 x2 (x3 + (1 : Int32)) σ)
  else (
  zbd (fS_length k σ) fun r3 s3 =>
  if r3 ≤ (((3 : Int32) * (σ 86 4)) + x3) then (
  q54 x2 (x3 + (1 : Int32)) s3)
  else (
  zbd (fS_charAt k (((3 : Int32) * (σ 86 4)) + x3) s3) fun r5 s5 =>
  if r5 = x2 then (
  zbd (f6_add k 87 ((-1 : Int32) - x3) s5) fun _ s7 =>
  zput (zu s7 86 3 ((s7 86 3) + (1 : Int32))) fun s8 =>
  some ((1 : Int32), s8))
  else (
  q54 x2 (x3 + (1 : Int32)) s5))))
def f3_readUnit_54 (k : Nat) (rc : Nat → List Int32 → ZS → Option (Int32 × ZS)) : Nat → Int32 → Int32 → ZS → Option (Int32 × ZS)
  | 0 => fun _ _ _ => none
  | n + 1 => b3_readUnit_54 k rc  (f3_readUnit_54 k rc  n)
theorem j3_readUnit_54 {x : ZX} {g : ZG} {F Lo : Nat} (C : zC x g b3_readUnit R3 (some .boolean) 5 (F + 1) (Lo + 24)) {k : Nat} (hF : 5 ≤ F ∧ 145 ≤ Lo) {rc : Nat → List Int32 → ZS → Option (Int32 × ZS)} (hrc : zGRD x.2.1 g F Lo rc) {r : Int32} {σr : ZS}  {q54 : Int32 → Int32 → ZS → Option (Int32 × ZS)} (hq54 : (∀ (x2 : Int32) (x3 : Int32) (σ : ZS), q54 x2 x3 σ = some (r, σr) → zw x g 5 0 0 (zMQ x g (some (zi r)) σr) σ 54 [some (zr 86), none, some (zi x2), some (zi x3), none] [])) {x2 : Int32} {x3 : Int32} {σ : ZS} (hf : b3_readUnit_54 k rc q54 x2 x3 σ = some (r, σr)) : zw x g 5 0 0 (zMQ x g (some (zi r)) σr) σ 54 [some (zr 86), none, some (zi x2), some (zi x3), none] [] := by
  unfold b3_readUnit_54 at hf
  refine z_iload_n C d3_readUnit_54 rfl ?_
  refine z_iconst C (3 : Int32) d3_readUnit_55 kI_3 ?_
  refine z_icmp_ge C d3_readUnit_56 (fun c1 => ?_) (fun c1 => ?_)
  · have hf := zit c1 hf
    refine z_iconst C (0 : Int32) d3_readUnit_123 kI_0 ?_
    exact z_zret C d3_readUnit_124 (Or.inl rfl) hf
  · have hf := zie c1 hf
    refine z_iconst C (3 : Int32) d3_readUnit_59 kI_3 ?_
    refine z_aload_n C d3_readUnit_60 rfl ?_
    refine z_getI C d3_readUnit_61 fl_202 kZ_86 ?_
    refine z_imul C d3_readUnit_64 ?_
    refine z_iload_n C d3_readUnit_65 rfl ?_
    refine z_iadd C d3_readUnit_66 ?_
    refine z_istore C d3_readUnit_67 (Nat.le_of_ble_eq_true rfl) rfl (L' := [some (zr 86), none, some (zi x2), some (zi x3), some (zi (((3 : Int32) * (σ 86 4)) + x3))]) rfl ?_
    refine z_iload C d3_readUnit_69 rfl ?_
    refine z_if_lt C d3_readUnit_71 (fun c2 => ?_) (fun c2 => ?_)
    · have hf := zit c2 hf
      refine z_iinc C d3_readUnit_117 rfl kI_1 (Nat.le_of_ble_eq_true rfl) rfl (L' := [some (zr 86), none, some (zi x2), some (zi (x3 + (1 : Int32))), some (zi (((3 : Int32) * (σ 86 4)) + x3))]) rfl ?_
      refine z_goto C d3_readUnit_120 ?_
      refine z_drop [true, false, true, true, false] (L' := [some (zr 86), none, some (zi x2), some (zi (x3 + (1 : Int32))), none]) rfl ?_
      exact hq54 _ _ _ hf
    · have hf := zie c2 hf
      refine z_iload C d3_readUnit_74 rfl ?_
      refine z_ldcS C rfl d3_readUnit_76 ?_
      obtain ⟨r3, s3, h3, hf⟩ := zbx hf
      refine z_callTi C (as := []) d3_readUnit_78 w_508 yyS_length rfl (cS_length x.2.1 g h3) rfl rfl (Nat.le_of_ble_eq_true rfl) ⟨by omega, by omega⟩ ⟨Nat.zero_le _, Nat.zero_le _⟩ ?_
      refine z_icmp_ge C d3_readUnit_81 (fun c4 => ?_) (fun c4 => ?_)
      · have hf := zit c4 hf
        refine z_iinc C d3_readUnit_117 rfl kI_1 (Nat.le_of_ble_eq_true rfl) rfl (L' := [some (zr 86), none, some (zi x2), some (zi (x3 + (1 : Int32))), some (zi (((3 : Int32) * (σ 86 4)) + x3))]) rfl ?_
        refine z_goto C d3_readUnit_120 ?_
        refine z_drop [true, false, true, true, false] (L' := [some (zr 86), none, some (zi x2), some (zi (x3 + (1 : Int32))), none]) rfl ?_
        exact hq54 _ _ _ hf
      · have hf := zie c4 hf
        refine z_ldcS C rfl d3_readUnit_84 ?_
        refine z_iload C d3_readUnit_86 rfl ?_
        obtain ⟨r5, s5, h5, hf⟩ := zbx hf
        refine z_callTi C (as := [zi (((3 : Int32) * (σ 86 4)) + x3)]) d3_readUnit_88 w_518 yyS_charAt rfl (cS_charAt x.2.1 g h5) rfl rfl (Nat.le_of_ble_eq_true rfl) ⟨by omega, by omega⟩ ⟨Nat.zero_le _, Nat.zero_le _⟩ ?_
        refine z_iload_n C d3_readUnit_91 rfl ?_
        refine z_icmp_ne C d3_readUnit_92 (fun c6 => ?_) (fun c6 => ?_)
        · have hf := zit c6 hf
          refine z_aload_n C d3_readUnit_95 rfl ?_
          refine z_getR C d3_readUnit_96 fl_197 kZ_86 87 rfl (zn0 kZ_87) ?_
          refine z_iconst C (-1 : Int32) d3_readUnit_99 kI_m1 ?_
          refine z_iload_n C d3_readUnit_100 rfl ?_
          refine z_isub C d3_readUnit_101 ?_
          obtain ⟨r7, s7, h7, hf⟩ := zbx hf
          refine z_callVv C (as := [zi ((-1 : Int32) - x3)]) d3_readUnit_102 w_499 yy6_add (c6_add x.2.1 g h7) yc6_add kZ_87 rfl rfl (Nat.le_of_ble_eq_true rfl) ⟨by omega, by omega⟩ ⟨Nat.zero_le _, Nat.zero_le _⟩ ?_
          refine z_aload_n C d3_readUnit_105 rfl ?_
          refine z_dup C d3_readUnit_106 rfl ?_
          refine z_getI C d3_readUnit_107 fl_201 kZ_86 ?_
          refine z_iconst C (1 : Int32) d3_readUnit_110 kI_1 ?_
          refine z_iadd C d3_readUnit_111 ?_
          obtain ⟨s8, e8, hf⟩ := zpx hf
          refine z_putI C d3_readUnit_112 fl_201 ft_3_3 kZ_86 e8 ?_
          refine z_iconst C (1 : Int32) d3_readUnit_115 kI_1 ?_
          exact z_zret C d3_readUnit_116 (Or.inr rfl) hf
        · have hf := zie c6 hf
          refine z_iinc C d3_readUnit_117 rfl kI_1 (Nat.le_of_ble_eq_true rfl) rfl (L' := [some (zr 86), none, some (zi x2), some (zi (x3 + (1 : Int32))), some (zi (((3 : Int32) * (σ 86 4)) + x3))]) rfl ?_
          refine z_goto C d3_readUnit_120 ?_
          refine z_drop [true, false, true, true, false] (L' := [some (zr 86), none, some (zi x2), some (zi (x3 + (1 : Int32))), none]) rfl ?_
          exact hq54 _ _ _ hf
theorem j3_readUnit_54l {x : ZX} {g : ZG} {F Lo : Nat} (C : zC x g b3_readUnit R3 (some .boolean) 5 (F + 1) (Lo + 24)) {k : Nat} (hF : 5 ≤ F ∧ 145 ≤ Lo) {rc : Nat → List Int32 → ZS → Option (Int32 × ZS)} (hrc : zGRD x.2.1 g F Lo rc) {r : Int32} {σr : ZS}  : ∀ (n : Nat) (x2 : Int32) (x3 : Int32) (σ : ZS), f3_readUnit_54 k rc  n x2 x3 σ = some (r, σr) → zw x g 5 0 0 (zMQ x g (some (zi r)) σr) σ 54 [some (zr 86), none, some (zi x2), some (zi x3), none] [] := by
  intro n
  induction n with
  | zero => intro x2 x3 σ hf; exact absurd (show none = some (r, σr) from hf) (fun z => by cases z)
  | succ n ih => intro x2 x3 σ hf; exact j3_readUnit_54 C hF hrc  ih (show b3_readUnit_54 k rc  (f3_readUnit_54 k rc  n) x2 x3 σ = some (r, σr) from hf)
def b3_readUnit_30 (k : Nat) (rc : Nat → List Int32 → ZS → Option (Int32 × ZS)) (x1 : Int32) (x2 : Int32) (σ : ZS) : Option (Int32 × ZS) :=
  if (5 : Int32) ≤ x1 then (
  some ((0 : Int32), σ))
  else (
  zbd (rc 3 [x2, (x1 + (1 : Int32))] σ) fun r2 s2 =>
  if r2 = 0 then (
  some ((0 : Int32), s2))
  else (
  some ((1 : Int32), s2)))
theorem j3_readUnit_30 {x : ZX} {g : ZG} {F Lo : Nat} (C : zC x g b3_readUnit R3 (some .boolean) 5 (F + 1) (Lo + 24)) {k : Nat} (hF : 5 ≤ F ∧ 145 ≤ Lo) {rc : Nat → List Int32 → ZS → Option (Int32 × ZS)} (hrc : zGRD x.2.1 g F Lo rc) {r : Int32} {σr : ZS}  {x1 : Int32} {x2 : Int32} {σ : ZS} (hf : b3_readUnit_30 k rc  x1 x2 σ = some (r, σr)) : zw x g 5 0 0 (zMQ x g (some (zi r)) σr) σ 30 [some (zr 86), some (zi x1), some (zi x2), none, none] [] := by
  unfold b3_readUnit_30 at hf
  refine z_iload_n C d3_readUnit_30 rfl ?_
  refine z_iconst C (5 : Int32) d3_readUnit_31 kI_5 ?_
  refine z_icmp_ge C d3_readUnit_32 (fun c1 => ?_) (fun c1 => ?_)
  · have hf := zit c1 hf
    refine z_iconst C (0 : Int32) d3_readUnit_50 kI_0 ?_
    exact z_zret C d3_readUnit_51 (Or.inl rfl) hf
  · have hf := zie c1 hf
    refine z_aload_n C d3_readUnit_35 rfl ?_
    refine z_iload_n C d3_readUnit_36 rfl ?_
    refine z_iload_n C d3_readUnit_37 rfl ?_
    refine z_iconst C (1 : Int32) d3_readUnit_38 kI_1 ?_
    refine z_iadd C d3_readUnit_39 ?_
    obtain ⟨r2, s2, h2, hf⟩ := zbx hf
    refine z_callVi C (as := [zi x2, zi (x1 + (1 : Int32))]) d3_readUnit_40 w_503 yy3_readOpen (hrc.2.2.2 _ _ _ _ _ h2) yc3_readOpen kZ_86 rfl rfl (Nat.le_of_ble_eq_true rfl) ⟨by omega, by omega⟩ ⟨Nat.zero_le _, Nat.zero_le _⟩ ?_
    refine z_if_eq C d3_readUnit_43 (fun c3 => ?_) (fun c3 => ?_)
    · have hf := zit c3 hf
      refine z_iconst C (0 : Int32) d3_readUnit_50 kI_0 ?_
      exact z_zret C d3_readUnit_51 (Or.inl rfl) hf
    · have hf := zie c3 hf
      refine z_iconst C (1 : Int32) d3_readUnit_46 kI_1 ?_
      refine z_goto C d3_readUnit_47 ?_
      exact z_zret C d3_readUnit_51 (Or.inr rfl) hf
def f3_readUnit (k : Nat) (rc : Nat → List Int32 → ZS → Option (Int32 × ZS)) (x1 : Int32) (σ : ZS) : Option (Int32 × ZS) :=
  zbd (f3_signHere k σ) fun r1 s1 =>
  zbd (f3_isDigit k r1 s1) fun r2 s2 =>
  if r2 = 0 then (
  if r1 = (33 : Int32) then (
  b3_readUnit_30 k rc  x1 r1 s2)
  else (
  if r1 = (40 : Int32) then (
  b3_readUnit_30 k rc  x1 r1 s2)
  else (
  f3_readUnit_54 k rc  k r1 (0 : Int32) s2)))
  else (
  zbd (f3_readNumber k s2) fun _ s6 =>
  some ((1 : Int32), s6))
theorem c3_readUnit (l : Launch) (g : ZG) {F Lo : Nat} {k : Nat} (hF : 5 ≤ F ∧ 145 ≤ Lo) {rc : Nat → List Int32 → ZS → Option (Int32 × ZS)} (hrc : zGRD l g F Lo rc) {x1 : Int32} {σ : ZS} {r : Int32} {σr : ZS} (hf : f3_readUnit k rc x1 σ = some (r, σr)) : zT l g y3_readUnit b3_readUnit 5 (some .boolean) (F + 1) (Lo + 24) [zr 86, zi x1] σ (some (zi r)) σr := by
  unfold f3_readUnit at hf
  refine zT_start (own := R3) rfl (by decide +kernel) 3 (L := [some (zr 86), some (zi x1), none, none, none]) rfl rfl (fun x hl C => ?_)
  subst hl
  refine z_aload_n C d3_readUnit_0 rfl ?_
  obtain ⟨r1, s1, h1, hf⟩ := zbx hf
  refine z_callVi C (as := []) d3_readUnit_1 w_488 yy3_signHere (c3_signHere x.2.1 g h1) yc3_signHere kZ_86 rfl rfl (Nat.le_of_ble_eq_true rfl) ⟨by omega, by omega⟩ ⟨Nat.zero_le _, Nat.zero_le _⟩ ?_
  refine z_istore_n C d3_readUnit_4 (Nat.le_of_ble_eq_true rfl) rfl (L' := [some (zr 86), some (zi x1), some (zi r1), none, none]) rfl ?_
  refine z_iload_n C d3_readUnit_5 rfl ?_
  obtain ⟨r2, s2, h2, hf⟩ := zbx hf
  refine z_callSi C (as := [zi r1]) d3_readUnit_6 w_492 yy3_isDigit (c3_isDigit x.2.1 g h2) rfl rfl (Nat.le_of_ble_eq_true rfl) ⟨by omega, by omega⟩ ⟨Nat.zero_le _, Nat.zero_le _⟩ ?_
  refine z_if_eq C d3_readUnit_9 (fun c3 => ?_) (fun c3 => ?_)
  · have hf := zit c3 hf
    refine z_iload_n C d3_readUnit_18 rfl ?_
    refine z_bipush C (33 : Int32) d3_readUnit_19 kB_33 ?_
    refine z_icmp_eq C d3_readUnit_21 (fun c4 => ?_) (fun c4 => ?_)
    · have hf := zit c4 hf
      exact j3_readUnit_30 C hF hrc  hf
    · have hf := zie c4 hf
      refine z_iload_n C d3_readUnit_24 rfl ?_
      refine z_bipush C (40 : Int32) d3_readUnit_25 kB_40 ?_
      refine z_icmp_ne C d3_readUnit_27 (fun c5 => ?_) (fun c5 => ?_)
      · have hf := zit c5 hf
        exact j3_readUnit_30 C hF hrc  hf
      · have hf := zie c5 hf
        refine z_iconst C (0 : Int32) d3_readUnit_52 kI_0 ?_
        refine z_istore_n C d3_readUnit_53 (Nat.le_of_ble_eq_true rfl) rfl (L' := [some (zr 86), some (zi x1), some (zi r1), some (zi (0 : Int32)), none]) rfl ?_
        refine z_drop [true, false, true, true, false] (L' := [some (zr 86), none, some (zi r1), some (zi (0 : Int32)), none]) rfl ?_
        exact j3_readUnit_54l C hF hrc  _ _ _ _ hf
  · have hf := zie c3 hf
    refine z_aload_n C d3_readUnit_12 rfl ?_
    obtain ⟨r6, s6, h6, hf⟩ := zbx hf
    refine z_callVv C (as := []) d3_readUnit_13 w_495 yy3_readNumber (c3_readNumber x.2.1 g h6) yc3_readNumber kZ_86 rfl rfl (Nat.le_of_ble_eq_true rfl) ⟨by omega, by omega⟩ ⟨Nat.zero_le _, Nat.zero_le _⟩ ?_
    refine z_iconst C (1 : Int32) d3_readUnit_16 kI_1 ?_
    exact z_zret C d3_readUnit_17 (Or.inr rfl) hf
def f3_readOpen (k : Nat) (rc : Nat → List Int32 → ZS → Option (Int32 × ZS)) (x1 : Int32) (x2 : Int32) (σ : ZS) : Option (Int32 × ZS) :=
  zput (zu σ 86 3 ((σ 86 3) + (1 : Int32))) fun s1 =>
  if x1 = (33 : Int32) then (
  zbd (rc 2 [x2] s1) fun r3 s3 =>
  zbd (f6_add k 87 (-x1) s3) fun _ s4 =>
  if zbo r3 then (
  some (r3, s4)) else none)
  else (
  zbd (rc 0 [(0 : Int32), x2] s1) fun r6 s6 =>
  if r6 = 0 then (
  some ((0 : Int32), s6))
  else (
  zbd (f3_signHere k s6) fun r8 s8 =>
  if r8 = (41 : Int32) then (
  zput (zu s8 86 3 ((s8 86 3) + (1 : Int32))) fun s10 =>
  some ((1 : Int32), s10))
  else (
  some ((0 : Int32), s8))))
theorem c3_readOpen (l : Launch) (g : ZG) {F Lo : Nat} {k : Nat} (hF : 5 ≤ F ∧ 145 ≤ Lo) {rc : Nat → List Int32 → ZS → Option (Int32 × ZS)} (hrc : zGRD l g F Lo rc) {x1 : Int32} {x2 : Int32} {σ : ZS} {r : Int32} {σr : ZS} (hf : f3_readOpen k rc x1 x2 σ = some (r, σr)) : zT l g y3_readOpen b3_readOpen 4 (some .boolean) (F + 1) (Lo + 24) [zr 86, zi x1, zi x2] σ (some (zi r)) σr := by
  unfold f3_readOpen at hf
  refine zT_start (own := R3) rfl (by decide +kernel) 1 (L := [some (zr 86), some (zi x1), some (zi x2), none]) rfl rfl (fun x hl C => ?_)
  subst hl
  refine z_aload_n C d3_readOpen_0 rfl ?_
  refine z_dup C d3_readOpen_1 rfl ?_
  refine z_getI C d3_readOpen_2 fl_201 kZ_86 ?_
  refine z_iconst C (1 : Int32) d3_readOpen_5 kI_1 ?_
  refine z_iadd C d3_readOpen_6 ?_
  obtain ⟨s1, e1, hf⟩ := zpx hf
  refine z_putI C d3_readOpen_7 fl_201 ft_3_3 kZ_86 e1 ?_
  refine z_iload_n C d3_readOpen_10 rfl ?_
  refine z_bipush C (33 : Int32) d3_readOpen_11 kB_33 ?_
  refine z_icmp_ne C d3_readOpen_13 (fun c2 => ?_) (fun c2 => ?_)
  · have hf := zit c2 hf
    refine z_aload_n C d3_readOpen_16 rfl ?_
    refine z_iload_n C d3_readOpen_17 rfl ?_
    obtain ⟨r3, s3, h3, hf⟩ := zbx hf
    refine z_callVi C (as := [zi x2]) d3_readOpen_18 w_484 yy3_readUnit (hrc.2.2.1 _ _ _ _ h3) yc3_readUnit kZ_86 rfl rfl (Nat.le_of_ble_eq_true rfl) ⟨by omega, by omega⟩ ⟨Nat.zero_le _, Nat.zero_le _⟩ ?_
    refine z_istore_n C d3_readOpen_21 (Nat.le_of_ble_eq_true rfl) rfl (L' := [some (zr 86), some (zi x1), some (zi x2), some (zi r3)]) rfl ?_
    refine z_aload_n C d3_readOpen_22 rfl ?_
    refine z_getR C d3_readOpen_23 fl_197 kZ_86 87 rfl (zn0 kZ_87) ?_
    refine z_iload_n C d3_readOpen_26 rfl ?_
    refine z_ineg C d3_readOpen_27 ?_
    obtain ⟨r4, s4, h4, hf⟩ := zbx hf
    refine z_callVv C (as := [zi (-x1)]) d3_readOpen_28 w_499 yy6_add (c6_add x.2.1 g h4) yc6_add kZ_87 rfl rfl (Nat.le_of_ble_eq_true rfl) ⟨by omega, by omega⟩ ⟨Nat.zero_le _, Nat.zero_le _⟩ ?_
    refine z_iload_n C d3_readOpen_31 rfl ?_
    obtain ⟨g5, hf⟩ := zgo hf
    exact z_zret C d3_readOpen_32 g5 hf
  · have hf := zie c2 hf
    refine z_aload_n C d3_readOpen_33 rfl ?_
    refine z_iconst C (0 : Int32) d3_readOpen_34 kI_0 ?_
    refine z_iload_n C d3_readOpen_35 rfl ?_
    obtain ⟨r6, s6, h6, hf⟩ := zbx hf
    refine z_callVi C (as := [zi (0 : Int32), zi x2]) d3_readOpen_36 w_480 yy3_readPart (hrc.1 _ _ _ _ _ h6) yc3_readPart kZ_86 rfl rfl (Nat.le_of_ble_eq_true rfl) ⟨by omega, by omega⟩ ⟨Nat.zero_le _, Nat.zero_le _⟩ ?_
    refine z_if_eq C d3_readOpen_39 (fun c7 => ?_) (fun c7 => ?_)
    · have hf := zit c7 hf
      refine z_iconst C (0 : Int32) d3_readOpen_51 kI_0 ?_
      exact z_zret C d3_readOpen_52 (Or.inl rfl) hf
    · have hf := zie c7 hf
      refine z_aload_n C d3_readOpen_42 rfl ?_
      obtain ⟨r8, s8, h8, hf⟩ := zbx hf
      refine z_callVi C (as := []) d3_readOpen_43 w_488 yy3_signHere (c3_signHere x.2.1 g h8) yc3_signHere kZ_86 rfl rfl (Nat.le_of_ble_eq_true rfl) ⟨by omega, by omega⟩ ⟨Nat.zero_le _, Nat.zero_le _⟩ ?_
      refine z_bipush C (41 : Int32) d3_readOpen_46 kB_41 ?_
      refine z_icmp_eq C d3_readOpen_48 (fun c9 => ?_) (fun c9 => ?_)
      · have hf := zit c9 hf
        refine z_aload_n C d3_readOpen_53 rfl ?_
        refine z_dup C d3_readOpen_54 rfl ?_
        refine z_getI C d3_readOpen_55 fl_201 kZ_86 ?_
        refine z_iconst C (1 : Int32) d3_readOpen_58 kI_1 ?_
        refine z_iadd C d3_readOpen_59 ?_
        obtain ⟨s10, e10, hf⟩ := zpx hf
        refine z_putI C d3_readOpen_60 fl_201 ft_3_3 kZ_86 e10 ?_
        refine z_iconst C (1 : Int32) d3_readOpen_63 kI_1 ?_
        exact z_zret C d3_readOpen_64 (Or.inr rfl) hf
      · have hf := zie c9 hf
        refine z_iconst C (0 : Int32) d3_readOpen_51 kI_0 ?_
        exact z_zret C d3_readOpen_52 (Or.inl rfl) hf
def fRD (k : Nat) : Nat → Nat → List Int32 → ZS → Option (Int32 × ZS)
  | 0, _, _, _ => none
  | d + 1, 0, [a0, a1], σ => f3_readPart k (fRD k d) a0 a1 σ
  | d + 1, 1, [a0, a1], σ => f3_readLevel k (fRD k d) a0 a1 σ
  | d + 1, 2, [a0], σ => f3_readUnit k (fRD k d) a0 σ
  | d + 1, 3, [a0, a1], σ => f3_readOpen k (fRD k d) a0 a1 σ
  | _ + 1, _, _, _ => none
theorem cRD (l : Launch) (g : ZG) (k : Nat) : ∀ d : Nat, zGRD l g (5 + d) (145 + 24 * d) (fRD k d)
  | 0 => ⟨(fun _ _ _ _ _ h => nomatch (show none = some _ from h)), (fun _ _ _ _ _ h => nomatch (show none = some _ from h)), (fun _ _ _ _ h => nomatch (show none = some _ from h)), (fun _ _ _ _ _ h => nomatch (show none = some _ from h))⟩
  | d + 1 => by
    have ih := cRD l g k d
    have hF : 5 ≤ 5 + d ∧ 145 ≤ 145 + 24 * d := ⟨by omega, by omega⟩
    refine ⟨?_, ?_, ?_, ?_⟩
    · intro a0 a1 σ r σr h
      exact c3_readPart l g hF ih (show f3_readPart k (fRD k d) a0 a1 σ = some (r, σr) from h)
    · intro a0 a1 σ r σr h
      exact c3_readLevel l g hF ih (show f3_readLevel k (fRD k d) a0 a1 σ = some (r, σr) from h)
    · intro a0 σ r σr h
      exact c3_readUnit l g hF ih (show f3_readUnit k (fRD k d) a0 σ = some (r, σr) from h)
    · intro a0 a1 σ r σr h
      exact c3_readOpen l g hF ih (show f3_readOpen k (fRD k d) a0 a1 σ = some (r, σr) from h)
def f3_readPartx (k : Nat) (a0 : Int32) (a1 : Int32) (σ : ZS) : Option (Int32 × ZS) := fRD k 120 0 [a0, a1] σ
theorem c3_readPartx (l : Launch) (g : ZG) {k : Nat} {a0 : Int32} {a1 : Int32} {σ : ZS} {r : Int32} {σr : ZS} (hf : f3_readPartx k a0 a1 σ = some (r, σr)) : zT l g y3_readPart b3_readPart 3 (some .boolean) 125 3025 [zr 86, zi a0, zi a1] σ (some (zi r)) σr := (cRD l g k 120).1 _ _ _ _ _ hf
def f3_readLevelx (k : Nat) (a0 : Int32) (a1 : Int32) (σ : ZS) : Option (Int32 × ZS) := fRD k 120 1 [a0, a1] σ
theorem c3_readLevelx (l : Launch) (g : ZG) {k : Nat} {a0 : Int32} {a1 : Int32} {σ : ZS} {r : Int32} {σr : ZS} (hf : f3_readLevelx k a0 a1 σ = some (r, σr)) : zT l g y3_readLevel b3_readLevel 5 (some .boolean) 125 3025 [zr 86, zi a0, zi a1] σ (some (zi r)) σr := (cRD l g k 120).2.1 _ _ _ _ _ hf
def f3_readUnitx (k : Nat) (a0 : Int32) (σ : ZS) : Option (Int32 × ZS) := fRD k 120 2 [a0] σ
theorem c3_readUnitx (l : Launch) (g : ZG) {k : Nat} {a0 : Int32} {σ : ZS} {r : Int32} {σr : ZS} (hf : f3_readUnitx k a0 σ = some (r, σr)) : zT l g y3_readUnit b3_readUnit 5 (some .boolean) 125 3025 [zr 86, zi a0] σ (some (zi r)) σr := (cRD l g k 120).2.2.1 _ _ _ _ hf
def f3_readOpenx (k : Nat) (a0 : Int32) (a1 : Int32) (σ : ZS) : Option (Int32 × ZS) := fRD k 120 3 [a0, a1] σ
theorem c3_readOpenx (l : Launch) (g : ZG) {k : Nat} {a0 : Int32} {a1 : Int32} {σ : ZS} {r : Int32} {σr : ZS} (hf : f3_readOpenx k a0 a1 σ = some (r, σr)) : zT l g y3_readOpen b3_readOpen 4 (some .boolean) 125 3025 [zr 86, zi a0, zi a1] σ (some (zi r)) σr := (cRD l g k 120).2.2.2 _ _ _ _ _ hf
theorem d3_fault_0 : zd b3_fault 0 (.aload_n 0) 1 1 := ⟨by decide +kernel, rfl⟩
theorem d3_fault_1 : zd b3_fault 1 (.aload_n 1) 1 2 := ⟨by decide +kernel, rfl⟩
theorem d3_fault_2 : zd b3_fault 2 (.putfield 18) 3 5 := ⟨by decide +kernel, rfl⟩
theorem d3_fault_5 : zd b3_fault 5 (.aload_n 0) 1 6 := ⟨by decide +kernel, rfl⟩
theorem d3_fault_6 : zd b3_fault 6 (.iload_n 2) 1 7 := ⟨by decide +kernel, rfl⟩
theorem d3_fault_7 : zd b3_fault 7 (.putfield 22) 3 10 := ⟨by decide +kernel, rfl⟩
theorem d3_fault_10 : zd b3_fault 10 (.aload_n 0) 1 11 := ⟨by decide +kernel, rfl⟩
theorem d3_fault_11 : zd b3_fault 11 (.iconst 0) 1 12 := ⟨by decide +kernel, rfl⟩
theorem d3_fault_12 : zd b3_fault 12 (.putfield 26) 3 15 := ⟨by decide +kernel, rfl⟩
theorem d3_fault_15 : zd b3_fault 15 (.aload_n 0) 1 16 := ⟨by decide +kernel, rfl⟩
theorem d3_fault_16 : zd b3_fault 16 (.iload_n 3) 1 17 := ⟨by decide +kernel, rfl⟩
theorem d3_fault_17 : zd b3_fault 17 (.putfield 29) 3 20 := ⟨by decide +kernel, rfl⟩
theorem d3_fault_20 : zd b3_fault 20 (.aload_n 0) 1 21 := ⟨by decide +kernel, rfl⟩
theorem d3_fault_21 : zd b3_fault 21 (.getfield 12) 3 24 := ⟨by decide +kernel, rfl⟩
theorem d3_fault_24 : zd b3_fault 24 (.iconst 0) 1 25 := ⟨by decide +kernel, rfl⟩
theorem d3_fault_25 : zd b3_fault 25 (.putfield 32) 3 28 := ⟨by decide +kernel, rfl⟩
theorem d3_fault_28 : zd b3_fault 28 (.aload_n 0) 1 29 := ⟨by decide +kernel, rfl⟩
theorem d3_fault_29 : zd b3_fault 29 (.getfield 12) 3 32 := ⟨by decide +kernel, rfl⟩
theorem d3_fault_32 : zd b3_fault 32 (.iconst 1) 1 33 := ⟨by decide +kernel, rfl⟩
theorem d3_fault_33 : zd b3_fault 33 (.putfield 33) 3 36 := ⟨by decide +kernel, rfl⟩
theorem d3_fault_36 : zd b3_fault 36 (.aload_n 0) 1 37 := ⟨by decide +kernel, rfl⟩
theorem d3_fault_37 : zd b3_fault 37 (.iconst 0) 1 38 := ⟨by decide +kernel, rfl⟩
theorem d3_fault_38 : zd b3_fault 38 (.iconst 0) 1 39 := ⟨by decide +kernel, rfl⟩
theorem d3_fault_39 : zd b3_fault 39 (.invokevirtual 37) 3 42 := ⟨by decide +kernel, rfl⟩
theorem d3_fault_42 : zdb b3_fault 42 (.ifCond .eq 18) 18 45 60 := ⟨by decide +kernel, rfl, by decide⟩
theorem d3_fault_45 : zd b3_fault 45 (.aload_n 0) 1 46 := ⟨by decide +kernel, rfl⟩
theorem d3_fault_46 : zd b3_fault 46 (.getfield 26) 3 49 := ⟨by decide +kernel, rfl⟩
theorem d3_fault_49 : zd b3_fault 49 (.aload_n 0) 1 50 := ⟨by decide +kernel, rfl⟩
theorem d3_fault_50 : zd b3_fault 50 (.getfield 22) 3 53 := ⟨by decide +kernel, rfl⟩
theorem d3_fault_53 : zdb b3_fault 53 (.if_icmp .lt 7) 7 56 60 := ⟨by decide +kernel, rfl, by decide⟩
theorem d3_fault_56 : zd b3_fault 56 (.iconst (-1)) 1 57 := ⟨by decide +kernel, rfl⟩
theorem d3_fault_57 : zdb b3_fault 57 (.goto 7) 7 60 64 := ⟨by decide +kernel, rfl, by decide⟩
theorem d3_fault_60 : zd b3_fault 60 (.aload_n 0) 1 61 := ⟨by decide +kernel, rfl⟩
theorem d3_fault_61 : zd b3_fault 61 (.getfield 26) 3 64 := ⟨by decide +kernel, rfl⟩
theorem d3_fault_64 : zd b3_fault 64 .ireturn 1 65 := ⟨by decide +kernel, rfl⟩
def f3_fault (k : Nat) (x1 : Nat) (x2 : Int32) (x3 : Int32) (σ : ZS) : Option (Int32 × ZS) :=
  if zsh x1 = 15 then (
  zput (zu σ 86 1 (nI x1)) fun s2 =>
  zput (zu s2 86 2 x2) fun s3 =>
  zput (zu s3 86 3 (0 : Int32)) fun s4 =>
  zput (zu s4 86 4 x3) fun s5 =>
  zput (zu s5 87 2 (0 : Int32)) fun s6 =>
  zput (zu s6 87 3 (1 : Int32)) fun s7 =>
  zbd (f3_readPartx k (0 : Int32) (0 : Int32) s7) fun r8 s8 =>
  if r8 = 0 then (
  some ((s8 86 3), s8))
  else (
  if (s8 86 3) < (s8 86 2) then (
  some ((s8 86 3), s8))
  else (
  some ((-1 : Int32), s8)))) else none
theorem c3_fault (l : Launch) (g : ZG) {k : Nat} {x1 : Nat} {x2 : Int32} {x3 : Int32} {σ : ZS} {r : Int32} {σr : ZS} (hf : f3_fault k x1 x2 x3 σ = some (r, σr)) : zT l g y3_fault b3_fault 4 (some .int) 126 3047 [zr 86, zr x1, zi x2, zi x3] σ (some (zi r)) σr := by
  unfold f3_fault at hf
  refine zT_start (own := R3) rfl (by decide +kernel) 0 (L := [some (zr 86), some (zr x1), some (zi x2), some (zi x3)]) rfl rfl (fun x hl C => ?_)
  subst hl
  refine z_aload_n C d3_fault_0 rfl ?_
  refine z_aload_n C d3_fault_1 rfl ?_
  obtain ⟨g1, hf⟩ := zgo hf
  obtain ⟨s2, e2, hf⟩ := zpx hf
  refine z_putD C d3_fault_2 fl_199 ft_3_1 kZ_86 (zn0 g1) e2 ?_
  refine z_aload_n C d3_fault_5 rfl ?_
  refine z_iload_n C d3_fault_6 rfl ?_
  obtain ⟨s3, e3, hf⟩ := zpx hf
  refine z_putI C d3_fault_7 fl_200 ft_3_2 kZ_86 e3 ?_
  refine z_aload_n C d3_fault_10 rfl ?_
  refine z_iconst C (0 : Int32) d3_fault_11 kI_0 ?_
  obtain ⟨s4, e4, hf⟩ := zpx hf
  refine z_putI C d3_fault_12 fl_201 ft_3_3 kZ_86 e4 ?_
  refine z_aload_n C d3_fault_15 rfl ?_
  refine z_iload_n C d3_fault_16 rfl ?_
  obtain ⟨s5, e5, hf⟩ := zpx hf
  refine z_putI C d3_fault_17 fl_202 ft_3_4 kZ_86 e5 ?_
  refine z_aload_n C d3_fault_20 rfl ?_
  refine z_getR C d3_fault_21 fl_197 kZ_86 87 rfl (zn0 kZ_87) ?_
  refine z_iconst C (0 : Int32) d3_fault_24 kI_0 ?_
  obtain ⟨s6, e6, hf⟩ := zpx hf
  refine z_putI C d3_fault_25 fl_104 ft_6_2 kZ_87 e6 ?_
  refine z_aload_n C d3_fault_28 rfl ?_
  refine z_getR C d3_fault_29 fl_197 kZ_86 87 rfl (zn0 kZ_87) ?_
  refine z_iconst C (1 : Int32) d3_fault_32 kI_1 ?_
  obtain ⟨s7, e7, hf⟩ := zpx hf
  refine z_putZ C d3_fault_33 fl_106 ft_6_3 kZ_87 (Or.inr rfl) e7 ?_
  refine z_aload_n C d3_fault_36 rfl ?_
  refine z_iconst C (0 : Int32) d3_fault_37 kI_0 ?_
  refine z_iconst C (0 : Int32) d3_fault_38 kI_0 ?_
  obtain ⟨r8, s8, h8, hf⟩ := zbx hf
  refine z_callVi C (as := [zi (0 : Int32), zi (0 : Int32)]) d3_fault_39 w_480 yy3_readPart (c3_readPartx x.2.1 g h8) yc3_readPart kZ_86 rfl rfl (Nat.le_of_ble_eq_true rfl) ⟨Nat.le_of_ble_eq_true rfl, Nat.le_of_ble_eq_true rfl⟩ ⟨Nat.zero_le _, Nat.zero_le _⟩ ?_
  refine z_if_eq C d3_fault_42 (fun c9 => ?_) (fun c9 => ?_)
  · have hf := zit c9 hf
    refine z_aload_n C d3_fault_60 rfl ?_
    refine z_getI C d3_fault_61 fl_201 kZ_86 ?_
    exact z_iret C d3_fault_64 hf
  · have hf := zie c9 hf
    refine z_aload_n C d3_fault_45 rfl ?_
    refine z_getI C d3_fault_46 fl_201 kZ_86 ?_
    refine z_aload_n C d3_fault_49 rfl ?_
    refine z_getI C d3_fault_50 fl_200 kZ_86 ?_
    refine z_icmp_lt C d3_fault_53 (fun c10 => ?_) (fun c10 => ?_)
    · have hf := zit c10 hf
      refine z_aload_n C d3_fault_60 rfl ?_
      refine z_getI C d3_fault_61 fl_201 kZ_86 ?_
      exact z_iret C d3_fault_64 hf
    · have hf := zie c10 hf
      refine z_iconst C (-1 : Int32) d3_fault_56 kI_m1 ?_
      refine z_goto C d3_fault_57 ?_
      exact z_iret C d3_fault_64 hf
theorem d8_text_0 : zd b8_text 0 (.aload_n 0) 1 1 := ⟨by decide +kernel, rfl⟩
theorem d8_text_1 : zd b8_text 1 (.getfield 10) 3 4 := ⟨by decide +kernel, rfl⟩
theorem d8_text_4 : zd b8_text 4 (.iload_n 1) 1 5 := ⟨by decide +kernel, rfl⟩
theorem d8_text_5 : zd b8_text 5 (.invokevirtual 161) 3 8 := ⟨by decide +kernel, rfl⟩
theorem d8_text_8 : zd b8_text 8 (.astore_n 2) 1 9 := ⟨by decide +kernel, rfl⟩
theorem d8_text_9 : zd b8_text 9 (.aload_n 2) 1 10 := ⟨by decide +kernel, rfl⟩
theorem d8_text_10 : zdb b8_text 10 (.ifnonnull 9) 9 13 19 := ⟨by decide +kernel, rfl, by decide⟩
theorem d8_text_13 : zd b8_text 13 (.aload_n 0) 1 14 := ⟨by decide +kernel, rfl⟩
theorem d8_text_14 : zd b8_text 14 (.iconst 1) 1 15 := ⟨by decide +kernel, rfl⟩
theorem d8_text_15 : zd b8_text 15 (.invokevirtual 67) 3 18 := ⟨by decide +kernel, rfl⟩
theorem d8_text_18 : zd b8_text 18 .ireturn 1 19 := ⟨by decide +kernel, rfl⟩
theorem d8_text_19 : zd b8_text 19 (.aload_n 0) 1 20 := ⟨by decide +kernel, rfl⟩
theorem d8_text_20 : zd b8_text 20 (.getfield 32) 3 23 := ⟨by decide +kernel, rfl⟩
theorem d8_text_23 : zd b8_text 23 (.aload_n 0) 1 24 := ⟨by decide +kernel, rfl⟩
theorem d8_text_24 : zd b8_text 24 (.getfield 10) 3 27 := ⟨by decide +kernel, rfl⟩
theorem d8_text_27 : zd b8_text 27 (.getfield 165) 3 30 := ⟨by decide +kernel, rfl⟩
theorem d8_text_30 : zd b8_text 30 (.aload_n 0) 1 31 := ⟨by decide +kernel, rfl⟩
theorem d8_text_31 : zd b8_text 31 (.getfield 10) 3 34 := ⟨by decide +kernel, rfl⟩
theorem d8_text_34 : zd b8_text 34 (.getfield 154) 3 37 := ⟨by decide +kernel, rfl⟩
theorem d8_text_37 : zd b8_text 37 (.iload_n 1) 1 38 := ⟨by decide +kernel, rfl⟩
theorem d8_text_38 : zd b8_text 38 (.invokevirtual 168) 3 41 := ⟨by decide +kernel, rfl⟩
theorem d8_text_41 : zd b8_text 41 (.istore_n 3) 1 42 := ⟨by decide +kernel, rfl⟩
theorem d8_text_42 : zd b8_text 42 (.aload_n 0) 1 43 := ⟨by decide +kernel, rfl⟩
theorem d8_text_43 : zd b8_text 43 (.getfield 10) 3 46 := ⟨by decide +kernel, rfl⟩
theorem d8_text_46 : zd b8_text 46 (.iconst 0) 1 47 := ⟨by decide +kernel, rfl⟩
theorem d8_text_47 : zd b8_text 47 (.putfield 154) 3 50 := ⟨by decide +kernel, rfl⟩
theorem d8_text_50 : zd b8_text 50 (.iload_n 3) 1 51 := ⟨by decide +kernel, rfl⟩
theorem d8_text_51 : zdb b8_text 51 (.ifCond .lt 8) 8 54 59 := ⟨by decide +kernel, rfl, by decide⟩
theorem d8_text_54 : zd b8_text 54 (.bipush (-10)) 2 56 := ⟨by decide +kernel, rfl⟩
theorem d8_text_56 : zd b8_text 56 (.iload_n 3) 1 57 := ⟨by decide +kernel, rfl⟩
theorem d8_text_57 : zd b8_text 57 .isub 1 58 := ⟨by decide +kernel, rfl⟩
theorem d8_text_58 : zd b8_text 58 .ireturn 1 59 := ⟨by decide +kernel, rfl⟩
theorem d8_text_59 : zd b8_text 59 (.aload_n 2) 1 60 := ⟨by decide +kernel, rfl⟩
theorem d8_text_60 : zd b8_text 60 (.aload_n 0) 1 61 := ⟨by decide +kernel, rfl⟩
theorem d8_text_61 : zd b8_text 61 (.getfield 32) 3 64 := ⟨by decide +kernel, rfl⟩
theorem d8_text_64 : zd b8_text 64 (.getfield 172) 3 67 := ⟨by decide +kernel, rfl⟩
theorem d8_text_67 : zd b8_text 67 (.invokevirtual 176) 3 70 := ⟨by decide +kernel, rfl⟩
theorem d8_text_70 : zd b8_text 70 (.iconst 1) 1 71 := ⟨by decide +kernel, rfl⟩
theorem d8_text_71 : zd b8_text 71 .ireturn 1 72 := ⟨by decide +kernel, rfl⟩
def f8_text (k : Nat) (x1 : Int32) (σ : ZS) : Option (Int32 × ZS) :=
  zbd (f5_textOf k 2 x1 σ) fun r1 s1 =>
  if r1 = 0 then (
  zbd (f8_error k (1 : Int32) s1) fun r3 s3 =>
  some (r3, s3))
  else (
  zbd (f3_fault k 7 (s1 2 8) x1 s1) fun r4 s4 =>
  zput (zu s4 2 8 (0 : Int32)) fun s5 =>
  if r4 < 0 then (
  if zsh r1 = 7 then (
  zbd (f6_copyFrom k r1 87 s5) fun _ s7 =>
  some ((1 : Int32), s7)) else none)
  else (
  some (((-10 : Int32) - r4), s5)))
theorem c8_text (l : Launch) (g : ZG) {k : Nat} {x1 : Int32} {σ : ZS} {r : Int32} {σr : ZS} (hf : f8_text k x1 σ = some (r, σr)) : zT l g y8_text b8_text 4 (some .int) 127 3070 [zr 1, zi x1] σ (some (zi r)) σr := by
  unfold f8_text at hf
  refine zT_start (own := R8) rfl (by decide +kernel) 2 (L := [some (zr 1), some (zi x1), none, none]) rfl rfl (fun x hl C => ?_)
  subst hl
  refine z_aload_n C d8_text_0 rfl ?_
  refine z_getR C d8_text_1 fl_261 kZ_1 2 rfl (zn0 kZ_2) ?_
  refine z_iload_n C d8_text_4 rfl ?_
  obtain ⟨r1, s1, h1, hf⟩ := zbx hf
  refine z_callVr C (as := [zi x1]) d8_text_5 w_475 yy5_textOf (c5_textOf x.2.1 g h1) yc5_textOf kZ_2 rfl rfl (Nat.le_of_ble_eq_true rfl) ⟨Nat.le_of_ble_eq_true rfl, Nat.le_of_ble_eq_true rfl⟩ ⟨Nat.zero_le _, Nat.zero_le _⟩ ?_
  refine z_astore_n C d8_text_8 (Nat.le_of_ble_eq_true rfl) rfl (L' := [some (zr 1), some (zi x1), some (zr r1), none]) rfl ?_
  refine z_aload_n C d8_text_9 rfl ?_
  refine z_ifnonnull C d8_text_10 (fun c2 => ?_) (fun c2 => ?_)
  · have hf := zit c2 hf
    refine z_aload_n C d8_text_13 rfl ?_
    refine z_iconst C (1 : Int32) d8_text_14 kI_1 ?_
    obtain ⟨r3, s3, h3, hf⟩ := zbx hf
    refine z_callVi C (as := [zi (1 : Int32)]) d8_text_15 w_308 yy8_error (c8_error x.2.1 g h3) yc8_error kZ_1 rfl rfl (Nat.le_of_ble_eq_true rfl) ⟨Nat.le_of_ble_eq_true rfl, Nat.le_of_ble_eq_true rfl⟩ ⟨Nat.zero_le _, Nat.zero_le _⟩ ?_
    exact z_iret C d8_text_18 hf
  · have hf := zie c2 hf
    refine z_aload_n C d8_text_19 rfl ?_
    refine z_getR C d8_text_20 fl_265 kZ_1 86 rfl (zn0 kZ_86) ?_
    refine z_aload_n C d8_text_23 rfl ?_
    refine z_getR C d8_text_24 fl_261 kZ_1 2 rfl (zn0 kZ_2) ?_
    refine z_getR C d8_text_27 fl_123 kZ_2 7 rfl (zn0 kZ_7) ?_
    refine z_aload_n C d8_text_30 rfl ?_
    refine z_getR C d8_text_31 fl_261 kZ_1 2 rfl (zn0 kZ_2) ?_
    refine z_getI C d8_text_34 fl_130 kZ_2 ?_
    refine z_iload_n C d8_text_37 rfl ?_
    obtain ⟨r4, s4, h4, hf⟩ := zbx hf
    refine z_callVi C (as := [zr 7, zi (s1 2 8), zi x1]) d8_text_38 w_476 yy3_fault (c3_fault x.2.1 g h4) yc3_fault kZ_86 rfl rfl (Nat.le_of_ble_eq_true rfl) ⟨Nat.le_of_ble_eq_true rfl, Nat.le_of_ble_eq_true rfl⟩ ⟨Nat.zero_le _, Nat.zero_le _⟩ ?_
    refine z_istore_n C d8_text_41 (Nat.le_of_ble_eq_true rfl) rfl (L' := [some (zr 1), some (zi x1), some (zr r1), some (zi r4)]) rfl ?_
    refine z_aload_n C d8_text_42 rfl ?_
    refine z_getR C d8_text_43 fl_261 kZ_1 2 rfl (zn0 kZ_2) ?_
    refine z_iconst C (0 : Int32) d8_text_46 kI_0 ?_
    obtain ⟨s5, e5, hf⟩ := zpx hf
    refine z_putI C d8_text_47 fl_130 ft_5_8 kZ_2 e5 ?_
    refine z_iload_n C d8_text_50 rfl ?_
    refine z_if_lt C d8_text_51 (fun c6 => ?_) (fun c6 => ?_)
    · have hf := zit c6 hf
      refine z_aload_n C d8_text_59 rfl ?_
      refine z_aload_n C d8_text_60 rfl ?_
      refine z_getR C d8_text_61 fl_265 kZ_1 86 rfl (zn0 kZ_86) ?_
      refine z_getR C d8_text_64 fl_198 kZ_86 87 rfl (zn0 kZ_87) ?_
      obtain ⟨g8, hf⟩ := zgo hf
      obtain ⟨r7, s7, h7, hf⟩ := zbx hf
      refine z_callVv C (as := [zr 87]) d8_text_67 w_563 yy6_copyFrom (c6_copyFrom x.2.1 g h7) yc6_copyFrom g8 rfl rfl (Nat.le_of_ble_eq_true rfl) ⟨Nat.le_of_ble_eq_true rfl, Nat.le_of_ble_eq_true rfl⟩ ⟨Nat.zero_le _, Nat.zero_le _⟩ ?_
      refine z_iconst C (1 : Int32) d8_text_70 kI_1 ?_
      exact z_iret C d8_text_71 hf
    · have hf := zie c6 hf
      refine z_bipush C (-10 : Int32) d8_text_54 kB_m10 ?_
      refine z_iload_n C d8_text_56 rfl ?_
      refine z_isub C d8_text_57 ?_
      exact z_iret C d8_text_58 hf
theorem d8_then_0 : zd b8_then 0 (.aload_n 0) 1 1 := ⟨by decide +kernel, rfl⟩
theorem d8_then_1 : zd b8_then 1 (.getfield 10) 3 4 := ⟨by decide +kernel, rfl⟩
theorem d8_then_4 : zd b8_then 4 (.iload_n 1) 1 5 := ⟨by decide +kernel, rfl⟩
theorem d8_then_5 : zd b8_then 5 (.invokevirtual 128) 3 8 := ⟨by decide +kernel, rfl⟩
theorem d8_then_8 : zdb b8_then 8 (.ifnull 13) 13 11 21 := ⟨by decide +kernel, rfl, by decide⟩
theorem d8_then_11 : zd b8_then 11 (.iload_n 2) 1 12 := ⟨by decide +kernel, rfl⟩
theorem d8_then_12 : zdb b8_then 12 (.ifCond .lt 9) 9 15 21 := ⟨by decide +kernel, rfl, by decide⟩
theorem d8_then_15 : zd b8_then 15 (.iload_n 2) 1 16 := ⟨by decide +kernel, rfl⟩
theorem d8_then_16 : zd b8_then 16 (.bipush 48) 2 18 := ⟨by decide +kernel, rfl⟩
theorem d8_then_18 : zdb b8_then 18 (.if_icmp .le 9) 9 21 27 := ⟨by decide +kernel, rfl, by decide⟩
theorem d8_then_21 : zd b8_then 21 (.aload_n 0) 1 22 := ⟨by decide +kernel, rfl⟩
theorem d8_then_22 : zd b8_then 22 (.iconst 1) 1 23 := ⟨by decide +kernel, rfl⟩
theorem d8_then_23 : zd b8_then 23 (.invokevirtual 67) 3 26 := ⟨by decide +kernel, rfl⟩
theorem d8_then_26 : zd b8_then 26 .ireturn 1 27 := ⟨by decide +kernel, rfl⟩
theorem d8_then_27 : zd b8_then 27 (.aload_n 0) 1 28 := ⟨by decide +kernel, rfl⟩
theorem d8_then_28 : zd b8_then 28 (.getfield 19) 3 31 := ⟨by decide +kernel, rfl⟩
theorem d8_then_31 : zd b8_then 31 (.aload_n 0) 1 32 := ⟨by decide +kernel, rfl⟩
theorem d8_then_32 : zd b8_then 32 (.getfield 10) 3 35 := ⟨by decide +kernel, rfl⟩
theorem d8_then_35 : zd b8_then 35 (.invokevirtual 223) 3 38 := ⟨by decide +kernel, rfl⟩
theorem d8_then_38 : zd b8_then 38 (.iconst 0) 1 39 := ⟨by decide +kernel, rfl⟩
theorem d8_then_39 : zd b8_then 39 (.istore_n 3) 1 40 := ⟨by decide +kernel, rfl⟩
theorem d8_then_40 : zd b8_then 40 (.iload_n 3) 1 41 := ⟨by decide +kernel, rfl⟩
theorem d8_then_41 : zd b8_then 41 (.iload_n 2) 1 42 := ⟨by decide +kernel, rfl⟩
theorem d8_then_42 : zdb b8_then 42 (.if_icmp .ge 20) 20 45 62 := ⟨by decide +kernel, rfl, by decide⟩
theorem d8_then_45 : zd b8_then 45 (.aload_n 0) 1 46 := ⟨by decide +kernel, rfl⟩
theorem d8_then_46 : zd b8_then 46 (.getfield 19) 3 49 := ⟨by decide +kernel, rfl⟩
theorem d8_then_49 : zd b8_then 49 (.aload_n 0) 1 50 := ⟨by decide +kernel, rfl⟩
theorem d8_then_50 : zd b8_then 50 (.getfield 25) 3 53 := ⟨by decide +kernel, rfl⟩
theorem d8_then_53 : zd b8_then 53 (.invokevirtual 190) 3 56 := ⟨by decide +kernel, rfl⟩
theorem d8_then_56 : zd b8_then 56 (.iinc 3 1) 3 59 := ⟨by decide +kernel, rfl⟩
theorem d8_then_59 : zdb b8_then 59 (.goto (-19)) (-19) 62 40 := ⟨by decide +kernel, rfl, by decide⟩
theorem d8_then_62 : zd b8_then 62 (.aload_n 0) 1 63 := ⟨by decide +kernel, rfl⟩
theorem d8_then_63 : zd b8_then 63 (.getfield 19) 3 66 := ⟨by decide +kernel, rfl⟩
theorem d8_then_66 : zd b8_then 66 (.iload_n 1) 1 67 := ⟨by decide +kernel, rfl⟩
theorem d8_then_67 : zd b8_then 67 (.invokevirtual 128) 3 70 := ⟨by decide +kernel, rfl⟩
theorem d8_then_70 : zd b8_then 70 (.astore_n 3) 1 71 := ⟨by decide +kernel, rfl⟩
theorem d8_then_71 : zd b8_then 71 (.aload_n 3) 1 72 := ⟨by decide +kernel, rfl⟩
theorem d8_then_72 : zdb b8_then 72 (.ifnonnull 7) 7 75 79 := ⟨by decide +kernel, rfl, by decide⟩
theorem d8_then_75 : zd b8_then 75 (.iconst 0) 1 76 := ⟨by decide +kernel, rfl⟩
theorem d8_then_76 : zdb b8_then 76 (.goto 7) 7 79 83 := ⟨by decide +kernel, rfl, by decide⟩
theorem d8_then_79 : zd b8_then 79 (.aload_n 3) 1 80 := ⟨by decide +kernel, rfl⟩
theorem d8_then_80 : zd b8_then 80 (.getfield 138) 3 83 := ⟨by decide +kernel, rfl⟩
theorem d8_then_83 : zd b8_then 83 .ireturn 1 84 := ⟨by decide +kernel, rfl⟩
def b8_then_40 (k : Nat) (q40 : Int32 → Int32 → Int32 → ZS → Option (Int32 × ZS)) (x1 : Int32) (x2 : Int32) (x3 : Int32) (σ : ZS) : Option (Int32 × ZS) :=
  if x2 ≤ x3 then (
  zbd (f5_personOf k 56 x1 σ) fun r2 s2 =>
  if r2 = 0 then (
  some ((0 : Int32), s2))
  else (
  if zsh r2 = 3 then (
  some ((s2 r2 2), s2)) else none))
  else (
  zbd (f5_passHour k 56 σ) fun _ s5 =>
  q40 x1 x2 (x3 + (1 : Int32)) s5)
def f8_then_40 (k : Nat) : Nat → Int32 → Int32 → Int32 → ZS → Option (Int32 × ZS)
  | 0 => fun _ _ _ _ => none
  | n + 1 => b8_then_40 k  (f8_then_40 k  n)
theorem j8_then_40 {x : ZX} {g : ZG} (C : zC x g b8_then R8 (some .int) 4 7 204) {k : Nat} {r : Int32} {σr : ZS}  {q40 : Int32 → Int32 → Int32 → ZS → Option (Int32 × ZS)} (hq40 : (∀ (x1 : Int32) (x2 : Int32) (x3 : Int32) (σ : ZS), q40 x1 x2 x3 σ = some (r, σr) → zw x g 4 0 0 (zMQ x g (some (zi r)) σr) σ 40 [some (zr 1), some (zi x1), some (zi x2), some (zi x3)] [])) {x1 : Int32} {x2 : Int32} {x3 : Int32} {σ : ZS} (hf : b8_then_40 k q40 x1 x2 x3 σ = some (r, σr)) : zw x g 4 0 0 (zMQ x g (some (zi r)) σr) σ 40 [some (zr 1), some (zi x1), some (zi x2), some (zi x3)] [] := by
  unfold b8_then_40 at hf
  refine z_iload_n C d8_then_40 rfl ?_
  refine z_iload_n C d8_then_41 rfl ?_
  refine z_icmp_ge C d8_then_42 (fun c1 => ?_) (fun c1 => ?_)
  · have hf := zit c1 hf
    refine z_aload_n C d8_then_62 rfl ?_
    refine z_getR C d8_then_63 fl_263 kZ_1 56 rfl (zn0 kZ_56) ?_
    refine z_iload_n C d8_then_66 rfl ?_
    obtain ⟨r2, s2, h2, hf⟩ := zbx hf
    refine z_callVr C (as := [zi x1]) d8_then_67 w_396 yy5_personOf (c5_personOf x.2.1 g h2) yc5_personOf kZ_56 rfl rfl (Nat.le_of_ble_eq_true rfl) ⟨Nat.le_of_ble_eq_true rfl, Nat.le_of_ble_eq_true rfl⟩ ⟨Nat.zero_le _, Nat.zero_le _⟩ ?_
    refine z_astore_n C d8_then_70 (Nat.le_of_ble_eq_true rfl) rfl (L' := [some (zr 1), some (zi x1), some (zi x2), some (zr r2)]) rfl ?_
    refine z_aload_n C d8_then_71 rfl ?_
    refine z_ifnonnull C d8_then_72 (fun c3 => ?_) (fun c3 => ?_)
    · have hf := zit c3 hf
      refine z_iconst C (0 : Int32) d8_then_75 kI_0 ?_
      refine z_goto C d8_then_76 ?_
      exact z_iret C d8_then_83 hf
    · have hf := zie c3 hf
      refine z_aload_n C d8_then_79 rfl ?_
      obtain ⟨g4, hf⟩ := zgo hf
      refine z_getI C d8_then_80 fl_88 g4 ?_
      exact z_iret C d8_then_83 hf
  · have hf := zie c1 hf
    refine z_aload_n C d8_then_45 rfl ?_
    refine z_getR C d8_then_46 fl_263 kZ_1 56 rfl (zn0 kZ_56) ?_
    refine z_aload_n C d8_then_49 rfl ?_
    refine z_getR C d8_then_50 fl_264 kZ_1 83 rfl (zn0 kZ_83) ?_
    obtain ⟨r5, s5, h5, hf⟩ := zbx hf
    refine z_callVv C (as := [zr 83]) d8_then_53 w_584 yy5_passHour (c5_passHour x.2.1 g h5) yc5_passHour kZ_56 rfl rfl (Nat.le_of_ble_eq_true rfl) ⟨Nat.le_of_ble_eq_true rfl, Nat.le_of_ble_eq_true rfl⟩ ⟨Nat.zero_le _, Nat.zero_le _⟩ ?_
    refine z_iinc C d8_then_56 rfl kI_1 (Nat.le_of_ble_eq_true rfl) rfl (L' := [some (zr 1), some (zi x1), some (zi x2), some (zi (x3 + (1 : Int32)))]) rfl ?_
    refine z_goto C d8_then_59 ?_
    exact hq40 _ _ _ _ hf
theorem j8_then_40l {x : ZX} {g : ZG} (C : zC x g b8_then R8 (some .int) 4 7 204) {k : Nat} {r : Int32} {σr : ZS}  : ∀ (n : Nat) (x1 : Int32) (x2 : Int32) (x3 : Int32) (σ : ZS), f8_then_40 k  n x1 x2 x3 σ = some (r, σr) → zw x g 4 0 0 (zMQ x g (some (zi r)) σr) σ 40 [some (zr 1), some (zi x1), some (zi x2), some (zi x3)] [] := by
  intro n
  induction n with
  | zero => intro x1 x2 x3 σ hf; exact absurd (show none = some (r, σr) from hf) (fun z => by cases z)
  | succ n ih => intro x1 x2 x3 σ hf; exact j8_then_40 C  ih (show b8_then_40 k  (f8_then_40 k  n) x1 x2 x3 σ = some (r, σr) from hf)
def f8_then (k : Nat) (x1 : Int32) (x2 : Int32) (σ : ZS) : Option (Int32 × ZS) :=
  zbd (f5_personOf k 2 x1 σ) fun r1 s1 =>
  if r1 = 0 then (
  zbd (f8_error k (1 : Int32) s1) fun r3 s3 =>
  some (r3, s3))
  else (
  if x2 < 0 then (
  zbd (f8_error k (1 : Int32) s1) fun r5 s5 =>
  some (r5, s5))
  else (
  if x2 ≤ (48 : Int32) then (
  zbd (f5_copyFrom k 56 2 s1) fun _ s7 =>
  f8_then_40 k  k x1 x2 (0 : Int32) s7)
  else (
  zbd (f8_error k (1 : Int32) s1) fun r8 s8 =>
  some (r8, s8))))
theorem c8_then (l : Launch) (g : ZG) {k : Nat} {x1 : Int32} {x2 : Int32} {σ : ZS} {r : Int32} {σr : ZS} (hf : f8_then k x1 x2 σ = some (r, σr)) : zT l g y8_then b8_then 4 (some .int) 7 204 [zr 1, zi x1, zi x2] σ (some (zi r)) σr := by
  unfold f8_then at hf
  refine zT_start (own := R8) rfl (by decide +kernel) 1 (L := [some (zr 1), some (zi x1), some (zi x2), none]) rfl rfl (fun x hl C => ?_)
  subst hl
  refine z_aload_n C d8_then_0 rfl ?_
  refine z_getR C d8_then_1 fl_261 kZ_1 2 rfl (zn0 kZ_2) ?_
  refine z_iload_n C d8_then_4 rfl ?_
  obtain ⟨r1, s1, h1, hf⟩ := zbx hf
  refine z_callVr C (as := [zi x1]) d8_then_5 w_396 yy5_personOf (c5_personOf x.2.1 g h1) yc5_personOf kZ_2 rfl rfl (Nat.le_of_ble_eq_true rfl) ⟨Nat.le_of_ble_eq_true rfl, Nat.le_of_ble_eq_true rfl⟩ ⟨Nat.zero_le _, Nat.zero_le _⟩ ?_
  refine z_ifnull C d8_then_8 (fun c2 => ?_) (fun c2 => ?_)
  · have hf := zit c2 hf
    refine z_aload_n C d8_then_21 rfl ?_
    refine z_iconst C (1 : Int32) d8_then_22 kI_1 ?_
    obtain ⟨r3, s3, h3, hf⟩ := zbx hf
    refine z_callVi C (as := [zi (1 : Int32)]) d8_then_23 w_308 yy8_error (c8_error x.2.1 g h3) yc8_error kZ_1 rfl rfl (Nat.le_of_ble_eq_true rfl) ⟨Nat.le_of_ble_eq_true rfl, Nat.le_of_ble_eq_true rfl⟩ ⟨Nat.zero_le _, Nat.zero_le _⟩ ?_
    exact z_iret C d8_then_26 hf
  · have hf := zie c2 hf
    refine z_iload_n C d8_then_11 rfl ?_
    refine z_if_lt C d8_then_12 (fun c4 => ?_) (fun c4 => ?_)
    · have hf := zit c4 hf
      refine z_aload_n C d8_then_21 rfl ?_
      refine z_iconst C (1 : Int32) d8_then_22 kI_1 ?_
      obtain ⟨r5, s5, h5, hf⟩ := zbx hf
      refine z_callVi C (as := [zi (1 : Int32)]) d8_then_23 w_308 yy8_error (c8_error x.2.1 g h5) yc8_error kZ_1 rfl rfl (Nat.le_of_ble_eq_true rfl) ⟨Nat.le_of_ble_eq_true rfl, Nat.le_of_ble_eq_true rfl⟩ ⟨Nat.zero_le _, Nat.zero_le _⟩ ?_
      exact z_iret C d8_then_26 hf
    · have hf := zie c4 hf
      refine z_iload_n C d8_then_15 rfl ?_
      refine z_bipush C (48 : Int32) d8_then_16 kB_48 ?_
      refine z_icmp_le C d8_then_18 (fun c6 => ?_) (fun c6 => ?_)
      · have hf := zit c6 hf
        refine z_aload_n C d8_then_27 rfl ?_
        refine z_getR C d8_then_28 fl_263 kZ_1 56 rfl (zn0 kZ_56) ?_
        refine z_aload_n C d8_then_31 rfl ?_
        refine z_getR C d8_then_32 fl_261 kZ_1 2 rfl (zn0 kZ_2) ?_
        obtain ⟨r7, s7, h7, hf⟩ := zbx hf
        refine z_callVv C (as := [zr 2]) d8_then_35 w_637 yy5_copyFrom (c5_copyFrom x.2.1 g h7) yc5_copyFrom kZ_56 rfl rfl (Nat.le_of_ble_eq_true rfl) ⟨Nat.le_of_ble_eq_true rfl, Nat.le_of_ble_eq_true rfl⟩ ⟨Nat.zero_le _, Nat.zero_le _⟩ ?_
        refine z_iconst C (0 : Int32) d8_then_38 kI_0 ?_
        refine z_istore_n C d8_then_39 (Nat.le_of_ble_eq_true rfl) rfl (L' := [some (zr 1), some (zi x1), some (zi x2), some (zi (0 : Int32))]) rfl ?_
        exact j8_then_40l C  _ _ _ _ _ hf
      · have hf := zie c6 hf
        refine z_aload_n C d8_then_21 rfl ?_
        refine z_iconst C (1 : Int32) d8_then_22 kI_1 ?_
        obtain ⟨r8, s8, h8, hf⟩ := zbx hf
        refine z_callVi C (as := [zi (1 : Int32)]) d8_then_23 w_308 yy8_error (c8_error x.2.1 g h8) yc8_error kZ_1 rfl rfl (Nat.le_of_ble_eq_true rfl) ⟨Nat.le_of_ble_eq_true rfl, Nat.le_of_ble_eq_true rfl⟩ ⟨Nat.zero_le _, Nat.zero_le _⟩ ?_
        exact z_iret C d8_then_26 hf
theorem d8_throwsOn_0 : zd b8_throwsOn 0 (.aload_n 0) 1 1 := ⟨by decide +kernel, rfl⟩
theorem d8_throwsOn_1 : zd b8_throwsOn 1 (.getfield 10) 3 4 := ⟨by decide +kernel, rfl⟩
theorem d8_throwsOn_4 : zd b8_throwsOn 4 (.iload_n 1) 1 5 := ⟨by decide +kernel, rfl⟩
theorem d8_throwsOn_5 : zd b8_throwsOn 5 (.invokevirtual 82) 3 8 := ⟨by decide +kernel, rfl⟩
theorem d8_throwsOn_8 : zd b8_throwsOn 8 (.astore_n 3) 1 9 := ⟨by decide +kernel, rfl⟩
theorem d8_throwsOn_9 : zd b8_throwsOn 9 (.aload_n 3) 1 10 := ⟨by decide +kernel, rfl⟩
theorem d8_throwsOn_10 : zdb b8_throwsOn 10 (.ifnull 10) 10 13 20 := ⟨by decide +kernel, rfl, by decide⟩
theorem d8_throwsOn_13 : zd b8_throwsOn 13 (.iload_n 2) 1 14 := ⟨by decide +kernel, rfl⟩
theorem d8_throwsOn_14 : zd b8_throwsOn 14 (.invokestatic 103) 3 17 := ⟨by decide +kernel, rfl⟩
theorem d8_throwsOn_17 : zdb b8_throwsOn 17 (.ifCond .eq 9) 9 20 26 := ⟨by decide +kernel, rfl, by decide⟩
theorem d8_throwsOn_20 : zd b8_throwsOn 20 (.aload_n 0) 1 21 := ⟨by decide +kernel, rfl⟩
theorem d8_throwsOn_21 : zd b8_throwsOn 21 (.iconst 1) 1 22 := ⟨by decide +kernel, rfl⟩
theorem d8_throwsOn_22 : zd b8_throwsOn 22 (.invokevirtual 67) 3 25 := ⟨by decide +kernel, rfl⟩
theorem d8_throwsOn_25 : zd b8_throwsOn 25 .ireturn 1 26 := ⟨by decide +kernel, rfl⟩
theorem d8_throwsOn_26 : zd b8_throwsOn 26 (.aload_n 3) 1 27 := ⟨by decide +kernel, rfl⟩
theorem d8_throwsOn_27 : zd b8_throwsOn 27 (.iload_n 2) 1 28 := ⟨by decide +kernel, rfl⟩
theorem d8_throwsOn_28 : zd b8_throwsOn 28 (.aload_n 0) 1 29 := ⟨by decide +kernel, rfl⟩
theorem d8_throwsOn_29 : zd b8_throwsOn 29 (.getfield 10) 3 32 := ⟨by decide +kernel, rfl⟩
theorem d8_throwsOn_32 : zd b8_throwsOn 32 (.invokevirtual 106) 3 35 := ⟨by decide +kernel, rfl⟩
theorem d8_throwsOn_35 : zd b8_throwsOn 35 (.invokevirtual 110) 3 38 := ⟨by decide +kernel, rfl⟩
theorem d8_throwsOn_38 : zd b8_throwsOn 38 .ireturn 1 39 := ⟨by decide +kernel, rfl⟩
def f8_throwsOn (k : Nat) (x1 : Int32) (x2 : Int32) (σ : ZS) : Option (Int32 × ZS) :=
  zbd (f5_glassOf k 2 x1 σ) fun r1 s1 =>
  if r1 = 0 then (
  zbd (f8_error k (1 : Int32) s1) fun r3 s3 =>
  some (r3, s3))
  else (
  zbd (f8_isNoWay k x2 s1) fun r4 s4 =>
  if r4 = 0 then (
  zbd (f5_isNight k 2 s4) fun r6 s6 =>
  if zsh r1 = 1 then (
  zbd (f0_onward k r1 x2 r6 s6) fun r7 s7 =>
  some (r7, s7)) else none)
  else (
  zbd (f8_error k (1 : Int32) s4) fun r9 s9 =>
  some (r9, s9)))
theorem c8_throwsOn (l : Launch) (g : ZG) {k : Nat} {x1 : Int32} {x2 : Int32} {σ : ZS} {r : Int32} {σr : ZS} (hf : f8_throwsOn k x1 x2 σ = some (r, σr)) : zT l g y8_throwsOn b8_throwsOn 4 (some .int) 4 123 [zr 1, zi x1, zi x2] σ (some (zi r)) σr := by
  unfold f8_throwsOn at hf
  refine zT_start (own := R8) rfl (by decide +kernel) 1 (L := [some (zr 1), some (zi x1), some (zi x2), none]) rfl rfl (fun x hl C => ?_)
  subst hl
  refine z_aload_n C d8_throwsOn_0 rfl ?_
  refine z_getR C d8_throwsOn_1 fl_261 kZ_1 2 rfl (zn0 kZ_2) ?_
  refine z_iload_n C d8_throwsOn_4 rfl ?_
  obtain ⟨r1, s1, h1, hf⟩ := zbx hf
  refine z_callVr C (as := [zi x1]) d8_throwsOn_5 w_334 yy5_glassOf (c5_glassOf x.2.1 g h1) yc5_glassOf kZ_2 rfl rfl (Nat.le_of_ble_eq_true rfl) ⟨Nat.le_of_ble_eq_true rfl, Nat.le_of_ble_eq_true rfl⟩ ⟨Nat.zero_le _, Nat.zero_le _⟩ ?_
  refine z_astore_n C d8_throwsOn_8 (Nat.le_of_ble_eq_true rfl) rfl (L' := [some (zr 1), some (zi x1), some (zi x2), some (zr r1)]) rfl ?_
  refine z_aload_n C d8_throwsOn_9 rfl ?_
  refine z_ifnull C d8_throwsOn_10 (fun c2 => ?_) (fun c2 => ?_)
  · have hf := zit c2 hf
    refine z_aload_n C d8_throwsOn_20 rfl ?_
    refine z_iconst C (1 : Int32) d8_throwsOn_21 kI_1 ?_
    obtain ⟨r3, s3, h3, hf⟩ := zbx hf
    refine z_callVi C (as := [zi (1 : Int32)]) d8_throwsOn_22 w_308 yy8_error (c8_error x.2.1 g h3) yc8_error kZ_1 rfl rfl (Nat.le_of_ble_eq_true rfl) ⟨Nat.le_of_ble_eq_true rfl, Nat.le_of_ble_eq_true rfl⟩ ⟨Nat.zero_le _, Nat.zero_le _⟩ ?_
    exact z_iret C d8_throwsOn_25 hf
  · have hf := zie c2 hf
    refine z_iload_n C d8_throwsOn_13 rfl ?_
    obtain ⟨r4, s4, h4, hf⟩ := zbx hf
    refine z_callSi C (as := [zi x2]) d8_throwsOn_14 w_339 yy8_isNoWay (c8_isNoWay x.2.1 g h4) rfl rfl (Nat.le_of_ble_eq_true rfl) ⟨Nat.le_of_ble_eq_true rfl, Nat.le_of_ble_eq_true rfl⟩ ⟨Nat.zero_le _, Nat.zero_le _⟩ ?_
    refine z_if_eq C d8_throwsOn_17 (fun c5 => ?_) (fun c5 => ?_)
    · have hf := zit c5 hf
      refine z_aload_n C d8_throwsOn_26 rfl ?_
      refine z_iload_n C d8_throwsOn_27 rfl ?_
      refine z_aload_n C d8_throwsOn_28 rfl ?_
      refine z_getR C d8_throwsOn_29 fl_261 kZ_1 2 rfl (zn0 kZ_2) ?_
      obtain ⟨r6, s6, h6, hf⟩ := zbx hf
      refine z_callVi C (as := []) d8_throwsOn_32 w_342 yy5_isNight (c5_isNight x.2.1 g h6) yc5_isNight kZ_2 rfl rfl (Nat.le_of_ble_eq_true rfl) ⟨Nat.le_of_ble_eq_true rfl, Nat.le_of_ble_eq_true rfl⟩ ⟨Nat.zero_le _, Nat.zero_le _⟩ ?_
      obtain ⟨g8, hf⟩ := zgo hf
      obtain ⟨r7, s7, h7, hf⟩ := zbx hf
      refine z_callVi C (as := [zi x2, zi r6]) d8_throwsOn_35 w_346 yy0_onward (c0_onward x.2.1 g h7) yc0_onward g8 rfl rfl (Nat.le_of_ble_eq_true rfl) ⟨Nat.le_of_ble_eq_true rfl, Nat.le_of_ble_eq_true rfl⟩ ⟨Nat.zero_le _, Nat.zero_le _⟩ ?_
      exact z_iret C d8_throwsOn_38 hf
    · have hf := zie c5 hf
      refine z_aload_n C d8_throwsOn_20 rfl ?_
      refine z_iconst C (1 : Int32) d8_throwsOn_21 kI_1 ?_
      obtain ⟨r9, s9, h9, hf⟩ := zbx hf
      refine z_callVi C (as := [zi (1 : Int32)]) d8_throwsOn_22 w_308 yy8_error (c8_error x.2.1 g h9) yc8_error kZ_1 rfl rfl (Nat.le_of_ble_eq_true rfl) ⟨Nat.le_of_ble_eq_true rfl, Nat.le_of_ble_eq_true rfl⟩ ⟨Nat.zero_le _, Nat.zero_le _⟩ ?_
      exact z_iret C d8_throwsOn_25 hf
theorem d8_told_0 : zd b8_told 0 (.iload_n 1) 1 1 := ⟨by decide +kernel, rfl⟩
theorem d8_told_1 : zd b8_told 1 (.iconst 1) 1 2 := ⟨by decide +kernel, rfl⟩
theorem d8_told_2 : zdb b8_told 2 (.if_icmp .lt 9) 9 5 11 := ⟨by decide +kernel, rfl, by decide⟩
theorem d8_told_5 : zd b8_told 5 (.iload_n 1) 1 6 := ⟨by decide +kernel, rfl⟩
theorem d8_told_6 : zd b8_told 6 (.bipush 6) 2 8 := ⟨by decide +kernel, rfl⟩
theorem d8_told_8 : zdb b8_told 8 (.if_icmp .le 9) 9 11 17 := ⟨by decide +kernel, rfl, by decide⟩
theorem d8_told_11 : zd b8_told 11 (.aload_n 0) 1 12 := ⟨by decide +kernel, rfl⟩
theorem d8_told_12 : zd b8_told 12 (.iconst 1) 1 13 := ⟨by decide +kernel, rfl⟩
theorem d8_told_13 : zd b8_told 13 (.invokevirtual 67) 3 16 := ⟨by decide +kernel, rfl⟩
theorem d8_told_16 : zd b8_told 16 .ireturn 1 17 := ⟨by decide +kernel, rfl⟩
theorem d8_told_17 : zd b8_told 17 (.aload_n 0) 1 18 := ⟨by decide +kernel, rfl⟩
theorem d8_told_18 : zd b8_told 18 (.getfield 53) 3 21 := ⟨by decide +kernel, rfl⟩
theorem d8_told_21 : zd b8_told 21 (.iload_n 1) 1 22 := ⟨by decide +kernel, rfl⟩
theorem d8_told_22 : zd b8_told 22 .iaload 1 23 := ⟨by decide +kernel, rfl⟩
theorem d8_told_23 : zd b8_told 23 .ireturn 1 24 := ⟨by decide +kernel, rfl⟩
def f8_told (k : Nat) (x1 : Int32) (σ : ZS) : Option (Int32 × ZS) :=
  if x1 < (1 : Int32) then (
  zbd (f8_error k (1 : Int32) σ) fun r2 s2 =>
  some (r2, s2))
  else (
  if x1 ≤ (6 : Int32) then (
  if zin x1 7 then (
  some ((σ 94 x1.toNatClampNeg), σ)) else none)
  else (
  zbd (f8_error k (1 : Int32) σ) fun r5 s5 =>
  some (r5, s5)))
theorem c8_told (l : Launch) (g : ZG) {k : Nat} {x1 : Int32} {σ : ZS} {r : Int32} {σr : ZS} (hf : f8_told k x1 σ = some (r, σr)) : zT l g y8_told b8_told 2 (some .int) 2 81 [zr 1, zi x1] σ (some (zi r)) σr := by
  unfold f8_told at hf
  refine zT_start (own := R8) rfl (by decide +kernel) 0 (L := [some (zr 1), some (zi x1)]) rfl rfl (fun x hl C => ?_)
  subst hl
  refine z_iload_n C d8_told_0 rfl ?_
  refine z_iconst C (1 : Int32) d8_told_1 kI_1 ?_
  refine z_icmp_lt C d8_told_2 (fun c1 => ?_) (fun c1 => ?_)
  · have hf := zit c1 hf
    refine z_aload_n C d8_told_11 rfl ?_
    refine z_iconst C (1 : Int32) d8_told_12 kI_1 ?_
    obtain ⟨r2, s2, h2, hf⟩ := zbx hf
    refine z_callVi C (as := [zi (1 : Int32)]) d8_told_13 w_308 yy8_error (c8_error x.2.1 g h2) yc8_error kZ_1 rfl rfl (Nat.le_of_ble_eq_true rfl) ⟨Nat.le_of_ble_eq_true rfl, Nat.le_of_ble_eq_true rfl⟩ ⟨Nat.zero_le _, Nat.zero_le _⟩ ?_
    exact z_iret C d8_told_16 hf
  · have hf := zie c1 hf
    refine z_iload_n C d8_told_5 rfl ?_
    refine z_bipush C (6 : Int32) d8_told_6 kB_6 ?_
    refine z_icmp_le C d8_told_8 (fun c3 => ?_) (fun c3 => ?_)
    · have hf := zit c3 hf
      refine z_aload_n C d8_told_17 rfl ?_
      refine z_getR C d8_told_18 fl_269 kZ_1 94 rfl (zn0 kZ_94) ?_
      refine z_iload_n C d8_told_21 rfl ?_
      obtain ⟨g4, hf⟩ := zgo hf
      refine z_iald C d8_told_22 kZ_94 kL_94 g4 (x1.toNatClampNeg) rfl ?_
      exact z_iret C d8_told_23 hf
    · have hf := zie c3 hf
      refine z_aload_n C d8_told_11 rfl ?_
      refine z_iconst C (1 : Int32) d8_told_12 kI_1 ?_
      obtain ⟨r5, s5, h5, hf⟩ := zbx hf
      refine z_callVi C (as := [zi (1 : Int32)]) d8_told_13 w_308 yy8_error (c8_error x.2.1 g h5) yc8_error kZ_1 rfl rfl (Nat.le_of_ble_eq_true rfl) ⟨Nat.le_of_ble_eq_true rfl, Nat.le_of_ble_eq_true rfl⟩ ⟨Nat.zero_le _, Nat.zero_le _⟩ ?_
      exact z_iret C d8_told_16 hf
theorem d8_turnsOf_0 : zd b8_turnsOf 0 (.aload_n 0) 1 1 := ⟨by decide +kernel, rfl⟩
theorem d8_turnsOf_1 : zd b8_turnsOf 1 (.iload_n 1) 1 2 := ⟨by decide +kernel, rfl⟩
theorem d8_turnsOf_2 : zd b8_turnsOf 2 (.invokevirtual 233) 3 5 := ⟨by decide +kernel, rfl⟩
theorem d8_turnsOf_5 : zd b8_turnsOf 5 (.astore_n 2) 1 6 := ⟨by decide +kernel, rfl⟩
theorem d8_turnsOf_6 : zd b8_turnsOf 6 (.aload_n 2) 1 7 := ⟨by decide +kernel, rfl⟩
theorem d8_turnsOf_7 : zdb b8_turnsOf 7 (.ifnonnull 9) 9 10 16 := ⟨by decide +kernel, rfl, by decide⟩
theorem d8_turnsOf_10 : zd b8_turnsOf 10 (.aload_n 0) 1 11 := ⟨by decide +kernel, rfl⟩
theorem d8_turnsOf_11 : zd b8_turnsOf 11 (.iconst 1) 1 12 := ⟨by decide +kernel, rfl⟩
theorem d8_turnsOf_12 : zd b8_turnsOf 12 (.invokevirtual 67) 3 15 := ⟨by decide +kernel, rfl⟩
theorem d8_turnsOf_15 : zd b8_turnsOf 15 .ireturn 1 16 := ⟨by decide +kernel, rfl⟩
theorem d8_turnsOf_16 : zd b8_turnsOf 16 (.aload_n 2) 1 17 := ⟨by decide +kernel, rfl⟩
theorem d8_turnsOf_17 : zd b8_turnsOf 17 (.getfield 237) 3 20 := ⟨by decide +kernel, rfl⟩
theorem d8_turnsOf_20 : zdb b8_turnsOf 20 (.ifCond .ne 9) 9 23 29 := ⟨by decide +kernel, rfl, by decide⟩
theorem d8_turnsOf_23 : zd b8_turnsOf 23 (.aload_n 0) 1 24 := ⟨by decide +kernel, rfl⟩
theorem d8_turnsOf_24 : zd b8_turnsOf 24 (.iconst 2) 1 25 := ⟨by decide +kernel, rfl⟩
theorem d8_turnsOf_25 : zd b8_turnsOf 25 (.invokevirtual 67) 3 28 := ⟨by decide +kernel, rfl⟩
theorem d8_turnsOf_28 : zd b8_turnsOf 28 .ireturn 1 29 := ⟨by decide +kernel, rfl⟩
theorem d8_turnsOf_29 : zd b8_turnsOf 29 (.aload_n 2) 1 30 := ⟨by decide +kernel, rfl⟩
theorem d8_turnsOf_30 : zd b8_turnsOf 30 (.getfield 260) 3 33 := ⟨by decide +kernel, rfl⟩
theorem d8_turnsOf_33 : zd b8_turnsOf 33 (.aload_n 0) 1 34 := ⟨by decide +kernel, rfl⟩
theorem d8_turnsOf_34 : zd b8_turnsOf 34 (.getfield 10) 3 37 := ⟨by decide +kernel, rfl⟩
theorem d8_turnsOf_37 : zd b8_turnsOf 37 (.getfield 71) 3 40 := ⟨by decide +kernel, rfl⟩
theorem d8_turnsOf_40 : zd b8_turnsOf 40 (.invokestatic 146) 3 43 := ⟨by decide +kernel, rfl⟩
theorem d8_turnsOf_43 : zd b8_turnsOf 43 (.istore_n 3) 1 44 := ⟨by decide +kernel, rfl⟩
theorem d8_turnsOf_44 : zd b8_turnsOf 44 (.iconst 0) 1 45 := ⟨by decide +kernel, rfl⟩
theorem d8_turnsOf_45 : zd b8_turnsOf 45 (.istore 4) 2 47 := ⟨by decide +kernel, rfl⟩
theorem d8_turnsOf_47 : zd b8_turnsOf 47 (.iload 4) 2 49 := ⟨by decide +kernel, rfl⟩
theorem d8_turnsOf_49 : zd b8_turnsOf 49 (.iload_n 3) 1 50 := ⟨by decide +kernel, rfl⟩
theorem d8_turnsOf_50 : zdb b8_turnsOf 50 (.if_icmp .ge 51) 51 53 101 := ⟨by decide +kernel, rfl, by decide⟩
theorem d8_turnsOf_53 : zd b8_turnsOf 53 (.aload_n 0) 1 54 := ⟨by decide +kernel, rfl⟩
theorem d8_turnsOf_54 : zd b8_turnsOf 54 (.getfield 10) 3 57 := ⟨by decide +kernel, rfl⟩
theorem d8_turnsOf_57 : zd b8_turnsOf 57 (.iload 4) 2 59 := ⟨by decide +kernel, rfl⟩
theorem d8_turnsOf_59 : zd b8_turnsOf 59 (.invokevirtual 82) 3 62 := ⟨by decide +kernel, rfl⟩
theorem d8_turnsOf_62 : zd b8_turnsOf 62 (.astore 5) 2 64 := ⟨by decide +kernel, rfl⟩
theorem d8_turnsOf_64 : zd b8_turnsOf 64 (.aload_n 2) 1 65 := ⟨by decide +kernel, rfl⟩
theorem d8_turnsOf_65 : zd b8_turnsOf 65 (.iload 4) 2 67 := ⟨by decide +kernel, rfl⟩
theorem d8_turnsOf_67 : zd b8_turnsOf 67 (.invokevirtual 277) 3 70 := ⟨by decide +kernel, rfl⟩
theorem d8_turnsOf_70 : zd b8_turnsOf 70 (.istore 6) 2 72 := ⟨by decide +kernel, rfl⟩
theorem d8_turnsOf_72 : zd b8_turnsOf 72 (.aload 5) 2 74 := ⟨by decide +kernel, rfl⟩
theorem d8_turnsOf_74 : zdb b8_turnsOf 74 (.ifnull 11) 11 77 85 := ⟨by decide +kernel, rfl, by decide⟩
theorem d8_turnsOf_77 : zd b8_turnsOf 77 (.iload 6) 2 79 := ⟨by decide +kernel, rfl⟩
theorem d8_turnsOf_79 : zd b8_turnsOf 79 (.invokestatic 64) 3 82 := ⟨by decide +kernel, rfl⟩
theorem d8_turnsOf_82 : zdb b8_turnsOf 82 (.ifCond .eq 6) 6 85 88 := ⟨by decide +kernel, rfl, by decide⟩
theorem d8_turnsOf_85 : zd b8_turnsOf 85 (.iload 4) 2 87 := ⟨by decide +kernel, rfl⟩
theorem d8_turnsOf_87 : zd b8_turnsOf 87 .ireturn 1 88 := ⟨by decide +kernel, rfl⟩
theorem d8_turnsOf_88 : zd b8_turnsOf 88 (.aload 5) 2 90 := ⟨by decide +kernel, rfl⟩
theorem d8_turnsOf_90 : zd b8_turnsOf 90 (.iload 6) 2 92 := ⟨by decide +kernel, rfl⟩
theorem d8_turnsOf_92 : zd b8_turnsOf 92 (.putfield 97) 3 95 := ⟨by decide +kernel, rfl⟩
theorem d8_turnsOf_95 : zd b8_turnsOf 95 (.iinc 4 1) 3 98 := ⟨by decide +kernel, rfl⟩
theorem d8_turnsOf_98 : zdb b8_turnsOf 98 (.goto (-51)) (-51) 101 47 := ⟨by decide +kernel, rfl, by decide⟩
theorem d8_turnsOf_101 : zd b8_turnsOf 101 (.iload_n 3) 1 102 := ⟨by decide +kernel, rfl⟩
theorem d8_turnsOf_102 : zd b8_turnsOf 102 .ireturn 1 103 := ⟨by decide +kernel, rfl⟩
def b8_turnsOf_47 (k : Nat) (q47 : Nat → Int32 → Int32 → ZS → Option (Int32 × ZS)) (x2 : Nat) (x3 : Int32) (x4 : Int32) (σ : ZS) : Option (Int32 × ZS) :=
  if x3 ≤ x4 then (
  some (x3, σ))
  else (
  zbd (f5_glassOf k 2 x4 σ) fun r2 s2 =>
  if zsh x2 = 5 then (
  zbd (f4_numberAt k x2 x4 s2) fun r3 s3 =>
  if r2 = 0 then (
  some (x4, s3))
  else (
  zbd (f8_isNoTurn k r3 s3) fun r6 s6 =>
  if r6 = 0 then (
  if zsh r2 = 1 then (
  zput (zu s6 r2 3 r3) fun s9 =>
  q47 x2 x3 (x4 + (1 : Int32)) s9) else none)
  else (
  some (x4, s6)))) else none)
def f8_turnsOf_47 (k : Nat) : Nat → Nat → Int32 → Int32 → ZS → Option (Int32 × ZS)
  | 0 => fun _ _ _ _ => none
  | n + 1 => b8_turnsOf_47 k  (f8_turnsOf_47 k  n)
theorem j8_turnsOf_47 {x : ZX} {g : ZG} (C : zC x g b8_turnsOf R8 (some .int) 7 2 81) {k : Nat} {r : Int32} {σr : ZS}  {q47 : Nat → Int32 → Int32 → ZS → Option (Int32 × ZS)} (hq47 : (∀ (x2 : Nat) (x3 : Int32) (x4 : Int32) (σ : ZS), q47 x2 x3 x4 σ = some (r, σr) → zw x g 7 0 0 (zMQ x g (some (zi r)) σr) σ 47 [some (zr 1), none, some (zr x2), some (zi x3), some (zi x4), none, none] [])) {x2 : Nat} {x3 : Int32} {x4 : Int32} {σ : ZS} (hf : b8_turnsOf_47 k q47 x2 x3 x4 σ = some (r, σr)) : zw x g 7 0 0 (zMQ x g (some (zi r)) σr) σ 47 [some (zr 1), none, some (zr x2), some (zi x3), some (zi x4), none, none] [] := by
  unfold b8_turnsOf_47 at hf
  refine z_iload C d8_turnsOf_47 rfl ?_
  refine z_iload_n C d8_turnsOf_49 rfl ?_
  refine z_icmp_ge C d8_turnsOf_50 (fun c1 => ?_) (fun c1 => ?_)
  · have hf := zit c1 hf
    refine z_iload_n C d8_turnsOf_101 rfl ?_
    exact z_iret C d8_turnsOf_102 hf
  · have hf := zie c1 hf
    refine z_aload_n C d8_turnsOf_53 rfl ?_
    refine z_getR C d8_turnsOf_54 fl_261 kZ_1 2 rfl (zn0 kZ_2) ?_
    refine z_iload C d8_turnsOf_57 rfl ?_
    obtain ⟨r2, s2, h2, hf⟩ := zbx hf
    refine z_callVr C (as := [zi x4]) d8_turnsOf_59 w_334 yy5_glassOf (c5_glassOf x.2.1 g h2) yc5_glassOf kZ_2 rfl rfl (Nat.le_of_ble_eq_true rfl) ⟨Nat.le_of_ble_eq_true rfl, Nat.le_of_ble_eq_true rfl⟩ ⟨Nat.zero_le _, Nat.zero_le _⟩ ?_
    refine z_astore C d8_turnsOf_62 (Nat.le_of_ble_eq_true rfl) rfl (L' := [some (zr 1), none, some (zr x2), some (zi x3), some (zi x4), some (zr r2), none]) rfl ?_
    refine z_aload_n C d8_turnsOf_64 rfl ?_
    refine z_iload C d8_turnsOf_65 rfl ?_
    obtain ⟨g4, hf⟩ := zgo hf
    obtain ⟨r3, s3, h3, hf⟩ := zbx hf
    refine z_callVi C (as := [zi x4]) d8_turnsOf_67 w_695 yy4_numberAt (c4_numberAt x.2.1 g h3) yc4_numberAt g4 rfl rfl (Nat.le_of_ble_eq_true rfl) ⟨Nat.le_of_ble_eq_true rfl, Nat.le_of_ble_eq_true rfl⟩ ⟨Nat.zero_le _, Nat.zero_le _⟩ ?_
    refine z_istore C d8_turnsOf_70 (Nat.le_of_ble_eq_true rfl) rfl (L' := [some (zr 1), none, some (zr x2), some (zi x3), some (zi x4), some (zr r2), some (zi r3)]) rfl ?_
    refine z_aload C d8_turnsOf_72 rfl ?_
    refine z_ifnull C d8_turnsOf_74 (fun c5 => ?_) (fun c5 => ?_)
    · have hf := zit c5 hf
      refine z_iload C d8_turnsOf_85 rfl ?_
      exact z_iret C d8_turnsOf_87 hf
    · have hf := zie c5 hf
      refine z_iload C d8_turnsOf_77 rfl ?_
      obtain ⟨r6, s6, h6, hf⟩ := zbx hf
      refine z_callSi C (as := [zi r3]) d8_turnsOf_79 w_305 yy8_isNoTurn (c8_isNoTurn x.2.1 g h6) rfl rfl (Nat.le_of_ble_eq_true rfl) ⟨Nat.le_of_ble_eq_true rfl, Nat.le_of_ble_eq_true rfl⟩ ⟨Nat.zero_le _, Nat.zero_le _⟩ ?_
      refine z_if_eq C d8_turnsOf_82 (fun c7 => ?_) (fun c7 => ?_)
      · have hf := zit c7 hf
        refine z_aload C d8_turnsOf_88 rfl ?_
        refine z_iload C d8_turnsOf_90 rfl ?_
        obtain ⟨g8, hf⟩ := zgo hf
        obtain ⟨s9, e9, hf⟩ := zpx hf
        refine z_putI C d8_turnsOf_92 fl_58 ft_0_3 g8 e9 ?_
        refine z_iinc C d8_turnsOf_95 rfl kI_1 (Nat.le_of_ble_eq_true rfl) rfl (L' := [some (zr 1), none, some (zr x2), some (zi x3), some (zi (x4 + (1 : Int32))), some (zr r2), some (zi r3)]) rfl ?_
        refine z_goto C d8_turnsOf_98 ?_
        refine z_drop [true, false, true, true, true, false, false] (L' := [some (zr 1), none, some (zr x2), some (zi x3), some (zi (x4 + (1 : Int32))), none, none]) rfl ?_
        exact hq47 _ _ _ _ hf
      · have hf := zie c7 hf
        refine z_iload C d8_turnsOf_85 rfl ?_
        exact z_iret C d8_turnsOf_87 hf
theorem j8_turnsOf_47l {x : ZX} {g : ZG} (C : zC x g b8_turnsOf R8 (some .int) 7 2 81) {k : Nat} {r : Int32} {σr : ZS}  : ∀ (n : Nat) (x2 : Nat) (x3 : Int32) (x4 : Int32) (σ : ZS), f8_turnsOf_47 k  n x2 x3 x4 σ = some (r, σr) → zw x g 7 0 0 (zMQ x g (some (zi r)) σr) σ 47 [some (zr 1), none, some (zr x2), some (zi x3), some (zi x4), none, none] [] := by
  intro n
  induction n with
  | zero => intro x2 x3 x4 σ hf; exact absurd (show none = some (r, σr) from hf) (fun z => by cases z)
  | succ n ih => intro x2 x3 x4 σ hf; exact j8_turnsOf_47 C  ih (show b8_turnsOf_47 k  (f8_turnsOf_47 k  n) x2 x3 x4 σ = some (r, σr) from hf)
def f8_turnsOf (k : Nat) (x1 : Int32) (σ : ZS) : Option (Int32 × ZS) :=
  zbd (f8_sheetOf k x1 σ) fun r1 s1 =>
  if r1 = 0 then (
  zbd (f8_error k (1 : Int32) s1) fun r3 s3 =>
  some (r3, s3))
  else (
  if zsh r1 = 5 then (
  if (s1 r1 1) = 0 then (
  zbd (f8_error k (2 : Int32) s1) fun r6 s6 =>
  some (r6, s6))
  else (
  f8_turnsOf_47 k  k r1 (if (s1 2 6) < (s1 r1 2) then (s1 2 6) else (s1 r1 2)) (0 : Int32) s1)) else none)
theorem c8_turnsOf (l : Launch) (g : ZG) {k : Nat} {x1 : Int32} {σ : ZS} {r : Int32} {σr : ZS} (hf : f8_turnsOf k x1 σ = some (r, σr)) : zT l g y8_turnsOf b8_turnsOf 7 (some .int) 2 81 [zr 1, zi x1] σ (some (zi r)) σr := by
  unfold f8_turnsOf at hf
  refine zT_start (own := R8) rfl (by decide +kernel) 5 (L := [some (zr 1), some (zi x1), none, none, none, none, none]) rfl rfl (fun x hl C => ?_)
  subst hl
  refine z_aload_n C d8_turnsOf_0 rfl ?_
  refine z_iload_n C d8_turnsOf_1 rfl ?_
  obtain ⟨r1, s1, h1, hf⟩ := zbx hf
  refine z_callVr C (as := [zi x1]) d8_turnsOf_2 w_687 yy8_sheetOf (c8_sheetOf x.2.1 g h1) yc8_sheetOf kZ_1 rfl rfl (Nat.le_of_ble_eq_true rfl) ⟨Nat.le_of_ble_eq_true rfl, Nat.le_of_ble_eq_true rfl⟩ ⟨Nat.zero_le _, Nat.zero_le _⟩ ?_
  refine z_astore_n C d8_turnsOf_5 (Nat.le_of_ble_eq_true rfl) rfl (L' := [some (zr 1), some (zi x1), some (zr r1), none, none, none, none]) rfl ?_
  refine z_aload_n C d8_turnsOf_6 rfl ?_
  refine z_ifnonnull C d8_turnsOf_7 (fun c2 => ?_) (fun c2 => ?_)
  · have hf := zit c2 hf
    refine z_aload_n C d8_turnsOf_10 rfl ?_
    refine z_iconst C (1 : Int32) d8_turnsOf_11 kI_1 ?_
    obtain ⟨r3, s3, h3, hf⟩ := zbx hf
    refine z_callVi C (as := [zi (1 : Int32)]) d8_turnsOf_12 w_308 yy8_error (c8_error x.2.1 g h3) yc8_error kZ_1 rfl rfl (Nat.le_of_ble_eq_true rfl) ⟨Nat.le_of_ble_eq_true rfl, Nat.le_of_ble_eq_true rfl⟩ ⟨Nat.zero_le _, Nat.zero_le _⟩ ?_
    exact z_iret C d8_turnsOf_15 hf
  · have hf := zie c2 hf
    refine z_aload_n C d8_turnsOf_16 rfl ?_
    obtain ⟨g4, hf⟩ := zgo hf
    refine z_getI C d8_turnsOf_17 fl_251 g4 ?_
    refine z_if_ne C d8_turnsOf_20 (fun c5 => ?_) (fun c5 => ?_)
    · have hf := zit c5 hf
      refine z_aload_n C d8_turnsOf_23 rfl ?_
      refine z_iconst C (2 : Int32) d8_turnsOf_24 kI_2 ?_
      obtain ⟨r6, s6, h6, hf⟩ := zbx hf
      refine z_callVi C (as := [zi (2 : Int32)]) d8_turnsOf_25 w_308 yy8_error (c8_error x.2.1 g h6) yc8_error kZ_1 rfl rfl (Nat.le_of_ble_eq_true rfl) ⟨Nat.le_of_ble_eq_true rfl, Nat.le_of_ble_eq_true rfl⟩ ⟨Nat.zero_le _, Nat.zero_le _⟩ ?_
      exact z_iret C d8_turnsOf_28 hf
    · have hf := zie c5 hf
      refine z_aload_n C d8_turnsOf_29 rfl ?_
      refine z_getI C d8_turnsOf_30 fl_253 g4 ?_
      refine z_aload_n C d8_turnsOf_33 rfl ?_
      refine z_getR C d8_turnsOf_34 fl_261 kZ_1 2 rfl (zn0 kZ_2) ?_
      refine z_getI C d8_turnsOf_37 fl_125 kZ_2 ?_
      refine z_min C d8_turnsOf_40 w_458 (Nat.le_of_ble_eq_true rfl) ⟨Nat.le_of_ble_eq_true rfl, Nat.le_of_ble_eq_true rfl⟩ ⟨Nat.zero_le _, Nat.zero_le _⟩ zminw ?_
      refine z_istore_n C d8_turnsOf_43 (Nat.le_of_ble_eq_true rfl) rfl (L' := [some (zr 1), some (zi x1), some (zr r1), some (zi (if (s1 2 6) < (s1 r1 2) then (s1 2 6) else (s1 r1 2))), none, none, none]) rfl ?_
      refine z_iconst C (0 : Int32) d8_turnsOf_44 kI_0 ?_
      refine z_istore C d8_turnsOf_45 (Nat.le_of_ble_eq_true rfl) rfl (L' := [some (zr 1), some (zi x1), some (zr r1), some (zi (if (s1 2 6) < (s1 r1 2) then (s1 2 6) else (s1 r1 2))), some (zi (0 : Int32)), none, none]) rfl ?_
      refine z_drop [true, false, true, true, true, false, false] (L' := [some (zr 1), none, some (zr r1), some (zi (if (s1 2 6) < (s1 r1 2) then (s1 2 6) else (s1 r1 2))), some (zi (0 : Int32)), none, none]) rfl ?_
      exact j8_turnsOf_47l C  _ _ _ _ _ hf
theorem d8_untell_0 : zd b8_untell 0 (.aload_n 0) 1 1 := ⟨by decide +kernel, rfl⟩
theorem d8_untell_1 : zd b8_untell 1 (.getfield 10) 3 4 := ⟨by decide +kernel, rfl⟩
theorem d8_untell_4 : zd b8_untell 4 (.iload_n 1) 1 5 := ⟨by decide +kernel, rfl⟩
theorem d8_untell_5 : zd b8_untell 5 (.invokevirtual 161) 3 8 := ⟨by decide +kernel, rfl⟩
theorem d8_untell_8 : zd b8_untell 8 (.astore_n 2) 1 9 := ⟨by decide +kernel, rfl⟩
theorem d8_untell_9 : zd b8_untell 9 (.aload_n 2) 1 10 := ⟨by decide +kernel, rfl⟩
theorem d8_untell_10 : zdb b8_untell 10 (.ifnonnull 9) 9 13 19 := ⟨by decide +kernel, rfl, by decide⟩
theorem d8_untell_13 : zd b8_untell 13 (.aload_n 0) 1 14 := ⟨by decide +kernel, rfl⟩
theorem d8_untell_14 : zd b8_untell 14 (.iconst 1) 1 15 := ⟨by decide +kernel, rfl⟩
theorem d8_untell_15 : zd b8_untell 15 (.invokevirtual 67) 3 18 := ⟨by decide +kernel, rfl⟩
theorem d8_untell_18 : zd b8_untell 18 .ireturn 1 19 := ⟨by decide +kernel, rfl⟩
theorem d8_untell_19 : zd b8_untell 19 (.aload_n 2) 1 20 := ⟨by decide +kernel, rfl⟩
theorem d8_untell_20 : zd b8_untell 20 (.getfield 182) 3 23 := ⟨by decide +kernel, rfl⟩
theorem d8_untell_23 : zdb b8_untell 23 (.ifCond .eq 7) 7 26 30 := ⟨by decide +kernel, rfl, by decide⟩
theorem d8_untell_26 : zd b8_untell 26 (.iconst 1) 1 27 := ⟨by decide +kernel, rfl⟩
theorem d8_untell_27 : zdb b8_untell 27 (.goto 4) 4 30 31 := ⟨by decide +kernel, rfl, by decide⟩
theorem d8_untell_30 : zd b8_untell 30 (.iconst 0) 1 31 := ⟨by decide +kernel, rfl⟩
theorem d8_untell_31 : zd b8_untell 31 (.istore_n 3) 1 32 := ⟨by decide +kernel, rfl⟩
theorem d8_untell_32 : zd b8_untell 32 (.aload_n 2) 1 33 := ⟨by decide +kernel, rfl⟩
theorem d8_untell_33 : zd b8_untell 33 (.iconst 0) 1 34 := ⟨by decide +kernel, rfl⟩
theorem d8_untell_34 : zd b8_untell 34 (.putfield 182) 3 37 := ⟨by decide +kernel, rfl⟩
theorem d8_untell_37 : zd b8_untell 37 (.iload_n 3) 1 38 := ⟨by decide +kernel, rfl⟩
theorem d8_untell_38 : zd b8_untell 38 .ireturn 1 39 := ⟨by decide +kernel, rfl⟩
def f8_untell (k : Nat) (x1 : Int32) (σ : ZS) : Option (Int32 × ZS) :=
  zbd (f5_textOf k 2 x1 σ) fun r1 s1 =>
  if r1 = 0 then (
  zbd (f8_error k (1 : Int32) s1) fun r3 s3 =>
  some (r3, s3))
  else (
  if zsh r1 = 7 then (
  if (s1 r1 3) = 0 then (
  zput (zu s1 r1 3 (0 : Int32)) fun s6 =>
  some ((0 : Int32), s6))
  else (
  zput (zu s1 r1 3 (0 : Int32)) fun s7 =>
  some ((1 : Int32), s7))) else none)
theorem c8_untell (l : Launch) (g : ZG) {k : Nat} {x1 : Int32} {σ : ZS} {r : Int32} {σr : ZS} (hf : f8_untell k x1 σ = some (r, σr)) : zT l g y8_untell b8_untell 4 (some .int) 2 81 [zr 1, zi x1] σ (some (zi r)) σr := by
  unfold f8_untell at hf
  refine zT_start (own := R8) rfl (by decide +kernel) 2 (L := [some (zr 1), some (zi x1), none, none]) rfl rfl (fun x hl C => ?_)
  subst hl
  refine z_aload_n C d8_untell_0 rfl ?_
  refine z_getR C d8_untell_1 fl_261 kZ_1 2 rfl (zn0 kZ_2) ?_
  refine z_iload_n C d8_untell_4 rfl ?_
  obtain ⟨r1, s1, h1, hf⟩ := zbx hf
  refine z_callVr C (as := [zi x1]) d8_untell_5 w_475 yy5_textOf (c5_textOf x.2.1 g h1) yc5_textOf kZ_2 rfl rfl (Nat.le_of_ble_eq_true rfl) ⟨Nat.le_of_ble_eq_true rfl, Nat.le_of_ble_eq_true rfl⟩ ⟨Nat.zero_le _, Nat.zero_le _⟩ ?_
  refine z_astore_n C d8_untell_8 (Nat.le_of_ble_eq_true rfl) rfl (L' := [some (zr 1), some (zi x1), some (zr r1), none]) rfl ?_
  refine z_aload_n C d8_untell_9 rfl ?_
  refine z_ifnonnull C d8_untell_10 (fun c2 => ?_) (fun c2 => ?_)
  · have hf := zit c2 hf
    refine z_aload_n C d8_untell_13 rfl ?_
    refine z_iconst C (1 : Int32) d8_untell_14 kI_1 ?_
    obtain ⟨r3, s3, h3, hf⟩ := zbx hf
    refine z_callVi C (as := [zi (1 : Int32)]) d8_untell_15 w_308 yy8_error (c8_error x.2.1 g h3) yc8_error kZ_1 rfl rfl (Nat.le_of_ble_eq_true rfl) ⟨Nat.le_of_ble_eq_true rfl, Nat.le_of_ble_eq_true rfl⟩ ⟨Nat.zero_le _, Nat.zero_le _⟩ ?_
    exact z_iret C d8_untell_18 hf
  · have hf := zie c2 hf
    refine z_aload_n C d8_untell_19 rfl ?_
    obtain ⟨g4, hf⟩ := zgo hf
    refine z_getI C d8_untell_20 fl_108 g4 ?_
    refine z_if_eq C d8_untell_23 (fun c5 => ?_) (fun c5 => ?_)
    · have hf := zit c5 hf
      refine z_iconst C (0 : Int32) d8_untell_30 kI_0 ?_
      refine z_istore_n C d8_untell_31 (Nat.le_of_ble_eq_true rfl) rfl (L' := [some (zr 1), some (zi x1), some (zr r1), some (zi (0 : Int32))]) rfl ?_
      refine z_aload_n C d8_untell_32 rfl ?_
      refine z_iconst C (0 : Int32) d8_untell_33 kI_0 ?_
      obtain ⟨s6, e6, hf⟩ := zpx hf
      refine z_putZ C d8_untell_34 fl_108 ft_6_3 g4 (Or.inl rfl) e6 ?_
      refine z_iload_n C d8_untell_37 rfl ?_
      exact z_iret C d8_untell_38 hf
    · have hf := zie c5 hf
      refine z_iconst C (1 : Int32) d8_untell_26 kI_1 ?_
      refine z_goto C d8_untell_27 ?_
      refine z_istore_n C d8_untell_31 (Nat.le_of_ble_eq_true rfl) rfl (L' := [some (zr 1), some (zi x1), some (zr r1), some (zi (1 : Int32))]) rfl ?_
      refine z_aload_n C d8_untell_32 rfl ?_
      refine z_iconst C (0 : Int32) d8_untell_33 kI_0 ?_
      obtain ⟨s7, e7, hf⟩ := zpx hf
      refine z_putZ C d8_untell_34 fl_108 ft_6_3 g4 (Or.inl rfl) e7 ?_
      refine z_iload_n C d8_untell_37 rfl ?_
      exact z_iret C d8_untell_38 hf
theorem d7_bodyFrom_0 : zd b7_bodyFrom 0 (.iload_n 0) 1 1 := ⟨by decide +kernel, rfl⟩
theorem d7_bodyFrom_1 : zd b7_bodyFrom 1 (.istore_n 2) 1 2 := ⟨by decide +kernel, rfl⟩
theorem d7_bodyFrom_2 : zd b7_bodyFrom 2 (.iconst 0) 1 3 := ⟨by decide +kernel, rfl⟩
theorem d7_bodyFrom_3 : zd b7_bodyFrom 3 (.istore_n 3) 1 4 := ⟨by decide +kernel, rfl⟩
theorem d7_bodyFrom_4 : zd b7_bodyFrom 4 (.iload_n 3) 1 5 := ⟨by decide +kernel, rfl⟩
theorem d7_bodyFrom_5 : zd b7_bodyFrom 5 (.getstatic 60) 3 8 := ⟨by decide +kernel, rfl⟩
theorem d7_bodyFrom_8 : zd b7_bodyFrom 8 .arraylength 1 9 := ⟨by decide +kernel, rfl⟩
theorem d7_bodyFrom_9 : zdb b7_bodyFrom 9 (.if_icmp .ge 64) 64 12 73 := ⟨by decide +kernel, rfl, by decide⟩
theorem d7_bodyFrom_12 : zd b7_bodyFrom 12 (.iload_n 2) 1 13 := ⟨by decide +kernel, rfl⟩
theorem d7_bodyFrom_13 : zdb b7_bodyFrom 13 (.ifCond .lt 60) 60 16 73 := ⟨by decide +kernel, rfl, by decide⟩
theorem d7_bodyFrom_16 : zd b7_bodyFrom 16 (.iload_n 2) 1 17 := ⟨by decide +kernel, rfl⟩
theorem d7_bodyFrom_17 : zd b7_bodyFrom 17 (.getstatic 60) 3 20 := ⟨by decide +kernel, rfl⟩
theorem d7_bodyFrom_20 : zd b7_bodyFrom 20 .arraylength 1 21 := ⟨by decide +kernel, rfl⟩
theorem d7_bodyFrom_21 : zdb b7_bodyFrom 21 (.if_icmp .ge 52) 52 24 73 := ⟨by decide +kernel, rfl, by decide⟩
theorem d7_bodyFrom_24 : zd b7_bodyFrom 24 (.iconst 4) 1 25 := ⟨by decide +kernel, rfl⟩
theorem d7_bodyFrom_25 : zd b7_bodyFrom 25 (.iload_n 2) 1 26 := ⟨by decide +kernel, rfl⟩
theorem d7_bodyFrom_26 : zd b7_bodyFrom 26 .imul 1 27 := ⟨by decide +kernel, rfl⟩
theorem d7_bodyFrom_27 : zd b7_bodyFrom 27 (.iload_n 1) 1 28 := ⟨by decide +kernel, rfl⟩
theorem d7_bodyFrom_28 : zd b7_bodyFrom 28 .iadd 1 29 := ⟨by decide +kernel, rfl⟩
theorem d7_bodyFrom_29 : zd b7_bodyFrom 29 (.istore 4) 2 31 := ⟨by decide +kernel, rfl⟩
theorem d7_bodyFrom_31 : zd b7_bodyFrom 31 (.iload 4) 2 33 := ⟨by decide +kernel, rfl⟩
theorem d7_bodyFrom_33 : zdb b7_bodyFrom 33 (.ifCond .lt 28) 28 36 61 := ⟨by decide +kernel, rfl, by decide⟩
theorem d7_bodyFrom_36 : zd b7_bodyFrom 36 (.iload 4) 2 38 := ⟨by decide +kernel, rfl⟩
theorem d7_bodyFrom_38 : zd b7_bodyFrom 38 (.getstatic 63) 3 41 := ⟨by decide +kernel, rfl⟩
theorem d7_bodyFrom_41 : zd b7_bodyFrom 41 .arraylength 1 42 := ⟨by decide +kernel, rfl⟩
theorem d7_bodyFrom_42 : zdb b7_bodyFrom 42 (.if_icmp .ge 19) 19 45 61 := ⟨by decide +kernel, rfl, by decide⟩
theorem d7_bodyFrom_45 : zd b7_bodyFrom 45 (.getstatic 63) 3 48 := ⟨by decide +kernel, rfl⟩
theorem d7_bodyFrom_48 : zd b7_bodyFrom 48 (.iload 4) 2 50 := ⟨by decide +kernel, rfl⟩
theorem d7_bodyFrom_50 : zd b7_bodyFrom 50 .iaload 1 51 := ⟨by decide +kernel, rfl⟩
theorem d7_bodyFrom_51 : zdb b7_bodyFrom 51 (.ifCond .eq 10) 10 54 61 := ⟨by decide +kernel, rfl, by decide⟩
theorem d7_bodyFrom_54 : zd b7_bodyFrom 54 (.getstatic 63) 3 57 := ⟨by decide +kernel, rfl⟩
theorem d7_bodyFrom_57 : zd b7_bodyFrom 57 (.iload 4) 2 59 := ⟨by decide +kernel, rfl⟩
theorem d7_bodyFrom_59 : zd b7_bodyFrom 59 .iaload 1 60 := ⟨by decide +kernel, rfl⟩
theorem d7_bodyFrom_60 : zd b7_bodyFrom 60 .ireturn 1 61 := ⟨by decide +kernel, rfl⟩
theorem d7_bodyFrom_61 : zd b7_bodyFrom 61 (.getstatic 60) 3 64 := ⟨by decide +kernel, rfl⟩
theorem d7_bodyFrom_64 : zd b7_bodyFrom 64 (.iload_n 2) 1 65 := ⟨by decide +kernel, rfl⟩
theorem d7_bodyFrom_65 : zd b7_bodyFrom 65 .iaload 1 66 := ⟨by decide +kernel, rfl⟩
theorem d7_bodyFrom_66 : zd b7_bodyFrom 66 (.istore_n 2) 1 67 := ⟨by decide +kernel, rfl⟩
theorem d7_bodyFrom_67 : zd b7_bodyFrom 67 (.iinc 3 1) 3 70 := ⟨by decide +kernel, rfl⟩
theorem d7_bodyFrom_70 : zdb b7_bodyFrom 70 (.goto (-66)) (-66) 73 4 := ⟨by decide +kernel, rfl, by decide⟩
theorem d7_bodyFrom_73 : zd b7_bodyFrom 73 (.iconst 0) 1 74 := ⟨by decide +kernel, rfl⟩
theorem d7_bodyFrom_74 : zd b7_bodyFrom 74 .ireturn 1 75 := ⟨by decide +kernel, rfl⟩
def b7_bodyFrom_4 (k : Nat) (q4 : Int32 → Int32 → Int32 → ZS → Option (Int32 × ZS)) (x1 : Int32) (x2 : Int32) (x3 : Int32) (σ : ZS) : Option (Int32 × ZS) :=
  if (7 : Int32) ≤ x3 then (
  some ((0 : Int32), σ))
  else (
  if x2 < 0 then (
  some ((0 : Int32), σ))
  else (
  if (7 : Int32) ≤ x2 then (
  some ((0 : Int32), σ))
  else (
  if (((4 : Int32) * x2) + x1) < 0 then (
  if zin x2 7 then (
  q4 x1 (zKA.getD x2.toNatClampNeg 0) (x3 + (1 : Int32)) σ) else none)
  else (
  if (28 : Int32) ≤ (((4 : Int32) * x2) + x1) then (
  if zin x2 7 then (
  q4 x1 (zKA.getD x2.toNatClampNeg 0) (x3 + (1 : Int32)) σ) else none)
  else (
  if zin (((4 : Int32) * x2) + x1) 28 then (
  if (zBO.getD (((4 : Int32) * x2) + x1).toNatClampNeg 0) = 0 then (
  if zin x2 7 then (
  q4 x1 (zKA.getD x2.toNatClampNeg 0) (x3 + (1 : Int32)) σ) else none)
  else (
  if zin (((4 : Int32) * x2) + x1) 28 then (
  some ((zBO.getD (((4 : Int32) * x2) + x1).toNatClampNeg 0), σ)) else none)) else none)))))
def f7_bodyFrom_4 (k : Nat) : Nat → Int32 → Int32 → Int32 → ZS → Option (Int32 × ZS)
  | 0 => fun _ _ _ _ => none
  | n + 1 => b7_bodyFrom_4 k  (f7_bodyFrom_4 k  n)
theorem j7_bodyFrom_4 {x : ZX} {g : ZG} (C : zC x g b7_bodyFrom R7 (some .int) 5 1 60) {k : Nat} {r : Int32} {σr : ZS}  {q4 : Int32 → Int32 → Int32 → ZS → Option (Int32 × ZS)} (hq4 : (∀ (x1 : Int32) (x2 : Int32) (x3 : Int32) (σ : ZS), q4 x1 x2 x3 σ = some (r, σr) → zw x g 5 0 0 (zMQ x g (some (zi r)) σr) σ 4 [none, some (zi x1), some (zi x2), some (zi x3), none] [])) {x1 : Int32} {x2 : Int32} {x3 : Int32} {σ : ZS} (hf : b7_bodyFrom_4 k q4 x1 x2 x3 σ = some (r, σr)) : zw x g 5 0 0 (zMQ x g (some (zi r)) σr) σ 4 [none, some (zi x1), some (zi x2), some (zi x3), none] [] := by
  unfold b7_bodyFrom_4 at hf
  refine z_iload_n C d7_bodyFrom_4 rfl ?_
  refine z_gets0 C d7_bodyFrom_5 w_714 ?_
  refine z_alen0 C d7_bodyFrom_8 ?_
  refine z_icmp_ge C d7_bodyFrom_9 (fun c1 => ?_) (fun c1 => ?_)
  · have hf := zit c1 hf
    refine z_iconst C (0 : Int32) d7_bodyFrom_73 kI_0 ?_
    exact z_iret C d7_bodyFrom_74 hf
  · have hf := zie c1 hf
    refine z_iload_n C d7_bodyFrom_12 rfl ?_
    refine z_if_lt C d7_bodyFrom_13 (fun c2 => ?_) (fun c2 => ?_)
    · have hf := zit c2 hf
      refine z_iconst C (0 : Int32) d7_bodyFrom_73 kI_0 ?_
      exact z_iret C d7_bodyFrom_74 hf
    · have hf := zie c2 hf
      refine z_iload_n C d7_bodyFrom_16 rfl ?_
      refine z_gets0 C d7_bodyFrom_17 w_714 ?_
      refine z_alen0 C d7_bodyFrom_20 ?_
      refine z_icmp_ge C d7_bodyFrom_21 (fun c3 => ?_) (fun c3 => ?_)
      · have hf := zit c3 hf
        refine z_iconst C (0 : Int32) d7_bodyFrom_73 kI_0 ?_
        exact z_iret C d7_bodyFrom_74 hf
      · have hf := zie c3 hf
        refine z_iconst C (4 : Int32) d7_bodyFrom_24 kI_4 ?_
        refine z_iload_n C d7_bodyFrom_25 rfl ?_
        refine z_imul C d7_bodyFrom_26 ?_
        refine z_iload_n C d7_bodyFrom_27 rfl ?_
        refine z_iadd C d7_bodyFrom_28 ?_
        refine z_istore C d7_bodyFrom_29 (Nat.le_of_ble_eq_true rfl) rfl (L' := [none, some (zi x1), some (zi x2), some (zi x3), some (zi (((4 : Int32) * x2) + x1))]) rfl ?_
        refine z_iload C d7_bodyFrom_31 rfl ?_
        refine z_if_lt C d7_bodyFrom_33 (fun c4 => ?_) (fun c4 => ?_)
        · have hf := zit c4 hf
          refine z_gets0 C d7_bodyFrom_61 w_714 ?_
          refine z_iload_n C d7_bodyFrom_64 rfl ?_
          obtain ⟨g5, hf⟩ := zgo hf
          refine z_iald0 C d7_bodyFrom_65 g5 ?_
          refine z_istore_n C d7_bodyFrom_66 (Nat.le_of_ble_eq_true rfl) rfl (L' := [none, some (zi x1), some (zi (zKA.getD x2.toNatClampNeg 0)), some (zi x3), some (zi (((4 : Int32) * x2) + x1))]) rfl ?_
          refine z_iinc C d7_bodyFrom_67 rfl kI_1 (Nat.le_of_ble_eq_true rfl) rfl (L' := [none, some (zi x1), some (zi (zKA.getD x2.toNatClampNeg 0)), some (zi (x3 + (1 : Int32))), some (zi (((4 : Int32) * x2) + x1))]) rfl ?_
          refine z_goto C d7_bodyFrom_70 ?_
          refine z_drop [false, true, true, true, false] (L' := [none, some (zi x1), some (zi (zKA.getD x2.toNatClampNeg 0)), some (zi (x3 + (1 : Int32))), none]) rfl ?_
          exact hq4 _ _ _ _ hf
        · have hf := zie c4 hf
          refine z_iload C d7_bodyFrom_36 rfl ?_
          refine z_gets1 C d7_bodyFrom_38 w_715 ?_
          refine z_alen1 C d7_bodyFrom_41 ?_
          refine z_icmp_ge C d7_bodyFrom_42 (fun c6 => ?_) (fun c6 => ?_)
          · have hf := zit c6 hf
            refine z_gets0 C d7_bodyFrom_61 w_714 ?_
            refine z_iload_n C d7_bodyFrom_64 rfl ?_
            obtain ⟨g7, hf⟩ := zgo hf
            refine z_iald0 C d7_bodyFrom_65 g7 ?_
            refine z_istore_n C d7_bodyFrom_66 (Nat.le_of_ble_eq_true rfl) rfl (L' := [none, some (zi x1), some (zi (zKA.getD x2.toNatClampNeg 0)), some (zi x3), some (zi (((4 : Int32) * x2) + x1))]) rfl ?_
            refine z_iinc C d7_bodyFrom_67 rfl kI_1 (Nat.le_of_ble_eq_true rfl) rfl (L' := [none, some (zi x1), some (zi (zKA.getD x2.toNatClampNeg 0)), some (zi (x3 + (1 : Int32))), some (zi (((4 : Int32) * x2) + x1))]) rfl ?_
            refine z_goto C d7_bodyFrom_70 ?_
            refine z_drop [false, true, true, true, false] (L' := [none, some (zi x1), some (zi (zKA.getD x2.toNatClampNeg 0)), some (zi (x3 + (1 : Int32))), none]) rfl ?_
            exact hq4 _ _ _ _ hf
          · have hf := zie c6 hf
            refine z_gets1 C d7_bodyFrom_45 w_715 ?_
            refine z_iload C d7_bodyFrom_48 rfl ?_
            obtain ⟨g8, hf⟩ := zgo hf
            refine z_iald1 C d7_bodyFrom_50 g8 ?_
            refine z_if_eq C d7_bodyFrom_51 (fun c9 => ?_) (fun c9 => ?_)
            · have hf := zit c9 hf
              refine z_gets0 C d7_bodyFrom_61 w_714 ?_
              refine z_iload_n C d7_bodyFrom_64 rfl ?_
              obtain ⟨g10, hf⟩ := zgo hf
              refine z_iald0 C d7_bodyFrom_65 g10 ?_
              refine z_istore_n C d7_bodyFrom_66 (Nat.le_of_ble_eq_true rfl) rfl (L' := [none, some (zi x1), some (zi (zKA.getD x2.toNatClampNeg 0)), some (zi x3), some (zi (((4 : Int32) * x2) + x1))]) rfl ?_
              refine z_iinc C d7_bodyFrom_67 rfl kI_1 (Nat.le_of_ble_eq_true rfl) rfl (L' := [none, some (zi x1), some (zi (zKA.getD x2.toNatClampNeg 0)), some (zi (x3 + (1 : Int32))), some (zi (((4 : Int32) * x2) + x1))]) rfl ?_
              refine z_goto C d7_bodyFrom_70 ?_
              refine z_drop [false, true, true, true, false] (L' := [none, some (zi x1), some (zi (zKA.getD x2.toNatClampNeg 0)), some (zi (x3 + (1 : Int32))), none]) rfl ?_
              exact hq4 _ _ _ _ hf
            · have hf := zie c9 hf
              refine z_gets1 C d7_bodyFrom_54 w_715 ?_
              refine z_iload C d7_bodyFrom_57 rfl ?_
              obtain ⟨g11, hf⟩ := zgo hf
              refine z_iald1 C d7_bodyFrom_59 g11 ?_
              exact z_iret C d7_bodyFrom_60 hf
theorem j7_bodyFrom_4l {x : ZX} {g : ZG} (C : zC x g b7_bodyFrom R7 (some .int) 5 1 60) {k : Nat} {r : Int32} {σr : ZS}  : ∀ (n : Nat) (x1 : Int32) (x2 : Int32) (x3 : Int32) (σ : ZS), f7_bodyFrom_4 k  n x1 x2 x3 σ = some (r, σr) → zw x g 5 0 0 (zMQ x g (some (zi r)) σr) σ 4 [none, some (zi x1), some (zi x2), some (zi x3), none] [] := by
  intro n
  induction n with
  | zero => intro x1 x2 x3 σ hf; exact absurd (show none = some (r, σr) from hf) (fun z => by cases z)
  | succ n ih => intro x1 x2 x3 σ hf; exact j7_bodyFrom_4 C  ih (show b7_bodyFrom_4 k  (f7_bodyFrom_4 k  n) x1 x2 x3 σ = some (r, σr) from hf)
def f7_bodyFrom (k : Nat) (x0 : Int32) (x1 : Int32) (σ : ZS) : Option (Int32 × ZS) :=
  f7_bodyFrom_4 k  k x1 x0 (0 : Int32) σ
theorem c7_bodyFrom (l : Launch) (g : ZG) {k : Nat} {x0 : Int32} {x1 : Int32} {σ : ZS} {r : Int32} {σr : ZS} (hf : f7_bodyFrom k x0 x1 σ = some (r, σr)) : zT l g y7_bodyFrom b7_bodyFrom 5 (some .int) 1 60 [zi x0, zi x1] σ (some (zi r)) σr := by
  unfold f7_bodyFrom at hf
  refine zT_start (own := R7) rfl (by decide +kernel) 3 (L := [some (zi x0), some (zi x1), none, none, none]) rfl rfl (fun x hl C => ?_)
  subst hl
  refine z_iload_n C d7_bodyFrom_0 rfl ?_
  refine z_istore_n C d7_bodyFrom_1 (Nat.le_of_ble_eq_true rfl) rfl (L' := [some (zi x0), some (zi x1), some (zi x0), none, none]) rfl ?_
  refine z_iconst C (0 : Int32) d7_bodyFrom_2 kI_0 ?_
  refine z_istore_n C d7_bodyFrom_3 (Nat.le_of_ble_eq_true rfl) rfl (L' := [some (zi x0), some (zi x1), some (zi x0), some (zi (0 : Int32)), none]) rfl ?_
  refine z_drop [false, true, true, true, false] (L' := [none, some (zi x1), some (zi x0), some (zi (0 : Int32)), none]) rfl ?_
  exact j7_bodyFrom_4l C  _ _ _ _ _ hf
