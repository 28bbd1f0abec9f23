/-! the constructors (printed by wip/whole/gen/made.py) -/
abbrev b0_init : ByteArray := prog_2_method_1_code
def y0_init : MethodName := ⟨R0, "<init>", "()V"⟩
abbrev b2_init : ByteArray := prog_4_method_1_code
def y2_init : MethodName := ⟨R2, "<init>", "()V"⟩
abbrev b6_init : ByteArray := prog_8_method_1_code
def y6_init : MethodName := ⟨R6, "<init>", "()V"⟩
abbrev b4_init : ByteArray := prog_6_method_1_code
def y4_init : MethodName := ⟨R4, "<init>", "()V"⟩
abbrev b1_init : ByteArray := prog_3_method_1_code
def y1_init : MethodName := ⟨R1, "<init>", "()V"⟩
abbrev b7_init : ByteArray := prog_9_method_1_code
def y7_init : MethodName := ⟨R7, "<init>", "()V"⟩
abbrev b3_init : ByteArray := prog_5_method_1_code
def y3_init : MethodName := ⟨R3, "<init>", "()V"⟩
abbrev b5_init : ByteArray := prog_7_method_1_code
def y5_init : MethodName := ⟨R5, "<init>", "()V"⟩
abbrev b8_init : ByteArray := prog_1_method_1_code
def y8_init : MethodName := ⟨R8, "<init>", "()V"⟩
abbrev b9_init : ByteArray := prog_11_method_1_code
def y9_init : MethodName := ⟨R9, "<init>", "()V"⟩
theorem w_100 : Cond.methodLink R6 3 Lib.objectInit ∈ lw_gd := zwc1 100 rfl rfl
theorem w_164 : Cond.methodLinkNest R8 24 y1_init "GlassTax" ∈ lw_tbl := List.mem_append_right _ (List.mem_of_getElem? (i := 164) (by decide +kernel))
theorem w_167 : Cond.methodLink R1 3 Lib.objectInit ∈ lw_gd := zwc1 167 rfl rfl
theorem w_191 : Cond.methodLinkNest R8 31 y3_init "GlassTax" ∈ lw_tbl := List.mem_append_right _ (List.mem_of_getElem? (i := 191) (by decide +kernel))
theorem w_194 : Cond.methodLink R3 3 Lib.objectInit ∈ lw_gd := zwc1 194 rfl rfl
theorem w_196 : Cond.methodLinkNest R3 11 y6_init "GlassTax" ∈ lw_tbl := List.mem_append_right _ (List.mem_of_getElem? (i := 196) (by decide +kernel))
theorem w_216 : Cond.methodLinkNest R8 38 y7_init "GlassTax" ∈ lw_tbl := List.mem_append_right _ (List.mem_of_getElem? (i := 216) (by decide +kernel))
theorem w_219 : Cond.methodLink R7 3 Lib.objectInit ∈ lw_gd := zwc1 219 rfl rfl
theorem w_23 : Cond.methodLink R8 1 Lib.objectInit ∈ lw_gd := zwc1 23 rfl rfl
theorem w_244 : Cond.methodLinkNest R8 56 y4_init "GlassTax" ∈ lw_tbl := List.mem_append_right _ (List.mem_of_getElem? (i := 244) (by decide +kernel))
theorem w_247 : Cond.methodLink R4 3 Lib.objectInit ∈ lw_gd := zwc2 7 rfl rfl
theorem w_28 : Cond.methodLink R8 9 y5_init ∈ lw_gd := zwc1 28 rfl rfl
theorem w_31 : Cond.methodLink R5 3 Lib.objectInit ∈ lw_gd := zwc1 31 rfl rfl
theorem w_38 : Cond.methodLink R5 43 yA_fill ∈ lw_gd := zwc1 38 rfl rfl
theorem w_42 : Cond.methodLinkNest R5 49 y0_init "GlassTax" ∈ lw_tbl := List.mem_append_right _ (List.mem_of_getElem? (i := 42) (by decide +kernel))
theorem w_45 : Cond.methodLink R0 3 Lib.objectInit ∈ lw_gd := zwc1 45 rfl rfl
theorem w_76 : Cond.methodLinkNest R5 50 y2_init "GlassTax" ∈ lw_tbl := List.mem_append_right _ (List.mem_of_getElem? (i := 76) (by decide +kernel))
theorem w_79 : Cond.methodLink R2 1 Lib.objectInit ∈ lw_gd := zwc1 79 rfl rfl
theorem w_816 : Cond.methodLink R9 3 Lib.objectInit ∈ lw_gd := zwc4 96 rfl rfl
theorem w_97 : Cond.methodLinkNest R5 51 y6_init "GlassTax" ∈ lw_tbl := List.mem_append_right _ (List.mem_of_getElem? (i := 97) (by decide +kernel))
theorem kB_96 : (Int8.ofInt 96).toInt32 = (96 : Int32) := by decide +kernel
theorem kN_6 : (6 : Int32).toNatClampNeg = 6 := by decide +kernel
theorem kN_7 : (7 : Int32).toNatClampNeg = 7 := by decide +kernel
theorem kA_fill (l : Launch) (g : ZG) {n : Nat} (hn : 0 < n ∧ n < 200) {F : Nat → va_E} {k m N : Nat} {f : Nat → Int32} {v : Int32} (hm : m < k) (hk : k < 800) (he : F m = .inl (g.2.2.1 0, N, .inl f)) (hN : N < 2 ^ 20) : yT l g yA_fill bA_fill 4 1 60 0 0 n [zr (n + m), zi v] F k (yu F m (.inl (g.2.2.1 0, N, .inl (fun j => if j < N then v else f j)))) k := by
  refine yT_start (own := RJA) rfl (by decide +kernel) hn 2 (L := [some (zr (n + m)), some (zi v), none, none]) rfl rfl (fun x hl C hi => ?_)
  subst hl
  have E : ∀ (i : Nat) (Fi : Nat → va_E), (∀ j, Fi j = yu F m (.inl (g.2.2.1 0, N, .inl (fun j => if j < i then v else f j))) j) → Fi m = .inl (g.2.2.1 0, N, .inl (fun j => if j < i then v else f j)) := fun i Fi h => by rw [h m, yu, if_pos rfl]
  have loop : ∀ (d i : Nat), i + d = N → ∀ Fi : Nat → va_E, (∀ j, Fi j = yu F m (.inl (g.2.2.1 0, N, .inl (fun j => if j < i then v else f j))) j) →
      yw x g 4 0 0 (MQ x.2.2.2.2.2.2.2.1 (yQ g n (yu F m (.inl (g.2.2.1 0, N, .inl (fun j => if j < N then v else f j)))) k) x.2.2.2.2.2.2.1 x.2.2.2.2.1 0 0 (yA g n)) n Fi k 5 [some (zr (n + m)), some (zi v), some (zi (nI i)), some (zi (nI N))] [] := by
    intro d
    induction d with
    | zero =>
      intro i hid Fi hFi
      have hiN : i = N := by omega
      subst hiN
      refine y_iload_n C dA_fill_5 rfl ?_
      refine y_iload_n C dA_fill_6 rfl ?_
      refine y_icmp_ge C dA_fill_7 (fun _ => ?_) (fun c => absurd (Int32.le_refl _) c)
      exact y_vret C dA_fill_20 rfl (fun j _ => hFi j) rfl rfl
    | succ d ih =>
      intro i hid Fi hFi
      refine y_iload_n C dA_fill_5 rfl ?_
      refine y_iload_n C dA_fill_6 rfl ?_
      refine y_icmp_ge C dA_fill_7 (fun c => absurd c (nI_ge (by omega) (by omega))) (fun _ => ?_)
      refine y_aload_n C dA_fill_10 (j := m) rfl (by omega) ?_
      refine y_iload_n C dA_fill_11 rfl ?_
      refine y_iload_n C dA_fill_12 rfl ?_
      refine y_iast C dA_fill_13 hm hk (E i Fi hFi) ⟨by rw [nI_toInt (by omega)]; omega, by rw [nI_toInt (by omega)]; omega⟩ (nI_clamp (by omega)) ?_
      refine y_iinc C dA_fill_14 rfl (v' := nI (i + 1)) (nI_1 i) (Nat.le_of_ble_eq_true rfl) rfl (L' := [some (zr (n + m)), some (zi v), some (zi (nI (i + 1))), some (zi (nI N))]) rfl ?_
      refine y_goto C dA_fill_17 ?_
      refine ih (i + 1) (by omega) _ (fun j => ?_)
      by_cases hj : j = m
      · rw [yu, if_pos hj, yu, if_pos hj]
        refine congrArg (fun z => (Sum.inl (g.2.2.1 0, N, .inl z) : va_E)) (funext fun q => ?_)
        show (if q = i then v else if q < i then v else f q) = if q < i + 1 then v else f q
        by_cases h1 : q = i
        · rw [if_pos h1, if_pos (by omega)]
        · rw [if_neg h1]
          by_cases h2 : q < i
          · rw [if_pos h2, if_pos (by omega)]
          · rw [if_neg h2, if_neg (by omega)]
      · rw [yu, if_neg hj, hFi j, yu, if_neg hj, yu, if_neg hj]
  refine y_iconst C (0 : Int32) dA_fill_0 kI_0 ?_
  refine y_istore_n C dA_fill_1 (Nat.le_of_ble_eq_true rfl) rfl (L' := [some (zr (n + m)), some (zi v), some (zi 0), none]) rfl ?_
  refine y_aload_n C dA_fill_2 (j := m) rfl (by omega) ?_
  refine y_alen C (t0 := 0) (nI N) dA_fill_3 hm hk he rfl rfl ?_
  refine y_istore_n C dA_fill_4 (Nat.le_of_ble_eq_true rfl) rfl (L' := [some (zr (n + m)), some (zi v), some (zi 0), some (zi (nI N))]) rfl ?_
  refine loop N 0 (by omega) F (fun j => ?_)
  by_cases hj : j = m
  · rw [yu, if_pos hj, hj, he]
    exact congrArg (fun z => (Sum.inl (g.2.2.1 0, N, .inl z) : va_E)) (funext fun q => by rw [if_neg (by omega)])
  · rw [yu, if_neg hj]
theorem yfs0 : ∀ j, j < 5 → defaultValue (ty0 j) = vp_V [.int 0, .int 0, .int 0, .int 0, .int 0] j := fun j hj => by
  match j, hj with
  | 0, _ => rfl
  | 1, _ => rfl
  | 2, _ => rfl
  | 3, _ => rfl
  | 4, _ => rfl
  | j + 5, h => exact absurd h (by omega)
theorem yfs1 : ∀ j, j < 5 → defaultValue (ty1 j) = vp_V [.null, .null, .int 0, .int 0, .int 0] j := fun j hj => by
  match j, hj with
  | 0, _ => rfl
  | 1, _ => rfl
  | 2, _ => rfl
  | 3, _ => rfl
  | 4, _ => rfl
  | j + 5, h => exact absurd h (by omega)
theorem yfs2 : ∀ j, j < 3 → defaultValue (ty2 j) = vp_V [.int 0, .int 0, .int 0] j := fun j hj => by
  match j, hj with
  | 0, _ => rfl
  | 1, _ => rfl
  | 2, _ => rfl
  | j + 3, h => exact absurd h (by omega)
theorem yfs3 : ∀ j, j < 5 → defaultValue (ty3 j) = vp_V [.null, .null, .int 0, .int 0, .int 0] j := fun j hj => by
  match j, hj with
  | 0, _ => rfl
  | 1, _ => rfl
  | 2, _ => rfl
  | 3, _ => rfl
  | 4, _ => rfl
  | j + 5, h => exact absurd h (by omega)
theorem yfs4 : ∀ j, j < 3 → defaultValue (ty4 j) = vp_V [.null, .int 0, .int 0] j := fun j hj => by
  match j, hj with
  | 0, _ => rfl
  | 1, _ => rfl
  | 2, _ => rfl
  | j + 3, h => exact absurd h (by omega)
theorem yfs5 : ∀ j, j < 12 → defaultValue (ty5 j) = vp_V [.null, .null, .null, .null, .null, .null, .int 0, .int 0, .int 0, .int 0, .int 0, .int 0] j := fun j hj => by
  match j, hj with
  | 0, _ => rfl
  | 1, _ => rfl
  | 2, _ => rfl
  | 3, _ => rfl
  | 4, _ => rfl
  | 5, _ => rfl
  | 6, _ => rfl
  | 7, _ => rfl
  | 8, _ => rfl
  | 9, _ => rfl
  | 10, _ => rfl
  | 11, _ => rfl
  | j + 12, h => exact absurd h (by omega)
theorem yfs6 : ∀ j, j < 4 → defaultValue (ty6 j) = vp_V [.null, .null, .int 0, .int 0] j := fun j hj => by
  match j, hj with
  | 0, _ => rfl
  | 1, _ => rfl
  | 2, _ => rfl
  | 3, _ => rfl
  | j + 4, h => exact absurd h (by omega)
theorem yfs7 : ∀ j, j < 6 → defaultValue (ty7 j) = vp_V [.null, .int 0, .int 0, .int 0, .int 0, .int 0] j := fun j hj => by
  match j, hj with
  | 0, _ => rfl
  | 1, _ => rfl
  | 2, _ => rfl
  | 3, _ => rfl
  | 4, _ => rfl
  | 5, _ => rfl
  | j + 6, h => exact absurd h (by omega)
theorem yfs8 : ∀ j, j < 11 → defaultValue (ty8 j) = vp_V [.null, .null, .null, .null, .null, .null, .null, .null, .null, .int 0, .int 0] j := fun j hj => by
  match j, hj with
  | 0, _ => rfl
  | 1, _ => rfl
  | 2, _ => rfl
  | 3, _ => rfl
  | 4, _ => rfl
  | 5, _ => rfl
  | 6, _ => rfl
  | 7, _ => rfl
  | 8, _ => rfl
  | 9, _ => rfl
  | 10, _ => rfl
  | j + 11, h => exact absurd h (by omega)
theorem yfs9 : ∀ j, j < 27 → defaultValue (ty9 j) = vp_V [.null, .null, .null, .int 0, .null, .null, .null, .null, .null, .int 0, .int 0, .null, .int 0, .int 0, .null, .null, .null, .null, .int 0, .int 0, .int 0, .int 0, .int 0, .null, .null, .int 0, .int 0] j := fun j hj => by
  match j, hj with
  | 0, _ => rfl
  | 1, _ => rfl
  | 2, _ => rfl
  | 3, _ => rfl
  | 4, _ => rfl
  | 5, _ => rfl
  | 6, _ => rfl
  | 7, _ => rfl
  | 8, _ => rfl
  | 9, _ => rfl
  | 10, _ => rfl
  | 11, _ => rfl
  | 12, _ => rfl
  | 13, _ => rfl
  | 14, _ => rfl
  | 15, _ => rfl
  | 16, _ => rfl
  | 17, _ => rfl
  | 18, _ => rfl
  | 19, _ => rfl
  | 20, _ => rfl
  | 21, _ => rfl
  | 22, _ => rfl
  | 23, _ => rfl
  | 24, _ => rfl
  | 25, _ => rfl
  | 26, _ => rfl
  | j + 27, h => exact absurd h (by omega)
theorem yobw : Cond.instanceMethod Lib.objectInit ∈ lw_gd ∧ Cond.code Lib.objectInit ⟨#[0xb1]⟩ 1 none ∈ lw_gd := ⟨zwc1 24 rfl rfl, zwc1 25 rfl rfl⟩
theorem yaiw : Cond.arrayClass .int ∈ lw_gd := zwc1 74 rfl rfl
theorem yz0_init : zY y0_init b0_init 1 none 0 := ⟨zwc1 44 rfl rfl, zwc1 4 rfl rfl, ⟨by decide +kernel, by decide +kernel⟩, by decide +kernel⟩
theorem yi0_init : Cond.instanceMethod y0_init ∈ lw_gd := zwc1 43 rfl rfl
theorem d0_init_0 : zd b0_init 0 (.aload_n 0) 1 1 := ⟨by decide +kernel, rfl⟩
theorem d0_init_1 : zd b0_init 1 (.invokespecial 3) 3 4 := ⟨by decide +kernel, rfl⟩
theorem d0_init_4 : zd b0_init 4 .return_ 1 5 := ⟨by decide +kernel, rfl⟩
def yF0 (g : ZG) (n : Nat) : Nat → va_E := fun j => match j with
  | _ => .inr (0, [.int 0, .int 0, .int 0, .int 0, .int 0])
theorem k0_init (l : Launch) (g : ZG) (n : Nat) (hn : 0 < n ∧ n < 199) : yT l g y0_init b0_init 1 1 60 0 0 n [zr (n + 0)] (fun _ => .inr (0, [.int 0, .int 0, .int 0, .int 0, .int 0])) 1 (yF0 g n) 1 := by
  refine yT_start (own := R0) rfl (by decide +kernel) ⟨by omega, by omega⟩ 0 (L := [some (zr (n + 0))]) rfl rfl (fun x hl C hi => ?_)
  subst hl
  refine y_aload_n C d0_init_0 (j := 0) rfl (by decide) ?_
  refine y_obj C (j := 0) d0_init_1 w_45 yobw (by decide) rfl ⟨Nat.le_of_ble_eq_true rfl, Nat.le_of_ble_eq_true rfl⟩ ?_
  exact y_vret C d0_init_4 rfl (fun j hj => by
    match j, hj with
    | 0, _ => rfl
    | j + 1, h => exact absurd h (by omega)) rfl rfl
theorem yz2_init : zY y2_init b2_init 1 none 0 := ⟨zwc1 78 rfl rfl, zwc1 5 rfl rfl, ⟨by decide +kernel, by decide +kernel⟩, by decide +kernel⟩
theorem yi2_init : Cond.instanceMethod y2_init ∈ lw_gd := zwc1 77 rfl rfl
theorem d2_init_0 : zd b2_init 0 (.aload_n 0) 1 1 := ⟨by decide +kernel, rfl⟩
theorem d2_init_1 : zd b2_init 1 (.invokespecial 1) 3 4 := ⟨by decide +kernel, rfl⟩
theorem d2_init_4 : zd b2_init 4 .return_ 1 5 := ⟨by decide +kernel, rfl⟩
def yF2 (g : ZG) (n : Nat) : Nat → va_E := fun j => match j with
  | _ => .inr (2, [.int 0, .int 0, .int 0])
theorem k2_init (l : Launch) (g : ZG) (n : Nat) (hn : 0 < n ∧ n < 199) : yT l g y2_init b2_init 1 1 60 0 0 n [zr (n + 0)] (fun _ => .inr (2, [.int 0, .int 0, .int 0])) 1 (yF2 g n) 1 := by
  refine yT_start (own := R2) rfl (by decide +kernel) ⟨by omega, by omega⟩ 0 (L := [some (zr (n + 0))]) rfl rfl (fun x hl C hi => ?_)
  subst hl
  refine y_aload_n C d2_init_0 (j := 0) rfl (by decide) ?_
  refine y_obj C (j := 0) d2_init_1 w_79 yobw (by decide) rfl ⟨Nat.le_of_ble_eq_true rfl, Nat.le_of_ble_eq_true rfl⟩ ?_
  exact y_vret C d2_init_4 rfl (fun j hj => by
    match j, hj with
    | 0, _ => rfl
    | j + 1, h => exact absurd h (by omega)) rfl rfl
theorem yz6_init : zY y6_init b6_init 1 none 0 := ⟨zwc1 99 rfl rfl, zwc1 6 rfl rfl, ⟨by decide +kernel, by decide +kernel⟩, by decide +kernel⟩
theorem yi6_init : Cond.instanceMethod y6_init ∈ lw_gd := zwc1 98 rfl rfl
theorem d6_init_0 : zd b6_init 0 (.aload_n 0) 1 1 := ⟨by decide +kernel, rfl⟩
theorem d6_init_1 : zd b6_init 1 (.invokespecial 3) 3 4 := ⟨by decide +kernel, rfl⟩
theorem d6_init_4 : zd b6_init 4 (.aload_n 0) 1 5 := ⟨by decide +kernel, rfl⟩
theorem d6_init_5 : zd b6_init 5 (.bipush 60) 2 7 := ⟨by decide +kernel, rfl⟩
theorem d6_init_7 : zd b6_init 7 (.newarray .int) 2 9 := ⟨by decide +kernel, rfl⟩
theorem d6_init_9 : zd b6_init 9 (.putfield 9) 3 12 := ⟨by decide +kernel, rfl⟩
theorem d6_init_12 : zd b6_init 12 (.aload_n 0) 1 13 := ⟨by decide +kernel, rfl⟩
theorem d6_init_13 : zd b6_init 13 (.bipush 60) 2 15 := ⟨by decide +kernel, rfl⟩
theorem d6_init_15 : zd b6_init 15 (.newarray .int) 2 17 := ⟨by decide +kernel, rfl⟩
theorem d6_init_17 : zd b6_init 17 (.putfield 15) 3 20 := ⟨by decide +kernel, rfl⟩
theorem d6_init_20 : zd b6_init 20 .return_ 1 21 := ⟨by decide +kernel, rfl⟩
def yF6 (g : ZG) (n : Nat) : Nat → va_E := fun j => match j with
  | 0 => .inr (6, [.ref (g.1 + (n + 1)), .ref (g.1 + (n + 2)), .int 0, .int 0])
  | 1 => .inl (g.2.2.1 0, 60, .inl (fun _ => 0))
  | _ => .inl (g.2.2.1 0, 60, .inl (fun _ => 0))
theorem k6_init (l : Launch) (g : ZG) (n : Nat) (hn : 0 < n ∧ n < 199) : yT l g y6_init b6_init 1 1 60 2 120 n [zr (n + 0)] (fun _ => .inr (6, [.null, .null, .int 0, .int 0])) 1 (yF6 g n) 3 := by
  refine yT_start (own := R6) rfl (by decide +kernel) ⟨by omega, by omega⟩ 0 (L := [some (zr (n + 0))]) rfl rfl (fun x hl C hi => ?_)
  subst hl
  refine y_aload_n C d6_init_0 (j := 0) rfl (by decide) ?_
  refine y_obj C (j := 0) d6_init_1 w_100 yobw (by decide) rfl ⟨Nat.le_of_ble_eq_true rfl, Nat.le_of_ble_eq_true rfl⟩ ?_
  refine y_aload_n C d6_init_4 (j := 0) rfl (by decide) ?_
  refine y_bipush C (60 : Int32) d6_init_5 kB_60 ?_
  refine y_newa C (N := 60) d6_init_7 yaiw (by decide) (by decide) ⟨Nat.le_of_ble_eq_true rfl, Nat.le_of_ble_eq_true rfl⟩ (k' := 2) rfl (by decide) ?_
  refine y_putF C (kf := 0) (jw := 1) d6_init_9 hi rfl (by decide) rfl (zwc1 101 rfl rfl) rfl (ty6_ok 0 (by decide)) (fun _ => rfl) (fun _ => rfl) (by decide) (by decide) (by decide) rfl (fs' := [.ref (g.1 + (n + 1)), .null, .int 0, .int 0]) rfl (Nat.le_of_ble_eq_true rfl) ?_
  refine y_aload_n C d6_init_12 (j := 0) rfl (by decide) ?_
  refine y_bipush C (60 : Int32) d6_init_13 kB_60 ?_
  refine y_newa C (N := 60) d6_init_15 yaiw (by decide) (by decide) ⟨Nat.le_of_ble_eq_true rfl, Nat.le_of_ble_eq_true rfl⟩ (k' := 3) rfl (by decide) ?_
  refine y_putF C (kf := 1) (jw := 2) d6_init_17 hi rfl (by decide) rfl (zwc1 102 rfl rfl) rfl (ty6_ok 1 (by decide)) (fun _ => rfl) (fun _ => rfl) (by decide) (by decide) (by decide) rfl (fs' := [.ref (g.1 + (n + 1)), .ref (g.1 + (n + 2)), .int 0, .int 0]) rfl (Nat.le_of_ble_eq_true rfl) ?_
  exact y_vret C d6_init_20 rfl (fun j hj => by
    match j, hj with
    | 0, _ => rfl
    | 1, _ => rfl
    | 2, _ => rfl
    | j + 3, h => exact absurd h (by omega)) rfl rfl
theorem yz4_init : zY y4_init b4_init 1 none 0 := ⟨zwc2 6 rfl rfl, zwc1 10 rfl rfl, ⟨by decide +kernel, by decide +kernel⟩, by decide +kernel⟩
theorem yi4_init : Cond.instanceMethod y4_init ∈ lw_gd := zwc2 5 rfl rfl
theorem d4_init_0 : zd b4_init 0 (.aload_n 0) 1 1 := ⟨by decide +kernel, rfl⟩
theorem d4_init_1 : zd b4_init 1 (.invokespecial 3) 3 4 := ⟨by decide +kernel, rfl⟩
theorem d4_init_4 : zd b4_init 4 (.aload_n 0) 1 5 := ⟨by decide +kernel, rfl⟩
theorem d4_init_5 : zd b4_init 5 (.bipush 24) 2 7 := ⟨by decide +kernel, rfl⟩
theorem d4_init_7 : zd b4_init 7 (.newarray .int) 2 9 := ⟨by decide +kernel, rfl⟩
theorem d4_init_9 : zd b4_init 9 (.putfield 9) 3 12 := ⟨by decide +kernel, rfl⟩
theorem d4_init_12 : zd b4_init 12 .return_ 1 13 := ⟨by decide +kernel, rfl⟩
def yF4 (g : ZG) (n : Nat) : Nat → va_E := fun j => match j with
  | 0 => .inr (4, [.ref (g.1 + (n + 1)), .int 0, .int 0])
  | _ => .inl (g.2.2.1 0, 24, .inl (fun _ => 0))
theorem k4_init (l : Launch) (g : ZG) (n : Nat) (hn : 0 < n ∧ n < 190) : yT l g y4_init b4_init 1 1 60 1 24 n [zr (n + 0)] (fun _ => .inr (4, [.null, .int 0, .int 0])) 1 (yF4 g n) 2 := by
  refine yT_start (own := R4) rfl (by decide +kernel) ⟨by omega, by omega⟩ 0 (L := [some (zr (n + 0))]) rfl rfl (fun x hl C hi => ?_)
  subst hl
  refine y_aload_n C d4_init_0 (j := 0) rfl (by decide) ?_
  refine y_obj C (j := 0) d4_init_1 w_247 yobw (by decide) rfl ⟨Nat.le_of_ble_eq_true rfl, Nat.le_of_ble_eq_true rfl⟩ ?_
  refine y_aload_n C d4_init_4 (j := 0) rfl (by decide) ?_
  refine y_bipush C (24 : Int32) d4_init_5 kB_24 ?_
  refine y_newa C (N := 24) d4_init_7 yaiw (by decide) (by decide) ⟨Nat.le_of_ble_eq_true rfl, Nat.le_of_ble_eq_true rfl⟩ (k' := 2) rfl (by decide) ?_
  refine y_putF C (kf := 0) (jw := 1) d4_init_9 hi rfl (by decide) rfl (zwc2 8 rfl rfl) rfl (ty4_ok 0 (by decide)) (fun _ => rfl) (fun _ => rfl) (by decide) (by decide) (by decide) rfl (fs' := [.ref (g.1 + (n + 1)), .int 0, .int 0]) rfl (Nat.le_of_ble_eq_true rfl) ?_
  exact y_vret C d4_init_12 rfl (fun j hj => by
    match j, hj with
    | 0, _ => rfl
    | 1, _ => rfl
    | j + 2, h => exact absurd h (by omega)) rfl rfl
theorem yz1_init : zY y1_init b1_init 1 none 0 := ⟨zwc1 166 rfl rfl, zwc1 7 rfl rfl, ⟨by decide +kernel, by decide +kernel⟩, by decide +kernel⟩
theorem yi1_init : Cond.instanceMethod y1_init ∈ lw_gd := zwc1 165 rfl rfl
theorem d1_init_0 : zd b1_init 0 (.aload_n 0) 1 1 := ⟨by decide +kernel, rfl⟩
theorem d1_init_1 : zd b1_init 1 (.invokespecial 3) 3 4 := ⟨by decide +kernel, rfl⟩
theorem d1_init_4 : zd b1_init 4 (.aload_n 0) 1 5 := ⟨by decide +kernel, rfl⟩
theorem d1_init_5 : zd b1_init 5 (.sipush 257) 3 8 := ⟨by decide +kernel, rfl⟩
theorem d1_init_8 : zd b1_init 8 (.newarray .int) 2 10 := ⟨by decide +kernel, rfl⟩
theorem d1_init_10 : zd b1_init 10 (.putfield 11) 3 13 := ⟨by decide +kernel, rfl⟩
theorem d1_init_13 : zd b1_init 13 (.aload_n 0) 1 14 := ⟨by decide +kernel, rfl⟩
theorem d1_init_14 : zd b1_init 14 (.sipush 257) 3 17 := ⟨by decide +kernel, rfl⟩
theorem d1_init_17 : zd b1_init 17 (.newarray .int) 2 19 := ⟨by decide +kernel, rfl⟩
theorem d1_init_19 : zd b1_init 19 (.putfield 15) 3 22 := ⟨by decide +kernel, rfl⟩
theorem d1_init_22 : zd b1_init 22 .return_ 1 23 := ⟨by decide +kernel, rfl⟩
def yF1 (g : ZG) (n : Nat) : Nat → va_E := fun j => match j with
  | 0 => .inr (1, [.ref (g.1 + (n + 1)), .ref (g.1 + (n + 2)), .int 0, .int 0, .int 0])
  | 1 => .inl (g.2.2.1 0, 257, .inl (fun _ => 0))
  | _ => .inl (g.2.2.1 0, 257, .inl (fun _ => 0))
theorem k1_init (l : Launch) (g : ZG) (n : Nat) (hn : 0 < n ∧ n < 180) : yT l g y1_init b1_init 1 1 60 2 514 n [zr (n + 0)] (fun _ => .inr (1, [.null, .null, .int 0, .int 0, .int 0])) 1 (yF1 g n) 3 := by
  refine yT_start (own := R1) rfl (by decide +kernel) ⟨by omega, by omega⟩ 0 (L := [some (zr (n + 0))]) rfl rfl (fun x hl C hi => ?_)
  subst hl
  refine y_aload_n C d1_init_0 (j := 0) rfl (by decide) ?_
  refine y_obj C (j := 0) d1_init_1 w_167 yobw (by decide) rfl ⟨Nat.le_of_ble_eq_true rfl, Nat.le_of_ble_eq_true rfl⟩ ?_
  refine y_aload_n C d1_init_4 (j := 0) rfl (by decide) ?_
  refine y_sipush C (257 : Int32) d1_init_5 kS_257 ?_
  refine y_newa C (N := 257) d1_init_8 yaiw (by decide) (by decide) ⟨Nat.le_of_ble_eq_true rfl, Nat.le_of_ble_eq_true rfl⟩ (k' := 2) rfl (by decide) ?_
  refine y_putF C (kf := 0) (jw := 1) d1_init_10 hi rfl (by decide) rfl (zwc1 168 rfl rfl) rfl (ty1_ok 0 (by decide)) (fun _ => rfl) (fun _ => rfl) (by decide) (by decide) (by decide) rfl (fs' := [.ref (g.1 + (n + 1)), .null, .int 0, .int 0, .int 0]) rfl (Nat.le_of_ble_eq_true rfl) ?_
  refine y_aload_n C d1_init_13 (j := 0) rfl (by decide) ?_
  refine y_sipush C (257 : Int32) d1_init_14 kS_257 ?_
  refine y_newa C (N := 257) d1_init_17 yaiw (by decide) (by decide) ⟨Nat.le_of_ble_eq_true rfl, Nat.le_of_ble_eq_true rfl⟩ (k' := 3) rfl (by decide) ?_
  refine y_putF C (kf := 1) (jw := 2) d1_init_19 hi rfl (by decide) rfl (zwc1 169 rfl rfl) rfl (ty1_ok 1 (by decide)) (fun _ => rfl) (fun _ => rfl) (by decide) (by decide) (by decide) rfl (fs' := [.ref (g.1 + (n + 1)), .ref (g.1 + (n + 2)), .int 0, .int 0, .int 0]) rfl (Nat.le_of_ble_eq_true rfl) ?_
  exact y_vret C d1_init_22 rfl (fun j hj => by
    match j, hj with
    | 0, _ => rfl
    | 1, _ => rfl
    | 2, _ => rfl
    | j + 3, h => exact absurd h (by omega)) rfl rfl
theorem yz7_init : zY y7_init b7_init 1 none 0 := ⟨zwc1 218 rfl rfl, zwc1 9 rfl rfl, ⟨by decide +kernel, by decide +kernel⟩, by decide +kernel⟩
theorem yi7_init : Cond.instanceMethod y7_init ∈ lw_gd := zwc1 217 rfl rfl
theorem d7_init_0 : zd b7_init 0 (.aload_n 0) 1 1 := ⟨by decide +kernel, rfl⟩
theorem d7_init_1 : zd b7_init 1 (.invokespecial 3) 3 4 := ⟨by decide +kernel, rfl⟩
theorem d7_init_4 : zd b7_init 4 (.aload_n 0) 1 5 := ⟨by decide +kernel, rfl⟩
theorem d7_init_5 : zd b7_init 5 (.bipush 30) 2 7 := ⟨by decide +kernel, rfl⟩
theorem d7_init_7 : zd b7_init 7 (.newarray .int) 2 9 := ⟨by decide +kernel, rfl⟩
theorem d7_init_9 : zd b7_init 9 (.putfield 11) 3 12 := ⟨by decide +kernel, rfl⟩
theorem d7_init_12 : zd b7_init 12 .return_ 1 13 := ⟨by decide +kernel, rfl⟩
def yF7 (g : ZG) (n : Nat) : Nat → va_E := fun j => match j with
  | 0 => .inr (7, [.ref (g.1 + (n + 1)), .int 0, .int 0, .int 0, .int 0, .int 0])
  | _ => .inl (g.2.2.1 0, 30, .inl (fun _ => 0))
theorem k7_init (l : Launch) (g : ZG) (n : Nat) (hn : 0 < n ∧ n < 180) : yT l g y7_init b7_init 1 1 60 1 30 n [zr (n + 0)] (fun _ => .inr (7, [.null, .int 0, .int 0, .int 0, .int 0, .int 0])) 1 (yF7 g n) 2 := by
  refine yT_start (own := R7) rfl (by decide +kernel) ⟨by omega, by omega⟩ 0 (L := [some (zr (n + 0))]) rfl rfl (fun x hl C hi => ?_)
  subst hl
  refine y_aload_n C d7_init_0 (j := 0) rfl (by decide) ?_
  refine y_obj C (j := 0) d7_init_1 w_219 yobw (by decide) rfl ⟨Nat.le_of_ble_eq_true rfl, Nat.le_of_ble_eq_true rfl⟩ ?_
  refine y_aload_n C d7_init_4 (j := 0) rfl (by decide) ?_
  refine y_bipush C (30 : Int32) d7_init_5 kB_30 ?_
  refine y_newa C (N := 30) d7_init_7 yaiw (by decide) (by decide) ⟨Nat.le_of_ble_eq_true rfl, Nat.le_of_ble_eq_true rfl⟩ (k' := 2) rfl (by decide) ?_
  refine y_putF C (kf := 0) (jw := 1) d7_init_9 hi rfl (by decide) rfl (zwc1 220 rfl rfl) rfl (ty7_ok 0 (by decide)) (fun _ => rfl) (fun _ => rfl) (by decide) (by decide) (by decide) rfl (fs' := [.ref (g.1 + (n + 1)), .int 0, .int 0, .int 0, .int 0, .int 0]) rfl (Nat.le_of_ble_eq_true rfl) ?_
  exact y_vret C d7_init_12 rfl (fun j hj => by
    match j, hj with
    | 0, _ => rfl
    | 1, _ => rfl
    | j + 2, h => exact absurd h (by omega)) rfl rfl
theorem yz3_init : zY y3_init b3_init 1 none 0 := ⟨zwc1 193 rfl rfl, zwc1 8 rfl rfl, ⟨by decide +kernel, by decide +kernel⟩, by decide +kernel⟩
theorem yi3_init : Cond.instanceMethod y3_init ∈ lw_gd := zwc1 192 rfl rfl
theorem d3_init_0 : zd b3_init 0 (.aload_n 0) 1 1 := ⟨by decide +kernel, rfl⟩
theorem d3_init_1 : zd b3_init 1 (.invokespecial 3) 3 4 := ⟨by decide +kernel, rfl⟩
theorem d3_init_4 : zd b3_init 4 (.aload_n 0) 1 5 := ⟨by decide +kernel, rfl⟩
theorem d3_init_5 : zd b3_init 5 (.new 9) 3 8 := ⟨by decide +kernel, rfl⟩
theorem d3_init_8 : zd b3_init 8 .dup 1 9 := ⟨by decide +kernel, rfl⟩
theorem d3_init_9 : zd b3_init 9 (.invokespecial 11) 3 12 := ⟨by decide +kernel, rfl⟩
theorem d3_init_12 : zd b3_init 12 (.putfield 12) 3 15 := ⟨by decide +kernel, rfl⟩
theorem d3_init_15 : zd b3_init 15 .return_ 1 16 := ⟨by decide +kernel, rfl⟩
def yF3 (g : ZG) (n : Nat) : Nat → va_E := fun j => match j with
  | 0 => .inr (3, [.ref (g.1 + (n + 1)), .null, .int 0, .int 0, .int 0])
  | 1 => .inr (6, [.ref (g.1 + (n + 1 + 1)), .ref (g.1 + (n + 1 + 2)), .int 0, .int 0])
  | 2 => .inl (g.2.2.1 0, 60, .inl (fun _ => 0))
  | _ => .inl (g.2.2.1 0, 60, .inl (fun _ => 0))
theorem k3_init (l : Launch) (g : ZG) (n : Nat) (hn : 0 < n ∧ n < 150) : yT l g y3_init b3_init 1 2 80 3 124 n [zr (n + 0)] (fun _ => .inr (3, [.null, .null, .int 0, .int 0, .int 0])) 1 (yF3 g n) 4 := by
  refine yT_start (own := R3) rfl (by decide +kernel) ⟨by omega, by omega⟩ 0 (L := [some (zr (n + 0))]) rfl rfl (fun x hl C hi => ?_)
  subst hl
  refine y_aload_n C d3_init_0 (j := 0) rfl (by decide) ?_
  refine y_obj C (j := 0) d3_init_1 w_194 yobw (by decide) rfl ⟨Nat.le_of_ble_eq_true rfl, Nat.le_of_ble_eq_true rfl⟩ ?_
  refine y_aload_n C d3_init_4 (j := 0) rfl (by decide) ?_
  refine y_newo C (ci := 6) d3_init_5 ⟨zwc1 195 rfl rfl, zwc1 96 rfl rfl, zwc1 6 rfl rfl⟩ rfl ty6 ty6_ok (fs := [.null, .null, .int 0, .int 0]) yfs6 ⟨Nat.le_of_ble_eq_true rfl, Nat.le_of_ble_eq_true rfl⟩ (k' := 2) rfl ?_ (by decide)
  refine y_dup C d3_init_8 rfl ?_
  refine y_callIN C (m := 1) d3_init_9 w_196 yz6_init rfl yi6_init (k6_init x.2.1 g (n + 1) ⟨by omega, by omega⟩) rfl (by decide) rfl (Nat.le_of_ble_eq_true rfl) ⟨Nat.le_of_ble_eq_true rfl, Nat.le_of_ble_eq_true rfl⟩ ⟨Nat.le_of_ble_eq_true rfl, Nat.le_of_ble_eq_true rfl⟩ (k' := 4) rfl ?_
  refine y_putF C (kf := 0) (jw := 1) d3_init_12 hi rfl (by decide) rfl (zwc1 197 rfl rfl) rfl (ty3_ok 0 (by decide)) (fun _ => rfl) (fun _ => rfl) (by decide) (by decide) (by decide) rfl (fs' := [.ref (g.1 + (n + 1)), .null, .int 0, .int 0, .int 0]) rfl (Nat.le_of_ble_eq_true rfl) ?_
  exact y_vret C d3_init_15 rfl (fun j hj => by
    match j, hj with
    | 0, _ => rfl
    | 1, _ => rfl
    | 2, _ => rfl
    | 3, _ => rfl
    | j + 4, h => exact absurd h (by omega)) rfl rfl
theorem yz5_init : zY y5_init b5_init 2 none 0 := ⟨zwc1 30 rfl rfl, zwc1 2 rfl rfl, ⟨by decide +kernel, by decide +kernel⟩, by decide +kernel⟩
theorem yi5_init : Cond.instanceMethod y5_init ∈ lw_gd := zwc1 29 rfl rfl
theorem d5_init_0 : zd b5_init 0 (.aload_n 0) 1 1 := ⟨by decide +kernel, rfl⟩
theorem d5_init_1 : zd b5_init 1 (.invokespecial 3) 3 4 := ⟨by decide +kernel, rfl⟩
theorem d5_init_4 : zd b5_init 4 (.aload_n 0) 1 5 := ⟨by decide +kernel, rfl⟩
theorem d5_init_5 : zd b5_init 5 (.bipush 8) 2 7 := ⟨by decide +kernel, rfl⟩
theorem d5_init_7 : zd b5_init 7 (.anewarray 9) 3 10 := ⟨by decide +kernel, rfl⟩
theorem d5_init_10 : zd b5_init 10 (.putfield 11) 3 13 := ⟨by decide +kernel, rfl⟩
theorem d5_init_13 : zd b5_init 13 (.aload_n 0) 1 14 := ⟨by decide +kernel, rfl⟩
theorem d5_init_14 : zd b5_init 14 (.bipush 6) 2 16 := ⟨by decide +kernel, rfl⟩
theorem d5_init_16 : zd b5_init 16 (.anewarray 17) 3 19 := ⟨by decide +kernel, rfl⟩
theorem d5_init_19 : zd b5_init 19 (.putfield 19) 3 22 := ⟨by decide +kernel, rfl⟩
theorem d5_init_22 : zd b5_init 22 (.aload_n 0) 1 23 := ⟨by decide +kernel, rfl⟩
theorem d5_init_23 : zd b5_init 23 (.iconst 2) 1 24 := ⟨by decide +kernel, rfl⟩
theorem d5_init_24 : zd b5_init 24 (.anewarray 23) 3 27 := ⟨by decide +kernel, rfl⟩
theorem d5_init_27 : zd b5_init 27 (.putfield 25) 3 30 := ⟨by decide +kernel, rfl⟩
theorem d5_init_30 : zd b5_init 30 (.aload_n 0) 1 31 := ⟨by decide +kernel, rfl⟩
theorem d5_init_31 : zd b5_init 31 (.bipush 64) 2 33 := ⟨by decide +kernel, rfl⟩
theorem d5_init_33 : zd b5_init 33 (.newarray .int) 2 35 := ⟨by decide +kernel, rfl⟩
theorem d5_init_35 : zd b5_init 35 (.putfield 29) 3 38 := ⟨by decide +kernel, rfl⟩
theorem d5_init_38 : zd b5_init 38 (.aload_n 0) 1 39 := ⟨by decide +kernel, rfl⟩
theorem d5_init_39 : zd b5_init 39 (.bipush 60) 2 41 := ⟨by decide +kernel, rfl⟩
theorem d5_init_41 : zd b5_init 41 (.newarray .int) 2 43 := ⟨by decide +kernel, rfl⟩
theorem d5_init_43 : zd b5_init 43 (.putfield 33) 3 46 := ⟨by decide +kernel, rfl⟩
theorem d5_init_46 : zd b5_init 46 (.aload_n 0) 1 47 := ⟨by decide +kernel, rfl⟩
theorem d5_init_47 : zd b5_init 47 (.bipush 24) 2 49 := ⟨by decide +kernel, rfl⟩
theorem d5_init_49 : zd b5_init 49 (.newarray .int) 2 51 := ⟨by decide +kernel, rfl⟩
theorem d5_init_51 : zd b5_init 51 (.putfield 36) 3 54 := ⟨by decide +kernel, rfl⟩
theorem d5_init_54 : zd b5_init 54 (.aload_n 0) 1 55 := ⟨by decide +kernel, rfl⟩
theorem d5_init_55 : zd b5_init 55 (.iconst 1) 1 56 := ⟨by decide +kernel, rfl⟩
theorem d5_init_56 : zd b5_init 56 (.putfield 39) 3 59 := ⟨by decide +kernel, rfl⟩
theorem d5_init_59 : zd b5_init 59 (.aload_n 0) 1 60 := ⟨by decide +kernel, rfl⟩
theorem d5_init_60 : zd b5_init 60 (.getfield 29) 3 63 := ⟨by decide +kernel, rfl⟩
theorem d5_init_63 : zd b5_init 63 (.iconst (-1)) 1 64 := ⟨by decide +kernel, rfl⟩
theorem d5_init_64 : zd b5_init 64 (.invokestatic 43) 3 67 := ⟨by decide +kernel, rfl⟩
theorem d5_init_67 : zd b5_init 67 (.iconst 0) 1 68 := ⟨by decide +kernel, rfl⟩
theorem d5_init_68 : zd b5_init 68 (.istore_n 1) 1 69 := ⟨by decide +kernel, rfl⟩
theorem d5_init_69 : zd b5_init 69 (.iload_n 1) 1 70 := ⟨by decide +kernel, rfl⟩
theorem d5_init_70 : zd b5_init 70 (.aload_n 0) 1 71 := ⟨by decide +kernel, rfl⟩
theorem d5_init_71 : zd b5_init 71 (.getfield 11) 3 74 := ⟨by decide +kernel, rfl⟩
theorem d5_init_74 : zd b5_init 74 .arraylength 1 75 := ⟨by decide +kernel, rfl⟩
theorem d5_init_75 : zdb b5_init 75 (.if_icmp .ge 22) 22 78 97 := ⟨by decide +kernel, rfl, by decide⟩
theorem d5_init_78 : zd b5_init 78 (.aload_n 0) 1 79 := ⟨by decide +kernel, rfl⟩
theorem d5_init_79 : zd b5_init 79 (.getfield 11) 3 82 := ⟨by decide +kernel, rfl⟩
theorem d5_init_82 : zd b5_init 82 (.iload_n 1) 1 83 := ⟨by decide +kernel, rfl⟩
theorem d5_init_83 : zd b5_init 83 (.new 9) 3 86 := ⟨by decide +kernel, rfl⟩
theorem d5_init_86 : zd b5_init 86 .dup 1 87 := ⟨by decide +kernel, rfl⟩
theorem d5_init_87 : zd b5_init 87 (.invokespecial 49) 3 90 := ⟨by decide +kernel, rfl⟩
theorem d5_init_90 : zd b5_init 90 .aastore 1 91 := ⟨by decide +kernel, rfl⟩
theorem d5_init_91 : zd b5_init 91 (.iinc 1 1) 3 94 := ⟨by decide +kernel, rfl⟩
theorem d5_init_94 : zdb b5_init 94 (.goto (-25)) (-25) 97 69 := ⟨by decide +kernel, rfl, by decide⟩
theorem d5_init_97 : zd b5_init 97 (.iconst 0) 1 98 := ⟨by decide +kernel, rfl⟩
theorem d5_init_98 : zd b5_init 98 (.istore_n 1) 1 99 := ⟨by decide +kernel, rfl⟩
theorem d5_init_99 : zd b5_init 99 (.iload_n 1) 1 100 := ⟨by decide +kernel, rfl⟩
theorem d5_init_100 : zd b5_init 100 (.aload_n 0) 1 101 := ⟨by decide +kernel, rfl⟩
theorem d5_init_101 : zd b5_init 101 (.getfield 19) 3 104 := ⟨by decide +kernel, rfl⟩
theorem d5_init_104 : zd b5_init 104 .arraylength 1 105 := ⟨by decide +kernel, rfl⟩
theorem d5_init_105 : zdb b5_init 105 (.if_icmp .ge 22) 22 108 127 := ⟨by decide +kernel, rfl, by decide⟩
theorem d5_init_108 : zd b5_init 108 (.aload_n 0) 1 109 := ⟨by decide +kernel, rfl⟩
theorem d5_init_109 : zd b5_init 109 (.getfield 19) 3 112 := ⟨by decide +kernel, rfl⟩
theorem d5_init_112 : zd b5_init 112 (.iload_n 1) 1 113 := ⟨by decide +kernel, rfl⟩
theorem d5_init_113 : zd b5_init 113 (.new 17) 3 116 := ⟨by decide +kernel, rfl⟩
theorem d5_init_116 : zd b5_init 116 .dup 1 117 := ⟨by decide +kernel, rfl⟩
theorem d5_init_117 : zd b5_init 117 (.invokespecial 50) 3 120 := ⟨by decide +kernel, rfl⟩
theorem d5_init_120 : zd b5_init 120 .aastore 1 121 := ⟨by decide +kernel, rfl⟩
theorem d5_init_121 : zd b5_init 121 (.iinc 1 1) 3 124 := ⟨by decide +kernel, rfl⟩
theorem d5_init_124 : zdb b5_init 124 (.goto (-25)) (-25) 127 99 := ⟨by decide +kernel, rfl, by decide⟩
theorem d5_init_127 : zd b5_init 127 (.iconst 0) 1 128 := ⟨by decide +kernel, rfl⟩
theorem d5_init_128 : zd b5_init 128 (.istore_n 1) 1 129 := ⟨by decide +kernel, rfl⟩
theorem d5_init_129 : zd b5_init 129 (.iload_n 1) 1 130 := ⟨by decide +kernel, rfl⟩
theorem d5_init_130 : zd b5_init 130 (.aload_n 0) 1 131 := ⟨by decide +kernel, rfl⟩
theorem d5_init_131 : zd b5_init 131 (.getfield 25) 3 134 := ⟨by decide +kernel, rfl⟩
theorem d5_init_134 : zd b5_init 134 .arraylength 1 135 := ⟨by decide +kernel, rfl⟩
theorem d5_init_135 : zdb b5_init 135 (.if_icmp .ge 22) 22 138 157 := ⟨by decide +kernel, rfl, by decide⟩
theorem d5_init_138 : zd b5_init 138 (.aload_n 0) 1 139 := ⟨by decide +kernel, rfl⟩
theorem d5_init_139 : zd b5_init 139 (.getfield 25) 3 142 := ⟨by decide +kernel, rfl⟩
theorem d5_init_142 : zd b5_init 142 (.iload_n 1) 1 143 := ⟨by decide +kernel, rfl⟩
theorem d5_init_143 : zd b5_init 143 (.new 23) 3 146 := ⟨by decide +kernel, rfl⟩
theorem d5_init_146 : zd b5_init 146 .dup 1 147 := ⟨by decide +kernel, rfl⟩
theorem d5_init_147 : zd b5_init 147 (.invokespecial 51) 3 150 := ⟨by decide +kernel, rfl⟩
theorem d5_init_150 : zd b5_init 150 .aastore 1 151 := ⟨by decide +kernel, rfl⟩
theorem d5_init_151 : zd b5_init 151 (.iinc 1 1) 3 154 := ⟨by decide +kernel, rfl⟩
theorem d5_init_154 : zdb b5_init 154 (.goto (-25)) (-25) 157 129 := ⟨by decide +kernel, rfl, by decide⟩
theorem d5_init_157 : zd b5_init 157 .return_ 1 158 := ⟨by decide +kernel, rfl⟩
def yF5 (g : ZG) (n : Nat) : Nat → va_E := fun j => match j with
  | 0 => .inr (5, [.ref (g.1 + (n + 1)), .ref (g.1 + (n + 2)), .ref (g.1 + (n + 3)), .ref (g.1 + (n + 4)), .ref (g.1 + (n + 5)), .ref (g.1 + (n + 6)), .int 0, .int 0, .int 0, .int 0, .int 0, .int 1])
  | 1 => .inl (g.2.2.1 1, 8, .inr (.inr (.inr (.inr (va_up (va_up (va_up (va_up (va_up (va_up (va_up (va_up (fun _ => none) 0 (some (g.1 + (n + 7)))) 1 (some (g.1 + (n + 8)))) 2 (some (g.1 + (n + 9)))) 3 (some (g.1 + (n + 10)))) 4 (some (g.1 + (n + 11)))) 5 (some (g.1 + (n + 12)))) 6 (some (g.1 + (n + 13)))) 7 (some (g.1 + (n + 14))))))))
  | 2 => .inl (g.2.2.1 2, 6, .inr (.inr (.inr (.inr (va_up (va_up (va_up (va_up (va_up (va_up (fun _ => none) 0 (some (g.1 + (n + 15)))) 1 (some (g.1 + (n + 16)))) 2 (some (g.1 + (n + 17)))) 3 (some (g.1 + (n + 18)))) 4 (some (g.1 + (n + 19)))) 5 (some (g.1 + (n + 20))))))))
  | 3 => .inl (g.2.2.1 3, 2, .inr (.inr (.inr (.inr (va_up (va_up (fun _ => none) 0 (some (g.1 + (n + 21)))) 1 (some (g.1 + (n + 24))))))))
  | 4 => .inl (g.2.2.1 0, 64, .inl (fun j => if j < 64 then (-1 : Int32) else (fun _ => 0) j))
  | 5 => .inl (g.2.2.1 0, 60, .inl (fun _ => 0))
  | 6 => .inl (g.2.2.1 0, 24, .inl (fun _ => 0))
  | 7 => .inr (0, [.int 0, .int 0, .int 0, .int 0, .int 0])
  | 8 => .inr (0, [.int 0, .int 0, .int 0, .int 0, .int 0])
  | 9 => .inr (0, [.int 0, .int 0, .int 0, .int 0, .int 0])
  | 10 => .inr (0, [.int 0, .int 0, .int 0, .int 0, .int 0])
  | 11 => .inr (0, [.int 0, .int 0, .int 0, .int 0, .int 0])
  | 12 => .inr (0, [.int 0, .int 0, .int 0, .int 0, .int 0])
  | 13 => .inr (0, [.int 0, .int 0, .int 0, .int 0, .int 0])
  | 14 => .inr (0, [.int 0, .int 0, .int 0, .int 0, .int 0])
  | 15 => .inr (2, [.int 0, .int 0, .int 0])
  | 16 => .inr (2, [.int 0, .int 0, .int 0])
  | 17 => .inr (2, [.int 0, .int 0, .int 0])
  | 18 => .inr (2, [.int 0, .int 0, .int 0])
  | 19 => .inr (2, [.int 0, .int 0, .int 0])
  | 20 => .inr (2, [.int 0, .int 0, .int 0])
  | 21 => .inr (6, [.ref (g.1 + (n + 21 + 1)), .ref (g.1 + (n + 21 + 2)), .int 0, .int 0])
  | 22 => .inl (g.2.2.1 0, 60, .inl (fun _ => 0))
  | 23 => .inl (g.2.2.1 0, 60, .inl (fun _ => 0))
  | 24 => .inr (6, [.ref (g.1 + (n + 24 + 1)), .ref (g.1 + (n + 24 + 2)), .int 0, .int 0])
  | 25 => .inl (g.2.2.1 0, 60, .inl (fun _ => 0))
  | _ => .inl (g.2.2.1 0, 60, .inl (fun _ => 0))
theorem k5_init (l : Launch) (g : ZG) (n : Nat) (hn : 0 < n ∧ n < 120) : yT l g y5_init b5_init 2 2 83 26 470 n [zr (n + 0)] (fun _ => .inr (5, [.null, .null, .null, .null, .null, .null, .int 0, .int 0, .int 0, .int 0, .int 0, .int 0])) 1 (yF5 g n) 27 := by
  refine yT_start (own := R5) rfl (by decide +kernel) ⟨by omega, by omega⟩ 1 (L := [some (zr (n + 0)), none]) rfl rfl (fun x hl C hi => ?_)
  subst hl
  refine y_aload_n C d5_init_0 (j := 0) rfl (by decide) ?_
  refine y_obj C (j := 0) d5_init_1 w_31 yobw (by decide) rfl ⟨Nat.le_of_ble_eq_true rfl, Nat.le_of_ble_eq_true rfl⟩ ?_
  refine y_aload_n C d5_init_4 (j := 0) rfl (by decide) ?_
  refine y_bipush C (8 : Int32) d5_init_5 kB_8 ?_
  refine y_newq C (N := 8) (κ := 11) d5_init_7 (by decide) (by decide) (zwc1 32 rfl rfl) (by decide) (by decide) ⟨Nat.le_of_ble_eq_true rfl, Nat.le_of_ble_eq_true rfl⟩ (k' := 2) rfl (by decide) ?_
  refine y_putF C (kf := 0) (jw := 1) d5_init_10 hi rfl (by decide) rfl (zwc1 118 rfl rfl) rfl (ty5_ok 0 (by decide)) (fun _ => rfl) (fun _ => rfl) (by decide) (by decide) (by decide) rfl (fs' := [.ref (g.1 + (n + 1)), .null, .null, .null, .null, .null, .int 0, .int 0, .int 0, .int 0, .int 0, .int 0]) rfl (Nat.le_of_ble_eq_true rfl) ?_
  refine y_aload_n C d5_init_13 (j := 0) rfl (by decide) ?_
  refine y_bipush C (6 : Int32) d5_init_14 kB_6 ?_
  refine y_newq C (N := 6) (κ := 12) d5_init_16 (by decide) (by decide) (zwc1 34 rfl rfl) (by decide) (by decide) ⟨Nat.le_of_ble_eq_true rfl, Nat.le_of_ble_eq_true rfl⟩ (k' := 3) rfl (by decide) ?_
  refine y_putF C (kf := 1) (jw := 2) d5_init_19 hi rfl (by decide) rfl (zwc1 119 rfl rfl) rfl (ty5_ok 1 (by decide)) (fun _ => rfl) (fun _ => rfl) (by decide) (by decide) (by decide) rfl (fs' := [.ref (g.1 + (n + 1)), .ref (g.1 + (n + 2)), .null, .null, .null, .null, .int 0, .int 0, .int 0, .int 0, .int 0, .int 0]) rfl (Nat.le_of_ble_eq_true rfl) ?_
  refine y_aload_n C d5_init_22 (j := 0) rfl (by decide) ?_
  refine y_iconst C (2 : Int32) d5_init_23 kI_2 ?_
  refine y_newq C (N := 2) (κ := 13) d5_init_24 (by decide) (by decide) (zwc1 36 rfl rfl) (by decide) (by decide) ⟨Nat.le_of_ble_eq_true rfl, Nat.le_of_ble_eq_true rfl⟩ (k' := 4) rfl (by decide) ?_
  refine y_putF C (kf := 2) (jw := 3) d5_init_27 hi rfl (by decide) rfl (zwc1 120 rfl rfl) rfl (ty5_ok 2 (by decide)) (fun _ => rfl) (fun _ => rfl) (by decide) (by decide) (by decide) rfl (fs' := [.ref (g.1 + (n + 1)), .ref (g.1 + (n + 2)), .ref (g.1 + (n + 3)), .null, .null, .null, .int 0, .int 0, .int 0, .int 0, .int 0, .int 0]) rfl (Nat.le_of_ble_eq_true rfl) ?_
  refine y_aload_n C d5_init_30 (j := 0) rfl (by decide) ?_
  refine y_bipush C (64 : Int32) d5_init_31 kB_64 ?_
  refine y_newa C (N := 64) d5_init_33 yaiw (by decide) (by decide) ⟨Nat.le_of_ble_eq_true rfl, Nat.le_of_ble_eq_true rfl⟩ (k' := 5) rfl (by decide) ?_
  refine y_putF C (kf := 3) (jw := 4) d5_init_35 hi rfl (by decide) rfl (zwc1 121 rfl rfl) rfl (ty5_ok 3 (by decide)) (fun _ => rfl) (fun _ => rfl) (by decide) (by decide) (by decide) rfl (fs' := [.ref (g.1 + (n + 1)), .ref (g.1 + (n + 2)), .ref (g.1 + (n + 3)), .ref (g.1 + (n + 4)), .null, .null, .int 0, .int 0, .int 0, .int 0, .int 0, .int 0]) rfl (Nat.le_of_ble_eq_true rfl) ?_
  refine y_aload_n C d5_init_38 (j := 0) rfl (by decide) ?_
  refine y_bipush C (60 : Int32) d5_init_39 kB_60 ?_
  refine y_newa C (N := 60) d5_init_41 yaiw (by decide) (by decide) ⟨Nat.le_of_ble_eq_true rfl, Nat.le_of_ble_eq_true rfl⟩ (k' := 6) rfl (by decide) ?_
  refine y_putF C (kf := 4) (jw := 5) d5_init_43 hi rfl (by decide) rfl (zwc1 122 rfl rfl) rfl (ty5_ok 4 (by decide)) (fun _ => rfl) (fun _ => rfl) (by decide) (by decide) (by decide) rfl (fs' := [.ref (g.1 + (n + 1)), .ref (g.1 + (n + 2)), .ref (g.1 + (n + 3)), .ref (g.1 + (n + 4)), .ref (g.1 + (n + 5)), .null, .int 0, .int 0, .int 0, .int 0, .int 0, .int 0]) rfl (Nat.le_of_ble_eq_true rfl) ?_
  refine y_aload_n C d5_init_46 (j := 0) rfl (by decide) ?_
  refine y_bipush C (24 : Int32) d5_init_47 kB_24 ?_
  refine y_newa C (N := 24) d5_init_49 yaiw (by decide) (by decide) ⟨Nat.le_of_ble_eq_true rfl, Nat.le_of_ble_eq_true rfl⟩ (k' := 7) rfl (by decide) ?_
  refine y_putF C (kf := 5) (jw := 6) d5_init_51 hi rfl (by decide) rfl (zwc1 124 rfl rfl) rfl (ty5_ok 5 (by decide)) (fun _ => rfl) (fun _ => rfl) (by decide) (by decide) (by decide) rfl (fs' := [.ref (g.1 + (n + 1)), .ref (g.1 + (n + 2)), .ref (g.1 + (n + 3)), .ref (g.1 + (n + 4)), .ref (g.1 + (n + 5)), .ref (g.1 + (n + 6)), .int 0, .int 0, .int 0, .int 0, .int 0, .int 0]) rfl (Nat.le_of_ble_eq_true rfl) ?_
  refine y_aload_n C d5_init_54 (j := 0) rfl (by decide) ?_
  refine y_iconst C (1 : Int32) d5_init_55 kI_1 ?_
  refine y_putN C (kf := 11) d5_init_56 rfl (by decide) rfl (zwc1 135 rfl rfl) rfl (ty5_ok 11 (by decide)) (by decide) (by decide) rfl (fs' := [.ref (g.1 + (n + 1)), .ref (g.1 + (n + 2)), .ref (g.1 + (n + 3)), .ref (g.1 + (n + 4)), .ref (g.1 + (n + 5)), .ref (g.1 + (n + 6)), .int 0, .int 0, .int 0, .int 0, .int 0, .int 1]) rfl (Nat.le_of_ble_eq_true rfl) ?_
  refine y_aload_n C d5_init_59 (j := 0) rfl (by decide) ?_
  refine y_getR C (kf := 3) (j1 := 4) d5_init_60 rfl (by decide) rfl (zwc1 121 rfl rfl) (by decide) (by decide) (by decide) rfl rfl ?_
  refine y_iconst C (-1 : Int32) d5_init_63 kI_m1 ?_
  refine y_callF C (m := 4) d5_init_64 w_38 yyA_fill (kA_fill x.2.1 g ⟨by omega, by omega⟩ (N := 64) (by decide) (by decide) rfl (by decide)) (by decide) (Nat.le_of_ble_eq_true rfl) ⟨Nat.le_of_ble_eq_true rfl, Nat.le_of_ble_eq_true rfl⟩ ⟨Nat.le_of_ble_eq_true rfl, Nat.le_of_ble_eq_true rfl⟩ ?_
  refine y_iconst C (0 : Int32) d5_init_67 kI_0 ?_
  refine y_istore_n C d5_init_68 (Nat.le_of_ble_eq_true rfl) rfl (L' := [some (zr (n + 0)), some (zi (0 : Int32))]) rfl ?_
  refine y_iload_n C d5_init_69 rfl ?_
  refine y_aload_n C d5_init_70 (j := 0) rfl (by decide) ?_
  refine y_getR C (kf := 0) (j1 := 1) d5_init_71 rfl (by decide) rfl (zwc1 118 rfl rfl) (by decide) (by decide) (by decide) rfl rfl ?_
  refine y_alen C (t0 := 1) (8 : Int32) d5_init_74 (by decide) (by decide) rfl rfl kO_8 ?_
  refine y_icmp_ge C d5_init_75 (fun c => absurd c (by decide)) (fun _ => ?_)
  refine y_aload_n C d5_init_78 (j := 0) rfl (by decide) ?_
  refine y_getR C (kf := 0) (j1 := 1) d5_init_79 rfl (by decide) rfl (zwc1 118 rfl rfl) (by decide) (by decide) (by decide) rfl rfl ?_
  refine y_iload_n C d5_init_82 rfl ?_
  refine y_newo C (ci := 0) d5_init_83 ⟨zwc1 32 rfl rfl, zwc1 41 rfl rfl, zwc1 4 rfl rfl⟩ rfl ty0 ty0_ok (fs := [.int 0, .int 0, .int 0, .int 0, .int 0]) yfs0 ⟨Nat.le_of_ble_eq_true rfl, Nat.le_of_ble_eq_true rfl⟩ (k' := 8) rfl ?_ (by decide)
  refine y_dup C d5_init_86 rfl ?_
  refine y_callIN C (m := 7) d5_init_87 w_42 yz0_init rfl yi0_init (k0_init x.2.1 g (n + 7) ⟨by omega, by omega⟩) rfl (by decide) rfl (Nat.le_of_ble_eq_true rfl) ⟨Nat.le_of_ble_eq_true rfl, Nat.le_of_ble_eq_true rfl⟩ ⟨Nat.le_of_ble_eq_true rfl, Nat.le_of_ble_eq_true rfl⟩ (k' := 8) rfl ?_
  refine y_astq C (κ := 11) d5_init_90 (by decide) (by decide) (by decide) (by decide) (by decide) rfl rfl rfl rfl ⟨by decide, by decide⟩ kN_0 ?_
  refine y_iinc C d5_init_91 rfl (v' := (1 : Int32)) (by decide) (Nat.le_of_ble_eq_true rfl) rfl (L' := [some (zr (n + 0)), some (zi (1 : Int32))]) rfl ?_
  refine y_goto C d5_init_94 ?_
  refine y_iload_n C d5_init_69 rfl ?_
  refine y_aload_n C d5_init_70 (j := 0) rfl (by decide) ?_
  refine y_getR C (kf := 0) (j1 := 1) d5_init_71 rfl (by decide) rfl (zwc1 118 rfl rfl) (by decide) (by decide) (by decide) rfl rfl ?_
  refine y_alen C (t0 := 1) (8 : Int32) d5_init_74 (by decide) (by decide) rfl rfl kO_8 ?_
  refine y_icmp_ge C d5_init_75 (fun c => absurd c (by decide)) (fun _ => ?_)
  refine y_aload_n C d5_init_78 (j := 0) rfl (by decide) ?_
  refine y_getR C (kf := 0) (j1 := 1) d5_init_79 rfl (by decide) rfl (zwc1 118 rfl rfl) (by decide) (by decide) (by decide) rfl rfl ?_
  refine y_iload_n C d5_init_82 rfl ?_
  refine y_newo C (ci := 0) d5_init_83 ⟨zwc1 32 rfl rfl, zwc1 41 rfl rfl, zwc1 4 rfl rfl⟩ rfl ty0 ty0_ok (fs := [.int 0, .int 0, .int 0, .int 0, .int 0]) yfs0 ⟨Nat.le_of_ble_eq_true rfl, Nat.le_of_ble_eq_true rfl⟩ (k' := 9) rfl ?_ (by decide)
  refine y_dup C d5_init_86 rfl ?_
  refine y_callIN C (m := 8) d5_init_87 w_42 yz0_init rfl yi0_init (k0_init x.2.1 g (n + 8) ⟨by omega, by omega⟩) rfl (by decide) rfl (Nat.le_of_ble_eq_true rfl) ⟨Nat.le_of_ble_eq_true rfl, Nat.le_of_ble_eq_true rfl⟩ ⟨Nat.le_of_ble_eq_true rfl, Nat.le_of_ble_eq_true rfl⟩ (k' := 9) rfl ?_
  refine y_astq C (κ := 11) d5_init_90 (by decide) (by decide) (by decide) (by decide) (by decide) rfl rfl rfl rfl ⟨by decide, by decide⟩ kN_1 ?_
  refine y_iinc C d5_init_91 rfl (v' := (2 : Int32)) (by decide) (Nat.le_of_ble_eq_true rfl) rfl (L' := [some (zr (n + 0)), some (zi (2 : Int32))]) rfl ?_
  refine y_goto C d5_init_94 ?_
  refine y_iload_n C d5_init_69 rfl ?_
  refine y_aload_n C d5_init_70 (j := 0) rfl (by decide) ?_
  refine y_getR C (kf := 0) (j1 := 1) d5_init_71 rfl (by decide) rfl (zwc1 118 rfl rfl) (by decide) (by decide) (by decide) rfl rfl ?_
  refine y_alen C (t0 := 1) (8 : Int32) d5_init_74 (by decide) (by decide) rfl rfl kO_8 ?_
  refine y_icmp_ge C d5_init_75 (fun c => absurd c (by decide)) (fun _ => ?_)
  refine y_aload_n C d5_init_78 (j := 0) rfl (by decide) ?_
  refine y_getR C (kf := 0) (j1 := 1) d5_init_79 rfl (by decide) rfl (zwc1 118 rfl rfl) (by decide) (by decide) (by decide) rfl rfl ?_
  refine y_iload_n C d5_init_82 rfl ?_
  refine y_newo C (ci := 0) d5_init_83 ⟨zwc1 32 rfl rfl, zwc1 41 rfl rfl, zwc1 4 rfl rfl⟩ rfl ty0 ty0_ok (fs := [.int 0, .int 0, .int 0, .int 0, .int 0]) yfs0 ⟨Nat.le_of_ble_eq_true rfl, Nat.le_of_ble_eq_true rfl⟩ (k' := 10) rfl ?_ (by decide)
  refine y_dup C d5_init_86 rfl ?_
  refine y_callIN C (m := 9) d5_init_87 w_42 yz0_init rfl yi0_init (k0_init x.2.1 g (n + 9) ⟨by omega, by omega⟩) rfl (by decide) rfl (Nat.le_of_ble_eq_true rfl) ⟨Nat.le_of_ble_eq_true rfl, Nat.le_of_ble_eq_true rfl⟩ ⟨Nat.le_of_ble_eq_true rfl, Nat.le_of_ble_eq_true rfl⟩ (k' := 10) rfl ?_
  refine y_astq C (κ := 11) d5_init_90 (by decide) (by decide) (by decide) (by decide) (by decide) rfl rfl rfl rfl ⟨by decide, by decide⟩ kN_2 ?_
  refine y_iinc C d5_init_91 rfl (v' := (3 : Int32)) (by decide) (Nat.le_of_ble_eq_true rfl) rfl (L' := [some (zr (n + 0)), some (zi (3 : Int32))]) rfl ?_
  refine y_goto C d5_init_94 ?_
  refine y_iload_n C d5_init_69 rfl ?_
  refine y_aload_n C d5_init_70 (j := 0) rfl (by decide) ?_
  refine y_getR C (kf := 0) (j1 := 1) d5_init_71 rfl (by decide) rfl (zwc1 118 rfl rfl) (by decide) (by decide) (by decide) rfl rfl ?_
  refine y_alen C (t0 := 1) (8 : Int32) d5_init_74 (by decide) (by decide) rfl rfl kO_8 ?_
  refine y_icmp_ge C d5_init_75 (fun c => absurd c (by decide)) (fun _ => ?_)
  refine y_aload_n C d5_init_78 (j := 0) rfl (by decide) ?_
  refine y_getR C (kf := 0) (j1 := 1) d5_init_79 rfl (by decide) rfl (zwc1 118 rfl rfl) (by decide) (by decide) (by decide) rfl rfl ?_
  refine y_iload_n C d5_init_82 rfl ?_
  refine y_newo C (ci := 0) d5_init_83 ⟨zwc1 32 rfl rfl, zwc1 41 rfl rfl, zwc1 4 rfl rfl⟩ rfl ty0 ty0_ok (fs := [.int 0, .int 0, .int 0, .int 0, .int 0]) yfs0 ⟨Nat.le_of_ble_eq_true rfl, Nat.le_of_ble_eq_true rfl⟩ (k' := 11) rfl ?_ (by decide)
  refine y_dup C d5_init_86 rfl ?_
  refine y_callIN C (m := 10) d5_init_87 w_42 yz0_init rfl yi0_init (k0_init x.2.1 g (n + 10) ⟨by omega, by omega⟩) rfl (by decide) rfl (Nat.le_of_ble_eq_true rfl) ⟨Nat.le_of_ble_eq_true rfl, Nat.le_of_ble_eq_true rfl⟩ ⟨Nat.le_of_ble_eq_true rfl, Nat.le_of_ble_eq_true rfl⟩ (k' := 11) rfl ?_
  refine y_astq C (κ := 11) d5_init_90 (by decide) (by decide) (by decide) (by decide) (by decide) rfl rfl rfl rfl ⟨by decide, by decide⟩ kN_3 ?_
  refine y_iinc C d5_init_91 rfl (v' := (4 : Int32)) (by decide) (Nat.le_of_ble_eq_true rfl) rfl (L' := [some (zr (n + 0)), some (zi (4 : Int32))]) rfl ?_
  refine y_goto C d5_init_94 ?_
  refine y_iload_n C d5_init_69 rfl ?_
  refine y_aload_n C d5_init_70 (j := 0) rfl (by decide) ?_
  refine y_getR C (kf := 0) (j1 := 1) d5_init_71 rfl (by decide) rfl (zwc1 118 rfl rfl) (by decide) (by decide) (by decide) rfl rfl ?_
  refine y_alen C (t0 := 1) (8 : Int32) d5_init_74 (by decide) (by decide) rfl rfl kO_8 ?_
  refine y_icmp_ge C d5_init_75 (fun c => absurd c (by decide)) (fun _ => ?_)
  refine y_aload_n C d5_init_78 (j := 0) rfl (by decide) ?_
  refine y_getR C (kf := 0) (j1 := 1) d5_init_79 rfl (by decide) rfl (zwc1 118 rfl rfl) (by decide) (by decide) (by decide) rfl rfl ?_
  refine y_iload_n C d5_init_82 rfl ?_
  refine y_newo C (ci := 0) d5_init_83 ⟨zwc1 32 rfl rfl, zwc1 41 rfl rfl, zwc1 4 rfl rfl⟩ rfl ty0 ty0_ok (fs := [.int 0, .int 0, .int 0, .int 0, .int 0]) yfs0 ⟨Nat.le_of_ble_eq_true rfl, Nat.le_of_ble_eq_true rfl⟩ (k' := 12) rfl ?_ (by decide)
  refine y_dup C d5_init_86 rfl ?_
  refine y_callIN C (m := 11) d5_init_87 w_42 yz0_init rfl yi0_init (k0_init x.2.1 g (n + 11) ⟨by omega, by omega⟩) rfl (by decide) rfl (Nat.le_of_ble_eq_true rfl) ⟨Nat.le_of_ble_eq_true rfl, Nat.le_of_ble_eq_true rfl⟩ ⟨Nat.le_of_ble_eq_true rfl, Nat.le_of_ble_eq_true rfl⟩ (k' := 12) rfl ?_
  refine y_astq C (κ := 11) d5_init_90 (by decide) (by decide) (by decide) (by decide) (by decide) rfl rfl rfl rfl ⟨by decide, by decide⟩ kN_4 ?_
  refine y_iinc C d5_init_91 rfl (v' := (5 : Int32)) (by decide) (Nat.le_of_ble_eq_true rfl) rfl (L' := [some (zr (n + 0)), some (zi (5 : Int32))]) rfl ?_
  refine y_goto C d5_init_94 ?_
  refine y_iload_n C d5_init_69 rfl ?_
  refine y_aload_n C d5_init_70 (j := 0) rfl (by decide) ?_
  refine y_getR C (kf := 0) (j1 := 1) d5_init_71 rfl (by decide) rfl (zwc1 118 rfl rfl) (by decide) (by decide) (by decide) rfl rfl ?_
  refine y_alen C (t0 := 1) (8 : Int32) d5_init_74 (by decide) (by decide) rfl rfl kO_8 ?_
  refine y_icmp_ge C d5_init_75 (fun c => absurd c (by decide)) (fun _ => ?_)
  refine y_aload_n C d5_init_78 (j := 0) rfl (by decide) ?_
  refine y_getR C (kf := 0) (j1 := 1) d5_init_79 rfl (by decide) rfl (zwc1 118 rfl rfl) (by decide) (by decide) (by decide) rfl rfl ?_
  refine y_iload_n C d5_init_82 rfl ?_
  refine y_newo C (ci := 0) d5_init_83 ⟨zwc1 32 rfl rfl, zwc1 41 rfl rfl, zwc1 4 rfl rfl⟩ rfl ty0 ty0_ok (fs := [.int 0, .int 0, .int 0, .int 0, .int 0]) yfs0 ⟨Nat.le_of_ble_eq_true rfl, Nat.le_of_ble_eq_true rfl⟩ (k' := 13) rfl ?_ (by decide)
  refine y_dup C d5_init_86 rfl ?_
  refine y_callIN C (m := 12) d5_init_87 w_42 yz0_init rfl yi0_init (k0_init x.2.1 g (n + 12) ⟨by omega, by omega⟩) rfl (by decide) rfl (Nat.le_of_ble_eq_true rfl) ⟨Nat.le_of_ble_eq_true rfl, Nat.le_of_ble_eq_true rfl⟩ ⟨Nat.le_of_ble_eq_true rfl, Nat.le_of_ble_eq_true rfl⟩ (k' := 13) rfl ?_
  refine y_astq C (κ := 11) d5_init_90 (by decide) (by decide) (by decide) (by decide) (by decide) rfl rfl rfl rfl ⟨by decide, by decide⟩ kN_5 ?_
  refine y_iinc C d5_init_91 rfl (v' := (6 : Int32)) (by decide) (Nat.le_of_ble_eq_true rfl) rfl (L' := [some (zr (n + 0)), some (zi (6 : Int32))]) rfl ?_
  refine y_goto C d5_init_94 ?_
  refine y_iload_n C d5_init_69 rfl ?_
  refine y_aload_n C d5_init_70 (j := 0) rfl (by decide) ?_
  refine y_getR C (kf := 0) (j1 := 1) d5_init_71 rfl (by decide) rfl (zwc1 118 rfl rfl) (by decide) (by decide) (by decide) rfl rfl ?_
  refine y_alen C (t0 := 1) (8 : Int32) d5_init_74 (by decide) (by decide) rfl rfl kO_8 ?_
  refine y_icmp_ge C d5_init_75 (fun c => absurd c (by decide)) (fun _ => ?_)
  refine y_aload_n C d5_init_78 (j := 0) rfl (by decide) ?_
  refine y_getR C (kf := 0) (j1 := 1) d5_init_79 rfl (by decide) rfl (zwc1 118 rfl rfl) (by decide) (by decide) (by decide) rfl rfl ?_
  refine y_iload_n C d5_init_82 rfl ?_
  refine y_newo C (ci := 0) d5_init_83 ⟨zwc1 32 rfl rfl, zwc1 41 rfl rfl, zwc1 4 rfl rfl⟩ rfl ty0 ty0_ok (fs := [.int 0, .int 0, .int 0, .int 0, .int 0]) yfs0 ⟨Nat.le_of_ble_eq_true rfl, Nat.le_of_ble_eq_true rfl⟩ (k' := 14) rfl ?_ (by decide)
  refine y_dup C d5_init_86 rfl ?_
  refine y_callIN C (m := 13) d5_init_87 w_42 yz0_init rfl yi0_init (k0_init x.2.1 g (n + 13) ⟨by omega, by omega⟩) rfl (by decide) rfl (Nat.le_of_ble_eq_true rfl) ⟨Nat.le_of_ble_eq_true rfl, Nat.le_of_ble_eq_true rfl⟩ ⟨Nat.le_of_ble_eq_true rfl, Nat.le_of_ble_eq_true rfl⟩ (k' := 14) rfl ?_
  refine y_astq C (κ := 11) d5_init_90 (by decide) (by decide) (by decide) (by decide) (by decide) rfl rfl rfl rfl ⟨by decide, by decide⟩ kN_6 ?_
  refine y_iinc C d5_init_91 rfl (v' := (7 : Int32)) (by decide) (Nat.le_of_ble_eq_true rfl) rfl (L' := [some (zr (n + 0)), some (zi (7 : Int32))]) rfl ?_
  refine y_goto C d5_init_94 ?_
  refine y_iload_n C d5_init_69 rfl ?_
  refine y_aload_n C d5_init_70 (j := 0) rfl (by decide) ?_
  refine y_getR C (kf := 0) (j1 := 1) d5_init_71 rfl (by decide) rfl (zwc1 118 rfl rfl) (by decide) (by decide) (by decide) rfl rfl ?_
  refine y_alen C (t0 := 1) (8 : Int32) d5_init_74 (by decide) (by decide) rfl rfl kO_8 ?_
  refine y_icmp_ge C d5_init_75 (fun c => absurd c (by decide)) (fun _ => ?_)
  refine y_aload_n C d5_init_78 (j := 0) rfl (by decide) ?_
  refine y_getR C (kf := 0) (j1 := 1) d5_init_79 rfl (by decide) rfl (zwc1 118 rfl rfl) (by decide) (by decide) (by decide) rfl rfl ?_
  refine y_iload_n C d5_init_82 rfl ?_
  refine y_newo C (ci := 0) d5_init_83 ⟨zwc1 32 rfl rfl, zwc1 41 rfl rfl, zwc1 4 rfl rfl⟩ rfl ty0 ty0_ok (fs := [.int 0, .int 0, .int 0, .int 0, .int 0]) yfs0 ⟨Nat.le_of_ble_eq_true rfl, Nat.le_of_ble_eq_true rfl⟩ (k' := 15) rfl ?_ (by decide)
  refine y_dup C d5_init_86 rfl ?_
  refine y_callIN C (m := 14) d5_init_87 w_42 yz0_init rfl yi0_init (k0_init x.2.1 g (n + 14) ⟨by omega, by omega⟩) rfl (by decide) rfl (Nat.le_of_ble_eq_true rfl) ⟨Nat.le_of_ble_eq_true rfl, Nat.le_of_ble_eq_true rfl⟩ ⟨Nat.le_of_ble_eq_true rfl, Nat.le_of_ble_eq_true rfl⟩ (k' := 15) rfl ?_
  refine y_astq C (κ := 11) d5_init_90 (by decide) (by decide) (by decide) (by decide) (by decide) rfl rfl rfl rfl ⟨by decide, by decide⟩ kN_7 ?_
  refine y_iinc C d5_init_91 rfl (v' := (8 : Int32)) (by decide) (Nat.le_of_ble_eq_true rfl) rfl (L' := [some (zr (n + 0)), some (zi (8 : Int32))]) rfl ?_
  refine y_goto C d5_init_94 ?_
  refine y_iload_n C d5_init_69 rfl ?_
  refine y_aload_n C d5_init_70 (j := 0) rfl (by decide) ?_
  refine y_getR C (kf := 0) (j1 := 1) d5_init_71 rfl (by decide) rfl (zwc1 118 rfl rfl) (by decide) (by decide) (by decide) rfl rfl ?_
  refine y_alen C (t0 := 1) (8 : Int32) d5_init_74 (by decide) (by decide) rfl rfl kO_8 ?_
  refine y_icmp_ge C d5_init_75 (fun _ => ?_) (fun c => absurd (by decide) c)
  refine y_iconst C (0 : Int32) d5_init_97 kI_0 ?_
  refine y_istore_n C d5_init_98 (Nat.le_of_ble_eq_true rfl) rfl (L' := [some (zr (n + 0)), some (zi (0 : Int32))]) rfl ?_
  refine y_iload_n C d5_init_99 rfl ?_
  refine y_aload_n C d5_init_100 (j := 0) rfl (by decide) ?_
  refine y_getR C (kf := 1) (j1 := 2) d5_init_101 rfl (by decide) rfl (zwc1 119 rfl rfl) (by decide) (by decide) (by decide) rfl rfl ?_
  refine y_alen C (t0 := 2) (6 : Int32) d5_init_104 (by decide) (by decide) rfl rfl kO_6 ?_
  refine y_icmp_ge C d5_init_105 (fun c => absurd c (by decide)) (fun _ => ?_)
  refine y_aload_n C d5_init_108 (j := 0) rfl (by decide) ?_
  refine y_getR C (kf := 1) (j1 := 2) d5_init_109 rfl (by decide) rfl (zwc1 119 rfl rfl) (by decide) (by decide) (by decide) rfl rfl ?_
  refine y_iload_n C d5_init_112 rfl ?_
  refine y_newo C (ci := 2) d5_init_113 ⟨zwc1 34 rfl rfl, zwc1 75 rfl rfl, zwc1 5 rfl rfl⟩ rfl ty2 ty2_ok (fs := [.int 0, .int 0, .int 0]) yfs2 ⟨Nat.le_of_ble_eq_true rfl, Nat.le_of_ble_eq_true rfl⟩ (k' := 16) rfl ?_ (by decide)
  refine y_dup C d5_init_116 rfl ?_
  refine y_callIN C (m := 15) d5_init_117 w_76 yz2_init rfl yi2_init (k2_init x.2.1 g (n + 15) ⟨by omega, by omega⟩) rfl (by decide) rfl (Nat.le_of_ble_eq_true rfl) ⟨Nat.le_of_ble_eq_true rfl, Nat.le_of_ble_eq_true rfl⟩ ⟨Nat.le_of_ble_eq_true rfl, Nat.le_of_ble_eq_true rfl⟩ (k' := 16) rfl ?_
  refine y_astq C (κ := 12) d5_init_120 (by decide) (by decide) (by decide) (by decide) (by decide) rfl rfl rfl rfl ⟨by decide, by decide⟩ kN_0 ?_
  refine y_iinc C d5_init_121 rfl (v' := (1 : Int32)) (by decide) (Nat.le_of_ble_eq_true rfl) rfl (L' := [some (zr (n + 0)), some (zi (1 : Int32))]) rfl ?_
  refine y_goto C d5_init_124 ?_
  refine y_iload_n C d5_init_99 rfl ?_
  refine y_aload_n C d5_init_100 (j := 0) rfl (by decide) ?_
  refine y_getR C (kf := 1) (j1 := 2) d5_init_101 rfl (by decide) rfl (zwc1 119 rfl rfl) (by decide) (by decide) (by decide) rfl rfl ?_
  refine y_alen C (t0 := 2) (6 : Int32) d5_init_104 (by decide) (by decide) rfl rfl kO_6 ?_
  refine y_icmp_ge C d5_init_105 (fun c => absurd c (by decide)) (fun _ => ?_)
  refine y_aload_n C d5_init_108 (j := 0) rfl (by decide) ?_
  refine y_getR C (kf := 1) (j1 := 2) d5_init_109 rfl (by decide) rfl (zwc1 119 rfl rfl) (by decide) (by decide) (by decide) rfl rfl ?_
  refine y_iload_n C d5_init_112 rfl ?_
  refine y_newo C (ci := 2) d5_init_113 ⟨zwc1 34 rfl rfl, zwc1 75 rfl rfl, zwc1 5 rfl rfl⟩ rfl ty2 ty2_ok (fs := [.int 0, .int 0, .int 0]) yfs2 ⟨Nat.le_of_ble_eq_true rfl, Nat.le_of_ble_eq_true rfl⟩ (k' := 17) rfl ?_ (by decide)
  refine y_dup C d5_init_116 rfl ?_
  refine y_callIN C (m := 16) d5_init_117 w_76 yz2_init rfl yi2_init (k2_init x.2.1 g (n + 16) ⟨by omega, by omega⟩) rfl (by decide) rfl (Nat.le_of_ble_eq_true rfl) ⟨Nat.le_of_ble_eq_true rfl, Nat.le_of_ble_eq_true rfl⟩ ⟨Nat.le_of_ble_eq_true rfl, Nat.le_of_ble_eq_true rfl⟩ (k' := 17) rfl ?_
  refine y_astq C (κ := 12) d5_init_120 (by decide) (by decide) (by decide) (by decide) (by decide) rfl rfl rfl rfl ⟨by decide, by decide⟩ kN_1 ?_
  refine y_iinc C d5_init_121 rfl (v' := (2 : Int32)) (by decide) (Nat.le_of_ble_eq_true rfl) rfl (L' := [some (zr (n + 0)), some (zi (2 : Int32))]) rfl ?_
  refine y_goto C d5_init_124 ?_
  refine y_iload_n C d5_init_99 rfl ?_
  refine y_aload_n C d5_init_100 (j := 0) rfl (by decide) ?_
  refine y_getR C (kf := 1) (j1 := 2) d5_init_101 rfl (by decide) rfl (zwc1 119 rfl rfl) (by decide) (by decide) (by decide) rfl rfl ?_
  refine y_alen C (t0 := 2) (6 : Int32) d5_init_104 (by decide) (by decide) rfl rfl kO_6 ?_
  refine y_icmp_ge C d5_init_105 (fun c => absurd c (by decide)) (fun _ => ?_)
  refine y_aload_n C d5_init_108 (j := 0) rfl (by decide) ?_
  refine y_getR C (kf := 1) (j1 := 2) d5_init_109 rfl (by decide) rfl (zwc1 119 rfl rfl) (by decide) (by decide) (by decide) rfl rfl ?_
  refine y_iload_n C d5_init_112 rfl ?_
  refine y_newo C (ci := 2) d5_init_113 ⟨zwc1 34 rfl rfl, zwc1 75 rfl rfl, zwc1 5 rfl rfl⟩ rfl ty2 ty2_ok (fs := [.int 0, .int 0, .int 0]) yfs2 ⟨Nat.le_of_ble_eq_true rfl, Nat.le_of_ble_eq_true rfl⟩ (k' := 18) rfl ?_ (by decide)
  refine y_dup C d5_init_116 rfl ?_
  refine y_callIN C (m := 17) d5_init_117 w_76 yz2_init rfl yi2_init (k2_init x.2.1 g (n + 17) ⟨by omega, by omega⟩) rfl (by decide) rfl (Nat.le_of_ble_eq_true rfl) ⟨Nat.le_of_ble_eq_true rfl, Nat.le_of_ble_eq_true rfl⟩ ⟨Nat.le_of_ble_eq_true rfl, Nat.le_of_ble_eq_true rfl⟩ (k' := 18) rfl ?_
  refine y_astq C (κ := 12) d5_init_120 (by decide) (by decide) (by decide) (by decide) (by decide) rfl rfl rfl rfl ⟨by decide, by decide⟩ kN_2 ?_
  refine y_iinc C d5_init_121 rfl (v' := (3 : Int32)) (by decide) (Nat.le_of_ble_eq_true rfl) rfl (L' := [some (zr (n + 0)), some (zi (3 : Int32))]) rfl ?_
  refine y_goto C d5_init_124 ?_
  refine y_iload_n C d5_init_99 rfl ?_
  refine y_aload_n C d5_init_100 (j := 0) rfl (by decide) ?_
  refine y_getR C (kf := 1) (j1 := 2) d5_init_101 rfl (by decide) rfl (zwc1 119 rfl rfl) (by decide) (by decide) (by decide) rfl rfl ?_
  refine y_alen C (t0 := 2) (6 : Int32) d5_init_104 (by decide) (by decide) rfl rfl kO_6 ?_
  refine y_icmp_ge C d5_init_105 (fun c => absurd c (by decide)) (fun _ => ?_)
  refine y_aload_n C d5_init_108 (j := 0) rfl (by decide) ?_
  refine y_getR C (kf := 1) (j1 := 2) d5_init_109 rfl (by decide) rfl (zwc1 119 rfl rfl) (by decide) (by decide) (by decide) rfl rfl ?_
  refine y_iload_n C d5_init_112 rfl ?_
  refine y_newo C (ci := 2) d5_init_113 ⟨zwc1 34 rfl rfl, zwc1 75 rfl rfl, zwc1 5 rfl rfl⟩ rfl ty2 ty2_ok (fs := [.int 0, .int 0, .int 0]) yfs2 ⟨Nat.le_of_ble_eq_true rfl, Nat.le_of_ble_eq_true rfl⟩ (k' := 19) rfl ?_ (by decide)
  refine y_dup C d5_init_116 rfl ?_
  refine y_callIN C (m := 18) d5_init_117 w_76 yz2_init rfl yi2_init (k2_init x.2.1 g (n + 18) ⟨by omega, by omega⟩) rfl (by decide) rfl (Nat.le_of_ble_eq_true rfl) ⟨Nat.le_of_ble_eq_true rfl, Nat.le_of_ble_eq_true rfl⟩ ⟨Nat.le_of_ble_eq_true rfl, Nat.le_of_ble_eq_true rfl⟩ (k' := 19) rfl ?_
  refine y_astq C (κ := 12) d5_init_120 (by decide) (by decide) (by decide) (by decide) (by decide) rfl rfl rfl rfl ⟨by decide, by decide⟩ kN_3 ?_
  refine y_iinc C d5_init_121 rfl (v' := (4 : Int32)) (by decide) (Nat.le_of_ble_eq_true rfl) rfl (L' := [some (zr (n + 0)), some (zi (4 : Int32))]) rfl ?_
  refine y_goto C d5_init_124 ?_
  refine y_iload_n C d5_init_99 rfl ?_
  refine y_aload_n C d5_init_100 (j := 0) rfl (by decide) ?_
  refine y_getR C (kf := 1) (j1 := 2) d5_init_101 rfl (by decide) rfl (zwc1 119 rfl rfl) (by decide) (by decide) (by decide) rfl rfl ?_
  refine y_alen C (t0 := 2) (6 : Int32) d5_init_104 (by decide) (by decide) rfl rfl kO_6 ?_
  refine y_icmp_ge C d5_init_105 (fun c => absurd c (by decide)) (fun _ => ?_)
  refine y_aload_n C d5_init_108 (j := 0) rfl (by decide) ?_
  refine y_getR C (kf := 1) (j1 := 2) d5_init_109 rfl (by decide) rfl (zwc1 119 rfl rfl) (by decide) (by decide) (by decide) rfl rfl ?_
  refine y_iload_n C d5_init_112 rfl ?_
  refine y_newo C (ci := 2) d5_init_113 ⟨zwc1 34 rfl rfl, zwc1 75 rfl rfl, zwc1 5 rfl rfl⟩ rfl ty2 ty2_ok (fs := [.int 0, .int 0, .int 0]) yfs2 ⟨Nat.le_of_ble_eq_true rfl, Nat.le_of_ble_eq_true rfl⟩ (k' := 20) rfl ?_ (by decide)
  refine y_dup C d5_init_116 rfl ?_
  refine y_callIN C (m := 19) d5_init_117 w_76 yz2_init rfl yi2_init (k2_init x.2.1 g (n + 19) ⟨by omega, by omega⟩) rfl (by decide) rfl (Nat.le_of_ble_eq_true rfl) ⟨Nat.le_of_ble_eq_true rfl, Nat.le_of_ble_eq_true rfl⟩ ⟨Nat.le_of_ble_eq_true rfl, Nat.le_of_ble_eq_true rfl⟩ (k' := 20) rfl ?_
  refine y_astq C (κ := 12) d5_init_120 (by decide) (by decide) (by decide) (by decide) (by decide) rfl rfl rfl rfl ⟨by decide, by decide⟩ kN_4 ?_
  refine y_iinc C d5_init_121 rfl (v' := (5 : Int32)) (by decide) (Nat.le_of_ble_eq_true rfl) rfl (L' := [some (zr (n + 0)), some (zi (5 : Int32))]) rfl ?_
  refine y_goto C d5_init_124 ?_
  refine y_iload_n C d5_init_99 rfl ?_
  refine y_aload_n C d5_init_100 (j := 0) rfl (by decide) ?_
  refine y_getR C (kf := 1) (j1 := 2) d5_init_101 rfl (by decide) rfl (zwc1 119 rfl rfl) (by decide) (by decide) (by decide) rfl rfl ?_
  refine y_alen C (t0 := 2) (6 : Int32) d5_init_104 (by decide) (by decide) rfl rfl kO_6 ?_
  refine y_icmp_ge C d5_init_105 (fun c => absurd c (by decide)) (fun _ => ?_)
  refine y_aload_n C d5_init_108 (j := 0) rfl (by decide) ?_
  refine y_getR C (kf := 1) (j1 := 2) d5_init_109 rfl (by decide) rfl (zwc1 119 rfl rfl) (by decide) (by decide) (by decide) rfl rfl ?_
  refine y_iload_n C d5_init_112 rfl ?_
  refine y_newo C (ci := 2) d5_init_113 ⟨zwc1 34 rfl rfl, zwc1 75 rfl rfl, zwc1 5 rfl rfl⟩ rfl ty2 ty2_ok (fs := [.int 0, .int 0, .int 0]) yfs2 ⟨Nat.le_of_ble_eq_true rfl, Nat.le_of_ble_eq_true rfl⟩ (k' := 21) rfl ?_ (by decide)
  refine y_dup C d5_init_116 rfl ?_
  refine y_callIN C (m := 20) d5_init_117 w_76 yz2_init rfl yi2_init (k2_init x.2.1 g (n + 20) ⟨by omega, by omega⟩) rfl (by decide) rfl (Nat.le_of_ble_eq_true rfl) ⟨Nat.le_of_ble_eq_true rfl, Nat.le_of_ble_eq_true rfl⟩ ⟨Nat.le_of_ble_eq_true rfl, Nat.le_of_ble_eq_true rfl⟩ (k' := 21) rfl ?_
  refine y_astq C (κ := 12) d5_init_120 (by decide) (by decide) (by decide) (by decide) (by decide) rfl rfl rfl rfl ⟨by decide, by decide⟩ kN_5 ?_
  refine y_iinc C d5_init_121 rfl (v' := (6 : Int32)) (by decide) (Nat.le_of_ble_eq_true rfl) rfl (L' := [some (zr (n + 0)), some (zi (6 : Int32))]) rfl ?_
  refine y_goto C d5_init_124 ?_
  refine y_iload_n C d5_init_99 rfl ?_
  refine y_aload_n C d5_init_100 (j := 0) rfl (by decide) ?_
  refine y_getR C (kf := 1) (j1 := 2) d5_init_101 rfl (by decide) rfl (zwc1 119 rfl rfl) (by decide) (by decide) (by decide) rfl rfl ?_
  refine y_alen C (t0 := 2) (6 : Int32) d5_init_104 (by decide) (by decide) rfl rfl kO_6 ?_
  refine y_icmp_ge C d5_init_105 (fun _ => ?_) (fun c => absurd (by decide) c)
  refine y_iconst C (0 : Int32) d5_init_127 kI_0 ?_
  refine y_istore_n C d5_init_128 (Nat.le_of_ble_eq_true rfl) rfl (L' := [some (zr (n + 0)), some (zi (0 : Int32))]) rfl ?_
  refine y_iload_n C d5_init_129 rfl ?_
  refine y_aload_n C d5_init_130 (j := 0) rfl (by decide) ?_
  refine y_getR C (kf := 2) (j1 := 3) d5_init_131 rfl (by decide) rfl (zwc1 120 rfl rfl) (by decide) (by decide) (by decide) rfl rfl ?_
  refine y_alen C (t0 := 3) (2 : Int32) d5_init_134 (by decide) (by decide) rfl rfl kO_2 ?_
  refine y_icmp_ge C d5_init_135 (fun c => absurd c (by decide)) (fun _ => ?_)
  refine y_aload_n C d5_init_138 (j := 0) rfl (by decide) ?_
  refine y_getR C (kf := 2) (j1 := 3) d5_init_139 rfl (by decide) rfl (zwc1 120 rfl rfl) (by decide) (by decide) (by decide) rfl rfl ?_
  refine y_iload_n C d5_init_142 rfl ?_
  refine y_newo C (ci := 6) d5_init_143 ⟨zwc1 36 rfl rfl, zwc1 96 rfl rfl, zwc1 6 rfl rfl⟩ rfl ty6 ty6_ok (fs := [.null, .null, .int 0, .int 0]) yfs6 ⟨Nat.le_of_ble_eq_true rfl, Nat.le_of_ble_eq_true rfl⟩ (k' := 22) rfl ?_ (by decide)
  refine y_dup C d5_init_146 rfl ?_
  refine y_callIN C (m := 21) d5_init_147 w_97 yz6_init rfl yi6_init (k6_init x.2.1 g (n + 21) ⟨by omega, by omega⟩) rfl (by decide) rfl (Nat.le_of_ble_eq_true rfl) ⟨Nat.le_of_ble_eq_true rfl, Nat.le_of_ble_eq_true rfl⟩ ⟨Nat.le_of_ble_eq_true rfl, Nat.le_of_ble_eq_true rfl⟩ (k' := 24) rfl ?_
  refine y_astq C (κ := 13) d5_init_150 (by decide) (by decide) (by decide) (by decide) (by decide) rfl rfl rfl rfl ⟨by decide, by decide⟩ kN_0 ?_
  refine y_iinc C d5_init_151 rfl (v' := (1 : Int32)) (by decide) (Nat.le_of_ble_eq_true rfl) rfl (L' := [some (zr (n + 0)), some (zi (1 : Int32))]) rfl ?_
  refine y_goto C d5_init_154 ?_
  refine y_iload_n C d5_init_129 rfl ?_
  refine y_aload_n C d5_init_130 (j := 0) rfl (by decide) ?_
  refine y_getR C (kf := 2) (j1 := 3) d5_init_131 rfl (by decide) rfl (zwc1 120 rfl rfl) (by decide) (by decide) (by decide) rfl rfl ?_
  refine y_alen C (t0 := 3) (2 : Int32) d5_init_134 (by decide) (by decide) rfl rfl kO_2 ?_
  refine y_icmp_ge C d5_init_135 (fun c => absurd c (by decide)) (fun _ => ?_)
  refine y_aload_n C d5_init_138 (j := 0) rfl (by decide) ?_
  refine y_getR C (kf := 2) (j1 := 3) d5_init_139 rfl (by decide) rfl (zwc1 120 rfl rfl) (by decide) (by decide) (by decide) rfl rfl ?_
  refine y_iload_n C d5_init_142 rfl ?_
  refine y_newo C (ci := 6) d5_init_143 ⟨zwc1 36 rfl rfl, zwc1 96 rfl rfl, zwc1 6 rfl rfl⟩ rfl ty6 ty6_ok (fs := [.null, .null, .int 0, .int 0]) yfs6 ⟨Nat.le_of_ble_eq_true rfl, Nat.le_of_ble_eq_true rfl⟩ (k' := 25) rfl ?_ (by decide)
  refine y_dup C d5_init_146 rfl ?_
  refine y_callIN C (m := 24) d5_init_147 w_97 yz6_init rfl yi6_init (k6_init x.2.1 g (n + 24) ⟨by omega, by omega⟩) rfl (by decide) rfl (Nat.le_of_ble_eq_true rfl) ⟨Nat.le_of_ble_eq_true rfl, Nat.le_of_ble_eq_true rfl⟩ ⟨Nat.le_of_ble_eq_true rfl, Nat.le_of_ble_eq_true rfl⟩ (k' := 27) rfl ?_
  refine y_astq C (κ := 13) d5_init_150 (by decide) (by decide) (by decide) (by decide) (by decide) rfl rfl rfl rfl ⟨by decide, by decide⟩ kN_1 ?_
  refine y_iinc C d5_init_151 rfl (v' := (2 : Int32)) (by decide) (Nat.le_of_ble_eq_true rfl) rfl (L' := [some (zr (n + 0)), some (zi (2 : Int32))]) rfl ?_
  refine y_goto C d5_init_154 ?_
  refine y_iload_n C d5_init_129 rfl ?_
  refine y_aload_n C d5_init_130 (j := 0) rfl (by decide) ?_
  refine y_getR C (kf := 2) (j1 := 3) d5_init_131 rfl (by decide) rfl (zwc1 120 rfl rfl) (by decide) (by decide) (by decide) rfl rfl ?_
  refine y_alen C (t0 := 3) (2 : Int32) d5_init_134 (by decide) (by decide) rfl rfl kO_2 ?_
  refine y_icmp_ge C d5_init_135 (fun _ => ?_) (fun c => absurd (by decide) c)
  exact y_vret C d5_init_157 rfl (fun j hj => by
    match j, hj with
    | 0, _ => rfl
    | 1, _ => rfl
    | 2, _ => rfl
    | 3, _ => rfl
    | 4, _ => rfl
    | 5, _ => rfl
    | 6, _ => rfl
    | 7, _ => rfl
    | 8, _ => rfl
    | 9, _ => rfl
    | 10, _ => rfl
    | 11, _ => rfl
    | 12, _ => rfl
    | 13, _ => rfl
    | 14, _ => rfl
    | 15, _ => rfl
    | 16, _ => rfl
    | 17, _ => rfl
    | 18, _ => rfl
    | 19, _ => rfl
    | 20, _ => rfl
    | 21, _ => rfl
    | 22, _ => rfl
    | 23, _ => rfl
    | 24, _ => rfl
    | 25, _ => rfl
    | 26, _ => rfl
    | j + 27, h => exact absurd h (by omega)) rfl rfl
theorem yz8_init : zY y8_init b8_init 2 none 0 := ⟨zwc1 22 rfl rfl, zwc1 1 rfl rfl, ⟨by decide +kernel, by decide +kernel⟩, by decide +kernel⟩
theorem yi8_init : Cond.instanceMethod y8_init ∈ lw_gd := zwc1 21 rfl rfl
theorem d8_init_0 : zd b8_init 0 (.aload_n 0) 1 1 := ⟨by decide +kernel, rfl⟩
theorem d8_init_1 : zd b8_init 1 (.invokespecial 1) 3 4 := ⟨by decide +kernel, rfl⟩
theorem d8_init_4 : zd b8_init 4 (.aload_n 0) 1 5 := ⟨by decide +kernel, rfl⟩
theorem d8_init_5 : zd b8_init 5 (.new 7) 3 8 := ⟨by decide +kernel, rfl⟩
theorem d8_init_8 : zd b8_init 8 .dup 1 9 := ⟨by decide +kernel, rfl⟩
theorem d8_init_9 : zd b8_init 9 (.invokespecial 9) 3 12 := ⟨by decide +kernel, rfl⟩
theorem d8_init_12 : zd b8_init 12 (.putfield 10) 3 15 := ⟨by decide +kernel, rfl⟩
theorem d8_init_15 : zd b8_init 15 (.aload_n 0) 1 16 := ⟨by decide +kernel, rfl⟩
theorem d8_init_16 : zd b8_init 16 (.new 7) 3 19 := ⟨by decide +kernel, rfl⟩
theorem d8_init_19 : zd b8_init 19 .dup 1 20 := ⟨by decide +kernel, rfl⟩
theorem d8_init_20 : zd b8_init 20 (.invokespecial 9) 3 23 := ⟨by decide +kernel, rfl⟩
theorem d8_init_23 : zd b8_init 23 (.putfield 16) 3 26 := ⟨by decide +kernel, rfl⟩
theorem d8_init_26 : zd b8_init 26 (.aload_n 0) 1 27 := ⟨by decide +kernel, rfl⟩
theorem d8_init_27 : zd b8_init 27 (.new 7) 3 30 := ⟨by decide +kernel, rfl⟩
theorem d8_init_30 : zd b8_init 30 .dup 1 31 := ⟨by decide +kernel, rfl⟩
theorem d8_init_31 : zd b8_init 31 (.invokespecial 9) 3 34 := ⟨by decide +kernel, rfl⟩
theorem d8_init_34 : zd b8_init 34 (.putfield 19) 3 37 := ⟨by decide +kernel, rfl⟩
theorem d8_init_37 : zd b8_init 37 (.aload_n 0) 1 38 := ⟨by decide +kernel, rfl⟩
theorem d8_init_38 : zd b8_init 38 (.new 22) 3 41 := ⟨by decide +kernel, rfl⟩
theorem d8_init_41 : zd b8_init 41 .dup 1 42 := ⟨by decide +kernel, rfl⟩
theorem d8_init_42 : zd b8_init 42 (.invokespecial 24) 3 45 := ⟨by decide +kernel, rfl⟩
theorem d8_init_45 : zd b8_init 45 (.putfield 25) 3 48 := ⟨by decide +kernel, rfl⟩
theorem d8_init_48 : zd b8_init 48 (.aload_n 0) 1 49 := ⟨by decide +kernel, rfl⟩
theorem d8_init_49 : zd b8_init 49 (.new 29) 3 52 := ⟨by decide +kernel, rfl⟩
theorem d8_init_52 : zd b8_init 52 .dup 1 53 := ⟨by decide +kernel, rfl⟩
theorem d8_init_53 : zd b8_init 53 (.invokespecial 31) 3 56 := ⟨by decide +kernel, rfl⟩
theorem d8_init_56 : zd b8_init 56 (.putfield 32) 3 59 := ⟨by decide +kernel, rfl⟩
theorem d8_init_59 : zd b8_init 59 (.aload_n 0) 1 60 := ⟨by decide +kernel, rfl⟩
theorem d8_init_60 : zd b8_init 60 (.new 36) 3 63 := ⟨by decide +kernel, rfl⟩
theorem d8_init_63 : zd b8_init 63 .dup 1 64 := ⟨by decide +kernel, rfl⟩
theorem d8_init_64 : zd b8_init 64 (.invokespecial 38) 3 67 := ⟨by decide +kernel, rfl⟩
theorem d8_init_67 : zd b8_init 67 (.putfield 39) 3 70 := ⟨by decide +kernel, rfl⟩
theorem d8_init_70 : zd b8_init 70 (.aload_n 0) 1 71 := ⟨by decide +kernel, rfl⟩
theorem d8_init_71 : zd b8_init 71 (.iconst 4) 1 72 := ⟨by decide +kernel, rfl⟩
theorem d8_init_72 : zd b8_init 72 (.anewarray 43) 3 75 := ⟨by decide +kernel, rfl⟩
theorem d8_init_75 : zd b8_init 75 (.putfield 45) 3 78 := ⟨by decide +kernel, rfl⟩
theorem d8_init_78 : zd b8_init 78 (.aload_n 0) 1 79 := ⟨by decide +kernel, rfl⟩
theorem d8_init_79 : zd b8_init 79 (.iconst 4) 1 80 := ⟨by decide +kernel, rfl⟩
theorem d8_init_80 : zd b8_init 80 (.newarray .int) 2 82 := ⟨by decide +kernel, rfl⟩
theorem d8_init_82 : zd b8_init 82 (.putfield 49) 3 85 := ⟨by decide +kernel, rfl⟩
theorem d8_init_85 : zd b8_init 85 (.aload_n 0) 1 86 := ⟨by decide +kernel, rfl⟩
theorem d8_init_86 : zd b8_init 86 (.bipush 7) 2 88 := ⟨by decide +kernel, rfl⟩
theorem d8_init_88 : zd b8_init 88 (.newarray .int) 2 90 := ⟨by decide +kernel, rfl⟩
theorem d8_init_90 : zd b8_init 90 (.putfield 53) 3 93 := ⟨by decide +kernel, rfl⟩
theorem d8_init_93 : zd b8_init 93 (.iconst 0) 1 94 := ⟨by decide +kernel, rfl⟩
theorem d8_init_94 : zd b8_init 94 (.istore_n 1) 1 95 := ⟨by decide +kernel, rfl⟩
theorem d8_init_95 : zd b8_init 95 (.iload_n 1) 1 96 := ⟨by decide +kernel, rfl⟩
theorem d8_init_96 : zd b8_init 96 (.iconst 4) 1 97 := ⟨by decide +kernel, rfl⟩
theorem d8_init_97 : zdb b8_init 97 (.if_icmp .ge 22) 22 100 119 := ⟨by decide +kernel, rfl, by decide⟩
theorem d8_init_100 : zd b8_init 100 (.aload_n 0) 1 101 := ⟨by decide +kernel, rfl⟩
theorem d8_init_101 : zd b8_init 101 (.getfield 45) 3 104 := ⟨by decide +kernel, rfl⟩
theorem d8_init_104 : zd b8_init 104 (.iload_n 1) 1 105 := ⟨by decide +kernel, rfl⟩
theorem d8_init_105 : zd b8_init 105 (.new 43) 3 108 := ⟨by decide +kernel, rfl⟩
theorem d8_init_108 : zd b8_init 108 .dup 1 109 := ⟨by decide +kernel, rfl⟩
theorem d8_init_109 : zd b8_init 109 (.invokespecial 56) 3 112 := ⟨by decide +kernel, rfl⟩
theorem d8_init_112 : zd b8_init 112 .aastore 1 113 := ⟨by decide +kernel, rfl⟩
theorem d8_init_113 : zd b8_init 113 (.iinc 1 1) 3 116 := ⟨by decide +kernel, rfl⟩
theorem d8_init_116 : zdb b8_init 116 (.goto (-21)) (-21) 119 95 := ⟨by decide +kernel, rfl, by decide⟩
theorem d8_init_119 : zd b8_init 119 .return_ 1 120 := ⟨by decide +kernel, rfl⟩
def yF8 (g : ZG) (n : Nat) : Nat → va_E := (yu (yj (yu (yu (yj (yu (yu (yj (yu (yu (yj (yu (yu (yu (yu (yu (yu (yu (yu (yj (yu (yu (yj (yu (yu (yj (yu (yu (yj (yu (yu (yj (yu (yu (yj (yu (fun _ => .inr (8, [.null, .null, .null, .null, .null, .null, .null, .null, .null, .int 0, .int 0])) 1 (.inr (5, [.null, .null, .null, .null, .null, .null, .int 0, .int 0, .int 0, .int 0, .int 0, .int 0]))) 1 (yF5 g (n + 1))) 0 (.inr (8, [.ref (g.1 + (n + 1)), .null, .null, .null, .null, .null, .null, .null, .null, .int 0, .int 0]))) 28 (.inr (5, [.null, .null, .null, .null, .null, .null, .int 0, .int 0, .int 0, .int 0, .int 0, .int 0]))) 28 (yF5 g (n + 28))) 0 (.inr (8, [.ref (g.1 + (n + 1)), .ref (g.1 + (n + 28)), .null, .null, .null, .null, .null, .null, .null, .int 0, .int 0]))) 55 (.inr (5, [.null, .null, .null, .null, .null, .null, .int 0, .int 0, .int 0, .int 0, .int 0, .int 0]))) 55 (yF5 g (n + 55))) 0 (.inr (8, [.ref (g.1 + (n + 1)), .ref (g.1 + (n + 28)), .ref (g.1 + (n + 55)), .null, .null, .null, .null, .null, .null, .int 0, .int 0]))) 82 (.inr (1, [.null, .null, .int 0, .int 0, .int 0]))) 82 (yF1 g (n + 82))) 0 (.inr (8, [.ref (g.1 + (n + 1)), .ref (g.1 + (n + 28)), .ref (g.1 + (n + 55)), .ref (g.1 + (n + 82)), .null, .null, .null, .null, .null, .int 0, .int 0]))) 85 (.inr (3, [.null, .null, .int 0, .int 0, .int 0]))) 85 (yF3 g (n + 85))) 0 (.inr (8, [.ref (g.1 + (n + 1)), .ref (g.1 + (n + 28)), .ref (g.1 + (n + 55)), .ref (g.1 + (n + 82)), .ref (g.1 + (n + 85)), .null, .null, .null, .null, .int 0, .int 0]))) 89 (.inr (7, [.null, .int 0, .int 0, .int 0, .int 0, .int 0]))) 89 (yF7 g (n + 89))) 0 (.inr (8, [.ref (g.1 + (n + 1)), .ref (g.1 + (n + 28)), .ref (g.1 + (n + 55)), .ref (g.1 + (n + 82)), .ref (g.1 + (n + 85)), .ref (g.1 + (n + 89)), .null, .null, .null, .int 0, .int 0]))) 91 (.inl (g.2.2.1 4, 4, .inr (.inr (.inr (.inr (fun _ => none))))))) 0 (.inr (8, [.ref (g.1 + (n + 1)), .ref (g.1 + (n + 28)), .ref (g.1 + (n + 55)), .ref (g.1 + (n + 82)), .ref (g.1 + (n + 85)), .ref (g.1 + (n + 89)), .ref (g.1 + (n + 91)), .null, .null, .int 0, .int 0]))) 92 (.inl (g.2.2.1 0, 4, .inl (fun _ => 0)))) 0 (.inr (8, [.ref (g.1 + (n + 1)), .ref (g.1 + (n + 28)), .ref (g.1 + (n + 55)), .ref (g.1 + (n + 82)), .ref (g.1 + (n + 85)), .ref (g.1 + (n + 89)), .ref (g.1 + (n + 91)), .ref (g.1 + (n + 92)), .null, .int 0, .int 0]))) 93 (.inl (g.2.2.1 0, 7, .inl (fun _ => 0)))) 0 (.inr (8, [.ref (g.1 + (n + 1)), .ref (g.1 + (n + 28)), .ref (g.1 + (n + 55)), .ref (g.1 + (n + 82)), .ref (g.1 + (n + 85)), .ref (g.1 + (n + 89)), .ref (g.1 + (n + 91)), .ref (g.1 + (n + 92)), .ref (g.1 + (n + 93)), .int 0, .int 0]))) 94 (.inr (4, [.null, .int 0, .int 0]))) 94 (yF4 g (n + 94))) 91 (.inl (g.2.2.1 4, 4, .inr (.inr (.inr (.inr (va_up (fun _ => none) 0 (some (g.1 + (n + 94)))))))))) 96 (.inr (4, [.null, .int 0, .int 0]))) 96 (yF4 g (n + 96))) 91 (.inl (g.2.2.1 4, 4, .inr (.inr (.inr (.inr (va_up (va_up (fun _ => none) 0 (some (g.1 + (n + 94)))) 1 (some (g.1 + (n + 96)))))))))) 98 (.inr (4, [.null, .int 0, .int 0]))) 98 (yF4 g (n + 98))) 91 (.inl (g.2.2.1 4, 4, .inr (.inr (.inr (.inr (va_up (va_up (va_up (fun _ => none) 0 (some (g.1 + (n + 94)))) 1 (some (g.1 + (n + 96)))) 2 (some (g.1 + (n + 98)))))))))) 100 (.inr (4, [.null, .int 0, .int 0]))) 100 (yF4 g (n + 100))) 91 (.inl (g.2.2.1 4, 4, .inr (.inr (.inr (.inr (va_up (va_up (va_up (va_up (fun _ => none) 0 (some (g.1 + (n + 94)))) 1 (some (g.1 + (n + 96)))) 2 (some (g.1 + (n + 98)))) 3 (some (g.1 + (n + 100))))))))))
theorem k8_init (l : Launch) (g : ZG) (n : Nat) (hn : 0 < n ∧ n < 4) : yT l g y8_init b8_init 2 3 104 101 2253 n [zr (n + 0)] (fun _ => .inr (8, [.null, .null, .null, .null, .null, .null, .null, .null, .null, .int 0, .int 0])) 1 (yF8 g n) 102 := by
  refine yT_start (own := R8) rfl (by decide +kernel) ⟨by omega, by omega⟩ 1 (L := [some (zr (n + 0)), none]) rfl rfl (fun x hl C hi => ?_)
  subst hl
  refine y_aload_n C d8_init_0 (j := 0) rfl (by decide) ?_
  refine y_obj C (j := 0) d8_init_1 w_23 yobw (by decide) rfl ⟨Nat.le_of_ble_eq_true rfl, Nat.le_of_ble_eq_true rfl⟩ ?_
  refine y_aload_n C d8_init_4 (j := 0) rfl (by decide) ?_
  refine y_newo C (ci := 5) d8_init_5 ⟨zwc1 26 rfl rfl, zwc1 27 rfl rfl, zwc1 2 rfl rfl⟩ rfl ty5 ty5_ok (fs := [.null, .null, .null, .null, .null, .null, .int 0, .int 0, .int 0, .int 0, .int 0, .int 0]) yfs5 ⟨Nat.le_of_ble_eq_true rfl, Nat.le_of_ble_eq_true rfl⟩ (k' := 2) rfl ?_ (by decide)
  refine y_dup C d8_init_8 rfl ?_
  refine y_callI C (m := 1) d8_init_9 w_28 yz5_init rfl yi5_init (k5_init x.2.1 g (n + 1) ⟨by omega, by omega⟩) rfl (by decide) rfl (Nat.le_of_ble_eq_true rfl) ⟨Nat.le_of_ble_eq_true rfl, Nat.le_of_ble_eq_true rfl⟩ ⟨Nat.le_of_ble_eq_true rfl, Nat.le_of_ble_eq_true rfl⟩ (k' := 28) rfl ?_
  refine y_putF C (kf := 0) (jw := 1) d8_init_12 hi rfl (by decide) rfl (zwc2 21 rfl rfl) rfl (ty8_ok 0 (by decide)) (fun _ => rfl) (fun _ => rfl) (by decide) (by decide) (by decide) rfl (fs' := [.ref (g.1 + (n + 1)), .null, .null, .null, .null, .null, .null, .null, .null, .int 0, .int 0]) rfl (Nat.le_of_ble_eq_true rfl) ?_
  refine y_aload_n C d8_init_15 (j := 0) rfl (by decide) ?_
  refine y_newo C (ci := 5) d8_init_16 ⟨zwc1 26 rfl rfl, zwc1 27 rfl rfl, zwc1 2 rfl rfl⟩ rfl ty5 ty5_ok (fs := [.null, .null, .null, .null, .null, .null, .int 0, .int 0, .int 0, .int 0, .int 0, .int 0]) yfs5 ⟨Nat.le_of_ble_eq_true rfl, Nat.le_of_ble_eq_true rfl⟩ (k' := 29) rfl ?_ (by decide)
  refine y_dup C d8_init_19 rfl ?_
  refine y_callI C (m := 28) d8_init_20 w_28 yz5_init rfl yi5_init (k5_init x.2.1 g (n + 28) ⟨by omega, by omega⟩) rfl (by decide) rfl (Nat.le_of_ble_eq_true rfl) ⟨Nat.le_of_ble_eq_true rfl, Nat.le_of_ble_eq_true rfl⟩ ⟨Nat.le_of_ble_eq_true rfl, Nat.le_of_ble_eq_true rfl⟩ (k' := 55) rfl ?_
  refine y_putF C (kf := 1) (jw := 28) d8_init_23 hi rfl (by decide) rfl (zwc2 22 rfl rfl) rfl (ty8_ok 1 (by decide)) (fun _ => rfl) (fun _ => rfl) (by decide) (by decide) (by decide) rfl (fs' := [.ref (g.1 + (n + 1)), .ref (g.1 + (n + 28)), .null, .null, .null, .null, .null, .null, .null, .int 0, .int 0]) rfl (Nat.le_of_ble_eq_true rfl) ?_
  refine y_aload_n C d8_init_26 (j := 0) rfl (by decide) ?_
  refine y_newo C (ci := 5) d8_init_27 ⟨zwc1 26 rfl rfl, zwc1 27 rfl rfl, zwc1 2 rfl rfl⟩ rfl ty5 ty5_ok (fs := [.null, .null, .null, .null, .null, .null, .int 0, .int 0, .int 0, .int 0, .int 0, .int 0]) yfs5 ⟨Nat.le_of_ble_eq_true rfl, Nat.le_of_ble_eq_true rfl⟩ (k' := 56) rfl ?_ (by decide)
  refine y_dup C d8_init_30 rfl ?_
  refine y_callI C (m := 55) d8_init_31 w_28 yz5_init rfl yi5_init (k5_init x.2.1 g (n + 55) ⟨by omega, by omega⟩) rfl (by decide) rfl (Nat.le_of_ble_eq_true rfl) ⟨Nat.le_of_ble_eq_true rfl, Nat.le_of_ble_eq_true rfl⟩ ⟨Nat.le_of_ble_eq_true rfl, Nat.le_of_ble_eq_true rfl⟩ (k' := 82) rfl ?_
  refine y_putF C (kf := 2) (jw := 55) d8_init_34 hi rfl (by decide) rfl (zwc2 23 rfl rfl) rfl (ty8_ok 2 (by decide)) (fun _ => rfl) (fun _ => rfl) (by decide) (by decide) (by decide) rfl (fs' := [.ref (g.1 + (n + 1)), .ref (g.1 + (n + 28)), .ref (g.1 + (n + 55)), .null, .null, .null, .null, .null, .null, .int 0, .int 0]) rfl (Nat.le_of_ble_eq_true rfl) ?_
  refine y_aload_n C d8_init_37 (j := 0) rfl (by decide) ?_
  refine y_newo C (ci := 1) d8_init_38 ⟨zwc1 162 rfl rfl, zwc1 163 rfl rfl, zwc1 7 rfl rfl⟩ rfl ty1 ty1_ok (fs := [.null, .null, .int 0, .int 0, .int 0]) yfs1 ⟨Nat.le_of_ble_eq_true rfl, Nat.le_of_ble_eq_true rfl⟩ (k' := 83) rfl ?_ (by decide)
  refine y_dup C d8_init_41 rfl ?_
  refine y_callIN C (m := 82) d8_init_42 w_164 yz1_init rfl yi1_init (k1_init x.2.1 g (n + 82) ⟨by omega, by omega⟩) rfl (by decide) rfl (Nat.le_of_ble_eq_true rfl) ⟨Nat.le_of_ble_eq_true rfl, Nat.le_of_ble_eq_true rfl⟩ ⟨Nat.le_of_ble_eq_true rfl, Nat.le_of_ble_eq_true rfl⟩ (k' := 85) rfl ?_
  refine y_putF C (kf := 3) (jw := 82) d8_init_45 hi rfl (by decide) rfl (zwc2 24 rfl rfl) rfl (ty8_ok 3 (by decide)) (fun _ => rfl) (fun _ => rfl) (by decide) (by decide) (by decide) rfl (fs' := [.ref (g.1 + (n + 1)), .ref (g.1 + (n + 28)), .ref (g.1 + (n + 55)), .ref (g.1 + (n + 82)), .null, .null, .null, .null, .null, .int 0, .int 0]) rfl (Nat.le_of_ble_eq_true rfl) ?_
  refine y_aload_n C d8_init_48 (j := 0) rfl (by decide) ?_
  refine y_newo C (ci := 3) d8_init_49 ⟨zwc1 189 rfl rfl, zwc1 190 rfl rfl, zwc1 8 rfl rfl⟩ rfl ty3 ty3_ok (fs := [.null, .null, .int 0, .int 0, .int 0]) yfs3 ⟨Nat.le_of_ble_eq_true rfl, Nat.le_of_ble_eq_true rfl⟩ (k' := 86) rfl ?_ (by decide)
  refine y_dup C d8_init_52 rfl ?_
  refine y_callIN C (m := 85) d8_init_53 w_191 yz3_init rfl yi3_init (k3_init x.2.1 g (n + 85) ⟨by omega, by omega⟩) rfl (by decide) rfl (Nat.le_of_ble_eq_true rfl) ⟨Nat.le_of_ble_eq_true rfl, Nat.le_of_ble_eq_true rfl⟩ ⟨Nat.le_of_ble_eq_true rfl, Nat.le_of_ble_eq_true rfl⟩ (k' := 89) rfl ?_
  refine y_putF C (kf := 4) (jw := 85) d8_init_56 hi rfl (by decide) rfl (zwc2 25 rfl rfl) rfl (ty8_ok 4 (by decide)) (fun _ => rfl) (fun _ => rfl) (by decide) (by decide) (by decide) rfl (fs' := [.ref (g.1 + (n + 1)), .ref (g.1 + (n + 28)), .ref (g.1 + (n + 55)), .ref (g.1 + (n + 82)), .ref (g.1 + (n + 85)), .null, .null, .null, .null, .int 0, .int 0]) rfl (Nat.le_of_ble_eq_true rfl) ?_
  refine y_aload_n C d8_init_59 (j := 0) rfl (by decide) ?_
  refine y_newo C (ci := 7) d8_init_60 ⟨zwc1 214 rfl rfl, zwc1 215 rfl rfl, zwc1 9 rfl rfl⟩ rfl ty7 ty7_ok (fs := [.null, .int 0, .int 0, .int 0, .int 0, .int 0]) yfs7 ⟨Nat.le_of_ble_eq_true rfl, Nat.le_of_ble_eq_true rfl⟩ (k' := 90) rfl ?_ (by decide)
  refine y_dup C d8_init_63 rfl ?_
  refine y_callIN C (m := 89) d8_init_64 w_216 yz7_init rfl yi7_init (k7_init x.2.1 g (n + 89) ⟨by omega, by omega⟩) rfl (by decide) rfl (Nat.le_of_ble_eq_true rfl) ⟨Nat.le_of_ble_eq_true rfl, Nat.le_of_ble_eq_true rfl⟩ ⟨Nat.le_of_ble_eq_true rfl, Nat.le_of_ble_eq_true rfl⟩ (k' := 91) rfl ?_
  refine y_putF C (kf := 5) (jw := 89) d8_init_67 hi rfl (by decide) rfl (zwc2 26 rfl rfl) rfl (ty8_ok 5 (by decide)) (fun _ => rfl) (fun _ => rfl) (by decide) (by decide) (by decide) rfl (fs' := [.ref (g.1 + (n + 1)), .ref (g.1 + (n + 28)), .ref (g.1 + (n + 55)), .ref (g.1 + (n + 82)), .ref (g.1 + (n + 85)), .ref (g.1 + (n + 89)), .null, .null, .null, .int 0, .int 0]) rfl (Nat.le_of_ble_eq_true rfl) ?_
  refine y_aload_n C d8_init_70 (j := 0) rfl (by decide) ?_
  refine y_iconst C (4 : Int32) d8_init_71 kI_4 ?_
  refine y_newq C (N := 4) (κ := 14) d8_init_72 (by decide) (by decide) (zwc2 1 rfl rfl) (by decide) (by decide) ⟨Nat.le_of_ble_eq_true rfl, Nat.le_of_ble_eq_true rfl⟩ (k' := 92) rfl (by decide) ?_
  refine y_putF C (kf := 6) (jw := 91) d8_init_75 hi rfl (by decide) rfl (zwc2 27 rfl rfl) rfl (ty8_ok 6 (by decide)) (fun _ => rfl) (fun _ => rfl) (by decide) (by decide) (by decide) rfl (fs' := [.ref (g.1 + (n + 1)), .ref (g.1 + (n + 28)), .ref (g.1 + (n + 55)), .ref (g.1 + (n + 82)), .ref (g.1 + (n + 85)), .ref (g.1 + (n + 89)), .ref (g.1 + (n + 91)), .null, .null, .int 0, .int 0]) rfl (Nat.le_of_ble_eq_true rfl) ?_
  refine y_aload_n C d8_init_78 (j := 0) rfl (by decide) ?_
  refine y_iconst C (4 : Int32) d8_init_79 kI_4 ?_
  refine y_newa C (N := 4) d8_init_80 yaiw (by decide) (by decide) ⟨Nat.le_of_ble_eq_true rfl, Nat.le_of_ble_eq_true rfl⟩ (k' := 93) rfl (by decide) ?_
  refine y_putF C (kf := 7) (jw := 92) d8_init_82 hi rfl (by decide) rfl (zwc2 28 rfl rfl) rfl (ty8_ok 7 (by decide)) (fun _ => rfl) (fun _ => rfl) (by decide) (by decide) (by decide) rfl (fs' := [.ref (g.1 + (n + 1)), .ref (g.1 + (n + 28)), .ref (g.1 + (n + 55)), .ref (g.1 + (n + 82)), .ref (g.1 + (n + 85)), .ref (g.1 + (n + 89)), .ref (g.1 + (n + 91)), .ref (g.1 + (n + 92)), .null, .int 0, .int 0]) rfl (Nat.le_of_ble_eq_true rfl) ?_
  refine y_aload_n C d8_init_85 (j := 0) rfl (by decide) ?_
  refine y_bipush C (7 : Int32) d8_init_86 kB_7 ?_
  refine y_newa C (N := 7) d8_init_88 yaiw (by decide) (by decide) ⟨Nat.le_of_ble_eq_true rfl, Nat.le_of_ble_eq_true rfl⟩ (k' := 94) rfl (by decide) ?_
  refine y_putF C (kf := 8) (jw := 93) d8_init_90 hi rfl (by decide) rfl (zwc2 29 rfl rfl) rfl (ty8_ok 8 (by decide)) (fun _ => rfl) (fun _ => rfl) (by decide) (by decide) (by decide) rfl (fs' := [.ref (g.1 + (n + 1)), .ref (g.1 + (n + 28)), .ref (g.1 + (n + 55)), .ref (g.1 + (n + 82)), .ref (g.1 + (n + 85)), .ref (g.1 + (n + 89)), .ref (g.1 + (n + 91)), .ref (g.1 + (n + 92)), .ref (g.1 + (n + 93)), .int 0, .int 0]) rfl (Nat.le_of_ble_eq_true rfl) ?_
  refine y_iconst C (0 : Int32) d8_init_93 kI_0 ?_
  refine y_istore_n C d8_init_94 (Nat.le_of_ble_eq_true rfl) rfl (L' := [some (zr (n + 0)), some (zi (0 : Int32))]) rfl ?_
  refine y_iload_n C d8_init_95 rfl ?_
  refine y_iconst C (4 : Int32) d8_init_96 kI_4 ?_
  refine y_icmp_ge C d8_init_97 (fun c => absurd c (by decide)) (fun _ => ?_)
  refine y_aload_n C d8_init_100 (j := 0) rfl (by decide) ?_
  refine y_getR C (kf := 6) (j1 := 91) d8_init_101 rfl (by decide) rfl (zwc2 27 rfl rfl) (by decide) (by decide) (by decide) rfl rfl ?_
  refine y_iload_n C d8_init_104 rfl ?_
  refine y_newo C (ci := 4) d8_init_105 ⟨zwc2 1 rfl rfl, zwc2 3 rfl rfl, zwc1 10 rfl rfl⟩ rfl ty4 ty4_ok (fs := [.null, .int 0, .int 0]) yfs4 ⟨Nat.le_of_ble_eq_true rfl, Nat.le_of_ble_eq_true rfl⟩ (k' := 95) rfl ?_ (by decide)
  refine y_dup C d8_init_108 rfl ?_
  refine y_callIN C (m := 94) d8_init_109 w_244 yz4_init rfl yi4_init (k4_init x.2.1 g (n + 94) ⟨by omega, by omega⟩) rfl (by decide) rfl (Nat.le_of_ble_eq_true rfl) ⟨Nat.le_of_ble_eq_true rfl, Nat.le_of_ble_eq_true rfl⟩ ⟨Nat.le_of_ble_eq_true rfl, Nat.le_of_ble_eq_true rfl⟩ (k' := 96) rfl ?_
  refine y_astq C (κ := 14) d8_init_112 (by decide) (by decide) (by decide) (by decide) (by decide) rfl rfl rfl rfl ⟨by decide, by decide⟩ kN_0 ?_
  refine y_iinc C d8_init_113 rfl (v' := (1 : Int32)) (by decide) (Nat.le_of_ble_eq_true rfl) rfl (L' := [some (zr (n + 0)), some (zi (1 : Int32))]) rfl ?_
  refine y_goto C d8_init_116 ?_
  refine y_iload_n C d8_init_95 rfl ?_
  refine y_iconst C (4 : Int32) d8_init_96 kI_4 ?_
  refine y_icmp_ge C d8_init_97 (fun c => absurd c (by decide)) (fun _ => ?_)
  refine y_aload_n C d8_init_100 (j := 0) rfl (by decide) ?_
  refine y_getR C (kf := 6) (j1 := 91) d8_init_101 rfl (by decide) rfl (zwc2 27 rfl rfl) (by decide) (by decide) (by decide) rfl rfl ?_
  refine y_iload_n C d8_init_104 rfl ?_
  refine y_newo C (ci := 4) d8_init_105 ⟨zwc2 1 rfl rfl, zwc2 3 rfl rfl, zwc1 10 rfl rfl⟩ rfl ty4 ty4_ok (fs := [.null, .int 0, .int 0]) yfs4 ⟨Nat.le_of_ble_eq_true rfl, Nat.le_of_ble_eq_true rfl⟩ (k' := 97) rfl ?_ (by decide)
  refine y_dup C d8_init_108 rfl ?_
  refine y_callIN C (m := 96) d8_init_109 w_244 yz4_init rfl yi4_init (k4_init x.2.1 g (n + 96) ⟨by omega, by omega⟩) rfl (by decide) rfl (Nat.le_of_ble_eq_true rfl) ⟨Nat.le_of_ble_eq_true rfl, Nat.le_of_ble_eq_true rfl⟩ ⟨Nat.le_of_ble_eq_true rfl, Nat.le_of_ble_eq_true rfl⟩ (k' := 98) rfl ?_
  refine y_astq C (κ := 14) d8_init_112 (by decide) (by decide) (by decide) (by decide) (by decide) rfl rfl rfl rfl ⟨by decide, by decide⟩ kN_1 ?_
  refine y_iinc C d8_init_113 rfl (v' := (2 : Int32)) (by decide) (Nat.le_of_ble_eq_true rfl) rfl (L' := [some (zr (n + 0)), some (zi (2 : Int32))]) rfl ?_
  refine y_goto C d8_init_116 ?_
  refine y_iload_n C d8_init_95 rfl ?_
  refine y_iconst C (4 : Int32) d8_init_96 kI_4 ?_
  refine y_icmp_ge C d8_init_97 (fun c => absurd c (by decide)) (fun _ => ?_)
  refine y_aload_n C d8_init_100 (j := 0) rfl (by decide) ?_
  refine y_getR C (kf := 6) (j1 := 91) d8_init_101 rfl (by decide) rfl (zwc2 27 rfl rfl) (by decide) (by decide) (by decide) rfl rfl ?_
  refine y_iload_n C d8_init_104 rfl ?_
  refine y_newo C (ci := 4) d8_init_105 ⟨zwc2 1 rfl rfl, zwc2 3 rfl rfl, zwc1 10 rfl rfl⟩ rfl ty4 ty4_ok (fs := [.null, .int 0, .int 0]) yfs4 ⟨Nat.le_of_ble_eq_true rfl, Nat.le_of_ble_eq_true rfl⟩ (k' := 99) rfl ?_ (by decide)
  refine y_dup C d8_init_108 rfl ?_
  refine y_callIN C (m := 98) d8_init_109 w_244 yz4_init rfl yi4_init (k4_init x.2.1 g (n + 98) ⟨by omega, by omega⟩) rfl (by decide) rfl (Nat.le_of_ble_eq_true rfl) ⟨Nat.le_of_ble_eq_true rfl, Nat.le_of_ble_eq_true rfl⟩ ⟨Nat.le_of_ble_eq_true rfl, Nat.le_of_ble_eq_true rfl⟩ (k' := 100) rfl ?_
  refine y_astq C (κ := 14) d8_init_112 (by decide) (by decide) (by decide) (by decide) (by decide) rfl rfl rfl rfl ⟨by decide, by decide⟩ kN_2 ?_
  refine y_iinc C d8_init_113 rfl (v' := (3 : Int32)) (by decide) (Nat.le_of_ble_eq_true rfl) rfl (L' := [some (zr (n + 0)), some (zi (3 : Int32))]) rfl ?_
  refine y_goto C d8_init_116 ?_
  refine y_iload_n C d8_init_95 rfl ?_
  refine y_iconst C (4 : Int32) d8_init_96 kI_4 ?_
  refine y_icmp_ge C d8_init_97 (fun c => absurd c (by decide)) (fun _ => ?_)
  refine y_aload_n C d8_init_100 (j := 0) rfl (by decide) ?_
  refine y_getR C (kf := 6) (j1 := 91) d8_init_101 rfl (by decide) rfl (zwc2 27 rfl rfl) (by decide) (by decide) (by decide) rfl rfl ?_
  refine y_iload_n C d8_init_104 rfl ?_
  refine y_newo C (ci := 4) d8_init_105 ⟨zwc2 1 rfl rfl, zwc2 3 rfl rfl, zwc1 10 rfl rfl⟩ rfl ty4 ty4_ok (fs := [.null, .int 0, .int 0]) yfs4 ⟨Nat.le_of_ble_eq_true rfl, Nat.le_of_ble_eq_true rfl⟩ (k' := 101) rfl ?_ (by decide)
  refine y_dup C d8_init_108 rfl ?_
  refine y_callIN C (m := 100) d8_init_109 w_244 yz4_init rfl yi4_init (k4_init x.2.1 g (n + 100) ⟨by omega, by omega⟩) rfl (by decide) rfl (Nat.le_of_ble_eq_true rfl) ⟨Nat.le_of_ble_eq_true rfl, Nat.le_of_ble_eq_true rfl⟩ ⟨Nat.le_of_ble_eq_true rfl, Nat.le_of_ble_eq_true rfl⟩ (k' := 102) rfl ?_
  refine y_astq C (κ := 14) d8_init_112 (by decide) (by decide) (by decide) (by decide) (by decide) rfl rfl rfl rfl ⟨by decide, by decide⟩ kN_3 ?_
  refine y_iinc C d8_init_113 rfl (v' := (4 : Int32)) (by decide) (Nat.le_of_ble_eq_true rfl) rfl (L' := [some (zr (n + 0)), some (zi (4 : Int32))]) rfl ?_
  refine y_goto C d8_init_116 ?_
  refine y_iload_n C d8_init_95 rfl ?_
  refine y_iconst C (4 : Int32) d8_init_96 kI_4 ?_
  refine y_icmp_ge C d8_init_97 (fun _ => ?_) (fun c => absurd (by decide) c)
  exact y_vret C d8_init_119 rfl (fun _ _ => rfl) rfl rfl
theorem yz9_init : zY y9_init b9_init 1 none 0 := ⟨zwc4 95 rfl rfl, zwc1 11 rfl rfl, ⟨by decide +kernel, by decide +kernel⟩, by decide +kernel⟩
theorem yi9_init : Cond.instanceMethod y9_init ∈ lw_gd := zwc4 94 rfl rfl
theorem d9_init_0 : zd b9_init 0 (.aload_n 0) 1 1 := ⟨by decide +kernel, rfl⟩
theorem d9_init_1 : zd b9_init 1 (.invokespecial 3) 3 4 := ⟨by decide +kernel, rfl⟩
theorem d9_init_4 : zd b9_init 4 (.aload_n 0) 1 5 := ⟨by decide +kernel, rfl⟩
theorem d9_init_5 : zd b9_init 5 (.sipush 390) 3 8 := ⟨by decide +kernel, rfl⟩
theorem d9_init_8 : zd b9_init 8 (.newarray .int) 2 10 := ⟨by decide +kernel, rfl⟩
theorem d9_init_10 : zd b9_init 10 (.putfield 9) 3 13 := ⟨by decide +kernel, rfl⟩
theorem d9_init_13 : zd b9_init 13 (.aload_n 0) 1 14 := ⟨by decide +kernel, rfl⟩
theorem d9_init_14 : zd b9_init 14 (.sipush 390) 3 17 := ⟨by decide +kernel, rfl⟩
theorem d9_init_17 : zd b9_init 17 (.newarray .int) 2 19 := ⟨by decide +kernel, rfl⟩
theorem d9_init_19 : zd b9_init 19 (.putfield 13) 3 22 := ⟨by decide +kernel, rfl⟩
theorem d9_init_22 : zd b9_init 22 (.aload_n 0) 1 23 := ⟨by decide +kernel, rfl⟩
theorem d9_init_23 : zd b9_init 23 (.sipush 390) 3 26 := ⟨by decide +kernel, rfl⟩
theorem d9_init_26 : zd b9_init 26 (.newarray .int) 2 28 := ⟨by decide +kernel, rfl⟩
theorem d9_init_28 : zd b9_init 28 (.putfield 16) 3 31 := ⟨by decide +kernel, rfl⟩
theorem d9_init_31 : zd b9_init 31 (.aload_n 0) 1 32 := ⟨by decide +kernel, rfl⟩
theorem d9_init_32 : zd b9_init 32 (.bipush 7) 2 34 := ⟨by decide +kernel, rfl⟩
theorem d9_init_34 : zd b9_init 34 (.newarray .int) 2 36 := ⟨by decide +kernel, rfl⟩
theorem d9_init_36 : zd b9_init 36 (.putfield 19) 3 39 := ⟨by decide +kernel, rfl⟩
theorem d9_init_39 : zd b9_init 39 (.aload_n 0) 1 40 := ⟨by decide +kernel, rfl⟩
theorem d9_init_40 : zd b9_init 40 (.iconst 4) 1 41 := ⟨by decide +kernel, rfl⟩
theorem d9_init_41 : zd b9_init 41 (.newarray .int) 2 43 := ⟨by decide +kernel, rfl⟩
theorem d9_init_43 : zd b9_init 43 (.putfield 22) 3 46 := ⟨by decide +kernel, rfl⟩
theorem d9_init_46 : zd b9_init 46 (.aload_n 0) 1 47 := ⟨by decide +kernel, rfl⟩
theorem d9_init_47 : zd b9_init 47 (.iconst 4) 1 48 := ⟨by decide +kernel, rfl⟩
theorem d9_init_48 : zd b9_init 48 (.newarray .int) 2 50 := ⟨by decide +kernel, rfl⟩
theorem d9_init_50 : zd b9_init 50 (.putfield 25) 3 53 := ⟨by decide +kernel, rfl⟩
theorem d9_init_53 : zd b9_init 53 (.aload_n 0) 1 54 := ⟨by decide +kernel, rfl⟩
theorem d9_init_54 : zd b9_init 54 (.bipush 96) 2 56 := ⟨by decide +kernel, rfl⟩
theorem d9_init_56 : zd b9_init 56 (.newarray .int) 2 58 := ⟨by decide +kernel, rfl⟩
theorem d9_init_58 : zd b9_init 58 (.putfield 28) 3 61 := ⟨by decide +kernel, rfl⟩
theorem d9_init_61 : zd b9_init 61 (.aload_n 0) 1 62 := ⟨by decide +kernel, rfl⟩
theorem d9_init_62 : zd b9_init 62 (.sipush 257) 3 65 := ⟨by decide +kernel, rfl⟩
theorem d9_init_65 : zd b9_init 65 (.newarray .int) 2 67 := ⟨by decide +kernel, rfl⟩
theorem d9_init_67 : zd b9_init 67 (.putfield 31) 3 70 := ⟨by decide +kernel, rfl⟩
theorem d9_init_70 : zd b9_init 70 (.aload_n 0) 1 71 := ⟨by decide +kernel, rfl⟩
theorem d9_init_71 : zd b9_init 71 (.bipush 8) 2 73 := ⟨by decide +kernel, rfl⟩
theorem d9_init_73 : zd b9_init 73 (.newarray .int) 2 75 := ⟨by decide +kernel, rfl⟩
theorem d9_init_75 : zd b9_init 75 (.putfield 34) 3 78 := ⟨by decide +kernel, rfl⟩
theorem d9_init_78 : zd b9_init 78 (.aload_n 0) 1 79 := ⟨by decide +kernel, rfl⟩
theorem d9_init_79 : zd b9_init 79 (.bipush 60) 2 81 := ⟨by decide +kernel, rfl⟩
theorem d9_init_81 : zd b9_init 81 (.newarray .int) 2 83 := ⟨by decide +kernel, rfl⟩
theorem d9_init_83 : zd b9_init 83 (.putfield 37) 3 86 := ⟨by decide +kernel, rfl⟩
theorem d9_init_86 : zd b9_init 86 (.aload_n 0) 1 87 := ⟨by decide +kernel, rfl⟩
theorem d9_init_87 : zd b9_init 87 (.bipush 60) 2 89 := ⟨by decide +kernel, rfl⟩
theorem d9_init_89 : zd b9_init 89 (.newarray .int) 2 91 := ⟨by decide +kernel, rfl⟩
theorem d9_init_91 : zd b9_init 91 (.putfield 40) 3 94 := ⟨by decide +kernel, rfl⟩
theorem d9_init_94 : zd b9_init 94 (.aload_n 0) 1 95 := ⟨by decide +kernel, rfl⟩
theorem d9_init_95 : zd b9_init 95 (.iconst 3) 1 96 := ⟨by decide +kernel, rfl⟩
theorem d9_init_96 : zd b9_init 96 (.newarray .int) 2 98 := ⟨by decide +kernel, rfl⟩
theorem d9_init_98 : zd b9_init 98 (.putfield 43) 3 101 := ⟨by decide +kernel, rfl⟩
theorem d9_init_101 : zd b9_init 101 (.aload_n 0) 1 102 := ⟨by decide +kernel, rfl⟩
theorem d9_init_102 : zd b9_init 102 (.bipush 60) 2 104 := ⟨by decide +kernel, rfl⟩
theorem d9_init_104 : zd b9_init 104 (.newarray .int) 2 106 := ⟨by decide +kernel, rfl⟩
theorem d9_init_106 : zd b9_init 106 (.putfield 46) 3 109 := ⟨by decide +kernel, rfl⟩
theorem d9_init_109 : zd b9_init 109 (.aload_n 0) 1 110 := ⟨by decide +kernel, rfl⟩
theorem d9_init_110 : zd b9_init 110 (.iconst 4) 1 111 := ⟨by decide +kernel, rfl⟩
theorem d9_init_111 : zd b9_init 111 (.newarray .int) 2 113 := ⟨by decide +kernel, rfl⟩
theorem d9_init_113 : zd b9_init 113 (.putfield 49) 3 116 := ⟨by decide +kernel, rfl⟩
theorem d9_init_116 : zd b9_init 116 (.aload_n 0) 1 117 := ⟨by decide +kernel, rfl⟩
theorem d9_init_117 : zd b9_init 117 (.bipush 30) 2 119 := ⟨by decide +kernel, rfl⟩
theorem d9_init_119 : zd b9_init 119 (.newarray .int) 2 121 := ⟨by decide +kernel, rfl⟩
theorem d9_init_121 : zd b9_init 121 (.putfield 52) 3 124 := ⟨by decide +kernel, rfl⟩
theorem d9_init_124 : zd b9_init 124 (.aload_n 0) 1 125 := ⟨by decide +kernel, rfl⟩
theorem d9_init_125 : zd b9_init 125 (.getfield 9) 3 128 := ⟨by decide +kernel, rfl⟩
theorem d9_init_128 : zd b9_init 128 (.iconst 1) 1 129 := ⟨by decide +kernel, rfl⟩
theorem d9_init_129 : zd b9_init 129 (.iconst 1) 1 130 := ⟨by decide +kernel, rfl⟩
theorem d9_init_130 : zd b9_init 130 .iastore 1 131 := ⟨by decide +kernel, rfl⟩
theorem d9_init_131 : zd b9_init 131 .return_ 1 132 := ⟨by decide +kernel, rfl⟩
def yF9 (g : ZG) (n : Nat) : Nat → va_E := fun j => match j with
  | 0 => .inr (9, [.ref (g.1 + (n + 1)), .ref (g.1 + (n + 2)), .ref (g.1 + (n + 3)), .int 0, .ref (g.1 + (n + 4)), .ref (g.1 + (n + 5)), .ref (g.1 + (n + 6)), .ref (g.1 + (n + 7)), .ref (g.1 + (n + 8)), .int 0, .int 0, .ref (g.1 + (n + 9)), .int 0, .int 0, .ref (g.1 + (n + 10)), .ref (g.1 + (n + 11)), .ref (g.1 + (n + 12)), .ref (g.1 + (n + 13)), .int 0, .int 0, .int 0, .int 0, .int 0, .ref (g.1 + (n + 14)), .ref (g.1 + (n + 15)), .int 0, .int 0])
  | 1 => .inl (g.2.2.1 0, 390, .inl (upd (fun _ => 0) 1 1))
  | 2 => .inl (g.2.2.1 0, 390, .inl (fun _ => 0))
  | 3 => .inl (g.2.2.1 0, 390, .inl (fun _ => 0))
  | 4 => .inl (g.2.2.1 0, 7, .inl (fun _ => 0))
  | 5 => .inl (g.2.2.1 0, 4, .inl (fun _ => 0))
  | 6 => .inl (g.2.2.1 0, 4, .inl (fun _ => 0))
  | 7 => .inl (g.2.2.1 0, 96, .inl (fun _ => 0))
  | 8 => .inl (g.2.2.1 0, 257, .inl (fun _ => 0))
  | 9 => .inl (g.2.2.1 0, 8, .inl (fun _ => 0))
  | 10 => .inl (g.2.2.1 0, 60, .inl (fun _ => 0))
  | 11 => .inl (g.2.2.1 0, 60, .inl (fun _ => 0))
  | 12 => .inl (g.2.2.1 0, 3, .inl (fun _ => 0))
  | 13 => .inl (g.2.2.1 0, 60, .inl (fun _ => 0))
  | 14 => .inl (g.2.2.1 0, 4, .inl (fun _ => 0))
  | _ => .inl (g.2.2.1 0, 30, .inl (fun _ => 0))
theorem k9_init (l : Launch) (g : ZG) (n : Nat) (hn : 0 < n ∧ n < 120) : yT l g y9_init b9_init 1 1 60 15 1763 n [zr (n + 0)] (fun _ => .inr (9, [.null, .null, .null, .int 0, .null, .null, .null, .null, .null, .int 0, .int 0, .null, .int 0, .int 0, .null, .null, .null, .null, .int 0, .int 0, .int 0, .int 0, .int 0, .null, .null, .int 0, .int 0])) 1 (yF9 g n) 16 := by
  refine yT_start (own := R9) rfl (by decide +kernel) ⟨by omega, by omega⟩ 0 (L := [some (zr (n + 0))]) rfl rfl (fun x hl C hi => ?_)
  subst hl
  refine y_aload_n C d9_init_0 (j := 0) rfl (by decide) ?_
  refine y_obj C (j := 0) d9_init_1 w_816 yobw (by decide) rfl ⟨Nat.le_of_ble_eq_true rfl, Nat.le_of_ble_eq_true rfl⟩ ?_
  refine y_aload_n C d9_init_4 (j := 0) rfl (by decide) ?_
  refine y_sipush C (390 : Int32) d9_init_5 kS_390 ?_
  refine y_newa C (N := 390) d9_init_8 yaiw (by decide) (by decide) ⟨Nat.le_of_ble_eq_true rfl, Nat.le_of_ble_eq_true rfl⟩ (k' := 2) rfl (by decide) ?_
  refine y_putF C (kf := 0) (jw := 1) d9_init_10 hi rfl (by decide) rfl (zwc4 97 rfl rfl) rfl (ty9_ok 0 (by decide)) (fun _ => rfl) (fun _ => rfl) (by decide) (by decide) (by decide) rfl (fs' := [.ref (g.1 + (n + 1)), .null, .null, .int 0, .null, .null, .null, .null, .null, .int 0, .int 0, .null, .int 0, .int 0, .null, .null, .null, .null, .int 0, .int 0, .int 0, .int 0, .int 0, .null, .null, .int 0, .int 0]) rfl (Nat.le_of_ble_eq_true rfl) ?_
  refine y_aload_n C d9_init_13 (j := 0) rfl (by decide) ?_
  refine y_sipush C (390 : Int32) d9_init_14 kS_390 ?_
  refine y_newa C (N := 390) d9_init_17 yaiw (by decide) (by decide) ⟨Nat.le_of_ble_eq_true rfl, Nat.le_of_ble_eq_true rfl⟩ (k' := 3) rfl (by decide) ?_
  refine y_putF C (kf := 1) (jw := 2) d9_init_19 hi rfl (by decide) rfl (zwc4 98 rfl rfl) rfl (ty9_ok 1 (by decide)) (fun _ => rfl) (fun _ => rfl) (by decide) (by decide) (by decide) rfl (fs' := [.ref (g.1 + (n + 1)), .ref (g.1 + (n + 2)), .null, .int 0, .null, .null, .null, .null, .null, .int 0, .int 0, .null, .int 0, .int 0, .null, .null, .null, .null, .int 0, .int 0, .int 0, .int 0, .int 0, .null, .null, .int 0, .int 0]) rfl (Nat.le_of_ble_eq_true rfl) ?_
  refine y_aload_n C d9_init_22 (j := 0) rfl (by decide) ?_
  refine y_sipush C (390 : Int32) d9_init_23 kS_390 ?_
  refine y_newa C (N := 390) d9_init_26 yaiw (by decide) (by decide) ⟨Nat.le_of_ble_eq_true rfl, Nat.le_of_ble_eq_true rfl⟩ (k' := 4) rfl (by decide) ?_
  refine y_putF C (kf := 2) (jw := 3) d9_init_28 hi rfl (by decide) rfl (zwc4 99 rfl rfl) rfl (ty9_ok 2 (by decide)) (fun _ => rfl) (fun _ => rfl) (by decide) (by decide) (by decide) rfl (fs' := [.ref (g.1 + (n + 1)), .ref (g.1 + (n + 2)), .ref (g.1 + (n + 3)), .int 0, .null, .null, .null, .null, .null, .int 0, .int 0, .null, .int 0, .int 0, .null, .null, .null, .null, .int 0, .int 0, .int 0, .int 0, .int 0, .null, .null, .int 0, .int 0]) rfl (Nat.le_of_ble_eq_true rfl) ?_
  refine y_aload_n C d9_init_31 (j := 0) rfl (by decide) ?_
  refine y_bipush C (7 : Int32) d9_init_32 kB_7 ?_
  refine y_newa C (N := 7) d9_init_34 yaiw (by decide) (by decide) ⟨Nat.le_of_ble_eq_true rfl, Nat.le_of_ble_eq_true rfl⟩ (k' := 5) rfl (by decide) ?_
  refine y_putF C (kf := 4) (jw := 4) d9_init_36 hi rfl (by decide) rfl (zwc4 101 rfl rfl) rfl (ty9_ok 4 (by decide)) (fun _ => rfl) (fun _ => rfl) (by decide) (by decide) (by decide) rfl (fs' := [.ref (g.1 + (n + 1)), .ref (g.1 + (n + 2)), .ref (g.1 + (n + 3)), .int 0, .ref (g.1 + (n + 4)), .null, .null, .null, .null, .int 0, .int 0, .null, .int 0, .int 0, .null, .null, .null, .null, .int 0, .int 0, .int 0, .int 0, .int 0, .null, .null, .int 0, .int 0]) rfl (Nat.le_of_ble_eq_true rfl) ?_
  refine y_aload_n C d9_init_39 (j := 0) rfl (by decide) ?_
  refine y_iconst C (4 : Int32) d9_init_40 kI_4 ?_
  refine y_newa C (N := 4) d9_init_41 yaiw (by decide) (by decide) ⟨Nat.le_of_ble_eq_true rfl, Nat.le_of_ble_eq_true rfl⟩ (k' := 6) rfl (by decide) ?_
  refine y_putF C (kf := 5) (jw := 5) d9_init_43 hi rfl (by decide) rfl (zwc4 102 rfl rfl) rfl (ty9_ok 5 (by decide)) (fun _ => rfl) (fun _ => rfl) (by decide) (by decide) (by decide) rfl (fs' := [.ref (g.1 + (n + 1)), .ref (g.1 + (n + 2)), .ref (g.1 + (n + 3)), .int 0, .ref (g.1 + (n + 4)), .ref (g.1 + (n + 5)), .null, .null, .null, .int 0, .int 0, .null, .int 0, .int 0, .null, .null, .null, .null, .int 0, .int 0, .int 0, .int 0, .int 0, .null, .null, .int 0, .int 0]) rfl (Nat.le_of_ble_eq_true rfl) ?_
  refine y_aload_n C d9_init_46 (j := 0) rfl (by decide) ?_
  refine y_iconst C (4 : Int32) d9_init_47 kI_4 ?_
  refine y_newa C (N := 4) d9_init_48 yaiw (by decide) (by decide) ⟨Nat.le_of_ble_eq_true rfl, Nat.le_of_ble_eq_true rfl⟩ (k' := 7) rfl (by decide) ?_
  refine y_putF C (kf := 6) (jw := 6) d9_init_50 hi rfl (by decide) rfl (zwc4 103 rfl rfl) rfl (ty9_ok 6 (by decide)) (fun _ => rfl) (fun _ => rfl) (by decide) (by decide) (by decide) rfl (fs' := [.ref (g.1 + (n + 1)), .ref (g.1 + (n + 2)), .ref (g.1 + (n + 3)), .int 0, .ref (g.1 + (n + 4)), .ref (g.1 + (n + 5)), .ref (g.1 + (n + 6)), .null, .null, .int 0, .int 0, .null, .int 0, .int 0, .null, .null, .null, .null, .int 0, .int 0, .int 0, .int 0, .int 0, .null, .null, .int 0, .int 0]) rfl (Nat.le_of_ble_eq_true rfl) ?_
  refine y_aload_n C d9_init_53 (j := 0) rfl (by decide) ?_
  refine y_bipush C (96 : Int32) d9_init_54 kB_96 ?_
  refine y_newa C (N := 96) d9_init_56 yaiw (by decide) (by decide) ⟨Nat.le_of_ble_eq_true rfl, Nat.le_of_ble_eq_true rfl⟩ (k' := 8) rfl (by decide) ?_
  refine y_putF C (kf := 7) (jw := 7) d9_init_58 hi rfl (by decide) rfl (zwc4 104 rfl rfl) rfl (ty9_ok 7 (by decide)) (fun _ => rfl) (fun _ => rfl) (by decide) (by decide) (by decide) rfl (fs' := [.ref (g.1 + (n + 1)), .ref (g.1 + (n + 2)), .ref (g.1 + (n + 3)), .int 0, .ref (g.1 + (n + 4)), .ref (g.1 + (n + 5)), .ref (g.1 + (n + 6)), .ref (g.1 + (n + 7)), .null, .int 0, .int 0, .null, .int 0, .int 0, .null, .null, .null, .null, .int 0, .int 0, .int 0, .int 0, .int 0, .null, .null, .int 0, .int 0]) rfl (Nat.le_of_ble_eq_true rfl) ?_
  refine y_aload_n C d9_init_61 (j := 0) rfl (by decide) ?_
  refine y_sipush C (257 : Int32) d9_init_62 kS_257 ?_
  refine y_newa C (N := 257) d9_init_65 yaiw (by decide) (by decide) ⟨Nat.le_of_ble_eq_true rfl, Nat.le_of_ble_eq_true rfl⟩ (k' := 9) rfl (by decide) ?_
  refine y_putF C (kf := 8) (jw := 8) d9_init_67 hi rfl (by decide) rfl (zwc4 105 rfl rfl) rfl (ty9_ok 8 (by decide)) (fun _ => rfl) (fun _ => rfl) (by decide) (by decide) (by decide) rfl (fs' := [.ref (g.1 + (n + 1)), .ref (g.1 + (n + 2)), .ref (g.1 + (n + 3)), .int 0, .ref (g.1 + (n + 4)), .ref (g.1 + (n + 5)), .ref (g.1 + (n + 6)), .ref (g.1 + (n + 7)), .ref (g.1 + (n + 8)), .int 0, .int 0, .null, .int 0, .int 0, .null, .null, .null, .null, .int 0, .int 0, .int 0, .int 0, .int 0, .null, .null, .int 0, .int 0]) rfl (Nat.le_of_ble_eq_true rfl) ?_
  refine y_aload_n C d9_init_70 (j := 0) rfl (by decide) ?_
  refine y_bipush C (8 : Int32) d9_init_71 kB_8 ?_
  refine y_newa C (N := 8) d9_init_73 yaiw (by decide) (by decide) ⟨Nat.le_of_ble_eq_true rfl, Nat.le_of_ble_eq_true rfl⟩ (k' := 10) rfl (by decide) ?_
  refine y_putF C (kf := 11) (jw := 9) d9_init_75 hi rfl (by decide) rfl (zwc4 108 rfl rfl) rfl (ty9_ok 11 (by decide)) (fun _ => rfl) (fun _ => rfl) (by decide) (by decide) (by decide) rfl (fs' := [.ref (g.1 + (n + 1)), .ref (g.1 + (n + 2)), .ref (g.1 + (n + 3)), .int 0, .ref (g.1 + (n + 4)), .ref (g.1 + (n + 5)), .ref (g.1 + (n + 6)), .ref (g.1 + (n + 7)), .ref (g.1 + (n + 8)), .int 0, .int 0, .ref (g.1 + (n + 9)), .int 0, .int 0, .null, .null, .null, .null, .int 0, .int 0, .int 0, .int 0, .int 0, .null, .null, .int 0, .int 0]) rfl (Nat.le_of_ble_eq_true rfl) ?_
  refine y_aload_n C d9_init_78 (j := 0) rfl (by decide) ?_
  refine y_bipush C (60 : Int32) d9_init_79 kB_60 ?_
  refine y_newa C (N := 60) d9_init_81 yaiw (by decide) (by decide) ⟨Nat.le_of_ble_eq_true rfl, Nat.le_of_ble_eq_true rfl⟩ (k' := 11) rfl (by decide) ?_
  refine y_putF C (kf := 14) (jw := 10) d9_init_83 hi rfl (by decide) rfl (zwc4 111 rfl rfl) rfl (ty9_ok 14 (by decide)) (fun _ => rfl) (fun _ => rfl) (by decide) (by decide) (by decide) rfl (fs' := [.ref (g.1 + (n + 1)), .ref (g.1 + (n + 2)), .ref (g.1 + (n + 3)), .int 0, .ref (g.1 + (n + 4)), .ref (g.1 + (n + 5)), .ref (g.1 + (n + 6)), .ref (g.1 + (n + 7)), .ref (g.1 + (n + 8)), .int 0, .int 0, .ref (g.1 + (n + 9)), .int 0, .int 0, .ref (g.1 + (n + 10)), .null, .null, .null, .int 0, .int 0, .int 0, .int 0, .int 0, .null, .null, .int 0, .int 0]) rfl (Nat.le_of_ble_eq_true rfl) ?_
  refine y_aload_n C d9_init_86 (j := 0) rfl (by decide) ?_
  refine y_bipush C (60 : Int32) d9_init_87 kB_60 ?_
  refine y_newa C (N := 60) d9_init_89 yaiw (by decide) (by decide) ⟨Nat.le_of_ble_eq_true rfl, Nat.le_of_ble_eq_true rfl⟩ (k' := 12) rfl (by decide) ?_
  refine y_putF C (kf := 15) (jw := 11) d9_init_91 hi rfl (by decide) rfl (zwc4 112 rfl rfl) rfl (ty9_ok 15 (by decide)) (fun _ => rfl) (fun _ => rfl) (by decide) (by decide) (by decide) rfl (fs' := [.ref (g.1 + (n + 1)), .ref (g.1 + (n + 2)), .ref (g.1 + (n + 3)), .int 0, .ref (g.1 + (n + 4)), .ref (g.1 + (n + 5)), .ref (g.1 + (n + 6)), .ref (g.1 + (n + 7)), .ref (g.1 + (n + 8)), .int 0, .int 0, .ref (g.1 + (n + 9)), .int 0, .int 0, .ref (g.1 + (n + 10)), .ref (g.1 + (n + 11)), .null, .null, .int 0, .int 0, .int 0, .int 0, .int 0, .null, .null, .int 0, .int 0]) rfl (Nat.le_of_ble_eq_true rfl) ?_
  refine y_aload_n C d9_init_94 (j := 0) rfl (by decide) ?_
  refine y_iconst C (3 : Int32) d9_init_95 kI_3 ?_
  refine y_newa C (N := 3) d9_init_96 yaiw (by decide) (by decide) ⟨Nat.le_of_ble_eq_true rfl, Nat.le_of_ble_eq_true rfl⟩ (k' := 13) rfl (by decide) ?_
  refine y_putF C (kf := 16) (jw := 12) d9_init_98 hi rfl (by decide) rfl (zwc4 113 rfl rfl) rfl (ty9_ok 16 (by decide)) (fun _ => rfl) (fun _ => rfl) (by decide) (by decide) (by decide) rfl (fs' := [.ref (g.1 + (n + 1)), .ref (g.1 + (n + 2)), .ref (g.1 + (n + 3)), .int 0, .ref (g.1 + (n + 4)), .ref (g.1 + (n + 5)), .ref (g.1 + (n + 6)), .ref (g.1 + (n + 7)), .ref (g.1 + (n + 8)), .int 0, .int 0, .ref (g.1 + (n + 9)), .int 0, .int 0, .ref (g.1 + (n + 10)), .ref (g.1 + (n + 11)), .ref (g.1 + (n + 12)), .null, .int 0, .int 0, .int 0, .int 0, .int 0, .null, .null, .int 0, .int 0]) rfl (Nat.le_of_ble_eq_true rfl) ?_
  refine y_aload_n C d9_init_101 (j := 0) rfl (by decide) ?_
  refine y_bipush C (60 : Int32) d9_init_102 kB_60 ?_
  refine y_newa C (N := 60) d9_init_104 yaiw (by decide) (by decide) ⟨Nat.le_of_ble_eq_true rfl, Nat.le_of_ble_eq_true rfl⟩ (k' := 14) rfl (by decide) ?_
  refine y_putF C (kf := 17) (jw := 13) d9_init_106 hi rfl (by decide) rfl (zwc4 114 rfl rfl) rfl (ty9_ok 17 (by decide)) (fun _ => rfl) (fun _ => rfl) (by decide) (by decide) (by decide) rfl (fs' := [.ref (g.1 + (n + 1)), .ref (g.1 + (n + 2)), .ref (g.1 + (n + 3)), .int 0, .ref (g.1 + (n + 4)), .ref (g.1 + (n + 5)), .ref (g.1 + (n + 6)), .ref (g.1 + (n + 7)), .ref (g.1 + (n + 8)), .int 0, .int 0, .ref (g.1 + (n + 9)), .int 0, .int 0, .ref (g.1 + (n + 10)), .ref (g.1 + (n + 11)), .ref (g.1 + (n + 12)), .ref (g.1 + (n + 13)), .int 0, .int 0, .int 0, .int 0, .int 0, .null, .null, .int 0, .int 0]) rfl (Nat.le_of_ble_eq_true rfl) ?_
  refine y_aload_n C d9_init_109 (j := 0) rfl (by decide) ?_
  refine y_iconst C (4 : Int32) d9_init_110 kI_4 ?_
  refine y_newa C (N := 4) d9_init_111 yaiw (by decide) (by decide) ⟨Nat.le_of_ble_eq_true rfl, Nat.le_of_ble_eq_true rfl⟩ (k' := 15) rfl (by decide) ?_
  refine y_putF C (kf := 23) (jw := 14) d9_init_113 hi rfl (by decide) rfl (zwc4 120 rfl rfl) rfl (ty9_ok 23 (by decide)) (fun _ => rfl) (fun _ => rfl) (by decide) (by decide) (by decide) rfl (fs' := [.ref (g.1 + (n + 1)), .ref (g.1 + (n + 2)), .ref (g.1 + (n + 3)), .int 0, .ref (g.1 + (n + 4)), .ref (g.1 + (n + 5)), .ref (g.1 + (n + 6)), .ref (g.1 + (n + 7)), .ref (g.1 + (n + 8)), .int 0, .int 0, .ref (g.1 + (n + 9)), .int 0, .int 0, .ref (g.1 + (n + 10)), .ref (g.1 + (n + 11)), .ref (g.1 + (n + 12)), .ref (g.1 + (n + 13)), .int 0, .int 0, .int 0, .int 0, .int 0, .ref (g.1 + (n + 14)), .null, .int 0, .int 0]) rfl (Nat.le_of_ble_eq_true rfl) ?_
  refine y_aload_n C d9_init_116 (j := 0) rfl (by decide) ?_
  refine y_bipush C (30 : Int32) d9_init_117 kB_30 ?_
  refine y_newa C (N := 30) d9_init_119 yaiw (by decide) (by decide) ⟨Nat.le_of_ble_eq_true rfl, Nat.le_of_ble_eq_true rfl⟩ (k' := 16) rfl (by decide) ?_
  refine y_putF C (kf := 24) (jw := 15) d9_init_121 hi rfl (by decide) rfl (zwc4 121 rfl rfl) rfl (ty9_ok 24 (by decide)) (fun _ => rfl) (fun _ => rfl) (by decide) (by decide) (by decide) rfl (fs' := [.ref (g.1 + (n + 1)), .ref (g.1 + (n + 2)), .ref (g.1 + (n + 3)), .int 0, .ref (g.1 + (n + 4)), .ref (g.1 + (n + 5)), .ref (g.1 + (n + 6)), .ref (g.1 + (n + 7)), .ref (g.1 + (n + 8)), .int 0, .int 0, .ref (g.1 + (n + 9)), .int 0, .int 0, .ref (g.1 + (n + 10)), .ref (g.1 + (n + 11)), .ref (g.1 + (n + 12)), .ref (g.1 + (n + 13)), .int 0, .int 0, .int 0, .int 0, .int 0, .ref (g.1 + (n + 14)), .ref (g.1 + (n + 15)), .int 0, .int 0]) rfl (Nat.le_of_ble_eq_true rfl) ?_
  refine y_aload_n C d9_init_124 (j := 0) rfl (by decide) ?_
  refine y_getR C (kf := 0) (j1 := 1) d9_init_125 rfl (by decide) rfl (zwc4 97 rfl rfl) (by decide) (by decide) (by decide) rfl rfl ?_
  refine y_iconst C (1 : Int32) d9_init_128 kI_1 ?_
  refine y_iconst C (1 : Int32) d9_init_129 kI_1 ?_
  refine y_iast C d9_init_130 (by decide) (by decide) rfl ⟨by decide, by decide⟩ kN_1 ?_
  exact y_vret C d9_init_131 rfl (fun j hj => by
    match j, hj with
    | 0, _ => rfl
    | 1, _ => rfl
    | 2, _ => rfl
    | 3, _ => rfl
    | 4, _ => rfl
    | 5, _ => rfl
    | 6, _ => rfl
    | 7, _ => rfl
    | 8, _ => rfl
    | 9, _ => rfl
    | 10, _ => rfl
    | 11, _ => rfl
    | 12, _ => rfl
    | 13, _ => rfl
    | 14, _ => rfl
    | 15, _ => rfl
    | j + 16, h => exact absurd h (by omega)) rfl rfl
