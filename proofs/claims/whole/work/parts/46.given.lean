/-! what the texts give -/
def clp (lo hi x : Int32) : Int32 := if lo ≤ x then (if x ≤ hi then x else hi) else lo
def gv (R : Nat → Int32) (u : Nat) (a b c : Int32) : Int32 := clp 0 (if u = 0 then 99 else 999) (if R (148 + 121 * u) = 0 then (if u = 0 then c else a) else wk a b c (fun i => R (148 + 121 * u + 1 + i)) (fun i => R (148 + 121 * u + 61 + i)) (R (148 + 121 * u)).toInt.toNat 0 [])
theorem clp_int {lo hi x : Int32} (h : lo.toInt ≤ hi.toInt) : (clp lo hi x).toInt = max lo.toInt (min x.toInt hi.toInt) := by
  unfold clp
  by_cases h1 : lo ≤ x
  · rw [if_pos h1]
    by_cases h2 : x ≤ hi
    · rw [if_pos h2]; (simp only [Int32.lt_iff_toInt_lt, Int32.le_iff_toInt_le, ← Int32.toInt_inj, t_m1000000006, t_m1000000005, t_m1000000004, t_m1000000003, t_m1000000002, t_m1000000001, t_m1000000000, t_m33, t_m10, t_m3, t_m2, t_m1, t_0, t_1, t_2, t_3, t_4, t_5, t_6, t_7, t_8, t_9, t_10, t_11, t_12, t_13, t_14, t_15, t_16, t_17, t_18, t_19, t_20, t_21, t_22, t_23, t_24, t_25, t_26, t_27, t_28, t_29, t_30, t_31, t_32, t_33, t_34, t_35, t_36, t_37, t_38, t_39, t_40, t_41, t_42, t_43, t_44, t_45, t_46, t_47, t_48, t_49, t_50, t_51, t_52, t_53, t_54, t_55, t_56, t_57, t_58, t_59, t_60, t_61, t_62, t_63, t_64, t_69, t_70, t_71, t_99, t_104, t_105, t_106, t_107, t_108, t_109, t_110, t_111, t_112, t_113, t_114, t_115, t_116, t_121, t_124, t_148, t_255, t_256, t_257, t_390, t_999, t_9999, t_12345, t_99999, t_1103515245] at *; omega)
    · rw [if_neg h2]; (simp only [Int32.lt_iff_toInt_lt, Int32.le_iff_toInt_le, ← Int32.toInt_inj, t_m1000000006, t_m1000000005, t_m1000000004, t_m1000000003, t_m1000000002, t_m1000000001, t_m1000000000, t_m33, t_m10, t_m3, t_m2, t_m1, t_0, t_1, t_2, t_3, t_4, t_5, t_6, t_7, t_8, t_9, t_10, t_11, t_12, t_13, t_14, t_15, t_16, t_17, t_18, t_19, t_20, t_21, t_22, t_23, t_24, t_25, t_26, t_27, t_28, t_29, t_30, t_31, t_32, t_33, t_34, t_35, t_36, t_37, t_38, t_39, t_40, t_41, t_42, t_43, t_44, t_45, t_46, t_47, t_48, t_49, t_50, t_51, t_52, t_53, t_54, t_55, t_56, t_57, t_58, t_59, t_60, t_61, t_62, t_63, t_64, t_69, t_70, t_71, t_99, t_104, t_105, t_106, t_107, t_108, t_109, t_110, t_111, t_112, t_113, t_114, t_115, t_116, t_121, t_124, t_148, t_255, t_256, t_257, t_390, t_999, t_9999, t_12345, t_99999, t_1103515245] at *; omega)
  · rw [if_neg h1]; (simp only [Int32.lt_iff_toInt_lt, Int32.le_iff_toInt_le, ← Int32.toInt_inj, t_m1000000006, t_m1000000005, t_m1000000004, t_m1000000003, t_m1000000002, t_m1000000001, t_m1000000000, t_m33, t_m10, t_m3, t_m2, t_m1, t_0, t_1, t_2, t_3, t_4, t_5, t_6, t_7, t_8, t_9, t_10, t_11, t_12, t_13, t_14, t_15, t_16, t_17, t_18, t_19, t_20, t_21, t_22, t_23, t_24, t_25, t_26, t_27, t_28, t_29, t_30, t_31, t_32, t_33, t_34, t_35, t_36, t_37, t_38, t_39, t_40, t_41, t_42, t_43, t_44, t_45, t_46, t_47, t_48, t_49, t_50, t_51, t_52, t_53, t_54, t_55, t_56, t_57, t_58, t_59, t_60, t_61, t_62, t_63, t_64, t_69, t_70, t_71, t_99, t_104, t_105, t_106, t_107, t_108, t_109, t_110, t_111, t_112, t_113, t_114, t_115, t_116, t_121, t_124, t_148, t_255, t_256, t_257, t_390, t_999, t_9999, t_12345, t_99999, t_1103515245] at *; omega)
theorem s9_clp {k : Nat} {lo hi x : Int32} {σ : ZS} : f9_held k x lo hi σ = some (clp lo hi x, σ) := by
  unfold f9_held clp
  by_cases h1 : lo ≤ x
  · rw [if_pos h1, if_pos h1]
    by_cases h2 : x ≤ hi
    · rw [if_pos h2, if_pos h2]
    · rw [if_neg h2, if_neg h2]
  · rw [if_neg h1, if_neg h1]
theorem cl8 {hi x : Int32} (h : 0 < hi.toInt) : (if (0 : Int32) < (if x < hi then x else hi) then (if x < hi then x else hi) else (0 : Int32)) = clp 0 hi x := by
  refine i_eq ?_
  rw [clp_int (by rw [t_0]; omega), t_0]
  by_cases h1 : x < hi
  · rw [if_pos h1]
    by_cases h2 : 0 < x
    · rw [if_pos h2]; (simp only [Int32.lt_iff_toInt_lt, Int32.le_iff_toInt_le, ← Int32.toInt_inj, t_m1000000006, t_m1000000005, t_m1000000004, t_m1000000003, t_m1000000002, t_m1000000001, t_m1000000000, t_m33, t_m10, t_m3, t_m2, t_m1, t_0, t_1, t_2, t_3, t_4, t_5, t_6, t_7, t_8, t_9, t_10, t_11, t_12, t_13, t_14, t_15, t_16, t_17, t_18, t_19, t_20, t_21, t_22, t_23, t_24, t_25, t_26, t_27, t_28, t_29, t_30, t_31, t_32, t_33, t_34, t_35, t_36, t_37, t_38, t_39, t_40, t_41, t_42, t_43, t_44, t_45, t_46, t_47, t_48, t_49, t_50, t_51, t_52, t_53, t_54, t_55, t_56, t_57, t_58, t_59, t_60, t_61, t_62, t_63, t_64, t_69, t_70, t_71, t_99, t_104, t_105, t_106, t_107, t_108, t_109, t_110, t_111, t_112, t_113, t_114, t_115, t_116, t_121, t_124, t_148, t_255, t_256, t_257, t_390, t_999, t_9999, t_12345, t_99999, t_1103515245] at *; omega)
    · rw [if_neg h2]; (simp only [Int32.lt_iff_toInt_lt, Int32.le_iff_toInt_le, ← Int32.toInt_inj, t_m1000000006, t_m1000000005, t_m1000000004, t_m1000000003, t_m1000000002, t_m1000000001, t_m1000000000, t_m33, t_m10, t_m3, t_m2, t_m1, t_0, t_1, t_2, t_3, t_4, t_5, t_6, t_7, t_8, t_9, t_10, t_11, t_12, t_13, t_14, t_15, t_16, t_17, t_18, t_19, t_20, t_21, t_22, t_23, t_24, t_25, t_26, t_27, t_28, t_29, t_30, t_31, t_32, t_33, t_34, t_35, t_36, t_37, t_38, t_39, t_40, t_41, t_42, t_43, t_44, t_45, t_46, t_47, t_48, t_49, t_50, t_51, t_52, t_53, t_54, t_55, t_56, t_57, t_58, t_59, t_60, t_61, t_62, t_63, t_64, t_69, t_70, t_71, t_99, t_104, t_105, t_106, t_107, t_108, t_109, t_110, t_111, t_112, t_113, t_114, t_115, t_116, t_121, t_124, t_148, t_255, t_256, t_257, t_390, t_999, t_9999, t_12345, t_99999, t_1103515245] at *; omega)
  · rw [if_neg h1]
    by_cases h2 : 0 < hi
    · rw [if_pos h2]; (simp only [Int32.lt_iff_toInt_lt, Int32.le_iff_toInt_le, ← Int32.toInt_inj, t_m1000000006, t_m1000000005, t_m1000000004, t_m1000000003, t_m1000000002, t_m1000000001, t_m1000000000, t_m33, t_m10, t_m3, t_m2, t_m1, t_0, t_1, t_2, t_3, t_4, t_5, t_6, t_7, t_8, t_9, t_10, t_11, t_12, t_13, t_14, t_15, t_16, t_17, t_18, t_19, t_20, t_21, t_22, t_23, t_24, t_25, t_26, t_27, t_28, t_29, t_30, t_31, t_32, t_33, t_34, t_35, t_36, t_37, t_38, t_39, t_40, t_41, t_42, t_43, t_44, t_45, t_46, t_47, t_48, t_49, t_50, t_51, t_52, t_53, t_54, t_55, t_56, t_57, t_58, t_59, t_60, t_61, t_62, t_63, t_64, t_69, t_70, t_71, t_99, t_104, t_105, t_106, t_107, t_108, t_109, t_110, t_111, t_112, t_113, t_114, t_115, t_116, t_121, t_124, t_148, t_255, t_256, t_257, t_390, t_999, t_9999, t_12345, t_99999, t_1103515245] at *; omega)
    · rw [if_neg h2]; (simp only [Int32.lt_iff_toInt_lt, Int32.le_iff_toInt_le, ← Int32.toInt_inj, t_m1000000006, t_m1000000005, t_m1000000004, t_m1000000003, t_m1000000002, t_m1000000001, t_m1000000000, t_m33, t_m10, t_m3, t_m2, t_m1, t_0, t_1, t_2, t_3, t_4, t_5, t_6, t_7, t_8, t_9, t_10, t_11, t_12, t_13, t_14, t_15, t_16, t_17, t_18, t_19, t_20, t_21, t_22, t_23, t_24, t_25, t_26, t_27, t_28, t_29, t_30, t_31, t_32, t_33, t_34, t_35, t_36, t_37, t_38, t_39, t_40, t_41, t_42, t_43, t_44, t_45, t_46, t_47, t_48, t_49, t_50, t_51, t_52, t_53, t_54, t_55, t_56, t_57, t_58, t_59, t_60, t_61, t_62, t_63, t_64, t_69, t_70, t_71, t_99, t_104, t_105, t_106, t_107, t_108, t_109, t_110, t_111, t_112, t_113, t_114, t_115, t_116, t_121, t_124, t_148, t_255, t_256, t_257, t_390, t_999, t_9999, t_12345, t_99999, t_1103515245] at *; omega)
def Tt (t : Nat) : Prop := t = 2 ∨ t = 29 ∨ t = 56
theorem Tt.s6 {t : Nat} (h : Tt t) : zsh t = 6 := by
  rcases h with rfl | rfl | rfl
  all_goals rfl
theorem Tt.s7 {t u : Nat} (h : Tt t) (hu : u < 2) : zsh (t + 21 + 3 * u) = 7 := by
  have : u = 0 ∨ u = 1 := by omega
  rcases h with rfl | rfl | rfl <;> rcases this with rfl | rfl
  all_goals rfl
theorem Tt.s1 {t g : Nat} (h : Tt t) (hg : g < 8) : zsh (t + 7 + g) = 1 := by
  match g, hg with
  | 0, _ => rcases h with rfl | rfl | rfl <;> rfl
  | 1, _ => rcases h with rfl | rfl | rfl <;> rfl
  | 2, _ => rcases h with rfl | rfl | rfl <;> rfl
  | 3, _ => rcases h with rfl | rfl | rfl <;> rfl
  | 4, _ => rcases h with rfl | rfl | rfl <;> rfl
  | 5, _ => rcases h with rfl | rfl | rfl <;> rfl
  | 6, _ => rcases h with rfl | rfl | rfl <;> rfl
  | 7, _ => rcases h with rfl | rfl | rfl <;> rfl
  | g + 8, hg => exact absurd hg (by omega)
theorem Tt.s3 {t p : Nat} (h : Tt t) (hp : p < 6) : zsh (t + 15 + p) = 3 := by
  match p, hp with
  | 0, _ => rcases h with rfl | rfl | rfl <;> rfl
  | 1, _ => rcases h with rfl | rfl | rfl <;> rfl
  | 2, _ => rcases h with rfl | rfl | rfl <;> rfl
  | 3, _ => rcases h with rfl | rfl | rfl <;> rfl
  | 4, _ => rcases h with rfl | rfl | rfl <;> rfl
  | 5, _ => rcases h with rfl | rfl | rfl <;> rfl
  | p + 6, hp => exact absurd hp (by omega)
theorem Tt.le {t : Nat} (h : Tt t) : 2 ≤ t ∧ t ≤ 56 := by
  rcases h with rfl | rfl | rfl
  all_goals decide
theorem s5_textOf {k t u : Nat} {σ : ZS} (ht : Tt t) (hu : u < 2) : f5_textOf k t (nI u) σ = some (t + 21 + 3 * u, σ) := by
  have hx : (nI u).toInt = u := nI_toInt (by omega)
  rw [f5_textOf, if_pos ht.s6, if_neg (by rw [Int32.lt_iff_toInt_lt, hx, t_0]; omega), if_pos (by rw [Int32.lt_iff_toInt_lt, hx, t_2]; omega), if_pos (nI_z hu (by decide)), nI_nat (by omega)]
theorem gv_0 {R : Nat → Int32} {u : Nat} {a b c : Int32} (h : R (148 + 121 * u) = 0) : gv R u a b c = clp 0 (if u = 0 then 99 else 999) (if u = 0 then c else a) := by rw [gv, if_pos h]
theorem gv_1 {R : Nat → Int32} {u : Nat} {a b c : Int32} (h : ¬ R (148 + 121 * u) = 0) : gv R u a b c = clp 0 (if u = 0 then 99 else 999) (wk a b c (fun i => R (148 + 121 * u + 1 + i)) (fun i => R (148 + 121 * u + 61 + i)) (R (148 + 121 * u)).toInt.toNat 0 []) := by rw [gv, if_neg h]
theorem TRVT {σ : ZS} {t : Nat} {R : Nat → Int32} {u : Nat} (hu : u < 2) (h : RS σ t R) (hv : VT R) : TR σ (t + 21 + 3 * u) R (148 + 121 * u) ∧ VT1 R (148 + 121 * u) := by
  have : u = 0 ∨ u = 1 := by omega
  rcases this with rfl | rfl
  · exact ⟨h.2.2.2.2.2.2.1, hv.1⟩
  · exact ⟨h.2.2.2.2.2.2.2, hv.2⟩
theorem s5_given {k t u : Nat} {σ : ZS} {R : Nat → Int32} {a b c : Int32} (hk : 61 ≤ k) (ht : Tt t) (hu : u < 2) (h : RS σ t R) (hv : VT R) : ∃ σ', f5_given k t (nI u) a b c σ = some (gv R u a b c, σ') ∧ ∀ o, o ≠ t + 23 + 3 * u → σ' o = σ o := by
  have h0 : nI u = 0 ↔ u = 0 := by
    have : u = 0 ∨ u = 1 := by omega
    rcases this with rfl | rfl
    · exact ⟨fun _ => rfl, fun _ => rfl⟩
    · exact ⟨fun q => absurd q (by decide), fun q => absurd q (by decide)⟩
  obtain ⟨hT, hV⟩ := TRVT hu h hv
  have hl := hV.len
  rw [f5_given, if_pos ht.s6, s5_textOf ht hu, zbd_some, if_neg (by omega), if_pos (ht.s7 hu)]
  rcases hT with ⟨q1, q2⟩ | ⟨q1, q2, q3, q4⟩
  · rw [if_pos q2, b5_given_25, gv_0 q1]
    refine ⟨σ, ?_, fun _ _ => rfl⟩
    by_cases c0 : u = 0
    · rw [if_pos (h0.2 c0), if_pos rfl, cl8 (by decide), if_pos c0, if_pos c0]
    · rw [if_neg (fun q => c0 (h0.1 q)), if_pos rfl, cl8 (by decide), if_neg c0, if_neg c0]
  · have hr : ¬ R (148 + 121 * u) = 0 := fun q => by rw [q, t_0] at q1; omega
    rw [if_neg (by rw [q2]; decide), b5_given_25, gv_1 hr]
    have hvk : vok (fun i => R (148 + 121 * u + 1 + i)) (fun i => R (148 + 121 * u + 61 + i)) (R (148 + 121 * u)).toInt.toNat 0 0 := by
      rcases hV with q | ⟨-, -, q⟩
      · exact absurd q hr
      · exact q
    obtain ⟨σ', e1, e2⟩ := s6_works (k := k) (t := t + 21 + 3 * u) (a := a) (b := b) (c := c) (len := (R (148 + 121 * u)).toInt.toNat) (by omega) (R (148 + 121 * u)).toInt.toNat 0 k [] σ (fun i hi => q4 i (by omega)) (by rw [q3]; exact i_nat hl.1) (by omega) hvk (Nat.le_refl _) trivial (by omega)
    have e3 : f6_worth k (t + 21 + 3 * u) a b c σ = some (wk a b c (fun i => R (148 + 121 * u + 1 + i)) (fun i => R (148 + 121 * u + 61 + i)) (R (148 + 121 * u)).toInt.toNat 0 [], σ') := by
      rw [f6_worth, if_pos (ht.s7 hu)]
      exact e1
    refine ⟨σ', ?_, fun o ho => e2 o (by omega)⟩
    by_cases c0 : u = 0
    · rw [if_pos (h0.2 c0), if_neg (by decide), if_pos (ht.s7 hu), e3, zbd_some, cl8 (by decide), if_pos c0]
    · rw [if_neg (fun q => c0 (h0.1 q)), if_neg (by decide), if_pos (ht.s7 hu), e3, zbd_some, cl8 (by decide), if_neg c0]
theorem s9_gives {k u : Nat} {σ : ZS} {a b c : Int32} (hk : 61 ≤ k) (hu : u < 2) (hv : VT (σ 104)) : ∃ σ', f9_gives k (nI u) a b c σ = some (gv (σ 104) u a b c, σ') ∧ ∀ o, o ≠ 115 → o ≠ 116 → σ' o = σ o := by
  have h0 : nI u = 0 ↔ u = 0 := by
    have : u = 0 ∨ u = 1 := by omega
    rcases this with rfl | rfl
    · exact ⟨fun _ => rfl, fun _ => rfl⟩
    · exact ⟨fun q => absurd q (by decide), fun q => absurd q (by decide)⟩
  have hpl : (148 : Int32) + (121 : Int32) * nI u = nI (148 + 121 * u) := by
    have : u = 0 ∨ u = 1 := by omega
    rcases this with rfl | rfl
    all_goals rfl
  have hV : VT1 (σ 104) (148 + 121 * u) := by
    have : u = 0 ∨ u = 1 := by omega
    rcases this with rfl | rfl
    · exact hv.1
    · exact hv.2
  have hl := hV.len
  have e104 : zu (zu (zu σ 115 0 a) 115 1 b) 115 2 c 104 = σ 104 := by rw [zu_o (by decide), zu_o (by decide), zu_o (by decide)]
  have ee : ∀ o, o ≠ 115 → zu (zu (zu σ 115 0 a) 115 1 b) 115 2 c o = σ o := fun o ho => by rw [zu_o ho, zu_o ho, zu_o ho]
  rw [f9_gives, zput_eq, zput_eq, zput_eq, hpl, if_pos (nI_z (by omega) (by decide)), nI_nat (by omega), e104]
  rcases hV with q | ⟨q1, q2, q3⟩
  · rw [if_pos (by rw [q]; decide), gv_0 q]
    refine ⟨_, ?_, fun o h1 h2 => ee o h1⟩
    by_cases c0 : u = 0
    · rw [if_pos (h0.2 c0), if_pos (h0.2 c0), s9_clp, zbd_some, if_pos c0, if_pos c0]
    · rw [if_neg (fun q => c0 (h0.1 q)), if_neg (fun q => c0 (h0.1 q)), s9_clp, zbd_some, if_neg c0, if_neg c0]
  · have hr : ¬ σ 104 (148 + 121 * u) = 0 := fun q => by rw [q, t_0] at q1; omega
    rw [if_neg (by rw [Int32.le_iff_toInt_le, t_0]; omega), gv_1 hr]
    obtain ⟨σ', e1, e2⟩ := s9_works (k := k) (a := a) (b := b) (c := c) (R := σ 104) (pl := 148 + 121 * u) (by omega) (W := fun i => σ 104 (148 + 121 * u + 1 + i)) (V := fun i => σ 104 (148 + 121 * u + 61 + i)) (fun _ => ⟨rfl, rfl⟩) (len := (σ 104 (148 + 121 * u)).toInt.toNat) (by omega) (i_nat hl.1) (σ 104 (148 + 121 * u)).toInt.toNat 0 k [] (zu (zu (zu σ 115 0 a) 115 1 b) 115 2 c) e104 ⟨by rw [zu_k (by decide), zu_k (by decide), zu_at], by rw [zu_k (by decide), zu_at], by rw [zu_at]⟩ (by omega) q3 (Nat.le_refl _) trivial (by omega)
    have e3 : f9_works k (nI (148 + 121 * u)) (zu (zu (zu σ 115 0 a) 115 1 b) 115 2 c) = some (wk a b c (fun i => σ 104 (148 + 121 * u + 1 + i)) (fun i => σ 104 (148 + 121 * u + 61 + i)) (σ 104 (148 + 121 * u)).toInt.toNat 0 [], σ') := e1
    refine ⟨σ', ?_, fun o h1 h2 => by rw [e2 o h2, ee o h1]⟩
    rw [e3, zbd_some]
    by_cases c0 : u = 0
    · rw [if_pos (h0.2 c0), s9_clp, zbd_some, if_pos c0]
    · rw [if_neg (fun q => c0 (h0.1 q)), s9_clp, zbd_some, if_neg c0]
theorem gv_rng {R : Nat → Int32} {u : Nat} {a b c : Int32} : 0 ≤ (gv R u a b c).toInt ∧ (gv R u a b c).toInt ≤ (if u = 0 then 99 else 999) := by
  unfold gv
  by_cases c0 : u = 0
  · rw [if_pos c0, if_pos c0, clp_int (by decide), t_0, t_99]; omega
  · rw [if_neg c0, if_neg c0, clp_int (by decide), t_0, t_999]; omega
theorem gv_congr {R R' : Nat → Int32} {u : Nat} (hu : u < 2) {a b c : Int32} (h : ∀ i, 148 ≤ i → R' i = R i) : gv R' u a b c = gv R u a b c := by
  unfold gv
  rw [h _ (by omega), show (fun i => R' (148 + 121 * u + 1 + i)) = (fun i => R (148 + 121 * u + 1 + i)) from funext fun i => h _ (by omega), show (fun i => R' (148 + 121 * u + 61 + i)) = (fun i => R (148 + 121 * u + 61 + i)) from funext fun i => h _ (by omega)]
section
variable {m k : Nat} {σ : ZS}
/-- places that change in no call that only looks -/
def pL (o : Nat) : Prop := (o ≤ 24 ∨ (o = 26) ∨ (o = 27) ∨ (29 ≤ o ∧ o ≤ 55)) ∨ (90 ≤ o ∧ o ≤ 92) ∨ (94 ≤ o ∧ o ≤ 102) ∨ o = 104 ∨ o = 105 ∨ (107 ≤ o ∧ o ≤ 110) ∨ o = 118
theorem RS.congr2 {σ σ' : ZS} {t : Nat} {R : Nat → Int32} (h : RS σ t R) (hv : VT R) (e : ∀ o, t ≤ o → o < t + 27 → o ≠ t + 23 → o ≠ t + 26 → σ' o = σ o) : RS σ' t R := by
  obtain ⟨⟨a1, a2, a3, a4, a5, a6⟩, b, c, d, f, i, j1, j2⟩ := h
  refine ⟨?_, fun g hg k hk => ?_, fun p hp k hk => ?_, fun j hj => ?_, fun j hj => ?_, fun c hc => ?_, j1.congr (e _ (by omega) (by omega) (by omega) (by omega)) (e _ (by omega) (by omega) (by omega) (by omega)) (fun _ _ _ => rfl) hv.1.len.2, j2.congr (e _ (by omega) (by omega) (by omega) (by omega)) (e _ (by omega) (by omega) (by omega) (by omega)) (fun _ _ _ => rfl) hv.2.len.2⟩
  · rw [e t (by omega) (by omega) (by omega) (by omega)]; exact ⟨a1, a2, a3, a4, a5, a6⟩
  · rw [e _ (by omega) (by omega) (by omega) (by omega)]; exact b g hg k hk
  · rw [e _ (by omega) (by omega) (by omega) (by omega)]; exact c p hp k hk
  · rw [e _ (by omega) (by omega) (by omega) (by omega)]; exact d j hj
  · rw [e _ (by omega) (by omega) (by omega) (by omega)]; exact f j hj
  · rw [e _ (by omega) (by omega) (by omega) (by omega)]; exact i c hc
theorem Rel.look (h : Rel m σ) {m' : Nat} (hm : m ≤ m') {σ' : ZS} (e : ∀ o, pL o → σ' o = σ o) (e3 : σ' 103 3 = σ 103 3) (e25 : σ' 103 25 = σ 103 25) : Rel m' σ' := by
  obtain ⟨h1, h2, ⟨i1, i2, i3, i4⟩, h4, h5, h6⟩ := h
  refine ⟨?_, ?_, ⟨?_, ?_, ?_, fun hn => ?_⟩, fun i q1 q2 => ?_, fun s hs => ?_, ?_⟩
  · rw [e 104 (by unfold pL; omega)]
    exact h1.congr2 h2.2.2 fun o q1 q2 q3 q4 => e o (by unfold pL; omega)
  · rw [e 104 (by unfold pL; omega)]; exact h2
  · rw [e 1 (by unfold pL; omega), e3]; exact i1
  · rw [e3]; omega
  · rw [e 1 (by unfold pL; omega), e3]; exact i3
  · rw [e3] at hn
    obtain ⟨q1, q2⟩ := i4 hn
    rw [e 105 (by unfold pL; omega)]
    exact ⟨q1.congr q2.2.2 fun o q1 q2 => e o (by unfold pL; omega), q2⟩
  · rw [e 94 (by unfold pL; omega), e 107 (by unfold pL; omega)]; exact h4 i q1 q2
  · rw [e 108 (by unfold pL; omega), e 109 (by unfold pL; omega), e 110 (by unfold pL; omega), e (95 + 2 * s) (by unfold pL; omega), e (96 + 2 * s) (by unfold pL; omega)]
    exact h5 s hs
  · unfold Vo
    rw [e 90 (by unfold pL; omega), e 91 (by unfold pL; omega), e25, e 118 (by unfold pL; omega)]
    exact h6
theorem op_law (hk : 61 ≤ k) (h : Rel m σ) (u a b c : Int32) : opk m (f8_law k u a b c) (f9_law k u a b c) σ := by
  by_cases c1 : 0 ≤ u.toInt ∧ u.toInt ≤ 1
  · obtain ⟨n, hn, rfl⟩ : ∃ n : Nat, n < 2 ∧ u = nI n := ⟨u.toInt.toNat, by omega, i_nat c1.1⟩
    obtain ⟨σ1, e1, e2⟩ := s5_given (k := k) (t := 2) (u := n) (a := a) (b := b) (c := c) hk (Or.inl rfl) hn h.1 h.2.1.2.2
    have e104 : σ1 104 = σ 104 := e2 _ (by omega)
    obtain ⟨σ2, e3, e4⟩ := s9_gives (k := k) (u := n) (σ := σ1) (a := a) (b := b) (c := c) hk hn (by rw [e104]; exact h.2.1.2.2)
    rw [e104] at e3
    refine ⟨gv (σ 104) n a b c, σ1, σ2, ?_, ?_, h.look (by omega) (fun o ho => by unfold pL at ho; rw [e4 o (by omega) (by omega), e2 o (by omega)]) (by rw [e4 _ (by omega) (by omega), e2 _ (by omega)]) (by rw [e4 _ (by omega) (by omega), e2 _ (by omega)])⟩
    · rw [f8_law, s5_textOf (Or.inl rfl) hn, zbd_some, if_neg (by omega), e1, zbd_some]
    · rw [f9_law, s9_in, zbd_some, t_0, t_1, if_pos c1, if_neg (by decide), e3, zbd_some]
  · refine opk_e1 h ?_ fun s hs => ?_
    · have : f5_textOf k 2 u σ = some (0, σ) := by
        rw [f5_textOf, if_pos (show zsh 2 = 6 from rfl)]
        by_cases c2 : u < 0
        · rw [if_pos c2]
        · rw [if_neg c2, if_neg (by (simp only [Int32.lt_iff_toInt_lt, Int32.le_iff_toInt_le, ← Int32.toInt_inj, t_m1000000006, t_m1000000005, t_m1000000004, t_m1000000003, t_m1000000002, t_m1000000001, t_m1000000000, t_m33, t_m10, t_m3, t_m2, t_m1, t_0, t_1, t_2, t_3, t_4, t_5, t_6, t_7, t_8, t_9, t_10, t_11, t_12, t_13, t_14, t_15, t_16, t_17, t_18, t_19, t_20, t_21, t_22, t_23, t_24, t_25, t_26, t_27, t_28, t_29, t_30, t_31, t_32, t_33, t_34, t_35, t_36, t_37, t_38, t_39, t_40, t_41, t_42, t_43, t_44, t_45, t_46, t_47, t_48, t_49, t_50, t_51, t_52, t_53, t_54, t_55, t_56, t_57, t_58, t_59, t_60, t_61, t_62, t_63, t_64, t_69, t_70, t_71, t_99, t_104, t_105, t_106, t_107, t_108, t_109, t_110, t_111, t_112, t_113, t_114, t_115, t_116, t_121, t_124, t_148, t_255, t_256, t_257, t_390, t_999, t_9999, t_12345, t_99999, t_1103515245] at *; omega))]
      rw [f8_law, this, zbd_some, if_pos rfl, e8_1]; rfl
    · rw [f9_law, s9_in, zbd_some, t_0, t_1, if_neg c1, if_pos rfl, e9_1]; rfl
end
