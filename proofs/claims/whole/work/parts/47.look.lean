/-! looks -/
def btn (tn w : Int32) : Int32 := if tn = 0 then w ^^^ 1 else if tn = 1 then 3 - w else if tn = 2 then (if w % 2 = 1 then w ^^^ 2 else w) else (if w % 2 = 0 then w ^^^ 2 else w)
def onv (kd mm tn sn night w : Int32) : Int32 := if kd = 1 then (if 2 ≤ w then w else btn tn w) else if kd = 2 then (if night = 0 then w else btn tn w) else if kd = 3 then w ^^^ 2 else if kd = 4 then (if 2 ≤ w then w ^^^ 1 else btn tn w ^^^ 2) else if kd = 5 then (if night = 0 then (if mm ≤ 4 then w else w ^^^ 2) else btn tn w) else if kd = 6 then (if sn ≤ mm then btn tn w else -1) else btn tn w
def nt (hr : Int32) : Int32 := if 18 ≤ hr % 24 then 1 else if 6 ≤ hr % 24 then 0 else 1
def onw (R : Nat → Int32) (g : Nat) (w : Int32) : Int32 := onv (R (6 + 5 * g + 0)) (R (6 + 5 * g + 1)) (R (6 + 5 * g + 3)) (R (6 + 5 * g + 4)) (nt (R 0)) w
def nxc (c w : Int32) : Int32 := if w = 0 then (if c < 8 then -1 else c - 8) else if w = 1 then (if 7 ≤ c % 8 then -1 else c + 1) else if w = 2 then (if 56 ≤ c then -1 else c + 8) else (if c % 8 ≤ 0 then -1 else c - 1)
def W4 (w : Int32) : Prop := w = 0 ∨ w = 1 ∨ w = 2 ∨ w = 3
theorem W4.of {w : Int32} (h : 0 ≤ w.toInt ∧ w.toInt ≤ 3) : W4 w := by
  have : w.toInt = 0 ∨ w.toInt = 1 ∨ w.toInt = 2 ∨ w.toInt = 3 := by omega
  rcases this with h | h | h | h
  · exact Or.inl (i_eq h)
  · exact Or.inr (Or.inl (i_eq h))
  · exact Or.inr (Or.inr (Or.inl (i_eq h)))
  · exact Or.inr (Or.inr (Or.inr (i_eq h)))
theorem s0_byTurn {k o : Nat} {w : Int32} {σ : ZS} (h : zsh o = 1) : f0_byTurn k o w σ = some (btn (σ o 3) w, σ) := by
  unfold f0_byTurn f0_roundFrom btn
  rw [if_pos h]
  by_cases h0 : σ o 3 = 0
  · rw [if_pos h0, if_pos h0]
  · rw [if_neg h0, if_neg h0]
    by_cases h1 : σ o 3 = 1
    · rw [if_pos h1, if_pos h1]
    · rw [if_neg h1, if_neg h1]
      by_cases h2 : σ o 3 = 2
      · rw [if_pos h2, if_pos h2]
        by_cases h3 : w % 2 = 1
        · rw [if_pos h3, if_pos h3]; rfl
        · rw [if_neg h3, if_neg h3]
      · rw [if_neg h2, if_neg h2]
        by_cases h3 : w % 2 = 0
        · rw [if_pos h3, if_pos h3]; rfl
        · rw [if_neg h3, if_neg h3]
theorem s0_onward {k o : Nat} {w n : Int32} {σ : ZS} (h : zsh o = 1) : f0_onward k o w n σ = some (onv (σ o 0) (σ o 1) (σ o 3) (σ o 4) n w, σ) := by
  unfold f0_onward onv
  rw [if_pos h]
  simp only [s0_byTurn h, zbd_some]
  by_cases h1 : σ o 0 = 1
  · rw [if_pos h1, if_pos h1]
    by_cases h2 : 2 ≤ w
    · rw [if_pos h2, if_pos h2]
    · rw [if_neg h2, if_neg h2]
  rw [if_neg h1, if_neg h1]
  by_cases h1 : σ o 0 = 2
  · rw [if_pos h1, if_pos h1]
    by_cases h2 : n = 0
    · rw [if_pos h2, if_pos h2]
    · rw [if_neg h2, if_neg h2]
  rw [if_neg h1, if_neg h1]
  by_cases h1 : σ o 0 = 3
  · rw [if_pos h1, if_pos h1]; rfl
  rw [if_neg h1, if_neg h1]
  by_cases h1 : σ o 0 = 4
  · rw [if_pos h1, if_pos h1]
    by_cases h2 : 2 ≤ w
    · rw [if_pos h2, if_pos h2]
    · rw [if_neg h2, if_neg h2]; rfl
  rw [if_neg h1, if_neg h1]
  by_cases h1 : σ o 0 = 5
  · rw [if_pos h1, if_pos h1]
    by_cases h2 : n = 0
    · rw [if_pos h2, if_pos h2]
      by_cases h3 : σ o 1 ≤ 4
      · rw [if_pos h3, if_pos h3]
      · rw [if_neg h3, if_neg h3]; rfl
    · rw [if_neg h2, if_neg h2]
  rw [if_neg h1, if_neg h1]
  by_cases h1 : σ o 0 = 6
  · rw [if_pos h1, if_pos h1]
    by_cases h2 : σ o 4 ≤ σ o 1
    · rw [if_pos h2, if_pos h2]
    · rw [if_neg h2, if_neg h2]
  rw [if_neg h1, if_neg h1]
theorem s9_plain {k : Nat} {t w : Int32} {σ : ZS} (ht : W4 t) (hw : W4 w) : f9_plainOnward k t w σ = some (btn t w, σ) := by
  rcases ht with rfl | rfl | rfl | rfl <;> rcases hw with rfl | rfl | rfl | rfl
  all_goals rfl
theorem btn_rng {t w : Int32} (ht : W4 t) (hw : W4 w) : W4 (btn t w) := by
  unfold W4
  rcases ht with rfl | rfl | rfl | rfl <;> rcases hw with rfl | rfl | rfl | rfl
  all_goals decide
theorem s9_around {k : Nat} {w : Int32} {σ : ZS} (hw : W4 w) : f9_around k w σ = some (w ^^^ 2, σ) := by
  rcases hw with rfl | rfl | rfl | rfl
  all_goals rfl
theorem s9_night {k : Nat} {σ : ZS} : f9_isNight k σ = some (nt (σ 104 0), σ) := by
  unfold f9_isNight nt
  by_cases h1 : 18 ≤ σ 104 0 % 24
  · rw [if_pos h1, if_pos h1]
  · rw [if_neg h1, if_neg h1]
    by_cases h1 : 6 ≤ σ 104 0 % 24
    · rw [if_pos h1, if_pos h1]
    · rw [if_neg h1, if_neg h1]
theorem s5_night {k t : Nat} {σ : ZS} (h : zsh t = 6) : f5_isNight k t σ = some (nt (σ t 10), σ) := by
  unfold f5_isNight nt
  rw [if_pos h]
  by_cases h1 : 18 ≤ σ t 10 % 24
  · rw [if_pos h1, if_pos h1]
  · rw [if_neg h1, if_neg h1]
    by_cases h1 : 6 ≤ σ t 10 % 24
    · rw [if_pos h1, if_pos h1]
    · rw [if_neg h1, if_neg h1]
theorem s9_of' {k g j : Nat} {w : Int32} {σ : ZS} (h : g < 8) (hw : w.toInt = j) (hj : j ≤ 4) : f9_of k (nI g) w σ = some (σ 104 (6 + 5 * g + j), σ) := by
  have hx : (nI g).toInt = g := nI_toInt (by omega)
  rw [s9_of (by omega) (by omega), hx, hw]
  rfl
theorem s9_onward {k g : Nat} {w : Int32} {σ : ZS} (h : g < 8) (hw : W4 w) (ht : W4 (σ 104 (6 + 5 * g + 3))) : f9_onward k (nI g) w σ = some (onw (σ 104) g w, σ) := by
  unfold f9_onward onw onv
  rw [s9_of' h (j := 3) t_3 (by decide), zbd_some, s9_plain ht hw, zbd_some, s9_of' h (j := 0) t_0 (by decide), zbd_some]
  simp only [s9_night, zbd_some, s9_around hw, s9_around (btn_rng ht hw), s9_of' h (j := 1) t_1 (by decide), s9_of' h (j := 4) t_4 (by decide)]
  by_cases h1 : σ 104 (6 + 5 * g + 0) = 1
  · rw [if_pos h1, if_pos h1]
    by_cases h2 : 2 ≤ w
    · rw [if_pos h2, if_pos h2]
    · rw [if_neg h2, if_neg h2]
  rw [if_neg h1, if_neg h1]
  by_cases h1 : σ 104 (6 + 5 * g + 0) = 2
  · rw [if_pos h1, if_pos h1]
    by_cases h2 : nt (σ 104 0) = 0
    · rw [if_pos h2, if_pos h2]
    · rw [if_neg h2, if_neg h2]
  rw [if_neg h1, if_neg h1]
  by_cases h1 : σ 104 (6 + 5 * g + 0) = 3
  · rw [if_pos h1, if_pos h1]
  rw [if_neg h1, if_neg h1]
  by_cases h1 : σ 104 (6 + 5 * g + 0) = 4
  · rw [if_pos h1, if_pos h1]
    by_cases h2 : 2 ≤ w
    · rw [if_pos h2, if_pos h2]
      have : (5 : Int32) - w = w ^^^ 1 := by
        rcases hw with rfl | rfl | rfl | rfl
        · exact absurd h2 (by decide)
        · exact absurd h2 (by decide)
        · rfl
        · rfl
      rw [this]
    · rw [if_neg h2, if_neg h2]
  rw [if_neg h1, if_neg h1]
  by_cases h1 : σ 104 (6 + 5 * g + 0) = 5
  · rw [if_pos h1, if_pos h1]
    by_cases h2 : nt (σ 104 0) = 0
    · rw [if_pos h2, if_pos h2]
      by_cases h3 : σ 104 (6 + 5 * g + 1) ≤ 4
      · rw [if_pos h3, if_pos h3]
      · rw [if_neg h3, if_neg h3]
    · rw [if_neg h2, if_neg h2]
  rw [if_neg h1, if_neg h1]
  by_cases h1 : σ 104 (6 + 5 * g + 0) = 6
  · rw [if_pos h1, if_pos h1]
    by_cases h2 : σ 104 (6 + 5 * g + 4) ≤ σ 104 (6 + 5 * g + 1)
    · rw [if_pos h2, if_pos h2]
    · rw [if_neg h2, if_neg h2]
  rw [if_neg h1, if_neg h1]
theorem W4.x2 {w : Int32} (h : W4 w) : W4 (w ^^^ 2) := by
  unfold W4
  rcases h with rfl | rfl | rfl | rfl
  all_goals decide
theorem W4.x1 {w : Int32} (h : W4 w) : W4 (w ^^^ 1) := by
  unfold W4
  rcases h with rfl | rfl | rfl | rfl
  all_goals decide
theorem onv_rng {kd mm tn sn n w : Int32} (ht : W4 tn) (hw : W4 w) : onv kd mm tn sn n w = -1 ∨ W4 (onv kd mm tn sn n w) := by
  have hb := btn_rng ht hw
  unfold onv
  by_cases h1 : kd = 1
  · rw [if_pos h1]
    by_cases h2 : 2 ≤ w
    · rw [if_pos h2]; exact Or.inr hw
    · rw [if_neg h2]; exact Or.inr hb
  rw [if_neg h1]
  by_cases h1 : kd = 2
  · rw [if_pos h1]
    by_cases h2 : n = 0
    · rw [if_pos h2]; exact Or.inr hw
    · rw [if_neg h2]; exact Or.inr hb
  rw [if_neg h1]
  by_cases h1 : kd = 3
  · rw [if_pos h1]; exact Or.inr hw.x2
  rw [if_neg h1]
  by_cases h1 : kd = 4
  · rw [if_pos h1]
    by_cases h2 : 2 ≤ w
    · rw [if_pos h2]; exact Or.inr hw.x1
    · rw [if_neg h2]; exact Or.inr hb.x2
  rw [if_neg h1]
  by_cases h1 : kd = 5
  · rw [if_pos h1]
    by_cases h2 : n = 0
    · rw [if_pos h2]
      by_cases h3 : mm ≤ 4
      · rw [if_pos h3]; exact Or.inr hw
      · rw [if_neg h3]; exact Or.inr hw.x2
    · rw [if_neg h2]; exact Or.inr hb
  rw [if_neg h1]
  by_cases h1 : kd = 6
  · rw [if_pos h1]
    by_cases h2 : sn ≤ mm
    · rw [if_pos h2]; exact Or.inr hb
    · rw [if_neg h2]; exact Or.inl rfl
  rw [if_neg h1]; exact Or.inr hb
theorem s1_next {k : Nat} {c w : Int32} {σ : ZS} : f1_nextCell k c w σ = some (nxc c w, σ) := by
  unfold f1_nextCell nxc
  by_cases h : w = 0
  · rw [if_pos h, if_pos h]
    by_cases h : c < 8
    · rw [if_pos h, if_pos h]
    · rw [if_neg h, if_neg h]
  rw [if_neg h, if_neg h]
  by_cases h : w = 1
  · rw [if_pos h, if_pos h]
    by_cases h : 7 ≤ c % 8
    · rw [if_pos h, if_pos h]
    · rw [if_neg h, if_neg h]
  rw [if_neg h, if_neg h]
  by_cases h : w = 2
  · rw [if_pos h, if_pos h]
    by_cases h : 56 ≤ c
    · rw [if_pos h, if_pos h]
    · rw [if_neg h, if_neg h]
  rw [if_neg h, if_neg h]
  by_cases h : c % 8 ≤ 0
  · rw [if_pos h, if_pos h]
  · rw [if_neg h, if_neg h]
theorem s9_next {k : Nat} {c w : Int32} {σ : ZS} (hc : 0 ≤ c.toInt ∧ c.toInt ≤ 63) : f9_next k c w σ = some (nxc c w, σ) := by
  have hm : (c % 8).toInt = c.toInt % 8 := by rw [i_mod hc.1, t_8]
  unfold f9_next nxc
  by_cases h : w = 0
  · rw [if_pos h, if_pos h]
    by_cases h : c < 8
    · rw [if_pos h, if_neg (by (simp only [Int32.lt_iff_toInt_lt, Int32.le_iff_toInt_le, ← Int32.toInt_inj, t_m1000000006, t_m1000000005, t_m1000000004, t_m1000000003, t_m1000000002, t_m1000000001, t_m1000000000, t_m33, t_m10, t_m3, t_m2, t_m1, t_0, t_1, t_2, t_3, t_4, t_5, t_6, t_7, t_8, t_9, t_10, t_11, t_12, t_13, t_14, t_15, t_16, t_17, t_18, t_19, t_20, t_21, t_22, t_23, t_24, t_25, t_26, t_27, t_28, t_29, t_30, t_31, t_32, t_33, t_34, t_35, t_36, t_37, t_38, t_39, t_40, t_41, t_42, t_43, t_44, t_45, t_46, t_47, t_48, t_49, t_50, t_51, t_52, t_53, t_54, t_55, t_56, t_57, t_58, t_59, t_60, t_61, t_62, t_63, t_64, t_69, t_70, t_71, t_99, t_104, t_105, t_106, t_107, t_108, t_109, t_110, t_111, t_112, t_113, t_114, t_115, t_116, t_121, t_124, t_148, t_255, t_256, t_257, t_390, t_999, t_9999, t_12345, t_99999, t_1103515245] at *; omega))]
    · rw [if_neg h, if_pos (by (simp only [Int32.lt_iff_toInt_lt, Int32.le_iff_toInt_le, ← Int32.toInt_inj, t_m1000000006, t_m1000000005, t_m1000000004, t_m1000000003, t_m1000000002, t_m1000000001, t_m1000000000, t_m33, t_m10, t_m3, t_m2, t_m1, t_0, t_1, t_2, t_3, t_4, t_5, t_6, t_7, t_8, t_9, t_10, t_11, t_12, t_13, t_14, t_15, t_16, t_17, t_18, t_19, t_20, t_21, t_22, t_23, t_24, t_25, t_26, t_27, t_28, t_29, t_30, t_31, t_32, t_33, t_34, t_35, t_36, t_37, t_38, t_39, t_40, t_41, t_42, t_43, t_44, t_45, t_46, t_47, t_48, t_49, t_50, t_51, t_52, t_53, t_54, t_55, t_56, t_57, t_58, t_59, t_60, t_61, t_62, t_63, t_64, t_69, t_70, t_71, t_99, t_104, t_105, t_106, t_107, t_108, t_109, t_110, t_111, t_112, t_113, t_114, t_115, t_116, t_121, t_124, t_148, t_255, t_256, t_257, t_390, t_999, t_9999, t_12345, t_99999, t_1103515245] at *; omega))]
  rw [if_neg h, if_neg h]
  by_cases h : w = 1
  · rw [if_pos h, if_pos h]
    by_cases h : 7 ≤ c % 8
    · rw [if_pos h, if_pos (by (simp only [Int32.lt_iff_toInt_lt, Int32.le_iff_toInt_le, ← Int32.toInt_inj, t_m1000000006, t_m1000000005, t_m1000000004, t_m1000000003, t_m1000000002, t_m1000000001, t_m1000000000, t_m33, t_m10, t_m3, t_m2, t_m1, t_0, t_1, t_2, t_3, t_4, t_5, t_6, t_7, t_8, t_9, t_10, t_11, t_12, t_13, t_14, t_15, t_16, t_17, t_18, t_19, t_20, t_21, t_22, t_23, t_24, t_25, t_26, t_27, t_28, t_29, t_30, t_31, t_32, t_33, t_34, t_35, t_36, t_37, t_38, t_39, t_40, t_41, t_42, t_43, t_44, t_45, t_46, t_47, t_48, t_49, t_50, t_51, t_52, t_53, t_54, t_55, t_56, t_57, t_58, t_59, t_60, t_61, t_62, t_63, t_64, t_69, t_70, t_71, t_99, t_104, t_105, t_106, t_107, t_108, t_109, t_110, t_111, t_112, t_113, t_114, t_115, t_116, t_121, t_124, t_148, t_255, t_256, t_257, t_390, t_999, t_9999, t_12345, t_99999, t_1103515245] at *; omega))]
    · rw [if_neg h, if_neg (by (simp only [Int32.lt_iff_toInt_lt, Int32.le_iff_toInt_le, ← Int32.toInt_inj, t_m1000000006, t_m1000000005, t_m1000000004, t_m1000000003, t_m1000000002, t_m1000000001, t_m1000000000, t_m33, t_m10, t_m3, t_m2, t_m1, t_0, t_1, t_2, t_3, t_4, t_5, t_6, t_7, t_8, t_9, t_10, t_11, t_12, t_13, t_14, t_15, t_16, t_17, t_18, t_19, t_20, t_21, t_22, t_23, t_24, t_25, t_26, t_27, t_28, t_29, t_30, t_31, t_32, t_33, t_34, t_35, t_36, t_37, t_38, t_39, t_40, t_41, t_42, t_43, t_44, t_45, t_46, t_47, t_48, t_49, t_50, t_51, t_52, t_53, t_54, t_55, t_56, t_57, t_58, t_59, t_60, t_61, t_62, t_63, t_64, t_69, t_70, t_71, t_99, t_104, t_105, t_106, t_107, t_108, t_109, t_110, t_111, t_112, t_113, t_114, t_115, t_116, t_121, t_124, t_148, t_255, t_256, t_257, t_390, t_999, t_9999, t_12345, t_99999, t_1103515245] at *; omega))]
  rw [if_neg h, if_neg h]
  by_cases h : w = 2
  · rw [if_pos h, if_pos h]
    by_cases h : 56 ≤ c
    · rw [if_pos h, if_neg (by (simp only [Int32.lt_iff_toInt_lt, Int32.le_iff_toInt_le, ← Int32.toInt_inj, t_m1000000006, t_m1000000005, t_m1000000004, t_m1000000003, t_m1000000002, t_m1000000001, t_m1000000000, t_m33, t_m10, t_m3, t_m2, t_m1, t_0, t_1, t_2, t_3, t_4, t_5, t_6, t_7, t_8, t_9, t_10, t_11, t_12, t_13, t_14, t_15, t_16, t_17, t_18, t_19, t_20, t_21, t_22, t_23, t_24, t_25, t_26, t_27, t_28, t_29, t_30, t_31, t_32, t_33, t_34, t_35, t_36, t_37, t_38, t_39, t_40, t_41, t_42, t_43, t_44, t_45, t_46, t_47, t_48, t_49, t_50, t_51, t_52, t_53, t_54, t_55, t_56, t_57, t_58, t_59, t_60, t_61, t_62, t_63, t_64, t_69, t_70, t_71, t_99, t_104, t_105, t_106, t_107, t_108, t_109, t_110, t_111, t_112, t_113, t_114, t_115, t_116, t_121, t_124, t_148, t_255, t_256, t_257, t_390, t_999, t_9999, t_12345, t_99999, t_1103515245] at *; omega))]
    · rw [if_neg h, if_pos (by (simp only [Int32.lt_iff_toInt_lt, Int32.le_iff_toInt_le, ← Int32.toInt_inj, t_m1000000006, t_m1000000005, t_m1000000004, t_m1000000003, t_m1000000002, t_m1000000001, t_m1000000000, t_m33, t_m10, t_m3, t_m2, t_m1, t_0, t_1, t_2, t_3, t_4, t_5, t_6, t_7, t_8, t_9, t_10, t_11, t_12, t_13, t_14, t_15, t_16, t_17, t_18, t_19, t_20, t_21, t_22, t_23, t_24, t_25, t_26, t_27, t_28, t_29, t_30, t_31, t_32, t_33, t_34, t_35, t_36, t_37, t_38, t_39, t_40, t_41, t_42, t_43, t_44, t_45, t_46, t_47, t_48, t_49, t_50, t_51, t_52, t_53, t_54, t_55, t_56, t_57, t_58, t_59, t_60, t_61, t_62, t_63, t_64, t_69, t_70, t_71, t_99, t_104, t_105, t_106, t_107, t_108, t_109, t_110, t_111, t_112, t_113, t_114, t_115, t_116, t_121, t_124, t_148, t_255, t_256, t_257, t_390, t_999, t_9999, t_12345, t_99999, t_1103515245] at *; omega))]
  rw [if_neg h, if_neg h]
  by_cases h : c % 8 ≤ 0
  · rw [if_pos h, if_pos (by (simp only [Int32.lt_iff_toInt_lt, Int32.le_iff_toInt_le, ← Int32.toInt_inj, t_m1000000006, t_m1000000005, t_m1000000004, t_m1000000003, t_m1000000002, t_m1000000001, t_m1000000000, t_m33, t_m10, t_m3, t_m2, t_m1, t_0, t_1, t_2, t_3, t_4, t_5, t_6, t_7, t_8, t_9, t_10, t_11, t_12, t_13, t_14, t_15, t_16, t_17, t_18, t_19, t_20, t_21, t_22, t_23, t_24, t_25, t_26, t_27, t_28, t_29, t_30, t_31, t_32, t_33, t_34, t_35, t_36, t_37, t_38, t_39, t_40, t_41, t_42, t_43, t_44, t_45, t_46, t_47, t_48, t_49, t_50, t_51, t_52, t_53, t_54, t_55, t_56, t_57, t_58, t_59, t_60, t_61, t_62, t_63, t_64, t_69, t_70, t_71, t_99, t_104, t_105, t_106, t_107, t_108, t_109, t_110, t_111, t_112, t_113, t_114, t_115, t_116, t_121, t_124, t_148, t_255, t_256, t_257, t_390, t_999, t_9999, t_12345, t_99999, t_1103515245] at *; omega))]
  · rw [if_neg h, if_neg (by (simp only [Int32.lt_iff_toInt_lt, Int32.le_iff_toInt_le, ← Int32.toInt_inj, t_m1000000006, t_m1000000005, t_m1000000004, t_m1000000003, t_m1000000002, t_m1000000001, t_m1000000000, t_m33, t_m10, t_m3, t_m2, t_m1, t_0, t_1, t_2, t_3, t_4, t_5, t_6, t_7, t_8, t_9, t_10, t_11, t_12, t_13, t_14, t_15, t_16, t_17, t_18, t_19, t_20, t_21, t_22, t_23, t_24, t_25, t_26, t_27, t_28, t_29, t_30, t_31, t_32, t_33, t_34, t_35, t_36, t_37, t_38, t_39, t_40, t_41, t_42, t_43, t_44, t_45, t_46, t_47, t_48, t_49, t_50, t_51, t_52, t_53, t_54, t_55, t_56, t_57, t_58, t_59, t_60, t_61, t_62, t_63, t_64, t_69, t_70, t_71, t_99, t_104, t_105, t_106, t_107, t_108, t_109, t_110, t_111, t_112, t_113, t_114, t_115, t_116, t_121, t_124, t_148, t_255, t_256, t_257, t_390, t_999, t_9999, t_12345, t_99999, t_1103515245] at *; omega))]
theorem nxc_rng {c w : Int32} (hc : 0 ≤ c.toInt ∧ c.toInt ≤ 63) : nxc c w = -1 ∨ (0 ≤ (nxc c w).toInt ∧ (nxc c w).toInt ≤ 63) := by
  have hm : (c % 8).toInt = c.toInt % 8 := by rw [i_mod hc.1, t_8]
  unfold nxc
  by_cases h : w = 0
  · rw [if_pos h]
    by_cases h : c < 8
    · rw [if_pos h]; exact Or.inl rfl
    · have e : (c - 8).toInt = c.toInt - 8 := by rw [i_sub (by rw [t_8]; omega), t_8]
      rw [if_neg h]; exact Or.inr (by rw [Int32.lt_iff_toInt_lt, t_8] at h; omega)
  rw [if_neg h]
  by_cases h : w = 1
  · rw [if_pos h]
    by_cases h : 7 ≤ c % 8
    · rw [if_pos h]; exact Or.inl rfl
    · have e : (c + 1).toInt = c.toInt + 1 := by rw [i_add (by rw [t_1]; omega), t_1]
      rw [if_neg h]; exact Or.inr (by rw [Int32.le_iff_toInt_le, t_7] at h; omega)
  rw [if_neg h]
  by_cases h : w = 2
  · rw [if_pos h]
    by_cases h : 56 ≤ c
    · rw [if_pos h]; exact Or.inl rfl
    · have e : (c + 8).toInt = c.toInt + 8 := by rw [i_add (by rw [t_8]; omega), t_8]
      rw [if_neg h]; exact Or.inr (by rw [Int32.le_iff_toInt_le, t_56] at h; omega)
  rw [if_neg h]
  by_cases h : c % 8 ≤ 0
  · rw [if_pos h]; exact Or.inl rfl
  · have e : (c - 1).toInt = c.toInt - 1 := by rw [i_sub (by rw [t_1]; omega), t_1]
    rw [if_neg h]; exact Or.inr (by rw [Int32.le_iff_toInt_le, t_0] at h; omega)
