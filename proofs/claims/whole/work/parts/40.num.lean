/-! numbers, and what a shallow function answers -/
theorem t_m1000000006 : (-1000000006 : Int32).toInt = -1000000006 := by decide
theorem t_m1000000005 : (-1000000005 : Int32).toInt = -1000000005 := by decide
theorem t_m1000000004 : (-1000000004 : Int32).toInt = -1000000004 := by decide
theorem t_m1000000003 : (-1000000003 : Int32).toInt = -1000000003 := by decide
theorem t_m1000000002 : (-1000000002 : Int32).toInt = -1000000002 := by decide
theorem t_m1000000001 : (-1000000001 : Int32).toInt = -1000000001 := by decide
theorem t_m1000000000 : (-1000000000 : Int32).toInt = -1000000000 := by decide
theorem t_m33 : (-33 : Int32).toInt = -33 := by decide
theorem t_m10 : (-10 : Int32).toInt = -10 := by decide
theorem t_m3 : (-3 : Int32).toInt = -3 := by decide
theorem t_m2 : (-2 : Int32).toInt = -2 := by decide
theorem t_m1 : (-1 : Int32).toInt = -1 := by decide
theorem t_0 : (0 : Int32).toInt = 0 := by decide
theorem t_1 : (1 : Int32).toInt = 1 := by decide
theorem t_2 : (2 : Int32).toInt = 2 := by decide
theorem t_3 : (3 : Int32).toInt = 3 := by decide
theorem t_4 : (4 : Int32).toInt = 4 := by decide
theorem t_5 : (5 : Int32).toInt = 5 := by decide
theorem t_6 : (6 : Int32).toInt = 6 := by decide
theorem t_7 : (7 : Int32).toInt = 7 := by decide
theorem t_8 : (8 : Int32).toInt = 8 := by decide
theorem t_9 : (9 : Int32).toInt = 9 := by decide
theorem t_10 : (10 : Int32).toInt = 10 := by decide
theorem t_11 : (11 : Int32).toInt = 11 := by decide
theorem t_12 : (12 : Int32).toInt = 12 := by decide
theorem t_13 : (13 : Int32).toInt = 13 := by decide
theorem t_14 : (14 : Int32).toInt = 14 := by decide
theorem t_15 : (15 : Int32).toInt = 15 := by decide
theorem t_16 : (16 : Int32).toInt = 16 := by decide
theorem t_17 : (17 : Int32).toInt = 17 := by decide
theorem t_18 : (18 : Int32).toInt = 18 := by decide
theorem t_19 : (19 : Int32).toInt = 19 := by decide
theorem t_20 : (20 : Int32).toInt = 20 := by decide
theorem t_21 : (21 : Int32).toInt = 21 := by decide
theorem t_22 : (22 : Int32).toInt = 22 := by decide
theorem t_23 : (23 : Int32).toInt = 23 := by decide
theorem t_24 : (24 : Int32).toInt = 24 := by decide
theorem t_25 : (25 : Int32).toInt = 25 := by decide
theorem t_26 : (26 : Int32).toInt = 26 := by decide
theorem t_27 : (27 : Int32).toInt = 27 := by decide
theorem t_28 : (28 : Int32).toInt = 28 := by decide
theorem t_29 : (29 : Int32).toInt = 29 := by decide
theorem t_30 : (30 : Int32).toInt = 30 := by decide
theorem t_31 : (31 : Int32).toInt = 31 := by decide
theorem t_32 : (32 : Int32).toInt = 32 := by decide
theorem t_33 : (33 : Int32).toInt = 33 := by decide
theorem t_34 : (34 : Int32).toInt = 34 := by decide
theorem t_35 : (35 : Int32).toInt = 35 := by decide
theorem t_36 : (36 : Int32).toInt = 36 := by decide
theorem t_37 : (37 : Int32).toInt = 37 := by decide
theorem t_38 : (38 : Int32).toInt = 38 := by decide
theorem t_39 : (39 : Int32).toInt = 39 := by decide
theorem t_40 : (40 : Int32).toInt = 40 := by decide
theorem t_41 : (41 : Int32).toInt = 41 := by decide
theorem t_42 : (42 : Int32).toInt = 42 := by decide
theorem t_43 : (43 : Int32).toInt = 43 := by decide
theorem t_44 : (44 : Int32).toInt = 44 := by decide
theorem t_45 : (45 : Int32).toInt = 45 := by decide
theorem t_46 : (46 : Int32).toInt = 46 := by decide
theorem t_47 : (47 : Int32).toInt = 47 := by decide
theorem t_48 : (48 : Int32).toInt = 48 := by decide
theorem t_49 : (49 : Int32).toInt = 49 := by decide
theorem t_50 : (50 : Int32).toInt = 50 := by decide
theorem t_51 : (51 : Int32).toInt = 51 := by decide
theorem t_52 : (52 : Int32).toInt = 52 := by decide
theorem t_53 : (53 : Int32).toInt = 53 := by decide
theorem t_54 : (54 : Int32).toInt = 54 := by decide
theorem t_55 : (55 : Int32).toInt = 55 := by decide
theorem t_56 : (56 : Int32).toInt = 56 := by decide
theorem t_57 : (57 : Int32).toInt = 57 := by decide
theorem t_58 : (58 : Int32).toInt = 58 := by decide
theorem t_59 : (59 : Int32).toInt = 59 := by decide
theorem t_60 : (60 : Int32).toInt = 60 := by decide
theorem t_61 : (61 : Int32).toInt = 61 := by decide
theorem t_62 : (62 : Int32).toInt = 62 := by decide
theorem t_63 : (63 : Int32).toInt = 63 := by decide
theorem t_64 : (64 : Int32).toInt = 64 := by decide
theorem t_69 : (69 : Int32).toInt = 69 := by decide
theorem t_70 : (70 : Int32).toInt = 70 := by decide
theorem t_71 : (71 : Int32).toInt = 71 := by decide
theorem t_99 : (99 : Int32).toInt = 99 := by decide
theorem t_104 : (104 : Int32).toInt = 104 := by decide
theorem t_105 : (105 : Int32).toInt = 105 := by decide
theorem t_106 : (106 : Int32).toInt = 106 := by decide
theorem t_107 : (107 : Int32).toInt = 107 := by decide
theorem t_108 : (108 : Int32).toInt = 108 := by decide
theorem t_109 : (109 : Int32).toInt = 109 := by decide
theorem t_110 : (110 : Int32).toInt = 110 := by decide
theorem t_111 : (111 : Int32).toInt = 111 := by decide
theorem t_112 : (112 : Int32).toInt = 112 := by decide
theorem t_113 : (113 : Int32).toInt = 113 := by decide
theorem t_114 : (114 : Int32).toInt = 114 := by decide
theorem t_115 : (115 : Int32).toInt = 115 := by decide
theorem t_116 : (116 : Int32).toInt = 116 := by decide
theorem t_121 : (121 : Int32).toInt = 121 := by decide
theorem t_124 : (124 : Int32).toInt = 124 := by decide
theorem t_148 : (148 : Int32).toInt = 148 := by decide
theorem t_255 : (255 : Int32).toInt = 255 := by decide
theorem t_256 : (256 : Int32).toInt = 256 := by decide
theorem t_257 : (257 : Int32).toInt = 257 := by decide
theorem t_390 : (390 : Int32).toInt = 390 := by decide
theorem t_999 : (999 : Int32).toInt = 999 := by decide
theorem t_9999 : (9999 : Int32).toInt = 9999 := by decide
theorem t_12345 : (12345 : Int32).toInt = 12345 := by decide
theorem t_99999 : (99999 : Int32).toInt = 99999 := by decide
theorem t_1103515245 : (1103515245 : Int32).toInt = 1103515245 := by decide
theorem i_add {a b : Int32} (h : -2147483648 ≤ a.toInt + b.toInt ∧ a.toInt + b.toInt ≤ 2147483647) : (a + b).toInt = a.toInt + b.toInt := by
  rw [Int32.toInt_add]
  exact Int.bmod_eq_of_le (by omega) (by omega)
theorem i_sub {a b : Int32} (h : -2147483648 ≤ a.toInt - b.toInt ∧ a.toInt - b.toInt ≤ 2147483647) : (a - b).toInt = a.toInt - b.toInt := by
  rw [Int32.toInt_sub]
  exact Int.bmod_eq_of_le (by omega) (by omega)
theorem i_mul {a b : Int32} (h : -2147483648 ≤ a.toInt * b.toInt ∧ a.toInt * b.toInt ≤ 2147483647) : (a * b).toInt = a.toInt * b.toInt := by
  rw [Int32.toInt_mul]
  exact Int.bmod_eq_of_le (by omega) (by omega)
theorem i_rng (a : Int32) : -2147483648 ≤ a.toInt ∧ a.toInt ≤ 2147483647 := by
  have h1 := Int32.le_toInt a
  have h2 := Int32.toInt_lt a
  omega
theorem i_nat {a : Int32} (h : 0 ≤ a.toInt) : a = nI a.toInt.toNat := by
  refine Int32.toInt_inj.mp ?_
  have := i_rng a
  rw [nI_toInt (by omega)]
  omega
theorem i_cl (a : Int32) : a.toNatClampNeg = a.toInt.toNat := rfl
theorem i_eq {a b : Int32} (h : a.toInt = b.toInt) : a = b := Int32.toInt_inj.mp h
def ok {α : Type} (m : Option (α × ZS)) (Q : α → ZS → Prop) : Prop := ∃ a s, m = some (a, s) ∧ Q a s
theorem ok_ret {α : Type} {a : α} {s : ZS} {Q : α → ZS → Prop} (h : Q a s) : ok (some (a, s)) Q := ⟨a, s, rfl, h⟩
theorem ok_bd {α β : Type} {m : Option (α × ZS)} {f : α → ZS → Option (β × ZS)} {Q : β → ZS → Prop} (h : ok m fun a s => ok (f a s) Q) : ok (zbd m f) Q := by
  obtain ⟨a, s, rfl, b, s', h1, h2⟩ := h
  exact ⟨b, s', h1, h2⟩
theorem ok_mono {α : Type} {m : Option (α × ZS)} {P Q : α → ZS → Prop} (h : ok m P) (hPQ : ∀ a s, P a s → Q a s) : ok m Q := by
  obtain ⟨a, s, h1, h2⟩ := h
  exact ⟨a, s, h1, hPQ a s h2⟩
theorem ok_eq {α : Type} {m : Option (α × ZS)} {a : α} {s : ZS} (h : m = some (a, s)) {Q : α → ZS → Prop} (hQ : Q a s) : ok m Q := ⟨a, s, h, hQ⟩
theorem ok_put {α : Type} {s : ZS} {f : ZS → Option (α × ZS)} {Q : α → ZS → Prop} (h : ok (f s) Q) : ok (zput s f) Q := h
theorem ok_ite {α : Type} {c : Prop} {_ : Decidable c} {A B : Option (α × ZS)} {Q : α → ZS → Prop} (h1 : c → ok A Q) (h2 : ¬ c → ok B Q) : ok (if c then A else B) Q := by
  by_cases hc : c
  · rw [if_pos hc]; exact h1 hc
  · rw [if_neg hc]; exact h2 hc
theorem ok_g {α : Type} {c : Prop} {_ : Decidable c} {A B : Option (α × ZS)} {Q : α → ZS → Prop} (hc : c) (h1 : ok A Q) : ok (if c then A else B) Q := by
  rw [if_pos hc]; exact h1
theorem ok_n {α : Type} {c : Prop} {_ : Decidable c} {A B : Option (α × ZS)} {Q : α → ZS → Prop} (hc : ¬ c) (h1 : ok B Q) : ok (if c then A else B) Q := by
  rw [if_neg hc]; exact h1
theorem zbd_some {α β : Type} {a : α} {s : ZS} {f : α → ZS → Option β} : zbd (some (a, s)) f = f a s := rfl
theorem zput_eq {α : Type} {s : ZS} {f : ZS → α} : zput s f = f s := rfl
theorem zu_at {σ : ZS} {o k : Nat} {v : Int32} : zu σ o k v o k = v := by
  unfold zu
  rw [zu_row]
  exact if_pos rfl
theorem zu_o {σ : ZS} {o k a : Nat} {v : Int32} (h : a ≠ o) : zu σ o k v a = σ a := zu_ne h
theorem zu_k {σ : ZS} {o k j : Nat} {v : Int32} (h : j ≠ k) : zu σ o k v o j = σ o j := by
  unfold zu
  rw [zu_row]
  exact if_neg h
theorem zu_self {σ : ZS} {o k : Nat} {v : Int32} : zu σ o k v o = upd (σ o) k v := zu_row
theorem upd_at {f : Nat → Int32} {k : Nat} {v : Int32} : upd f k v k = v := if_pos rfl
theorem upd_ne {f : Nat → Int32} {k j : Nat} {v : Int32} (h : j ≠ k) : upd f k v j = f j := if_neg h
/-! small helpers of both sides -/
theorem s9_in {k : Nat} {a b c : Int32} {σ : ZS} : f9_in k a b c σ = some (if b.toInt ≤ a.toInt ∧ a.toInt ≤ c.toInt then 1 else 0, σ) := by
  unfold f9_in
  by_cases h1 : a < b
  · rw [if_pos h1, if_neg (by (simp only [Int32.lt_iff_toInt_lt, Int32.le_iff_toInt_le, ← Int32.toInt_inj, t_m1000000006, t_m1000000005, t_m1000000004, t_m1000000003, t_m1000000002, t_m1000000001, t_m1000000000, t_m33, t_m10, t_m3, t_m2, t_m1, t_0, t_1, t_2, t_3, t_4, t_5, t_6, t_7, t_8, t_9, t_10, t_11, t_12, t_13, t_14, t_15, t_16, t_17, t_18, t_19, t_20, t_21, t_22, t_23, t_24, t_25, t_26, t_27, t_28, t_29, t_30, t_31, t_32, t_33, t_34, t_35, t_36, t_37, t_38, t_39, t_40, t_41, t_42, t_43, t_44, t_45, t_46, t_47, t_48, t_49, t_50, t_51, t_52, t_53, t_54, t_55, t_56, t_57, t_58, t_59, t_60, t_61, t_62, t_63, t_64, t_69, t_70, t_71, t_99, t_104, t_105, t_106, t_107, t_108, t_109, t_110, t_111, t_112, t_113, t_114, t_115, t_116, t_121, t_124, t_148, t_255, t_256, t_257, t_390, t_999, t_9999, t_12345, t_99999, t_1103515245] at *; omega))]
  · rw [if_neg h1]
    by_cases h2 : c < a
    · rw [if_pos h2, if_neg (by (simp only [Int32.lt_iff_toInt_lt, Int32.le_iff_toInt_le, ← Int32.toInt_inj, t_m1000000006, t_m1000000005, t_m1000000004, t_m1000000003, t_m1000000002, t_m1000000001, t_m1000000000, t_m33, t_m10, t_m3, t_m2, t_m1, t_0, t_1, t_2, t_3, t_4, t_5, t_6, t_7, t_8, t_9, t_10, t_11, t_12, t_13, t_14, t_15, t_16, t_17, t_18, t_19, t_20, t_21, t_22, t_23, t_24, t_25, t_26, t_27, t_28, t_29, t_30, t_31, t_32, t_33, t_34, t_35, t_36, t_37, t_38, t_39, t_40, t_41, t_42, t_43, t_44, t_45, t_46, t_47, t_48, t_49, t_50, t_51, t_52, t_53, t_54, t_55, t_56, t_57, t_58, t_59, t_60, t_61, t_62, t_63, t_64, t_69, t_70, t_71, t_99, t_104, t_105, t_106, t_107, t_108, t_109, t_110, t_111, t_112, t_113, t_114, t_115, t_116, t_121, t_124, t_148, t_255, t_256, t_257, t_390, t_999, t_9999, t_12345, t_99999, t_1103515245] at *; omega))]
    · rw [if_neg h2, if_pos (by (simp only [Int32.lt_iff_toInt_lt, Int32.le_iff_toInt_le, ← Int32.toInt_inj, t_m1000000006, t_m1000000005, t_m1000000004, t_m1000000003, t_m1000000002, t_m1000000001, t_m1000000000, t_m33, t_m10, t_m3, t_m2, t_m1, t_0, t_1, t_2, t_3, t_4, t_5, t_6, t_7, t_8, t_9, t_10, t_11, t_12, t_13, t_14, t_15, t_16, t_17, t_18, t_19, t_20, t_21, t_22, t_23, t_24, t_25, t_26, t_27, t_28, t_29, t_30, t_31, t_32, t_33, t_34, t_35, t_36, t_37, t_38, t_39, t_40, t_41, t_42, t_43, t_44, t_45, t_46, t_47, t_48, t_49, t_50, t_51, t_52, t_53, t_54, t_55, t_56, t_57, t_58, t_59, t_60, t_61, t_62, t_63, t_64, t_69, t_70, t_71, t_99, t_104, t_105, t_106, t_107, t_108, t_109, t_110, t_111, t_112, t_113, t_114, t_115, t_116, t_121, t_124, t_148, t_255, t_256, t_257, t_390, t_999, t_9999, t_12345, t_99999, t_1103515245] at *; omega))]
theorem s8_isNoKm {k : Nat} {a : Int32} {σ : ZS} : f8_isNoKm k a σ = some (if 0 ≤ a.toInt ∧ a.toInt ≤ 69 then 0 else 1, σ) := by
  unfold f8_isNoKm
  by_cases h1 : a < 0
  · rw [if_pos h1, if_neg (by (simp only [Int32.lt_iff_toInt_lt, Int32.le_iff_toInt_le, ← Int32.toInt_inj, t_m1000000006, t_m1000000005, t_m1000000004, t_m1000000003, t_m1000000002, t_m1000000001, t_m1000000000, t_m33, t_m10, t_m3, t_m2, t_m1, t_0, t_1, t_2, t_3, t_4, t_5, t_6, t_7, t_8, t_9, t_10, t_11, t_12, t_13, t_14, t_15, t_16, t_17, t_18, t_19, t_20, t_21, t_22, t_23, t_24, t_25, t_26, t_27, t_28, t_29, t_30, t_31, t_32, t_33, t_34, t_35, t_36, t_37, t_38, t_39, t_40, t_41, t_42, t_43, t_44, t_45, t_46, t_47, t_48, t_49, t_50, t_51, t_52, t_53, t_54, t_55, t_56, t_57, t_58, t_59, t_60, t_61, t_62, t_63, t_64, t_69, t_70, t_71, t_99, t_104, t_105, t_106, t_107, t_108, t_109, t_110, t_111, t_112, t_113, t_114, t_115, t_116, t_121, t_124, t_148, t_255, t_256, t_257, t_390, t_999, t_9999, t_12345, t_99999, t_1103515245] at *; omega))]
  · rw [if_neg h1]
    by_cases h2 : a ≤ 69
    · rw [if_pos h2, if_pos (by (simp only [Int32.lt_iff_toInt_lt, Int32.le_iff_toInt_le, ← Int32.toInt_inj, t_m1000000006, t_m1000000005, t_m1000000004, t_m1000000003, t_m1000000002, t_m1000000001, t_m1000000000, t_m33, t_m10, t_m3, t_m2, t_m1, t_0, t_1, t_2, t_3, t_4, t_5, t_6, t_7, t_8, t_9, t_10, t_11, t_12, t_13, t_14, t_15, t_16, t_17, t_18, t_19, t_20, t_21, t_22, t_23, t_24, t_25, t_26, t_27, t_28, t_29, t_30, t_31, t_32, t_33, t_34, t_35, t_36, t_37, t_38, t_39, t_40, t_41, t_42, t_43, t_44, t_45, t_46, t_47, t_48, t_49, t_50, t_51, t_52, t_53, t_54, t_55, t_56, t_57, t_58, t_59, t_60, t_61, t_62, t_63, t_64, t_69, t_70, t_71, t_99, t_104, t_105, t_106, t_107, t_108, t_109, t_110, t_111, t_112, t_113, t_114, t_115, t_116, t_121, t_124, t_148, t_255, t_256, t_257, t_390, t_999, t_9999, t_12345, t_99999, t_1103515245] at *; omega))]
    · rw [if_neg h2, if_neg (by (simp only [Int32.lt_iff_toInt_lt, Int32.le_iff_toInt_le, ← Int32.toInt_inj, t_m1000000006, t_m1000000005, t_m1000000004, t_m1000000003, t_m1000000002, t_m1000000001, t_m1000000000, t_m33, t_m10, t_m3, t_m2, t_m1, t_0, t_1, t_2, t_3, t_4, t_5, t_6, t_7, t_8, t_9, t_10, t_11, t_12, t_13, t_14, t_15, t_16, t_17, t_18, t_19, t_20, t_21, t_22, t_23, t_24, t_25, t_26, t_27, t_28, t_29, t_30, t_31, t_32, t_33, t_34, t_35, t_36, t_37, t_38, t_39, t_40, t_41, t_42, t_43, t_44, t_45, t_46, t_47, t_48, t_49, t_50, t_51, t_52, t_53, t_54, t_55, t_56, t_57, t_58, t_59, t_60, t_61, t_62, t_63, t_64, t_69, t_70, t_71, t_99, t_104, t_105, t_106, t_107, t_108, t_109, t_110, t_111, t_112, t_113, t_114, t_115, t_116, t_121, t_124, t_148, t_255, t_256, t_257, t_390, t_999, t_9999, t_12345, t_99999, t_1103515245] at *; omega))]
theorem s8_isNoCell {k : Nat} {a : Int32} {σ : ZS} : f8_isNoCell k a σ = some (if 0 ≤ a.toInt ∧ a.toInt ≤ 63 then 0 else 1, σ) := by
  unfold f8_isNoCell
  by_cases h1 : a < 0
  · rw [if_pos h1, if_neg (by (simp only [Int32.lt_iff_toInt_lt, Int32.le_iff_toInt_le, ← Int32.toInt_inj, t_m1000000006, t_m1000000005, t_m1000000004, t_m1000000003, t_m1000000002, t_m1000000001, t_m1000000000, t_m33, t_m10, t_m3, t_m2, t_m1, t_0, t_1, t_2, t_3, t_4, t_5, t_6, t_7, t_8, t_9, t_10, t_11, t_12, t_13, t_14, t_15, t_16, t_17, t_18, t_19, t_20, t_21, t_22, t_23, t_24, t_25, t_26, t_27, t_28, t_29, t_30, t_31, t_32, t_33, t_34, t_35, t_36, t_37, t_38, t_39, t_40, t_41, t_42, t_43, t_44, t_45, t_46, t_47, t_48, t_49, t_50, t_51, t_52, t_53, t_54, t_55, t_56, t_57, t_58, t_59, t_60, t_61, t_62, t_63, t_64, t_69, t_70, t_71, t_99, t_104, t_105, t_106, t_107, t_108, t_109, t_110, t_111, t_112, t_113, t_114, t_115, t_116, t_121, t_124, t_148, t_255, t_256, t_257, t_390, t_999, t_9999, t_12345, t_99999, t_1103515245] at *; omega))]
  · rw [if_neg h1]
    by_cases h2 : a < 64
    · rw [if_pos h2, if_pos (by (simp only [Int32.lt_iff_toInt_lt, Int32.le_iff_toInt_le, ← Int32.toInt_inj, t_m1000000006, t_m1000000005, t_m1000000004, t_m1000000003, t_m1000000002, t_m1000000001, t_m1000000000, t_m33, t_m10, t_m3, t_m2, t_m1, t_0, t_1, t_2, t_3, t_4, t_5, t_6, t_7, t_8, t_9, t_10, t_11, t_12, t_13, t_14, t_15, t_16, t_17, t_18, t_19, t_20, t_21, t_22, t_23, t_24, t_25, t_26, t_27, t_28, t_29, t_30, t_31, t_32, t_33, t_34, t_35, t_36, t_37, t_38, t_39, t_40, t_41, t_42, t_43, t_44, t_45, t_46, t_47, t_48, t_49, t_50, t_51, t_52, t_53, t_54, t_55, t_56, t_57, t_58, t_59, t_60, t_61, t_62, t_63, t_64, t_69, t_70, t_71, t_99, t_104, t_105, t_106, t_107, t_108, t_109, t_110, t_111, t_112, t_113, t_114, t_115, t_116, t_121, t_124, t_148, t_255, t_256, t_257, t_390, t_999, t_9999, t_12345, t_99999, t_1103515245] at *; omega))]
    · rw [if_neg h2, if_neg (by (simp only [Int32.lt_iff_toInt_lt, Int32.le_iff_toInt_le, ← Int32.toInt_inj, t_m1000000006, t_m1000000005, t_m1000000004, t_m1000000003, t_m1000000002, t_m1000000001, t_m1000000000, t_m33, t_m10, t_m3, t_m2, t_m1, t_0, t_1, t_2, t_3, t_4, t_5, t_6, t_7, t_8, t_9, t_10, t_11, t_12, t_13, t_14, t_15, t_16, t_17, t_18, t_19, t_20, t_21, t_22, t_23, t_24, t_25, t_26, t_27, t_28, t_29, t_30, t_31, t_32, t_33, t_34, t_35, t_36, t_37, t_38, t_39, t_40, t_41, t_42, t_43, t_44, t_45, t_46, t_47, t_48, t_49, t_50, t_51, t_52, t_53, t_54, t_55, t_56, t_57, t_58, t_59, t_60, t_61, t_62, t_63, t_64, t_69, t_70, t_71, t_99, t_104, t_105, t_106, t_107, t_108, t_109, t_110, t_111, t_112, t_113, t_114, t_115, t_116, t_121, t_124, t_148, t_255, t_256, t_257, t_390, t_999, t_9999, t_12345, t_99999, t_1103515245] at *; omega))]
theorem s8_isNoWay {k : Nat} {a : Int32} {σ : ZS} : f8_isNoWay k a σ = some (if 0 ≤ a.toInt ∧ a.toInt ≤ 3 then 0 else 1, σ) := by
  unfold f8_isNoWay
  by_cases h1 : a < 0
  · rw [if_pos h1, if_neg (by (simp only [Int32.lt_iff_toInt_lt, Int32.le_iff_toInt_le, ← Int32.toInt_inj, t_m1000000006, t_m1000000005, t_m1000000004, t_m1000000003, t_m1000000002, t_m1000000001, t_m1000000000, t_m33, t_m10, t_m3, t_m2, t_m1, t_0, t_1, t_2, t_3, t_4, t_5, t_6, t_7, t_8, t_9, t_10, t_11, t_12, t_13, t_14, t_15, t_16, t_17, t_18, t_19, t_20, t_21, t_22, t_23, t_24, t_25, t_26, t_27, t_28, t_29, t_30, t_31, t_32, t_33, t_34, t_35, t_36, t_37, t_38, t_39, t_40, t_41, t_42, t_43, t_44, t_45, t_46, t_47, t_48, t_49, t_50, t_51, t_52, t_53, t_54, t_55, t_56, t_57, t_58, t_59, t_60, t_61, t_62, t_63, t_64, t_69, t_70, t_71, t_99, t_104, t_105, t_106, t_107, t_108, t_109, t_110, t_111, t_112, t_113, t_114, t_115, t_116, t_121, t_124, t_148, t_255, t_256, t_257, t_390, t_999, t_9999, t_12345, t_99999, t_1103515245] at *; omega))]
  · rw [if_neg h1]
    by_cases h2 : a < 4
    · rw [if_pos h2, if_pos (by (simp only [Int32.lt_iff_toInt_lt, Int32.le_iff_toInt_le, ← Int32.toInt_inj, t_m1000000006, t_m1000000005, t_m1000000004, t_m1000000003, t_m1000000002, t_m1000000001, t_m1000000000, t_m33, t_m10, t_m3, t_m2, t_m1, t_0, t_1, t_2, t_3, t_4, t_5, t_6, t_7, t_8, t_9, t_10, t_11, t_12, t_13, t_14, t_15, t_16, t_17, t_18, t_19, t_20, t_21, t_22, t_23, t_24, t_25, t_26, t_27, t_28, t_29, t_30, t_31, t_32, t_33, t_34, t_35, t_36, t_37, t_38, t_39, t_40, t_41, t_42, t_43, t_44, t_45, t_46, t_47, t_48, t_49, t_50, t_51, t_52, t_53, t_54, t_55, t_56, t_57, t_58, t_59, t_60, t_61, t_62, t_63, t_64, t_69, t_70, t_71, t_99, t_104, t_105, t_106, t_107, t_108, t_109, t_110, t_111, t_112, t_113, t_114, t_115, t_116, t_121, t_124, t_148, t_255, t_256, t_257, t_390, t_999, t_9999, t_12345, t_99999, t_1103515245] at *; omega))]
    · rw [if_neg h2, if_neg (by (simp only [Int32.lt_iff_toInt_lt, Int32.le_iff_toInt_le, ← Int32.toInt_inj, t_m1000000006, t_m1000000005, t_m1000000004, t_m1000000003, t_m1000000002, t_m1000000001, t_m1000000000, t_m33, t_m10, t_m3, t_m2, t_m1, t_0, t_1, t_2, t_3, t_4, t_5, t_6, t_7, t_8, t_9, t_10, t_11, t_12, t_13, t_14, t_15, t_16, t_17, t_18, t_19, t_20, t_21, t_22, t_23, t_24, t_25, t_26, t_27, t_28, t_29, t_30, t_31, t_32, t_33, t_34, t_35, t_36, t_37, t_38, t_39, t_40, t_41, t_42, t_43, t_44, t_45, t_46, t_47, t_48, t_49, t_50, t_51, t_52, t_53, t_54, t_55, t_56, t_57, t_58, t_59, t_60, t_61, t_62, t_63, t_64, t_69, t_70, t_71, t_99, t_104, t_105, t_106, t_107, t_108, t_109, t_110, t_111, t_112, t_113, t_114, t_115, t_116, t_121, t_124, t_148, t_255, t_256, t_257, t_390, t_999, t_9999, t_12345, t_99999, t_1103515245] at *; omega))]
theorem s8_isNoTurn {k : Nat} {a : Int32} {σ : ZS} : f8_isNoTurn k a σ = some (if 0 ≤ a.toInt ∧ a.toInt ≤ 3 then 0 else 1, σ) := by
  unfold f8_isNoTurn
  by_cases h1 : a < 0
  · rw [if_pos h1, if_neg (by (simp only [Int32.lt_iff_toInt_lt, Int32.le_iff_toInt_le, ← Int32.toInt_inj, t_m1000000006, t_m1000000005, t_m1000000004, t_m1000000003, t_m1000000002, t_m1000000001, t_m1000000000, t_m33, t_m10, t_m3, t_m2, t_m1, t_0, t_1, t_2, t_3, t_4, t_5, t_6, t_7, t_8, t_9, t_10, t_11, t_12, t_13, t_14, t_15, t_16, t_17, t_18, t_19, t_20, t_21, t_22, t_23, t_24, t_25, t_26, t_27, t_28, t_29, t_30, t_31, t_32, t_33, t_34, t_35, t_36, t_37, t_38, t_39, t_40, t_41, t_42, t_43, t_44, t_45, t_46, t_47, t_48, t_49, t_50, t_51, t_52, t_53, t_54, t_55, t_56, t_57, t_58, t_59, t_60, t_61, t_62, t_63, t_64, t_69, t_70, t_71, t_99, t_104, t_105, t_106, t_107, t_108, t_109, t_110, t_111, t_112, t_113, t_114, t_115, t_116, t_121, t_124, t_148, t_255, t_256, t_257, t_390, t_999, t_9999, t_12345, t_99999, t_1103515245] at *; omega))]
  · rw [if_neg h1]
    by_cases h2 : a < 4
    · rw [if_pos h2, if_pos (by (simp only [Int32.lt_iff_toInt_lt, Int32.le_iff_toInt_le, ← Int32.toInt_inj, t_m1000000006, t_m1000000005, t_m1000000004, t_m1000000003, t_m1000000002, t_m1000000001, t_m1000000000, t_m33, t_m10, t_m3, t_m2, t_m1, t_0, t_1, t_2, t_3, t_4, t_5, t_6, t_7, t_8, t_9, t_10, t_11, t_12, t_13, t_14, t_15, t_16, t_17, t_18, t_19, t_20, t_21, t_22, t_23, t_24, t_25, t_26, t_27, t_28, t_29, t_30, t_31, t_32, t_33, t_34, t_35, t_36, t_37, t_38, t_39, t_40, t_41, t_42, t_43, t_44, t_45, t_46, t_47, t_48, t_49, t_50, t_51, t_52, t_53, t_54, t_55, t_56, t_57, t_58, t_59, t_60, t_61, t_62, t_63, t_64, t_69, t_70, t_71, t_99, t_104, t_105, t_106, t_107, t_108, t_109, t_110, t_111, t_112, t_113, t_114, t_115, t_116, t_121, t_124, t_148, t_255, t_256, t_257, t_390, t_999, t_9999, t_12345, t_99999, t_1103515245] at *; omega))]
    · rw [if_neg h2, if_neg (by (simp only [Int32.lt_iff_toInt_lt, Int32.le_iff_toInt_le, ← Int32.toInt_inj, t_m1000000006, t_m1000000005, t_m1000000004, t_m1000000003, t_m1000000002, t_m1000000001, t_m1000000000, t_m33, t_m10, t_m3, t_m2, t_m1, t_0, t_1, t_2, t_3, t_4, t_5, t_6, t_7, t_8, t_9, t_10, t_11, t_12, t_13, t_14, t_15, t_16, t_17, t_18, t_19, t_20, t_21, t_22, t_23, t_24, t_25, t_26, t_27, t_28, t_29, t_30, t_31, t_32, t_33, t_34, t_35, t_36, t_37, t_38, t_39, t_40, t_41, t_42, t_43, t_44, t_45, t_46, t_47, t_48, t_49, t_50, t_51, t_52, t_53, t_54, t_55, t_56, t_57, t_58, t_59, t_60, t_61, t_62, t_63, t_64, t_69, t_70, t_71, t_99, t_104, t_105, t_106, t_107, t_108, t_109, t_110, t_111, t_112, t_113, t_114, t_115, t_116, t_121, t_124, t_148, t_255, t_256, t_257, t_390, t_999, t_9999, t_12345, t_99999, t_1103515245] at *; omega))]
theorem zbo_if {c : Prop} {_ : Decidable c} : zbo (if c then (1 : Int32) else 0) := by
  by_cases h : c
  · rw [if_pos h]; exact Or.inr rfl
  · rw [if_neg h]; exact Or.inl rfl
theorem s9_isKm {k : Nat} {a : Int32} {σ : ZS} : f9_isKm k a σ = some (if 0 ≤ a.toInt ∧ a.toInt ≤ 69 then 1 else 0, σ) := by
  unfold f9_isKm
  rw [s9_in, zbd_some, t_0, t_69, if_pos zbo_if]
theorem s9_isCell {k : Nat} {a : Int32} {σ : ZS} : f9_isCell k a σ = some (if 0 ≤ a.toInt ∧ a.toInt ≤ 63 then 1 else 0, σ) := by
  unfold f9_isCell
  rw [s9_in, zbd_some, t_0, t_63, if_pos zbo_if]
theorem s9_isFour {k : Nat} {a : Int32} {σ : ZS} : f9_isFour k a σ = some (if 0 ≤ a.toInt ∧ a.toInt ≤ 3 then 1 else 0, σ) := by
  unfold f9_isFour
  rw [s9_in, zbd_some, t_0, t_3, if_pos zbo_if]
theorem s9_isSheet {k : Nat} {a : Int32} {σ : ZS} : f9_isSheet k a σ = some (if 0 ≤ a.toInt ∧ a.toInt ≤ 3 then 1 else 0, σ) := by
  unfold f9_isSheet
  rw [s9_in, zbd_some, t_0, t_3, if_pos zbo_if]
theorem s9_isGlass {k : Nat} {a : Int32} {σ : ZS} (h : 0 ≤ (σ 104 2).toInt) : f9_isGlass k a σ = some (if 0 ≤ a.toInt ∧ a.toInt < (σ 104 2).toInt then 1 else 0, σ) := by
  unfold f9_isGlass
  have e := i_rng (σ 104 2)
  have e2 : (σ 104 2 - 1).toInt = (σ 104 2).toInt - 1 := by rw [i_sub (by rw [t_1]; omega), t_1]
  rw [s9_in, zbd_some, t_0, e2, if_pos zbo_if]
  by_cases h1 : 0 ≤ a.toInt ∧ a.toInt < (σ 104 2).toInt
  · rw [if_pos h1, if_pos (by omega)]
  · rw [if_neg h1, if_neg (by omega)]
theorem s9_isPerson {k : Nat} {a : Int32} {σ : ZS} (h : 0 ≤ (σ 104 3).toInt) : f9_isPerson k a σ = some (if 0 ≤ a.toInt ∧ a.toInt < (σ 104 3).toInt then 1 else 0, σ) := by
  unfold f9_isPerson
  have e := i_rng (σ 104 3)
  have e2 : (σ 104 3 - 1).toInt = (σ 104 3).toInt - 1 := by rw [i_sub (by rw [t_1]; omega), t_1]
  rw [s9_in, zbd_some, t_0, e2, if_pos zbo_if]
  by_cases h1 : 0 ≤ a.toInt ∧ a.toInt < (σ 104 3).toInt
  · rw [if_pos h1, if_pos (by omega)]
  · rw [if_neg h1, if_neg (by omega)]
theorem i_gx {g w : Int32} (h : 0 ≤ g.toInt ∧ g.toInt ≤ 7) (h2 : 0 ≤ w.toInt ∧ w.toInt ≤ 4) : ((6 : Int32) + (5 : Int32) * g + w).toInt = 6 + 5 * g.toInt + w.toInt := by
  have e1 : ((5 : Int32) * g).toInt = 5 * g.toInt := by rw [i_mul (by rw [t_5]; omega), t_5]
  have e2 : ((6 : Int32) + (5 : Int32) * g).toInt = 6 + 5 * g.toInt := by rw [i_add (by rw [t_6, e1]; omega), t_6, e1]
  rw [i_add (by rw [e2]; omega), e2]
theorem i_px {p w : Int32} (h : 0 ≤ p.toInt ∧ p.toInt ≤ 5) (h2 : 0 ≤ w.toInt ∧ w.toInt ≤ 2) : ((46 : Int32) + (3 : Int32) * p + w).toInt = 46 + 3 * p.toInt + w.toInt := by
  have e1 : ((3 : Int32) * p).toInt = 3 * p.toInt := by rw [i_mul (by rw [t_3]; omega), t_3]
  have e2 : ((46 : Int32) + (3 : Int32) * p).toInt = 46 + 3 * p.toInt := by rw [i_add (by rw [t_46, e1]; omega), t_46, e1]
  rw [i_add (by rw [e2]; omega), e2]
theorem i_g0 {g : Int32} (h : 0 ≤ g.toInt ∧ g.toInt ≤ 7) : ((6 : Int32) + (5 : Int32) * g).toInt = 6 + 5 * g.toInt := by
  have e1 : ((5 : Int32) * g).toInt = 5 * g.toInt := by rw [i_mul (by rw [t_5]; omega), t_5]
  rw [i_add (by rw [t_6, e1]; omega), t_6, e1]
theorem i_p0 {p : Int32} (h : 0 ≤ p.toInt ∧ p.toInt ≤ 5) : ((46 : Int32) + (3 : Int32) * p).toInt = 46 + 3 * p.toInt := by
  have e1 : ((3 : Int32) * p).toInt = 3 * p.toInt := by rw [i_mul (by rw [t_3]; omega), t_3]
  rw [i_add (by rw [t_46, e1]; omega), t_46, e1]
theorem s9_of {k : Nat} {g w : Int32} {σ : ZS} (h : 0 ≤ g.toInt ∧ g.toInt ≤ 7) (h2 : 0 ≤ w.toInt ∧ w.toInt ≤ 4) : f9_of k g w σ = some (σ 104 (6 + 5 * g.toInt.toNat + w.toInt.toNat), σ) := by
  unfold f9_of
  have e := i_gx h h2
  rw [if_pos (by rw [zin, e]; omega), i_cl, e, show (6 + 5 * g.toInt + w.toInt).toNat = 6 + 5 * g.toInt.toNat + w.toInt.toNat by omega]
theorem s9_about {k : Nat} {p w : Int32} {σ : ZS} (h : 0 ≤ p.toInt ∧ p.toInt ≤ 5) (h2 : 0 ≤ w.toInt ∧ w.toInt ≤ 2) : f9_about k p w σ = some (σ 104 (46 + 3 * p.toInt.toNat + w.toInt.toNat), σ) := by
  unfold f9_about
  have e := i_px h h2
  rw [if_pos (by rw [zin, e]; omega), i_cl, e, show (46 + 3 * p.toInt + w.toInt).toNat = 46 + 3 * p.toInt.toNat + w.toInt.toNat by omega]
theorem s9_becomes {k : Nat} {i v : Int32} {σ : ZS} (h : 0 ≤ i.toInt ∧ i.toInt < 390) : f9_becomes k i v σ = some (σ 104 i.toInt.toNat, zu σ 104 i.toInt.toNat v) := by
  unfold f9_becomes
  have hz : zin i 390 := h
  rw [if_pos hz, if_pos hz, zput_eq]
  rfl
theorem s9_held {k : Nat} {a b c : Int32} {σ : ZS} (h : b.toInt ≤ c.toInt) : ∃ r, f9_held k a b c σ = some (r, σ) ∧ r.toInt = max b.toInt (min a.toInt c.toInt) := by
  unfold f9_held
  by_cases h1 : b ≤ a
  · rw [if_pos h1]
    by_cases h2 : a ≤ c
    · rw [if_pos h2]; exact ⟨a, rfl, by (simp only [Int32.lt_iff_toInt_lt, Int32.le_iff_toInt_le, ← Int32.toInt_inj, t_m1000000006, t_m1000000005, t_m1000000004, t_m1000000003, t_m1000000002, t_m1000000001, t_m1000000000, t_m33, t_m10, t_m3, t_m2, t_m1, t_0, t_1, t_2, t_3, t_4, t_5, t_6, t_7, t_8, t_9, t_10, t_11, t_12, t_13, t_14, t_15, t_16, t_17, t_18, t_19, t_20, t_21, t_22, t_23, t_24, t_25, t_26, t_27, t_28, t_29, t_30, t_31, t_32, t_33, t_34, t_35, t_36, t_37, t_38, t_39, t_40, t_41, t_42, t_43, t_44, t_45, t_46, t_47, t_48, t_49, t_50, t_51, t_52, t_53, t_54, t_55, t_56, t_57, t_58, t_59, t_60, t_61, t_62, t_63, t_64, t_69, t_70, t_71, t_99, t_104, t_105, t_106, t_107, t_108, t_109, t_110, t_111, t_112, t_113, t_114, t_115, t_116, t_121, t_124, t_148, t_255, t_256, t_257, t_390, t_999, t_9999, t_12345, t_99999, t_1103515245] at *; omega)⟩
    · rw [if_neg h2]; exact ⟨c, rfl, by (simp only [Int32.lt_iff_toInt_lt, Int32.le_iff_toInt_le, ← Int32.toInt_inj, t_m1000000006, t_m1000000005, t_m1000000004, t_m1000000003, t_m1000000002, t_m1000000001, t_m1000000000, t_m33, t_m10, t_m3, t_m2, t_m1, t_0, t_1, t_2, t_3, t_4, t_5, t_6, t_7, t_8, t_9, t_10, t_11, t_12, t_13, t_14, t_15, t_16, t_17, t_18, t_19, t_20, t_21, t_22, t_23, t_24, t_25, t_26, t_27, t_28, t_29, t_30, t_31, t_32, t_33, t_34, t_35, t_36, t_37, t_38, t_39, t_40, t_41, t_42, t_43, t_44, t_45, t_46, t_47, t_48, t_49, t_50, t_51, t_52, t_53, t_54, t_55, t_56, t_57, t_58, t_59, t_60, t_61, t_62, t_63, t_64, t_69, t_70, t_71, t_99, t_104, t_105, t_106, t_107, t_108, t_109, t_110, t_111, t_112, t_113, t_114, t_115, t_116, t_121, t_124, t_148, t_255, t_256, t_257, t_390, t_999, t_9999, t_12345, t_99999, t_1103515245] at *; omega)⟩
  · rw [if_neg h1]; exact ⟨b, rfl, by (simp only [Int32.lt_iff_toInt_lt, Int32.le_iff_toInt_le, ← Int32.toInt_inj, t_m1000000006, t_m1000000005, t_m1000000004, t_m1000000003, t_m1000000002, t_m1000000001, t_m1000000000, t_m33, t_m10, t_m3, t_m2, t_m1, t_0, t_1, t_2, t_3, t_4, t_5, t_6, t_7, t_8, t_9, t_10, t_11, t_12, t_13, t_14, t_15, t_16, t_17, t_18, t_19, t_20, t_21, t_22, t_23, t_24, t_25, t_26, t_27, t_28, t_29, t_30, t_31, t_32, t_33, t_34, t_35, t_36, t_37, t_38, t_39, t_40, t_41, t_42, t_43, t_44, t_45, t_46, t_47, t_48, t_49, t_50, t_51, t_52, t_53, t_54, t_55, t_56, t_57, t_58, t_59, t_60, t_61, t_62, t_63, t_64, t_69, t_70, t_71, t_99, t_104, t_105, t_106, t_107, t_108, t_109, t_110, t_111, t_112, t_113, t_114, t_115, t_116, t_121, t_124, t_148, t_255, t_256, t_257, t_390, t_999, t_9999, t_12345, t_99999, t_1103515245] at *; omega)⟩
