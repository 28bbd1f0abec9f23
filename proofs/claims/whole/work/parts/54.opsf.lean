/-! starts, sheets read -/
section
variable {m k : Nat} {σ : ZS}
theorem s8_many (x y z : Int32) : f8_manyOrLeast k x y z σ = (if x = 0 then some (y, σ) else if 0 ≤ z then some (z, σ) else zbd (f8_error k 2 σ) fun r s => some (r, s)) := rfl
theorem i_div4 {i j : Nat} (hi : i < 256) : (nI i / 4 = nI j ∧ j < 64) ↔ (i / 4 = j ∧ j < 64) := by
  have hx : (nI i).toInt = i := nI_toInt (by omega)
  have e1 : (nI i / 4).toInt = i / 4 := by rw [i_div (by omega) (by decide), hx, t_4]
  constructor
  · rintro ⟨q, h⟩
    have := congrArg Int32.toInt q
    rw [e1, nI_toInt (by omega)] at this
    exact ⟨by omega, h⟩
  · rintro ⟨q, h⟩
    exact ⟨i_eq (by rw [e1, nI_toInt (by omega)]; omega), h⟩
/-- over all starts: how many, or the least -/
theorem opk_all {F8 F9 : ZS → Option (Int32 × ZS)} (h : Rel m σ) (P : Nat → Bool) (a : Int32)
  (h8 : ∃ s1, (∀ o, pD 2 o → s1 o = σ o) ∧ F8 σ = (if a = 0 then some (nI (ct P 256), s1) else if 0 ≤ ls P 256 then some (ls P 256, s1) else zbd (f8_error k 2 s1) fun r s => some (r, s)))
  (h9 : ∀ s : ZS, (∀ o, pD 2 o → o ≠ 94 → s o = σ o) → ∃ s3, (∀ o, pK o → s3 o = s o) ∧ (∀ i, pKm i → s3 103 i = s 103 i) ∧ F9 s = (if a = 0 then some (nI (ct P 256), s3) else if 0 ≤ ld P 256 0 then some (ld P 256 0, s3) else zbd (f9_error k (-1000000002) s3) fun r s => some (r, s))) : opk m F8 F9 σ := by
  obtain ⟨s1, e1, e2⟩ := h8
  have hl : ls P 256 = ld P 256 0 := by
    have := ls_ld P 256 0 (by decide)
    rw [show 0 + 256 = 256 from rfl, if_neg (show ¬ 0 ≤ ls P 0 from (by decide : ¬ (0 : Int32) ≤ -1))] at this
    exact this
  rw [← hl] at h9
  by_cases c : a = 0
  · refine opk_lk h (by rw [e2, if_pos c]) e1 fun s hs => ?_
    obtain ⟨s3, g1, g2, g3⟩ := h9 s fun o h1 _ => hs o h1
    exact ⟨s3, by rw [g3, if_pos c], g1, g2⟩
  · by_cases c2 : 0 ≤ ls P 256
    · refine opk_lk h (by rw [e2, if_neg c, if_pos c2]) e1 fun s hs => ?_
      obtain ⟨s3, g1, g2, g3⟩ := h9 s fun o h1 _ => hs o h1
      exact ⟨s3, by rw [g3, if_neg c, if_pos c2], g1, g2⟩
    · refine opk_l2 h (σ1 := s1) (by rw [e2, if_neg c, if_neg c2, e8_2]; rfl) e1 fun s hs => ?_
      obtain ⟨s3, g1, g2, g3⟩ := h9 s hs
      exact ⟨s3, by rw [g3, if_neg c, if_neg c2, e9_2]; rfl, g1, g2⟩
def stP (R : Nat → Int32) (x : Int32) (i : Nat) : Bool := if nI i / 4 = x then false else if seen (lkA R i) x = 0 then false else true
theorem nI_m1 {i : Nat} (h : i + 1 < 2 ^ 31) : nI (i + 1) + (-1) = nI i := nI_pr (n := i + 1) (by omega) (by omega)
theorem op_starts (hk : 300 ≤ k) (h : Rel m σ) (x a : Int32) : opk m (f8_starts k x a) (f9_starts k x a) σ := by
  by_cases c1 : 0 ≤ x.toInt ∧ x.toInt ≤ 63
  · by_cases c2 : 0 ≤ a.toInt ∧ a.toInt ≤ 1
    · refine opk_all (k := k) h (stP (σ 104) x) a ?_ fun s hs => ?_
      · have key8 : ∀ (d i n : Nat) (s : ZS), i + d = 256 → d < n → (∀ o, pD 2 o → s o = σ o) → ∃ s1, (∀ o, pD 2 o → s1 o = σ o) ∧ f8_starts_30 k n x a (nI (ct (stP (σ 104) x) i)) (ls (stP (σ 104) x) i) (nI i) s = (if a = 0 then some (nI (ct (stP (σ 104) x) 256), s1) else if 0 ≤ ls (stP (σ 104) x) 256 then some (ls (stP (σ 104) x) 256, s1) else zbd (f8_error k 2 s1) fun r s => some (r, s)) := by
          intro d
          induction d with
          | zero =>
            intro i n s hi hn hs
            obtain ⟨n, rfl⟩ : ∃ q, n = q + 1 := ⟨n - 1, by omega⟩
            have : i = 256 := by omega
            subst this
            refine ⟨s, hs, ?_⟩
            show b8_starts_30 k _ x a (nI (ct (stP (σ 104) x) 256)) (ls (stP (σ 104) x) 256) 256 s = _
            unfold b8_starts_30
            rw [if_pos (by decide), s8_many]
            by_cases q1 : a = 0
            · rw [if_pos q1]; rfl
            · rw [if_neg q1]
              by_cases q2 : 0 ≤ ls (stP (σ 104) x) 256
              · rw [if_pos q2, zbd_some]
              · rw [if_neg q2, e8_2]; rfl
          | succ d ih =>
            intro i n s hi hn hs
            obtain ⟨n, rfl⟩ : ∃ q, n = q + 1 := ⟨n - 1, by omega⟩
            show ∃ s1, _ ∧ b8_starts_30 k (f8_starts_30 k n) x a (nI (ct (stP (σ 104) x) i)) (ls (stP (σ 104) x) i) (nI i) s = _
            unfold b8_starts_30
            obtain ⟨s1, e1, e2, e3⟩ := st8 hk h hs (i := i) (by omega)
            have hAl := (lkA_len (R := σ 104) (i := i)).2
            have IH := ih (i + 1) n s1 (by omega) (by omega) e2
            have hc : ct (stP (σ 104) x) (i + 1) = ct (stP (σ 104) x) i + (if stP (σ 104) x i then 1 else 0) := rfl
            have hl : ls (stP (σ 104) x) (i + 1) = if 0 ≤ ls (stP (σ 104) x) i then ls (stP (σ 104) x) i else if stP (σ 104) x i then nI i else -1 := rfl
            have no : stP (σ 104) x i = false → ct (stP (σ 104) x) (i + 1) = ct (stP (σ 104) x) i ∧ ls (stP (σ 104) x) (i + 1) = ls (stP (σ 104) x) i := by
              intro hq
              refine ⟨by rw [hc, hq]; rfl, ?_⟩
              have := ls_ld (stP (σ 104) x) 0 i (by omega)
              have h0 : ls (stP (σ 104) x) i = if 0 ≤ ls (stP (σ 104) x) i then ls (stP (σ 104) x) i else -1 := this
              rw [hl, hq]
              exact h0.symm
            rw [if_neg (by rw [Int32.le_iff_toInt_le, nI_toInt (by omega), t_256]; omega), e1, zbd_some]
            by_cases q1 : nI i / 4 = x
            · have hP : stP (σ 104) x i = false := by rw [stP, if_pos q1]
              rw [if_pos q1, nI_1]
              rw [(no hP).1, (no hP).2] at IH
              exact IH
            · rw [if_neg q1, s1_sees hk e3 hAl, zbd_some]
              by_cases q2 : seen (lkA (σ 104) i) x = 0
              · have hP : stP (σ 104) x i = false := by rw [stP, if_neg q1, if_pos q2]
                rw [if_pos q2, nI_1]
                rw [(no hP).1, (no hP).2] at IH
                exact IH
              · have hP : stP (σ 104) x i = true := by rw [stP, if_neg q1, if_neg q2]
                have hc1 : ct (stP (σ 104) x) (i + 1) = ct (stP (σ 104) x) i + 1 := by rw [hc, hP]; rfl
                rw [if_neg q2, nI_1, nI_1]
                rw [hc1, hl, hP] at IH
                by_cases q3 : 0 ≤ ls (stP (σ 104) x) i
                · rw [if_pos q3]; rw [if_pos q3] at IH; exact IH
                · rw [if_neg q3]; rw [if_neg q3, if_pos rfl] at IH; exact IH
        obtain ⟨s1, e1, e2⟩ := key8 256 0 k σ rfl (by omega) (fun _ _ => rfl)
        refine ⟨s1, e1, ?_⟩
        rw [f8_starts, s8_isNoCell, zbd_some, if_pos c1, if_pos rfl, if_neg (by rw [Int32.lt_iff_toInt_lt, t_0]; omega), if_pos (by rw [Int32.le_iff_toInt_le, t_1]; omega)]
        exact e2
      · have h4 : s 104 = σ 104 := hs 104 (by unfold pD; decide) (by decide)
        have key9 : ∀ (d i n : Nat) (s1 : ZS), i + d = 256 → i < n → (∀ o, pK o → s1 o = s o) → (∀ i, pKm i → s1 103 i = s 103 i) → ∃ s3, (∀ o, pK o → s3 o = s o) ∧ (∀ i, pKm i → s3 103 i = s 103 i) ∧ f9_starts_33 k n x a (nI (ct (stP (σ 104) x) 256 - ct (stP (σ 104) x) i)) (ld (stP (σ 104) x) d i) (nI i + (-1)) s1 = (if a = 0 then some (nI (ct (stP (σ 104) x) 256), s3) else if 0 ≤ ld (stP (σ 104) x) 256 0 then some (ld (stP (σ 104) x) 256 0, s3) else zbd (f9_error k (-1000000002) s3) fun r s => some (r, s)) := by
          intro d i
          induction i generalizing d with
          | zero =>
            intro n s1 hi hn hs1 hs2
            obtain ⟨n, rfl⟩ : ∃ q, n = q + 1 := ⟨n - 1, by omega⟩
            have : d = 256 := by omega
            subst this
            refine ⟨s1, hs1, hs2, ?_⟩
            show b9_starts_33 k _ x a (nI (ct (stP (σ 104) x) 256 - 0)) (ld (stP (σ 104) x) 256 0) (-1) s1 = _
            unfold b9_starts_33
            rw [if_pos (by decide), Nat.sub_zero]
          | succ i ih =>
            intro n s1 hi hn hs1 hs2
            obtain ⟨n, rfl⟩ : ∃ q, n = q + 1 := ⟨n - 1, by omega⟩
            rw [nI_m1 (by omega)]
            show ∃ s3, _ ∧ _ ∧ b9_starts_33 k (f9_starts_33 k n) x a _ _ (nI i) s1 = _
            unfold b9_starts_33
            have hc : ct (stP (σ 104) x) (i + 1) = ct (stP (σ 104) x) i + (if stP (σ 104) x i then 1 else 0) := rfl
            have hl : ld (stP (σ 104) x) (d + 1) i = if stP (σ 104) x i then nI i else ld (stP (σ 104) x) d (i + 1) := rfl
            have hmono := ct_mono (stP (σ 104) x) (255 - i) (i + 1)
            rw [show i + 1 + (255 - i) = 256 by omega] at hmono
            have no : stP (σ 104) x i = false → ct (stP (σ 104) x) (i + 1) = ct (stP (σ 104) x) i ∧ ld (stP (σ 104) x) (d + 1) i = ld (stP (σ 104) x) d (i + 1) := fun hq => ⟨by rw [hc, hq]; rfl, by rw [hl, hq]; rfl⟩
            rw [if_neg (by rw [Int32.lt_iff_toInt_lt, nI_toInt (by omega), t_0]; omega)]
            by_cases q1 : nI i / 4 = x
            · have hP : stP (σ 104) x i = false := by rw [stP, if_pos q1]
              have IH := ih (d + 1) n s1 (by omega) (by omega) hs1 hs2
              rw [if_pos q1, (no hP).1]
              rw [(no hP).2] at IH
              exact IH
            · obtain ⟨s4, e1, e2, e3, e4⟩ := st9 hk h (s := s1) (by rw [hs1 104 (by unfold pK; decide), h4]) (i := i) (by omega)
              have hAl := (lkA_len (R := σ 104) (i := i)).2
              have IH := ih (d + 1) n s4 (by omega) (by omega) (fun o ho => by rw [e2 o ho, hs1 o ho]) (fun j hj => by rw [e3 j hj, hs2 j hj])
              rw [if_neg q1, e1, zbd_some, s9_sees hk e4 hAl, zbd_some]
              by_cases q2 : seen (lkA (σ 104) i) x = 0
              · have hP : stP (σ 104) x i = false := by rw [stP, if_neg q1, if_pos q2]
                rw [if_pos q2, b9_starts_76, if_pos q2, Int32.add_zero, (no hP).1]
                rw [(no hP).2] at IH
                exact IH
              · have hP : stP (σ 104) x i = true := by rw [stP, if_neg q1, if_neg q2]
                have hc1 : ct (stP (σ 104) x) (i + 1) = ct (stP (σ 104) x) i + 1 := by rw [hc, hP]; rfl
                have hl1 : ld (stP (σ 104) x) (d + 1) i = nI i := by rw [hl, hP]; rfl
                rw [if_neg q2, b9_starts_76, if_neg q2, nI_1, show ct (stP (σ 104) x) 256 - ct (stP (σ 104) x) (i + 1) + 1 = ct (stP (σ 104) x) 256 - ct (stP (σ 104) x) i by omega]
                rw [hl1] at IH
                exact IH
        obtain ⟨s3, g1, g2, g3⟩ := key9 0 256 k s rfl (by omega) (fun _ _ => rfl) (fun _ _ => rfl)
        refine ⟨s3, g1, g2, ?_⟩
        rw [Nat.sub_self] at g3
        rw [f9_starts, s9_isCell, zbd_some, if_pos c1, if_neg (by decide), s9_in, zbd_some, t_0, t_1, if_pos c2, if_neg (by decide)]
        exact g3
    · refine opk_e1 h ?_ fun s hs => ?_
      · rw [f8_starts, s8_isNoCell, zbd_some, if_pos c1, if_pos rfl]
        by_cases c3 : a < 0
        · rw [if_pos c3, e8_1]; rfl
        · rw [if_neg c3, if_neg (by rw [Int32.lt_iff_toInt_lt, t_0] at c3; rw [Int32.le_iff_toInt_le, t_1]; omega), e8_1]; rfl
      · rw [f9_starts, s9_isCell, zbd_some, if_pos c1, if_neg (by decide), s9_in, zbd_some, t_0, t_1, if_neg c2, if_pos rfl, e9_1]; rfl
  · refine opk_e1 h ?_ fun s hs => ?_
    · rw [f8_starts, s8_isNoCell, zbd_some, if_neg c1, if_neg (by decide), e8_1]; rfl
    · rw [f9_starts, s9_isCell, zbd_some, if_neg c1, if_pos rfl, e9_1]; rfl
theorem s8_sheetOf {x : Int32} : f8_sheetOf k x σ = some (if 0 ≤ x.toInt ∧ x.toInt ≤ 3 then 95 + 2 * x.toInt.toNat else 0, σ) := by
  unfold f8_sheetOf
  by_cases h1 : x < 0
  · rw [if_pos h1, if_neg (by (simp only [Int32.lt_iff_toInt_lt, Int32.le_iff_toInt_le, ← Int32.toInt_inj, t_m1000000006, t_m1000000005, t_m1000000004, t_m1000000003, t_m1000000002, t_m1000000001, t_m1000000000, t_m33, t_m10, t_m3, t_m2, t_m1, t_0, t_1, t_2, t_3, t_4, t_5, t_6, t_7, t_8, t_9, t_10, t_11, t_12, t_13, t_14, t_15, t_16, t_17, t_18, t_19, t_20, t_21, t_22, t_23, t_24, t_25, t_26, t_27, t_28, t_29, t_30, t_31, t_32, t_33, t_34, t_35, t_36, t_37, t_38, t_39, t_40, t_41, t_42, t_43, t_44, t_45, t_46, t_47, t_48, t_49, t_50, t_51, t_52, t_53, t_54, t_55, t_56, t_57, t_58, t_59, t_60, t_61, t_62, t_63, t_64, t_69, t_70, t_71, t_99, t_104, t_105, t_106, t_107, t_108, t_109, t_110, t_111, t_112, t_113, t_114, t_115, t_116, t_121, t_124, t_148, t_255, t_256, t_257, t_390, t_999, t_9999, t_12345, t_99999, t_1103515245] at *; omega))]
  · rw [if_neg h1]
    by_cases h2 : x < 4
    · rw [if_pos h2, if_pos (by (simp only [Int32.lt_iff_toInt_lt, Int32.le_iff_toInt_le, ← Int32.toInt_inj, t_m1000000006, t_m1000000005, t_m1000000004, t_m1000000003, t_m1000000002, t_m1000000001, t_m1000000000, t_m33, t_m10, t_m3, t_m2, t_m1, t_0, t_1, t_2, t_3, t_4, t_5, t_6, t_7, t_8, t_9, t_10, t_11, t_12, t_13, t_14, t_15, t_16, t_17, t_18, t_19, t_20, t_21, t_22, t_23, t_24, t_25, t_26, t_27, t_28, t_29, t_30, t_31, t_32, t_33, t_34, t_35, t_36, t_37, t_38, t_39, t_40, t_41, t_42, t_43, t_44, t_45, t_46, t_47, t_48, t_49, t_50, t_51, t_52, t_53, t_54, t_55, t_56, t_57, t_58, t_59, t_60, t_61, t_62, t_63, t_64, t_69, t_70, t_71, t_99, t_104, t_105, t_106, t_107, t_108, t_109, t_110, t_111, t_112, t_113, t_114, t_115, t_116, t_121, t_124, t_148, t_255, t_256, t_257, t_390, t_999, t_9999, t_12345, t_99999, t_1103515245] at *; omega)), if_pos (by (simp only [Int32.lt_iff_toInt_lt, Int32.le_iff_toInt_le, ← Int32.toInt_inj, t_m1000000006, t_m1000000005, t_m1000000004, t_m1000000003, t_m1000000002, t_m1000000001, t_m1000000000, t_m33, t_m10, t_m3, t_m2, t_m1, t_0, t_1, t_2, t_3, t_4, t_5, t_6, t_7, t_8, t_9, t_10, t_11, t_12, t_13, t_14, t_15, t_16, t_17, t_18, t_19, t_20, t_21, t_22, t_23, t_24, t_25, t_26, t_27, t_28, t_29, t_30, t_31, t_32, t_33, t_34, t_35, t_36, t_37, t_38, t_39, t_40, t_41, t_42, t_43, t_44, t_45, t_46, t_47, t_48, t_49, t_50, t_51, t_52, t_53, t_54, t_55, t_56, t_57, t_58, t_59, t_60, t_61, t_62, t_63, t_64, t_69, t_70, t_71, t_99, t_104, t_105, t_106, t_107, t_108, t_109, t_110, t_111, t_112, t_113, t_114, t_115, t_116, t_121, t_124, t_148, t_255, t_256, t_257, t_390, t_999, t_9999, t_12345, t_99999, t_1103515245] at *; omega))]; rfl
    · rw [if_neg h2, if_neg (by (simp only [Int32.lt_iff_toInt_lt, Int32.le_iff_toInt_le, ← Int32.toInt_inj, t_m1000000006, t_m1000000005, t_m1000000004, t_m1000000003, t_m1000000002, t_m1000000001, t_m1000000000, t_m33, t_m10, t_m3, t_m2, t_m1, t_0, t_1, t_2, t_3, t_4, t_5, t_6, t_7, t_8, t_9, t_10, t_11, t_12, t_13, t_14, t_15, t_16, t_17, t_18, t_19, t_20, t_21, t_22, t_23, t_24, t_25, t_26, t_27, t_28, t_29, t_30, t_31, t_32, t_33, t_34, t_35, t_36, t_37, t_38, t_39, t_40, t_41, t_42, t_43, t_44, t_45, t_46, t_47, t_48, t_49, t_50, t_51, t_52, t_53, t_54, t_55, t_56, t_57, t_58, t_59, t_60, t_61, t_62, t_63, t_64, t_69, t_70, t_71, t_99, t_104, t_105, t_106, t_107, t_108, t_109, t_110, t_111, t_112, t_113, t_114, t_115, t_116, t_121, t_124, t_148, t_255, t_256, t_257, t_390, t_999, t_9999, t_12345, t_99999, t_1103515245] at *; omega))]
theorem sh_s {s : Nat} (h : s < 4) : zsh (95 + 2 * s) = 5 := by
  match s, h with
  | 0, _ => rfl
  | 1, _ => rfl
  | 2, _ => rfl
  | 3, _ => rfl
  | s + 4, h => exact absurd h (by omega)
theorem s4_num {s j : Nat} (h : s < 4) (hj : j < 24) : f4_numberAt k (95 + 2 * s) (nI j) σ = some (σ (96 + 2 * s) j, σ) := by
  have hx : (nI j).toInt = j := nI_toInt (by omega)
  rw [f4_numberAt, if_pos (sh_s h), if_neg (by rw [Int32.lt_iff_toInt_lt, hx, t_0]; omega), if_pos (by rw [Int32.lt_iff_toInt_lt, hx, t_24]; omega), if_pos (nI_z hj (by decide)), nI_nat (by omega), show 95 + 2 * s + 1 = 96 + 2 * s by omega]
/-- the model's place of a number of a sheet -/
theorem i_sx {s j : Nat} (h : s < 4) (hj : j < 24) : (24 : Int32) * nI s + nI j = nI (24 * s + j) := by
  have hs : (nI s).toInt = s := nI_toInt (by omega)
  have hx : (nI j).toInt = j := nI_toInt (by omega)
  have e1 : ((24 : Int32) * nI s).toInt = 24 * s := by rw [i_mul (by rw [t_24, hs]; omega), t_24, hs]
  refine i_eq ?_
  rw [i_add (by rw [e1, hx]; omega), e1, hx, nI_toInt (by omega)]
  omega
/-- how far a list of numbers goes with the dues -/
def jdg (N : Nat → Int32) (R : Nat → Int32) : Nat → Nat → Int32
  | 0, i => nI i
  | d + 1, i => if N i = due R i then jdg N R d (i + 1) else nI i
theorem op_judge (hk : 300 ≤ k) (h : Rel m σ) (x : Int32) : opk m (f8_judge k x) (f9_judge k x) σ := by
  have hn := h.2.1.1.np
  by_cases c1 : 0 ≤ x.toInt ∧ x.toInt ≤ 3
  · obtain ⟨s, hs4, rfl⟩ : ∃ s : Nat, s < 4 ∧ x = nI s := ⟨x.toInt.toNat, by omega, i_nat c1.1⟩
    have hsx : (nI s).toInt = s := nI_toInt (by omega)
    have hsn : (s : Int).toNat = s := by omega
    have hz : zin (nI s) 4 := nI_z hs4 (by decide)
    obtain ⟨⟨b1, b2⟩, b3, b4, b5⟩ := h.2.2.2.2.1 s hs4
    have nt : ∀ z : ZS, z 108 = σ 108 → f9_notThere k (nI s) z = some (if σ 108 s = 0 then -1000000002 else 0, z) := by
      intro z hz2
      rw [f9_notThere, s9_isSheet, zbd_some, if_pos c1, if_neg (by decide), if_pos hz, nI_nat (by omega), hz2]
      by_cases c : σ 108 s = 0
      · rw [if_pos c, if_pos c]
      · rw [if_neg c, if_neg c]
    by_cases c2 : σ 108 s = 0
    · refine opk_e2 h ?_ fun z hs => ?_
      · rw [f8_judge, s8_sheetOf, zbd_some, if_pos c1, hsx, hsn, if_neg (by omega), if_pos (sh_s hs4), b1, if_pos c2, e8_2]; rfl
      · rw [f9_judge, nt z (hs 108 (by decide)), zbd_some, if_pos c2, if_neg (by decide), e9_2]; rfl
    · have hB : ∃ B : Nat, (B : Int) = min (σ 104 3).toInt (σ 109 s).toInt := ⟨(min (σ 104 3).toInt (σ 109 s).toInt).toNat, by omega⟩
      obtain ⟨B, hB⟩ := hB
      have hmin : (if σ 104 3 < σ 109 s then σ 104 3 else σ 109 s) = nI B := by
        refine i_eq ?_
        rw [nI_toInt (by omega), hB]
        by_cases c : σ 104 3 < σ 109 s
        · rw [if_pos c]; rw [Int32.lt_iff_toInt_lt] at c; omega
        · rw [if_neg c]; rw [Int32.lt_iff_toInt_lt] at c; omega
      have key8 : ∀ (d i n : Nat) (z : ZS), i + d = B → d < n → (∀ o, pD 2 o → z o = σ o) → ∃ z', f8_judge_47 k n (95 + 2 * s) (nI B) (nI i) z = some (jdg (σ (96 + 2 * s)) (σ 104) d i, z') ∧ (∀ o, pD 2 o → z' o = σ o) := by
        intro d
        induction d with
        | zero =>
          intro i n z hi hn hs
          obtain ⟨n, rfl⟩ : ∃ q, n = q + 1 := ⟨n - 1, by omega⟩
          have hiB : i = B := by omega
          subst hiB
          show ∃ z', b8_judge_47 k _ (95 + 2 * s) (nI i) (nI i) z = _ ∧ _
          unfold b8_judge_47
          rw [if_pos (by rw [Int32.le_iff_toInt_le]; omega)]
          exact ⟨z, rfl, hs⟩
        | succ d ih =>
          intro i n z hi hn hs
          obtain ⟨n, rfl⟩ : ∃ q, n = q + 1 := ⟨n - 1, by omega⟩
          show ∃ z', b8_judge_47 k (f8_judge_47 k n) (95 + 2 * s) (nI B) (nI i) z = _ ∧ _
          unfold b8_judge_47
          have hR : RS z 2 (σ 104) := h.1.congr2 h.2.1.2.2 fun o p1 p2 p3 p4 => hs o (by unfold pD; omega)
          obtain ⟨z1, e1, e2, e3⟩ := s5_due (k := k) (p := i) hk (Or.inl rfl) h.2.1.1 hR h.2.1.2.2 (by omega)
          rw [if_neg (by rw [Int32.le_iff_toInt_le, nI_toInt (by omega), nI_toInt (by omega)]; omega), if_pos (sh_s hs4), s4_num hs4 (by omega), zbd_some, e1, zbd_some, hs (96 + 2 * s) (by unfold pD; omega), nI_1, jdg]
          have hz1 : ∀ o, pD 2 o → z1 o = σ o := fun o ho => by rw [e2 o ho, hs o ho]
          by_cases c : σ (96 + 2 * s) i = due (σ 104) i
          · rw [if_pos c, if_pos c]; exact ih (i + 1) n z1 (by omega) (by omega) hz1
          · rw [if_neg c, if_neg c]; exact ⟨z1, rfl, hz1⟩
      obtain ⟨σ1, e1, e2⟩ := key8 B 0 k σ (by omega) (by omega) (fun _ _ => rfl)
      refine opk_lk h (r := jdg (σ (96 + 2 * s)) (σ 104) B 0) (σ1 := σ1) ?_ e2 fun z hz0 => ?_
      · rw [f8_judge, s8_sheetOf, zbd_some, if_pos c1, hsx, hsn, if_neg (by omega), if_pos (sh_s hs4), b1, if_neg c2, h.1.1.2.1, b2, hmin]
        exact e1
      · have key9 : ∀ (d i n : Nat) (y : ZS), i + d = B → d < n → (∀ o, pK o → y o = z o) → (∀ i, pKm i → y 103 i = z 103 i) → ∃ z', f9_judge_18 k n (nI s) (nI i) y = some (jdg (σ (96 + 2 * s)) (σ 104) d i, z') ∧ (∀ o, pK o → z' o = z o) ∧ (∀ i, pKm i → z' 103 i = z 103 i) := by
          intro d
          induction d with
          | zero =>
            intro i n y hi hn hs hs2
            obtain ⟨n, rfl⟩ : ∃ q, n = q + 1 := ⟨n - 1, by omega⟩
            have hiB : i = B := by omega
            subst hiB
            show ∃ z', b9_judge_18 k _ (nI s) (nI i) y = _ ∧ _
            unfold b9_judge_18
            rw [if_pos hz, nI_nat (n := s) (by omega), hs 109 (by unfold pK; decide), hz0 109 (by unfold pD; decide), hs 104 (by unfold pK; decide), hz0 104 (by unfold pD; decide)]
            by_cases q1 : σ 109 s ≤ nI i
            · rw [if_pos q1]; exact ⟨y, rfl, hs, hs2⟩
            · rw [if_neg q1, if_pos (by rw [Int32.le_iff_toInt_le, nI_toInt (by omega)] at *; omega)]; exact ⟨y, rfl, hs, hs2⟩
          | succ d ih =>
            intro i n y hi hn hs hs2
            obtain ⟨n, rfl⟩ : ∃ q, n = q + 1 := ⟨n - 1, by omega⟩
            show ∃ z', b9_judge_18 k (f9_judge_18 k n) (nI s) (nI i) y = _ ∧ _
            unfold b9_judge_18
            have h4 : y 104 = σ 104 := by rw [hs 104 (by unfold pK; decide), hz0 104 (by unfold pD; decide)]
            obtain ⟨y1, g1, g2, g3, g4⟩ := s9_due (k := k) (p := i) (σ := y) hk (by rw [h4]; exact h.2.1.1) (by rw [h4]; exact h.2.1.2.2) (by omega)
            rw [h4] at g1
            rw [if_pos hz, nI_nat (n := s) (by omega), hs 109 (by unfold pK; decide), hz0 109 (by unfold pD; decide), h4, if_neg (by rw [Int32.le_iff_toInt_le, nI_toInt (by omega)]; omega), if_neg (by rw [Int32.le_iff_toInt_le, nI_toInt (by omega)]; omega), i_sx hs4 (by omega), if_pos (nI_z (by omega) (by decide)), nI_nat (n := 24 * s + i) (by omega), g1, zbd_some, hs 110 (by unfold pK; decide), hz0 110 (by unfold pD; decide), ← b5 i (by omega), nI_1, jdg]
            by_cases c : σ (96 + 2 * s) i = due (σ 104) i
            · rw [if_pos c, if_pos c]; exact ih (i + 1) n y1 (by omega) (by omega) (fun o ho => by rw [g2 o ho, hs o ho]) (fun j hj => by rw [g3 j hj, hs2 j hj])
            · rw [if_neg c, if_neg c]; exact ⟨y1, rfl, fun o ho => by rw [g2 o ho, hs o ho], fun j hj => by rw [g3 j hj, hs2 j hj]⟩
        obtain ⟨z', g1, g2, g3⟩ := key9 B 0 k z (by omega) (by omega) (fun _ _ => rfl) (fun _ _ => rfl)
        refine ⟨z', ?_, g2, g3⟩
        rw [f9_judge, nt z (hz0 108 (by unfold pD; decide)), zbd_some, if_neg c2, if_pos rfl]
        exact g1
  · refine opk_e1 h ?_ fun s hs => ?_
    · rw [f8_judge, s8_sheetOf, zbd_some, if_neg c1, if_pos rfl, e8_1]; rfl
    · rw [f9_judge, f9_notThere, s9_isSheet, zbd_some, if_neg c1, if_pos rfl, zbd_some, if_neg (by decide), e9_1]; rfl
end
