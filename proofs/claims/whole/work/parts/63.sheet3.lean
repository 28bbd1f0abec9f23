/-! sheet, whole -/
section
variable {m k : Nat} {σ : ZS}
theorem op_sheet (hk : 30 ≤ k) (h : Rel m σ) (x b n : Int32) : opk m (f8_sheet k x b n) (f9_sheet k x b n) σ := by
  by_cases c1 : 0 ≤ x.toInt ∧ x.toInt ≤ 3
  · obtain ⟨s, hs4, rfl⟩ : ∃ s : Nat, s < 4 ∧ x = nI s := ⟨x.toInt.toNat, by omega, i_nat c1.1⟩
    have hsx : (nI s).toInt = s := nI_toInt (by omega)
    have hsn : (s : Int).toNat = s := by omega
    have hz : zin (nI s) 4 := nI_z hs4 (by decide)
    have hne : ¬ 95 + 2 * s = 0 := by omega
    by_cases c2 : b = 0 ∨ b = 8 ∨ b = 16 ∨ b = 32
    · have r9 : ∀ z : ZS, f9_sheet k (nI s) b n z = b9_sheet_36 k (nI s) b n z := by
        intro z
        rw [f9_sheet, s9_isSheet, zbd_some, if_pos c1, if_neg (by decide)]
        rcases c2 with rfl | rfl | rfl | rfl
        all_goals rfl
      by_cases c3 : b = 0
      · subst c3
        obtain ⟨σ1, σ2, e1, e2, e3⟩ := sheet_on hk h hs4 (b := 0) (n := 0) (Or.inl rfl) (by decide)
        refine ⟨1, σ1, σ2, ?_, ?_, e3⟩
        · rw [f8_sheet, s8_sheetOf, zbd_some, if_pos c1, hsx, hsn, if_neg hne, if_pos rfl, if_pos rfl, b8_sheet_54, if_pos rfl, if_pos rfl, if_pos (sh_s hs4), e1, zbd_some]
        · rw [r9, b9_sheet_36, if_pos (by decide), if_pos (by decide), b9_sheet_68, if_pos hz, zput_eq, if_pos rfl, if_pos hz, zput_eq, nI_nat (by omega)]
          exact e2
      · have h0 : ¬ b ≤ 0 := by
          rcases c2 with rfl | rfl | rfl | rfl
          · exact absurd rfl c3
          all_goals decide
        have r8 : ∀ y : Option (Int32 × ZS), (if 0 ≤ n then b8_sheet_54 k b n (95 + 2 * s) σ else zbd (f8_error k 3 σ) fun r s => some (r, s)) = y → f8_sheet k (nI s) b n σ = y := by
          intro y hy
          rw [f8_sheet, s8_sheetOf, zbd_some, if_pos c1, hsx, hsn, if_neg hne, if_neg c3, ← hy]
          rcases c2 with rfl | rfl | rfl | rfl
          · exact absurd rfl c3
          all_goals rfl
        by_cases c4 : 0 ≤ n
        · have c4' := c4
          rw [Int32.le_iff_toInt_le, t_0] at c4'
          by_cases c5 : n ≤ 24
          · have c5' := c5
            rw [Int32.le_iff_toInt_le, t_24] at c5'
            obtain ⟨σ1, σ2, e1, e2, e3⟩ := sheet_on hk h hs4 (b := b) (n := n) c2 ⟨c4', c5'⟩
            refine ⟨1, σ1, σ2, r8 _ ?_, ?_, e3⟩
            · rw [if_pos c4, b8_sheet_54, if_neg c3, if_pos c5, if_neg c3, if_pos (sh_s hs4), e1, zbd_some]
            · rw [r9, b9_sheet_36, if_neg h0, if_pos c4, if_neg h0, if_pos c5, b9_sheet_68, if_pos hz, zput_eq, if_neg c3, if_pos hz, zput_eq, nI_nat (by omega)]
              exact e2
          · refine opk_e1 h (r8 _ ?_) fun z hs => ?_
            · rw [if_pos c4, b8_sheet_54, if_neg c3, if_neg c5, e8_1]; rfl
            · rw [r9, b9_sheet_36, if_neg h0, if_pos c4, if_neg h0, if_neg c5, e9_1]; rfl
        · refine opk_e3 h (r8 _ ?_) fun z hs => ?_
          · rw [if_neg c4, e8_3]; rfl
          · rw [r9, b9_sheet_36, if_neg h0, if_neg c4, e9_3]; rfl
    · have n0 : ¬ b = 0 := fun q => c2 (Or.inl q)
      have n8 : ¬ b = 8 := fun q => c2 (Or.inr (Or.inl q))
      have n16 : ¬ b = 16 := fun q => c2 (Or.inr (Or.inr (Or.inl q)))
      have n32 : ¬ b = 32 := fun q => c2 (Or.inr (Or.inr (Or.inr q)))
      refine opk_e1 h ?_ fun z hs => ?_
      · rw [f8_sheet, s8_sheetOf, zbd_some, if_pos c1, hsx, hsn, if_neg hne, if_neg n0, if_neg n8, if_neg n16, if_neg n32, e8_1]; rfl
      · rw [f9_sheet, s9_isSheet, zbd_some, if_pos c1, if_neg (by decide), if_neg n0, if_neg n8, if_neg n16, if_neg n32, e9_1]; rfl
  · refine opk_e1 h ?_ fun s hs => ?_
    · rw [f8_sheet, s8_sheetOf, zbd_some, if_neg c1, if_pos rfl, e8_1]; rfl
    · rw [f9_sheet, s9_isSheet, zbd_some, if_neg c1, if_pos rfl, e9_1]; rfl
end
