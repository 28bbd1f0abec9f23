/-! texts read: all of it -/
section
variable {k n u dep : Nat} {B R : Nat → Int32}
theorem lv_5 {D : Nat} {FM : ZS → Option (Int32 × ZS)} (h : BO n u B R (fRD k D 2 [nI dep]) FM dep) : BO n u B R (fRD k (D + 1) 0 [5, nI dep]) FM dep := by
  intro i L hi hL
  obtain ⟨j, o, C, M, G⟩ := h i L hi hL
  refine ⟨j, o, fun s hs => ?_, M, G⟩
  have c8 : ∀ r s', fRD k D 2 [nI dep] s = some (r, s') → zbo r → fRD k (D + 1) 0 [5, nI dep] s = some (r, s') := by
    intro r s' h1 h2
    show f3_readPart k (fRD k D) 5 (nI dep) s = _
    rw [f3_readPart, if_neg (by decide), h1, zbd_some, if_pos h2]
  obtain ⟨s', e1, e2⟩ := C s hs
  refine ⟨s', e1, ?_⟩
  rcases e2 with ⟨e3, e4, e5⟩ | ⟨N, e3, e4, e5⟩
  · exact Or.inl ⟨e3, c8 _ _ e4 (Or.inl rfl), e5⟩
  · exact Or.inr ⟨N, e3, c8 _ _ e4 (Or.inr rfl), e5⟩
theorem rd_any (hk : 100 ≤ k) (hn : n ≤ 60) (hR4 : R 4 = nI n) (hRB : ∀ j, j < n → R (64 + j) = B j) {D E : Nat} (h : BO n u B R (fRD k D 2 [nI dep]) (fPA k E 1 []) dep) : BO n u B R (fRD k (D + 11) 0 [0, nI dep]) (fPA k (E + 5) 6 []) dep := lv_0 hk hn hR4 hRB (lv_1 hk hn hR4 hRB (lv_2 hk hn hR4 hRB (lv_3 hk hn hR4 hRB (lv_4 hk hn hR4 hRB (lv_5 h)))))
theorem rd_unit (hk : 100 ≤ k) (hn : n ≤ 60) (hR4 : R 4 = nI n) (hRB : ∀ j, j < n → R (64 + j) = B j) (hu : u = 0 ∨ u = 1) : ∀ (e dep D E : Nat), dep + e = 5 → 13 * e + 2 ≤ D → 7 * e + 2 ≤ E → BO n u B R (fRD k D 2 [nI dep]) (fPA k E 1 []) dep := by
  intro e
  induction e with
  | zero =>
    intro dep D E h hD hE
    obtain ⟨D, rfl⟩ : ∃ q, D = q + 2 := ⟨D - 2, by omega⟩
    obtain ⟨E, rfl⟩ : ∃ q, E = q + 2 := ⟨E - 2, by omega⟩
    exact rd_one hk hn hR4 hRB hu (by omega) fun q => absurd q (by omega)
  | succ e ih =>
    intro dep D E h hD hE
    obtain ⟨D, rfl⟩ : ∃ q, D = q + 2 := ⟨D - 2, by omega⟩
    obtain ⟨E, rfl⟩ : ∃ q, E = q + 2 := ⟨E - 2, by omega⟩
    refine rd_one hk hn hR4 hRB hu (by omega) fun _ => ⟨ih (dep + 1) D E (by omega) (by omega) (by omega), ?_⟩
    obtain ⟨D, rfl⟩ : ∃ q, D = q + 11 := ⟨D - 11, by omega⟩
    obtain ⟨E, rfl⟩ : ∃ q, E = q + 5 := ⟨E - 5, by omega⟩
    exact rd_any hk hn hR4 hRB (ih (dep + 1) D E (by omega) (by omega) (by omega))
theorem rd_text (hk : 100 ≤ k) (hn : n ≤ 60) (hR4 : R 4 = nI n) (hRB : ∀ j, j < n → R (64 + j) = B j) (hu : u = 0 ∨ u = 1) : BO n u B R (fRD k 120 0 [0, 0]) (fPA k 80 6 []) 0 := rd_any (D := 109) (E := 75) (dep := 0) hk hn hR4 hRB (rd_unit hk hn hR4 hRB hu 5 0 109 75 rfl (by decide) (by decide))
/-- the steps written into the model's row -/
theorem s9_117 {a len : Nat} (ha : a + 121 ≤ 390) (hl : len ≤ 60) : ∀ (d i q : Nat) (s : ZS), i + d = len → d < q → s 103 18 = nI len → ∃ s', f9_text_117 k q (nI a) (nI i) s = some (1, s') ∧ (∀ o, o ≠ 104 → s' o = s o) ∧ (∀ j, i ≤ j → j < len → s' 104 (a + 1 + j) = s 113 j ∧ s' 104 (a + 61 + j) = s 114 j) ∧ ∀ z, (∀ j, i ≤ j → j < len → z ≠ a + 1 + j ∧ z ≠ a + 61 + j) → s' 104 z = s 104 z := by
  intro d
  induction d with
  | zero =>
    intro i q s hi hq hs
    obtain ⟨q, rfl⟩ : ∃ w, q = w + 1 := ⟨q - 1, by omega⟩
    refine ⟨s, ?_, fun _ _ => rfl, fun j h1 h2 => absurd h1 (by omega), fun _ _ => rfl⟩
    show b9_text_117 k _ _ _ s = _
    rw [b9_text_117, hs, if_pos (by rw [Int32.le_iff_toInt_le, nI_toInt (by omega), nI_toInt (by omega)]; omega)]
  | succ d ih =>
    intro i q s hi hq hs
    obtain ⟨q, rfl⟩ : ∃ w, q = w + 1 := ⟨q - 1, by omega⟩
    have e1 : nI a + 1 + nI i = nI (a + 1 + i) := by rw [nI_1, i_ad (by omega)]
    have e2 : nI a + 61 + nI i = nI (a + 61 + i) := by
      rw [show (61 : Int32) = nI 61 from rfl, i_ad (by omega), i_ad (by omega)]
    obtain ⟨s', f1, f2, f3, f4⟩ := ih (i + 1) q (zu (zu s 104 (a + 1 + i) (s 113 i)) 104 (a + 61 + i) (s 114 i)) (by omega) (by omega) (by rw [zu_o (by decide), zu_o (by decide)]; exact hs)
    refine ⟨s', ?_, fun o ho => by rw [f2 o ho, zu_o ho, zu_o ho], fun j h1 h2 => ?_, fun z hz => ?_⟩
    · show b9_text_117 k _ _ _ s = _
      rw [b9_text_117, hs, if_neg (by rw [Int32.le_iff_toInt_le, nI_toInt (by omega), nI_toInt (by omega)]; omega), if_pos (nI_z (by omega) (by decide)), e1, e2, if_pos (nI_z (by omega) (by decide)), zput_eq, if_pos (nI_z (by omega) (by decide)), if_pos (nI_z (by omega) (by decide)), zput_eq, nI_nat (by omega), nI_nat (by omega), nI_nat (by omega), zu_o (a := 114) (by decide), nI_1]
      exact f1
    · by_cases c : j = i
      · subst c
        refine ⟨?_, ?_⟩
        · rw [f4 _ (fun y h3 h4 => by omega), zu_k (by omega), zu_at]
        · rw [f4 _ (fun y h3 h4 => by omega), zu_at]
      · obtain ⟨g1, g2⟩ := f3 j (by omega) h2
        rw [g1, g2, zu_o (by decide), zu_o (by decide), zu_o (by decide), zu_o (by decide)]
        exact ⟨rfl, rfl⟩
    · obtain ⟨g1, g2⟩ := hz i (Nat.le_refl _) (by omega)
      rw [f4 z (fun j h1 h2 => hz j (by omega) h2), zu_k g2, zu_k g1]
end
