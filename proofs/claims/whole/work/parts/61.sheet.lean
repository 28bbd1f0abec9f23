/-! a sheet begun -/
section
variable {m k : Nat} {σ : ZS}
theorem sA_fill {o : Nat} {σ : ZS} (hk : 30 ≤ k) (ho : zsh o = 15 ∧ zln o = 24) : ∃ σ', fA_fill k o 0 σ = some ((), σ') ∧ (∀ i, i < 24 → σ' o i = 0) ∧ ∀ a, a ≠ o → σ' a = σ a := by
  have key : ∀ (d j n : Nat) (s : ZS), j + d = 24 → d < n → (∀ i, i < j → s o i = 0) → (∀ a, a ≠ o → s a = σ a) → ∃ σ', fA_fill_5 k n o 0 (nI j) (nI 24) s = some ((), σ') ∧ (∀ i, i < 24 → σ' o i = 0) ∧ ∀ a, a ≠ o → σ' a = σ a := by
    intro d
    induction d with
    | zero =>
      intro j n s hj hn h1 h2
      obtain ⟨n, rfl⟩ : ∃ q, n = q + 1 := ⟨n - 1, by omega⟩
      have : j = 24 := by omega
      subst this
      show ∃ σ', bA_fill_5 k _ o 0 (nI 24) (nI 24) s = _ ∧ _
      unfold bA_fill_5
      rw [if_pos (by rw [Int32.le_iff_toInt_le]; omega)]
      exact ⟨s, rfl, h1, h2⟩
    | succ d ih =>
      intro j n s hj hn h1 h2
      obtain ⟨n, rfl⟩ : ∃ q, n = q + 1 := ⟨n - 1, by omega⟩
      show ∃ σ', bA_fill_5 k (fA_fill_5 k n) o 0 (nI j) (nI 24) s = _ ∧ _
      unfold bA_fill_5
      rw [if_neg (by rw [Int32.le_iff_toInt_le, nI_toInt (by omega), nI_toInt (by omega)]; omega), if_pos ho.1, if_pos (by rw [ho.2]; exact nI_z (by omega) (by decide)), zput_eq, nI_nat (by omega), nI_1]
      refine ih (j + 1) n _ (by omega) (by omega) (fun i hi => ?_) (fun a ha => by rw [zu_o ha]; exact h2 a ha)
      by_cases hij : i = j
      · subst hij; rw [zu_at]
      · rw [zu_k hij]; exact h1 i (by omega)
  rw [fA_fill, if_pos ho.1, ho.2]
  exact key 24 0 k σ rfl (by omega) (fun i hi => absurd hi (by omega)) (fun _ _ => rfl)
theorem sh_n {s : Nat} (h : s < 4) : zsh (95 + 2 * s + 1) = 15 ∧ zln (95 + 2 * s + 1) = 24 := by
  match s, h with
  | 0, _ => exact ⟨rfl, rfl⟩
  | 1, _ => exact ⟨rfl, rfl⟩
  | 2, _ => exact ⟨rfl, rfl⟩
  | 3, _ => exact ⟨rfl, rfl⟩
  | s + 4, h => exact absurd h (by omega)
theorem s9_zero {s : Nat} {σ : ZS} (hk : 30 ≤ k) (hs : s < 4) : ∃ σ', f9_sheet_93 k k (nI s) 0 σ = some (1, σ') ∧ (∀ i, i < 24 → σ' 110 (24 * s + i) = 0) ∧ (∀ i, (i < 24 * s ∨ 24 * s + 24 ≤ i) → σ' 110 i = σ 110 i) ∧ ∀ a, a ≠ 110 → σ' a = σ a := by
  have key : ∀ (d j n : Nat) (z : ZS), j + d = 24 → d < n → (∀ i, i < j → z 110 (24 * s + i) = 0) → (∀ i, (i < 24 * s ∨ 24 * s + 24 ≤ i) → z 110 i = σ 110 i) → (∀ a, a ≠ 110 → z a = σ a) → ∃ σ', f9_sheet_93 k n (nI s) (nI j) z = some (1, σ') ∧ (∀ i, i < 24 → σ' 110 (24 * s + i) = 0) ∧ (∀ i, (i < 24 * s ∨ 24 * s + 24 ≤ i) → σ' 110 i = σ 110 i) ∧ ∀ a, a ≠ 110 → σ' a = σ a := by
    intro d
    induction d with
    | zero =>
      intro j n z hj hn h1 h2 h3
      obtain ⟨n, rfl⟩ : ∃ q, n = q + 1 := ⟨n - 1, by omega⟩
      have : j = 24 := by omega
      subst this
      show ∃ σ', b9_sheet_93 k _ (nI s) 24 z = _ ∧ _
      unfold b9_sheet_93
      rw [if_pos (by decide)]
      exact ⟨z, rfl, h1, h2, h3⟩
    | succ d ih =>
      intro j n z hj hn h1 h2 h3
      obtain ⟨n, rfl⟩ : ∃ q, n = q + 1 := ⟨n - 1, by omega⟩
      show ∃ σ', b9_sheet_93 k (f9_sheet_93 k n) (nI s) (nI j) z = _ ∧ _
      unfold b9_sheet_93
      rw [if_neg (by rw [Int32.le_iff_toInt_le, nI_toInt (by omega), t_24]; omega), i_sx hs (by omega), if_pos (nI_z (by omega) (by decide)), zput_eq, nI_nat (by omega), nI_1]
      refine ih (j + 1) n _ (by omega) (by omega) (fun i hi => ?_) (fun i hi => by rw [zu_k (by omega)]; exact h2 i hi) (fun a ha => by rw [zu_o ha]; exact h3 a ha)
      by_cases hij : i = j
      · subst hij; rw [zu_at]
      · rw [zu_k (by omega)]; exact h1 i (by omega)
  exact key 24 0 k σ rfl (by omega) (fun i hi => absurd hi (by omega)) (fun _ _ => rfl) (fun _ _ => rfl)
end
