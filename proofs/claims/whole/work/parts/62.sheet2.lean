/-! sheet -/
section
variable {m k : Nat} {σ : ZS}
theorem sheet_on (hk : 30 ≤ k) (h : Rel m σ) {s : Nat} (hs : s < 4) {b n : Int32} (hb : b = 0 ∨ b = 8 ∨ b = 16 ∨ b = 32) (hn : 0 ≤ n.toInt ∧ n.toInt ≤ 24) : ∃ σ1 σ2, f4_begin k (95 + 2 * s) b n σ = some ((), σ1) ∧ f9_sheet_93 k k (nI s) 0 (zu (zu σ1 108 s b) 109 s n) = some (1, σ2) ∧ Rel (m + 1) σ2 := by
  obtain ⟨z1, e1, e2, e3⟩ := sA_fill (k := k) (o := 95 + 2 * s + 1) (σ := σ) hk (sh_n hs)
  obtain ⟨z2, g1, g2, g3, g4⟩ := s9_zero (k := k) (s := s) (σ := zu (zu (zu (zu z1 (95 + 2 * s) 1 b) (95 + 2 * s) 2 n) 108 s b) 109 s n) hk hs
  refine ⟨zu (zu z1 (95 + 2 * s) 1 b) (95 + 2 * s) 2 n, z2, ?_, g1, h.sheets (fun a ha => ?_) (fun o ho => ?_)⟩
  · rw [f4_begin, if_pos (sh_s hs), e1, zbd_some, zput_eq, zput_eq]
  · obtain ⟨⟨b1, b2⟩, b3, b4, b5⟩ := h.2.2.2.2.1 a ha
    have f8 : z2 108 = upd (σ 108) s b := by rw [g4 108 (by decide), zu_o (by decide), zu_self, zu_o (by omega), zu_o (by omega), e3 108 (by omega)]
    have f9 : z2 109 = upd (σ 109) s n := by rw [g4 109 (by decide), zu_self, zu_o (by decide), zu_o (by omega), zu_o (by omega), e3 109 (by omega)]
    have f10 : ∀ i, (i < 24 * s ∨ 24 * s + 24 ≤ i) → z2 110 i = σ 110 i := fun i hi => by rw [g3 i hi, zu_o (by decide), zu_o (by decide), zu_o (by omega), zu_o (by omega), e3 110 (by omega)]
    rw [f8, f9]
    by_cases c : a = s
    · subst c
      have q1 : z2 (95 + 2 * a) 1 = b := by rw [g4 _ (by omega), zu_o (by omega), zu_o (by omega), zu_k (by decide), zu_at]
      have q2 : z2 (95 + 2 * a) 2 = n := by rw [g4 _ (by omega), zu_o (by omega), zu_o (by omega), zu_at]
      rw [q1, q2, upd_at, upd_at]
      refine ⟨⟨rfl, rfl⟩, hb, hn, fun i hi => ?_⟩
      rw [g2 i hi, g4 _ (by omega), zu_o (by omega), zu_o (by omega), zu_o (by omega), zu_o (by omega), show 96 + 2 * a = 95 + 2 * a + 1 by omega]
      exact e2 i hi
    · rw [upd_ne c, upd_ne c]
      have q : ∀ o, (o = 95 + 2 * a ∨ o = 96 + 2 * a) → z2 o = σ o := fun o ho => by rw [g4 _ (by omega), zu_o (by omega), zu_o (by omega), zu_o (by omega), zu_o (by omega), e3 _ (by omega)]
      rw [q _ (Or.inl rfl), q _ (Or.inr rfl)]
      exact ⟨⟨b1, b2⟩, b3, b4, fun i hi => by rw [f10 _ (by omega)]; exact b5 i hi⟩
  · rw [g4 _ (by omega), zu_o (by omega), zu_o (by omega), zu_o (by omega), zu_o (by omega), e3 _ (by omega)]
end
