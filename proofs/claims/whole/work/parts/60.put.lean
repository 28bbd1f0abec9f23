/-! a number put -/
section
variable {m k : Nat} {σ : ZS}
/-- both sides' sheets changed, nothing else -/
theorem Rel.sheets (h : Rel m σ) {σ' : ZS} (hS : Sh σ') (e : ∀ o, (o ≤ 92 ∨ o = 94 ∨ (103 ≤ o ∧ o ≤ 105) ∨ o = 107 ∨ o = 118) → σ' o = σ o) : Rel (m + 1) σ' := by
  obtain ⟨h1, h2, ⟨i1, i2, i3, i4⟩, h4, h5, h6⟩ := h
  refine ⟨?_, ?_, ⟨?_, ?_, ?_, fun hn => ?_⟩, fun i q1 q2 => ?_, hS, ?_⟩
  · rw [e 104 (by omega)]
    exact h1.congr h2.2.2 fun o q1 q2 => e o (by omega)
  · rw [e 104 (by omega)]; exact h2
  · rw [e 1 (by omega), e 103 (by omega)]; exact i1
  · rw [e 103 (by omega)]; omega
  · rw [e 1 (by omega), e 103 (by omega)]; exact i3
  · rw [e 103 (by omega)] at hn
    obtain ⟨q1, q2⟩ := i4 hn
    rw [e 105 (by omega)]
    exact ⟨q1.congr q2.2.2 fun o q1 q2 => e o (by omega), q2⟩
  · rw [e 94 (by omega), e 107 (by omega)]; exact h4 i q1 q2
  · unfold Vo
    rw [e 90 (by omega), e 91 (by omega), e 103 (by omega), e 118 (by omega)]
    exact h6
theorem Rel.put (h : Rel m σ) {s j : Nat} (hs : s < 4) (hj : j < 24) (v : Int32) : Rel (m + 1) (zu (zu σ (96 + 2 * s) j v) 110 (24 * s + j) v) := by
  refine h.sheets (fun a ha => ?_) (fun o ho => by rw [zu_o (by omega), zu_o (by omega)])
  obtain ⟨⟨b1, b2⟩, b3, b4, b5⟩ := h.2.2.2.2.1 a ha
  rw [zu_o (a := 95 + 2 * a) (by omega), zu_o (a := 95 + 2 * a) (by omega), zu_o (a := 108) (by omega), zu_o (a := 108) (by omega), zu_o (a := 109) (by omega), zu_o (a := 109) (by omega)]
  refine ⟨⟨b1, b2⟩, b3, b4, fun i hi => ?_⟩
  rw [zu_o (a := 96 + 2 * a) (by omega)]
  by_cases c : a = s
  · subst c
    by_cases c2 : i = j
    · subst c2; rw [zu_at, zu_at]
    · rw [zu_k c2, zu_k (by omega), zu_o (by omega)]; exact b5 i hi
  · rw [zu_o (by omega), zu_k (by omega), zu_o (by omega)]; exact b5 i hi
theorem op_put (h : Rel m σ) (x b v : Int32) : opk m (f8_put k x b v) (f9_put k x b v) σ := by
  by_cases c1 : 0 ≤ x.toInt ∧ x.toInt ≤ 3
  · obtain ⟨s, hs4, rfl⟩ : ∃ s : Nat, s < 4 ∧ x = nI s := ⟨x.toInt.toNat, by omega, i_nat c1.1⟩
    have hsx : (nI s).toInt = s := nI_toInt (by omega)
    have hsn : (s : Int).toNat = s := by omega
    have hz : zin (nI s) 4 := nI_z hs4 (by decide)
    obtain ⟨⟨b1, b2⟩, b3, b4, b5⟩ := h.2.2.2.2.1 s hs4
    have nt : ∀ z : ZS, z 108 = σ 108 → f9_notThere k (nI s) z = some (if σ 108 s = 0 then -1000000002 else 0, z) := by
      intro z hz2
      rw [f9_notThere, s9_isSheet, zbd_some, if_pos c1, if_neg (by decide), if_pos hz, nI_nat (by omega), hz2]
      by_cases c : σ 108 s = 0
      · rw [if_pos c, if_pos c]
      · rw [if_neg c, if_neg c]
    have hl : (σ 109 s - 1).toInt = (σ 109 s).toInt - 1 := by rw [i_sub (by rw [t_1]; omega), t_1]
    by_cases c2 : σ 108 s = 0
    · refine opk_e2 h ?_ fun z hs => ?_
      · rw [f8_put, s8_sheetOf, zbd_some, if_pos c1, hsx, hsn, if_neg (by omega), if_pos (sh_s hs4), b1, if_pos c2, e8_2]; rfl
      · rw [f9_put, nt z (hs 108 (by decide)), zbd_some, if_pos c2, if_neg (by decide), b9_put_35, if_neg (by decide), e9_2]; rfl
    · by_cases c3 : 0 ≤ b.toInt ∧ b.toInt < (σ 109 s).toInt
      · obtain ⟨j, hj, rfl⟩ : ∃ j : Nat, j < 24 ∧ b = nI j := ⟨b.toInt.toNat, by omega, i_nat c3.1⟩
        have hjx : (nI j).toInt = j := nI_toInt (by omega)
        have hz2 : zin (nI (24 * s + j)) 96 := nI_z (by omega) (by decide)
        have hzj : zin (nI j) 24 := nI_z hj (by decide)
        have h8 : ∀ w : Int32, f4_write k (95 + 2 * s) (nI j) v σ = some ((), zu σ (96 + 2 * s) j w) → f8_put k (nI s) (nI j) v σ = some (1, zu σ (96 + 2 * s) j w) := by
          intro w hw
          rw [f8_put, s8_sheetOf, zbd_some, if_pos c1, hsx, hsn, if_neg (by omega), if_pos (sh_s hs4), b1, if_neg c2, if_neg (by rw [Int32.lt_iff_toInt_lt, hjx, t_0]; omega), b2, if_pos (by rw [Int32.lt_iff_toInt_lt]; omega), hw, zbd_some]
        have h9 : ∀ z : ZS, z 108 = σ 108 → z 109 = σ 109 → f9_put k (nI s) (nI j) v z = b9_put_35 k (nI s) (nI j) v 0 z := by
          intro z q1 q2
          rw [f9_put, nt z q1, zbd_some, if_neg c2, if_pos rfl, if_pos hz, nI_nat (by omega), q2, s9_in, zbd_some, t_0, hl, if_pos (show (0 : Int) ≤ (nI j).toInt ∧ (nI j).toInt ≤ (σ 109 s).toInt - 1 by omega), if_neg (by decide)]
        have w0 : ∀ w : Int32, f4_write k (95 + 2 * s) (nI j) v σ = (if σ 108 s = 8 then some ((), zu σ (96 + 2 * s) j v.toInt8.toInt32) else if σ 108 s = 16 then some ((), zu σ (96 + 2 * s) j v.toInt16.toInt32) else some ((), zu σ (96 + 2 * s) j v)) := by
          intro w
          rw [f4_write, if_pos (sh_s hs4), if_neg (by rw [Int32.lt_iff_toInt_lt, hjx, t_0]; omega), if_neg (by rw [Int32.le_iff_toInt_le, hjx, t_24]; omega), if_pos hzj, if_pos hzj, if_pos hzj, b1, nI_nat (by omega), show 95 + 2 * s + 1 = 96 + 2 * s by omega, zput_eq, zput_eq, zput_eq]
        have fin : ∀ w : Int32, f4_write k (95 + 2 * s) (nI j) v σ = some ((), zu σ (96 + 2 * s) j w) → (∀ z : ZS, z 108 = σ 108 → b9_put_35 k (nI s) (nI j) v 0 z = some (1, zu z 110 (24 * s + j) w)) → opk m (f8_put k (nI s) (nI j) v) (f9_put k (nI s) (nI j) v) σ := by
          intro w q1 q2
          exact ⟨1, zu σ (96 + 2 * s) j w, zu (zu σ (96 + 2 * s) j w) 110 (24 * s + j) w, h8 w q1, by rw [h9 _ (zu_o (by omega)) (zu_o (by omega)), q2 _ (zu_o (by omega))], h.put hs4 hj w⟩
        by_cases d1 : σ 108 s = 8
        · refine fin v.toInt8.toInt32 (by rw [w0 0, if_pos d1]) fun z q => ?_
          rw [b9_put_35, if_pos rfl, if_pos hz, nI_nat (n := s) (by omega), q, if_pos d1, i_sx hs4 hj, if_pos hz2, zput_eq, nI_nat (by omega)]
        · by_cases d2 : σ 108 s = 16
          · refine fin v.toInt16.toInt32 (by rw [w0 0, if_neg d1, if_pos d2]) fun z q => ?_
            rw [b9_put_35, if_pos rfl, if_pos hz, nI_nat (n := s) (by omega), q, if_neg d1, if_pos hz, if_pos d2, i_sx hs4 hj, if_pos hz2, zput_eq, nI_nat (by omega)]
          · refine fin v (by rw [w0 0, if_neg d1, if_neg d2]) fun z q => ?_
            rw [b9_put_35, if_pos rfl, if_pos hz, nI_nat (n := s) (by omega), q, if_neg d1, if_pos hz, if_neg d2, i_sx hs4 hj, if_pos hz2, zput_eq, nI_nat (by omega)]
      · refine opk_e1 h ?_ fun z hs => ?_
        · rw [f8_put, s8_sheetOf, zbd_some, if_pos c1, hsx, hsn, if_neg (by omega), if_pos (sh_s hs4), b1, if_neg c2]
          by_cases c4 : b < 0
          · rw [if_pos c4, e8_1]; rfl
          · rw [if_neg c4, b2, if_neg (by rw [Int32.lt_iff_toInt_lt, t_0] at c4; rw [Int32.lt_iff_toInt_lt]; omega), e8_1]; rfl
        · rw [f9_put, nt z (hs 108 (by decide)), zbd_some, if_neg c2, if_pos rfl, if_pos hz, nI_nat (by omega), hs 109 (by decide), s9_in, zbd_some, t_0, hl, if_neg (show ¬ ((0 : Int) ≤ b.toInt ∧ b.toInt ≤ (σ 109 s).toInt - 1) by omega), if_pos rfl, b9_put_35, if_neg (by decide), e9_1]; rfl
  · refine opk_e1 h ?_ fun s hs => ?_
    · rw [f8_put, s8_sheetOf, zbd_some, if_neg c1, if_pos rfl, e8_1]; rfl
    · rw [f9_put, f9_notThere, s9_isSheet, zbd_some, if_neg c1, if_pos rfl, zbd_some, if_neg (by decide), b9_put_35, if_neg (by decide), e9_1]; rfl
end
