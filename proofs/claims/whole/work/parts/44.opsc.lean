/-! a glass hung, a glass more, a person more -/
theorem gat_only {R : Nat → Int32} (hD : DS R) (hn : (R 2).toInt ≤ 8) {g : Nat} {x : Int32} (hg : (g : Int) < (R 2).toInt) (hf : gat R x = -1 ∨ gat R x = nI g) : ∀ j : Nat, (j : Int) < (R 2).toInt → R (6 + 5 * j + 2) = x → j = g := by
  intro j hj hx
  have h1 := gat_is hD hj hx
  have hjx : (nI j).toInt = j := nI_toInt (by omega)
  have hgx : (nI g).toInt = g := nI_toInt (by omega)
  rcases hf with h2 | h2
  · rw [h1] at h2
    have := congrArg Int32.toInt h2
    rw [hjx, t_m1] at this
    omega
  · rw [h1] at h2
    have := congrArg Int32.toInt h2
    rw [hjx, hgx] at this
    omega
theorem WF.hang {hb : Int} {R : Nat → Int32} (hW : WF hb R) {g : Nat} {x : Int32} (hg : (g : Int) < (R 2).toInt) (hx : 0 ≤ x.toInt ∧ x.toInt ≤ 63) (hf : gat R x = -1 ∨ gat R x = nI g) : WF hb (upd R (6 + 5 * g + 2) x) := by
  have hn := hW.1.ng
  have key := gat_only hW.2.1 hn.2 hg hf
  refine ⟨hW.1.upd fun _ => by rw [(bG hb (show g < 8 by omega)).2.2.1.1, (bG hb (show g < 8 by omega)).2.2.1.2]; exact hx, fun i j hi hj hij => ?_, hW.2.2.congr fun i h1 h2 => upd_ne (by omega)⟩
  rw [upd_ne (by omega)] at hi hj
  by_cases h1 : i = g
  · by_cases h2 : j = g
    · rw [h1, h2]
    · rw [h1, upd_at, upd_ne (by omega)] at hij
      exact absurd (key j hj hij.symm) h2
  · by_cases h2 : j = g
    · rw [h2, upd_at, upd_ne (by omega)] at hij
      exact absurd (key i hi hij) h1
    · rw [upd_ne (by omega), upd_ne (by omega)] at hij
      exact hW.2.1 i j hi hj hij
theorem RS.hang {hb : Int} {σ : ZS} {t : Nat} {R : Nat → Int32} (h : RS σ t R) (hW : WF hb R) {g : Nat} {x : Int32} (hg : (g : Int) < (R 2).toInt) (hx : 0 ≤ x.toInt ∧ x.toInt ≤ 63) (hf : gat R x = -1 ∨ gat R x = nI g) : RS (zu (zu (zu σ (t + 4) (R (6 + 5 * g + 2)).toInt.toNat (-1)) (t + 4) x.toInt.toNat (nI g)) (t + 7 + g) 2 x) t (upd R (6 + 5 * g + 2) x) := by
  have hn := hW.1.ng
  have key := gat_only hW.2.1 hn.2 hg hf
  have hW' := hW.hang hg hx hf
  have hcell := (hW.1.gl (show g < 8 by omega)).2.2.1
  obtain ⟨⟨a1, a2, a3, a4, a5, a6⟩, b, c, d, f, i, j1, j2⟩ := h
  generalize hσ' : zu (zu (zu σ (t + 4) (R (6 + 5 * g + 2)).toInt.toNat (-1)) (t + 4) x.toInt.toNat (nI g)) (t + 7 + g) 2 x = σ'
  have e : ∀ o, o ≠ t + 4 → o ≠ t + 7 + g → σ' o = σ o := fun o h1 h2 => by rw [← hσ', zu_o h2, zu_o h1, zu_o h1]
  have u : ∀ j, j ≠ 6 + 5 * g + 2 → upd R (6 + 5 * g + 2) x j = R j := fun j hj => upd_ne hj
  refine ⟨?_, fun g' hg' k' hk' => ?_, fun p hp k' hk' => ?_, fun j hj => ?_, fun j hj => ?_, fun c' hc => ?_, j1.congr (e _ (by omega) (by omega)) (e _ (by omega) (by omega)) (fun i h1 h2 => u i (by omega)) hW.2.2.1.len.2, j2.congr (e _ (by omega) (by omega)) (e _ (by omega) (by omega)) (fun i h1 h2 => u i (by omega)) hW.2.2.2.len.2⟩
  · rw [e t (by omega) (by omega), u 0 (by omega), u 1 (by omega), u 2 (by omega), u 3 (by omega), u 4 (by omega), u 5 (by omega)]
    exact ⟨a1, a2, a3, a4, a5, a6⟩
  · by_cases hgg : g' = g
    · subst hgg
      by_cases hkk : k' = 2
      · subst hkk
        rw [← hσ', zu_at, upd_at]
      · rw [← hσ', zu_k hkk, zu_o (by omega), zu_o (by omega), u _ (by omega)]
        exact b g' hg' k' hk'
    · rw [e _ (by omega) (by omega), u _ (by omega)]
      exact b g' hg' k' hk'
  · rw [e _ (by omega) (by omega), u _ (by omega)]; exact c p hp k' hk'
  · rw [e _ (by omega) (by omega), u _ (by omega)]; exact d j hj
  · rw [e _ (by omega) (by omega), u _ (by omega)]; exact f j hj
  · have hcx : (nI c').toInt = c' := nI_toInt (by omega)
    rw [← hσ', zu_o (by omega)]
    by_cases h1 : c' = x.toInt.toNat
    · have hxc : nI c' = x := by rw [h1, ← i_nat hx.1]
      rw [h1, zu_at, ← h1, hxc]
      exact (gat_is hW'.2.1 (by rw [u 2 (by omega)]; exact hg) upd_at).symm
    · have hxc : x ≠ nI c' := fun q => h1 (by rw [q, hcx]; omega)
      rw [zu_k h1]
      by_cases h2 : c' = (R (6 + 5 * g + 2)).toInt.toNat
      · have hxc2 : R (6 + 5 * g + 2) = nI c' := by rw [h2, ← i_nat hcell.1]
        rw [h2, zu_at, ← h2]
        refine (gat_no fun j hj => ?_).symm
        rw [u 2 (by omega)] at hj
        by_cases hjg : j = g
        · subst hjg; rw [upd_at]; exact hxc
        · rw [u _ (by omega), ← hxc2]
          exact fun q => hjg (hW.2.1 j g hj hg q)
      · have hxc2 : R (6 + 5 * g + 2) ≠ nI c' := fun q => h2 (by rw [q, hcx]; omega)
        rw [zu_k h2, i c' hc]
        rcases gat_spec (R := R) (nI c') with ⟨q1, q2⟩ | ⟨j, q1, q2, q3⟩
        · rw [q1]
          refine (gat_no fun j hj => ?_).symm
          rw [u 2 (by omega)] at hj
          by_cases hjg : j = g
          · subst hjg; rw [upd_at]; exact hxc
          · rw [u _ (by omega)]; exact q2 j hj
        · have hjg : j ≠ g := fun q => hxc2 (by rw [← q]; exact q3)
          rw [q2]
          exact (gat_is hW'.2.1 (by rw [u 2 (by omega)]; exact q1) (by rw [u _ (by omega)]; exact q3)).symm
theorem s5_hang {k t : Nat} {a x : Int32} {σ : ZS} (ht : zsh t = 6) (h8 : (σ t 6).toInt ≤ 8) (ha : 0 ≤ a.toInt ∧ a.toInt < (σ t 6).toInt) (hs : zsh (t + 7 + a.toInt.toNat) = 1) (hc : 0 ≤ (σ (t + 7 + a.toInt.toNat) 2).toInt ∧ (σ (t + 7 + a.toInt.toNat) 2).toInt ≤ 63) (hx : 0 ≤ x.toInt ∧ x.toInt ≤ 63) : f5_hangGlass k t a x σ = some ((), zu (zu (zu σ (t + 4) (σ (t + 7 + a.toInt.toNat) 2).toInt.toNat (-1)) (t + 4) x.toInt.toNat a) (t + 7 + a.toInt.toNat) 2 x) := by
  rw [f5_hangGlass, if_pos ht, s5_glassOf ht h8, zbd_some, if_pos ha, if_neg (by omega), s8_isNoCell, zbd_some, if_pos hx, if_pos rfl, if_pos hs, s8_isNoCell, zbd_some, if_pos hc, if_pos rfl, if_pos (by rw [zin]; omega), zput_eq, if_pos (by rw [zin]; omega), zput_eq, zput_eq]
  rfl
section
variable {m k : Nat} {σ : ZS}
theorem op_hang (hk : 9 ≤ k) (h : Rel m σ) (a b : Int32) : opk m (f8_hang k a b) (f9_hang k a b) σ := by
  have hn := h.2.1.1.ng
  by_cases c1 : 0 ≤ a.toInt ∧ a.toInt < (σ 104 2).toInt
  · have hg : a.toInt.toNat < 8 := by omega
    have han : a = nI a.toInt.toNat := i_nat c1.1
    by_cases c2 : 0 ≤ b.toInt ∧ b.toInt ≤ 63
    · have i2 : ((6 : Int32) + (5 : Int32) * a + (2 : Int32)).toInt = 6 + 5 * a.toInt + 2 := i_gx (w := 2) (by omega) (by rw [t_2]; omega)
      have i2' : ((6 : Int32) + (5 : Int32) * a + (2 : Int32)).toInt.toNat = 6 + 5 * a.toInt.toNat + 2 := by rw [i2]; omega
      have ec := h.1.2.1 _ hg 2 (by decide)
      have hcell := (h.2.1.1.gl hg).2.2.1
      have main : (gat (σ 104) b = -1 ∨ gat (σ 104) b = a) → opk m (f8_hang k a b) (f9_hang k a b) σ := by
        intro hf
        have hf' : gat (σ 104) b = -1 ∨ gat (σ 104) b = nI a.toInt.toNat := by rw [← han]; exact hf
        have hW := h.2.1.hang (g := a.toInt.toNat) (by omega) c2 hf'
        have hR := h.1.hang h.2.1 (g := a.toInt.toNat) (by omega) c2 hf'
        rw [← han] at hR
        have e5 := s5_hang (k := k) (t := 2) (a := a) (x := b) (σ := σ) rfl (by rw [h.1.1.1]; exact hn.2) (by rw [h.1.1.1]; exact c1) (sh_g hg) (by rw [ec]; exact hcell) c2
        rw [ec] at e5
        refine ⟨σ 104 (6 + 5 * a.toInt.toNat + 2), zu (zu (zu σ (2 + 4) (σ 104 (6 + 5 * a.toInt.toNat + 2)).toInt.toNat (-1)) (2 + 4) b.toInt.toNat a) (2 + 7 + a.toInt.toNat) 2 b, zu (zu (zu (zu σ (2 + 4) (σ 104 (6 + 5 * a.toInt.toNat + 2)).toInt.toNat (-1)) (2 + 4) b.toInt.toNat a) (2 + 7 + a.toInt.toNat) 2 b) 104 (6 + 5 * a.toInt.toNat + 2) b, ?_, ?_, h.fin hR hW ?_ ?_ ?_⟩
        · rw [f8_hang, h.gl8, zbd_some, if_pos c1, if_neg (by omega), s8_isNoCell, zbd_some, if_pos c2, if_pos rfl, s5_glassAt rfl h.1 c2, zbd_some]
          rcases hf with hf | hf
          · rw [hf, if_pos (by decide), if_pos (sh_g hg), e5, zbd_some, ec]
          · rw [hf, if_neg (by (simp only [Int32.lt_iff_toInt_lt, Int32.le_iff_toInt_le, ← Int32.toInt_inj, t_m1000000006, t_m1000000005, t_m1000000004, t_m1000000003, t_m1000000002, t_m1000000001, t_m1000000000, t_m33, t_m10, t_m3, t_m2, t_m1, t_0, t_1, t_2, t_3, t_4, t_5, t_6, t_7, t_8, t_9, t_10, t_11, t_12, t_13, t_14, t_15, t_16, t_17, t_18, t_19, t_20, t_21, t_22, t_23, t_24, t_25, t_26, t_27, t_28, t_29, t_30, t_31, t_32, t_33, t_34, t_35, t_36, t_37, t_38, t_39, t_40, t_41, t_42, t_43, t_44, t_45, t_46, t_47, t_48, t_49, t_50, t_51, t_52, t_53, t_54, t_55, t_56, t_57, t_58, t_59, t_60, t_61, t_62, t_63, t_64, t_69, t_70, t_71, t_99, t_104, t_105, t_106, t_107, t_108, t_109, t_110, t_111, t_112, t_113, t_114, t_115, t_116, t_121, t_124, t_148, t_255, t_256, t_257, t_390, t_999, t_9999, t_12345, t_99999, t_1103515245] at *; omega)), if_pos rfl, if_pos (sh_g hg), e5, zbd_some, ec]
        · have e104 : zu (zu (zu σ (2 + 4) (σ 104 (6 + 5 * a.toInt.toNat + 2)).toInt.toNat (-1)) (2 + 4) b.toInt.toNat a) (2 + 7 + a.toInt.toNat) 2 b 104 = σ 104 := by rw [zu_o (by omega), zu_o (by omega), zu_o (by omega)]
          rw [f9_hang, h.ig9 e104, zbd_some, if_pos c1, if_neg (by decide), s9_isCell, zbd_some, if_pos c2, if_neg (by decide), s9_glassAt (by rw [e104]; exact hn) hk, zbd_some, e104]
          rcases hf with hf | hf
          · rw [hf, if_pos (by decide), s9_becomes (by rw [i2]; omega), zbd_some, i2', e104]
          · rw [hf, if_neg (by (simp only [Int32.lt_iff_toInt_lt, Int32.le_iff_toInt_le, ← Int32.toInt_inj, t_m1000000006, t_m1000000005, t_m1000000004, t_m1000000003, t_m1000000002, t_m1000000001, t_m1000000000, t_m33, t_m10, t_m3, t_m2, t_m1, t_0, t_1, t_2, t_3, t_4, t_5, t_6, t_7, t_8, t_9, t_10, t_11, t_12, t_13, t_14, t_15, t_16, t_17, t_18, t_19, t_20, t_21, t_22, t_23, t_24, t_25, t_26, t_27, t_28, t_29, t_30, t_31, t_32, t_33, t_34, t_35, t_36, t_37, t_38, t_39, t_40, t_41, t_42, t_43, t_44, t_45, t_46, t_47, t_48, t_49, t_50, t_51, t_52, t_53, t_54, t_55, t_56, t_57, t_58, t_59, t_60, t_61, t_62, t_63, t_64, t_69, t_70, t_71, t_99, t_104, t_105, t_106, t_107, t_108, t_109, t_110, t_111, t_112, t_113, t_114, t_115, t_116, t_121, t_124, t_148, t_255, t_256, t_257, t_390, t_999, t_9999, t_12345, t_99999, t_1103515245] at *; omega)), if_pos rfl, s9_becomes (by rw [i2]; omega), zbd_some, i2', e104]
        · rw [zu_self, zu_o (by omega), zu_o (by omega), zu_o (by omega)]
        · intro o ho; unfold pR at ho; rw [zu_o (by omega), zu_o (by omega), zu_o (by omega)]
        · intro o ho; rw [zu_o ho]
      rcases gat_spec (R := σ 104) b with ⟨q1, q2⟩ | ⟨j, q1, q2, q3⟩
      · exact main (Or.inl q1)
      · by_cases hja : nI j = a
        · exact main (Or.inr (q2.trans hja))
        · have hjx : (nI j).toInt = j := nI_toInt (by omega)
          have hj0 : ¬ nI j < 0 := by rw [Int32.lt_iff_toInt_lt, hjx, t_0]; omega
          refine opk_e3 h ?_ fun s hs => ?_
          · rw [f8_hang, h.gl8, zbd_some, if_pos c1, if_neg (by omega), s8_isNoCell, zbd_some, if_pos c2, if_pos rfl, s5_glassAt rfl h.1 c2, zbd_some, q2, if_neg hj0, if_neg hja, e8_3]; rfl
          · rw [f9_hang, h.ig9 (hs _ (by decide)), zbd_some, if_pos c1, if_neg (by decide), s9_isCell, zbd_some, if_pos c2, if_neg (by decide), s9_glassAt (by rw [hs _ (by decide)]; exact hn) hk, zbd_some, hs 104 (by decide), q2, if_neg hj0, if_neg hja, e9_3]; rfl
    · refine opk_e1 h ?_ fun s hs => ?_
      · rw [f8_hang, h.gl8, zbd_some, if_pos c1, if_neg (by omega), s8_isNoCell, zbd_some, if_neg c2, if_neg (by decide), e8_1]; rfl
      · rw [f9_hang, h.ig9 (hs _ (by decide)), zbd_some, if_pos c1, if_neg (by decide), s9_isCell, zbd_some, if_neg c2, if_pos rfl, e9_1]; rfl
  · refine opk_e1 h ?_ fun s hs => ?_
    · rw [f8_hang, h.gl8, zbd_some, if_neg c1, if_pos rfl, e8_1]; rfl
    · rw [f9_hang, h.ig9 (hs _ (by decide)), zbd_some, if_neg c1, if_pos rfl, e9_1]; rfl
/-- a glass more -/
theorem RS.add {hb : Int} {σ1 : ZS} {t : Nat} {R R1 : Nat → Int32} (h : RS σ t R) (hW : WF hb R) {n : Nat} (hn : (R 2).toInt = n) (hn8 : n < 8) {x : Int32} (hx : 0 ≤ x.toInt ∧ x.toInt ≤ 63) (hf : gat R x = -1)
  (a0 : σ1 t 6 = R1 2) (r2 : (R1 2).toInt = n + 1) (a1 : ∀ i, i ≠ 6 → σ1 t i = σ t i) (b : ∀ k, k < 5 → σ1 (t + 7 + n) k = R1 (6 + 5 * n + k)) (c : ∀ c, c < 64 → σ1 (t + 4) c = if c = x.toInt.toNat then nI n else σ (t + 4) c)
  (e : ∀ o, o ≠ t → o ≠ t + 4 → o ≠ t + 7 + n → σ1 o = σ o) (u : ∀ i, i ≠ 2 → (i < 6 + 5 * n ∨ 6 + 5 * n + 5 ≤ i) → R1 i = R i) (ux : R1 (6 + 5 * n + 2) = x) : RS σ1 t R1 ∧ DS R1 ∧ VT R1 := by
  have hno : ∀ j : Nat, (j : Int) < (R 2).toInt → R (6 + 5 * j + 2) ≠ x := by
    rcases gat_spec (R := R) x with ⟨q1, q2⟩ | ⟨j, q1, q2, q3⟩
    · exact q2
    · have := congrArg Int32.toInt (q2.symm.trans hf)
      rw [nI_toInt (by omega), t_m1] at this
      omega
  have hD : DS R1 := by
    intro i j hi hj hij
    rw [r2] at hi hj
    by_cases h1 : i = n
    · by_cases h2 : j = n
      · rw [h1, h2]
      · rw [h1, ux, u _ (by omega) (by omega)] at hij
        exact absurd hij.symm (hno j (by omega))
    · by_cases h2 : j = n
      · rw [h2, ux, u _ (by omega) (by omega)] at hij
        exact absurd hij (hno i (by omega))
      · rw [u _ (by omega) (by omega), u _ (by omega) (by omega)] at hij
        exact hW.2.1 i j (by omega) (by omega) hij
  refine ⟨?_, hD, hW.2.2.congr fun i h1 h2 => u i (by omega) (by omega)⟩
  obtain ⟨⟨p1, p2, p3, p4, p5, p6⟩, bb, cc, d, f, i, j1, j2⟩ := h
  refine ⟨?_, fun g' hg' k' hk' => ?_, fun p hp k' hk' => ?_, fun j hj => ?_, fun j hj => ?_, fun c' hc => ?_, j1.congr (e _ (by omega) (by omega) (by omega)) (e _ (by omega) (by omega) (by omega)) (fun i h1 h2 => u i (by omega) (by omega)) hW.2.2.1.len.2, j2.congr (e _ (by omega) (by omega) (by omega)) (e _ (by omega) (by omega) (by omega)) (fun i h1 h2 => u i (by omega) (by omega)) hW.2.2.2.len.2⟩
  · rw [a1 7 (by omega), a1 8 (by omega), a1 9 (by omega), a1 10 (by omega), a1 11 (by omega), u 0 (by omega) (by omega), u 1 (by omega) (by omega), u 3 (by omega) (by omega), u 4 (by omega) (by omega), u 5 (by omega) (by omega)]
    exact ⟨a0, p2, p3, p4, p5, p6⟩
  · by_cases hgg : g' = n
    · subst hgg; exact b k' hk'
    · rw [e _ (by omega) (by omega) (by omega), u _ (by omega) (by omega)]
      exact bb g' hg' k' hk'
  · rw [e _ (by omega) (by omega) (by omega), u _ (by omega) (by omega)]; exact cc p hp k' hk'
  · rw [e _ (by omega) (by omega) (by omega), u _ (by omega) (by omega)]; exact d j hj
  · rw [e _ (by omega) (by omega) (by omega), u _ (by omega) (by omega)]; exact f j hj
  · have hcx : (nI c').toInt = c' := nI_toInt (by omega)
    rw [c c' hc]
    by_cases h1 : c' = x.toInt.toNat
    · have hxc : nI c' = x := by rw [h1, ← i_nat hx.1]
      rw [if_pos h1, hxc]
      exact (gat_is hD (g := n) (by omega) ux).symm
    · have hxc : x ≠ nI c' := fun q => h1 (by rw [q, hcx]; omega)
      rw [if_neg h1, i c' hc]
      rcases gat_spec (R := R) (nI c') with ⟨q1, q2⟩ | ⟨j, q1, q2, q3⟩
      · rw [q1]
        refine (gat_no fun j hj => ?_).symm
        by_cases hjg : j = n
        · rw [hjg, ux]; exact hxc
        · rw [u _ (by omega) (by omega)]; exact q2 j (by omega)
      · rw [q2]
        exact (gat_is hD (by omega) (by rw [u _ (by omega) (by omega)]; exact q3)).symm
theorem op_glass (hk : 9 ≤ k) (h : Rel m σ) (a x c : Int32) : opk m (f8_glass k a x c) (f9_glass k a x c) σ := by
  have hn := h.2.1.1.ng
  by_cases c1 : 0 ≤ a.toInt ∧ a.toInt ≤ 69
  · by_cases c2 : 0 ≤ x.toInt ∧ x.toInt ≤ 63
    · by_cases c3 : 0 ≤ c.toInt ∧ c.toInt ≤ 3
      · by_cases c4 : (σ 104 2).toInt < 8
        · by_cases c5 : gat (σ 104) x = -1
          · obtain ⟨n, hn1⟩ : ∃ n : Nat, (σ 104 2).toInt = n := ⟨(σ 104 2).toInt.toNat, by omega⟩
            have hn8 : n < 8 := by omega
            have hnn : σ 104 2 = nI n := i_eq (by rw [hn1, nI_toInt (by omega)])
            have hni : (nI n).toInt = n := nI_toInt (by omega)
            have hn2 : (nI n + 1).toInt = n + 1 := by rw [i_add (by rw [hni, t_1]; omega), hni, t_1]
            have d1 : (a / 10).toInt = a.toInt / 10 := by rw [i_div c1.1 (by rw [t_10]; omega), t_10]
            have d2 : (a % 10).toInt = a.toInt % 10 := by rw [i_mod c1.1, t_10]
            have b0 := bG 9999 hn8
            -- the two ends
            have hR1 : ∃ R1 : Nat → Int32, R1 = upd (upd (upd (upd (upd (upd (σ 104) 2 (nI n + 1)) (6 + 5 * n + 0) (a / 10)) (6 + 5 * n + 1) (a % 10)) (6 + 5 * n + 2) x) (6 + 5 * n + 3) c) (6 + 5 * n + 4) 0 := ⟨_, rfl⟩
            obtain ⟨R1, hR1⟩ := hR1
            have hs1 : ∃ s1 : ZS, s1 = zu (zu (zu (zu (zu (zu (zu (zu (zu σ 2 6 (nI n + 1)) (2 + 7 + n) 0 (a / 10)) (2 + 7 + n) 1 (a % 10)) (2 + 7 + n) 3 c) (2 + 7 + n) 4 0) (2 + 7 + n) 2 x) (2 + 4) x.toInt.toNat (-1)) (2 + 4) x.toInt.toNat (nI n)) (2 + 7 + n) 2 x := ⟨_, rfl⟩
            obtain ⟨s1, hs1⟩ := hs1
            have e1 : ∀ o, o ≠ 2 → o ≠ 2 + 4 → o ≠ 2 + 7 + n → s1 o = σ o := fun o h1 h2 h3 => by
              rw [hs1, zu_o h3, zu_o h2, zu_o h2, zu_o h3, zu_o h3, zu_o h3, zu_o h3, zu_o h3, zu_o h1]
            have hadd := h.1.add h.2.1 (σ1 := s1) (R1 := R1) hn1 hn8 c2 c5 (by rw [hs1, hR1, upd_ne (by omega), upd_ne (by omega), upd_ne (by omega), upd_ne (by omega), upd_ne (by omega), upd_at, zu_o (by omega), zu_o (by omega), zu_o (by omega), zu_o (by omega), zu_o (by omega), zu_o (by omega), zu_o (by omega), zu_o (by omega), zu_at]) (by rw [hR1, upd_ne (by omega), upd_ne (by omega), upd_ne (by omega), upd_ne (by omega), upd_ne (by omega), upd_at]; exact hn2) (fun i hi => by rw [hs1, zu_o (by omega), zu_o (by omega), zu_o (by omega), zu_o (by omega), zu_o (by omega), zu_o (by omega), zu_o (by omega), zu_o (by omega), zu_k hi])
              (fun i hi => by
                have hi' : i = 0 ∨ i = 1 ∨ i = 2 ∨ i = 3 ∨ i = 4 := by omega
                rcases hi' with rfl | rfl | rfl | rfl | rfl
                · rw [hs1, hR1, upd_ne (by omega), upd_ne (by omega), upd_ne (by omega), upd_ne (by omega), upd_at, zu_k (by omega), zu_o (by omega), zu_o (by omega), zu_k (by omega), zu_k (by omega), zu_k (by omega), zu_k (by omega), zu_at]
                · rw [hs1, hR1, upd_ne (by omega), upd_ne (by omega), upd_ne (by omega), upd_at, zu_k (by omega), zu_o (by omega), zu_o (by omega), zu_k (by omega), zu_k (by omega), zu_k (by omega), zu_at]
                · rw [hs1, hR1, upd_ne (by omega), upd_ne (by omega), upd_at, zu_at]
                · rw [hs1, hR1, upd_ne (by omega), upd_at, zu_k (by omega), zu_o (by omega), zu_o (by omega), zu_k (by omega), zu_k (by omega), zu_at]
                · rw [hs1, hR1, upd_at, zu_k (by omega), zu_o (by omega), zu_o (by omega), zu_k (by omega), zu_at])
              (fun i hi => by
                rw [hs1, zu_o (by omega)]
                by_cases hix : i = x.toInt.toNat
                · rw [if_pos hix, hix, zu_at]
                · rw [if_neg hix, zu_k hix, zu_k hix, zu_o (by omega), zu_o (by omega), zu_o (by omega), zu_o (by omega), zu_o (by omega), zu_o (by omega)])
              e1 (fun i h1 h2 => by rw [hR1, upd_ne (by omega), upd_ne (by omega), upd_ne (by omega), upd_ne (by omega), upd_ne (by omega), upd_ne h1]) (by rw [hR1, upd_ne (by omega), upd_ne (by omega), upd_at])
            have hB : BD 9999 R1 := by
              rw [hR1]
              refine (((((h.2.1.1.upd fun _ => ?_).upd fun _ => ?_).upd fun _ => ?_).upd fun _ => ?_).upd fun _ => ?_).upd fun _ => ?_
              · rw [hn2]; exact ⟨by show (0 : Int) ≤ _; omega, by show _ ≤ (8 : Int); omega⟩
              · rw [b0.1.1, b0.1.2, d1]; omega
              · rw [b0.2.1.1, b0.2.1.2, d2]; omega
              · rw [b0.2.2.1.1, b0.2.2.1.2]; exact c2
              · rw [b0.2.2.2.1.1, b0.2.2.2.1.2]; exact c3
              · rw [b0.2.2.2.2.1, b0.2.2.2.2.2, t_0]; omega
            have g0 : ((6 : Int32) + (5 : Int32) * nI n).toInt = 6 + 5 * n := by rw [i_g0 (by omega), hni]
            have g1 : ((6 : Int32) + (5 : Int32) * nI n + 1).toInt = 6 + 5 * n + 1 := by rw [i_gx (w := 1) (by omega) (by rw [t_1]; omega), hni, t_1]
            have g2 : ((6 : Int32) + (5 : Int32) * nI n + 2).toInt = 6 + 5 * n + 2 := by rw [i_gx (w := 2) (by omega) (by rw [t_2]; omega), hni, t_2]
            have g3 : ((6 : Int32) + (5 : Int32) * nI n + 3).toInt = 6 + 5 * n + 3 := by rw [i_gx (w := 3) (by omega) (by rw [t_3]; omega), hni, t_3]
            have g4 : ((6 : Int32) + (5 : Int32) * nI n + 4).toInt = 6 + 5 * n + 4 := by rw [i_gx (w := 4) (by omega) (by rw [t_4]; omega), hni, t_4]
            have k0 : ((6 : Int32) + (5 : Int32) * nI n).toNatClampNeg = 6 + 5 * n + 0 := by rw [i_cl, g0]; omega
            have k1 : ((6 : Int32) + (5 : Int32) * nI n + 1).toNatClampNeg = 6 + 5 * n + 1 := by rw [i_cl, g1]; omega
            have k2 : ((6 : Int32) + (5 : Int32) * nI n + 2).toNatClampNeg = 6 + 5 * n + 2 := by rw [i_cl, g2]; omega
            have k3 : ((6 : Int32) + (5 : Int32) * nI n + 3).toNatClampNeg = 6 + 5 * n + 3 := by rw [i_cl, g3]; omega
            have k4 : ((6 : Int32) + (5 : Int32) * nI n + 4).toNatClampNeg = 6 + 5 * n + 4 := by rw [i_cl, g4]; omega
            have e104 : s1 104 = σ 104 := e1 104 (by omega) (by omega) (by omega)
            refine ⟨nI n, s1, zu (zu (zu (zu (zu (zu s1 104 2 (nI n + 1)) 104 (6 + 5 * n + 0) (a / 10)) 104 (6 + 5 * n + 1) (a % 10)) 104 (6 + 5 * n + 2) x) 104 (6 + 5 * n + 3) c) 104 (6 + 5 * n + 4) 0, ?_, ?_, h.fin hadd.1 ⟨hB, hadd.2⟩ ?_ ?_ ?_⟩
            · have a1 := h.1.1.1
              rw [f8_glass, s8_isNoKm, zbd_some, if_pos c1, if_pos rfl, s8_isNoCell, zbd_some, if_pos c2, if_pos rfl, s8_isNoTurn, zbd_some, if_pos c3, if_pos rfl, a1, if_pos (by (simp only [Int32.lt_iff_toInt_lt, Int32.le_iff_toInt_le, ← Int32.toInt_inj, t_m1000000006, t_m1000000005, t_m1000000004, t_m1000000003, t_m1000000002, t_m1000000001, t_m1000000000, t_m33, t_m10, t_m3, t_m2, t_m1, t_0, t_1, t_2, t_3, t_4, t_5, t_6, t_7, t_8, t_9, t_10, t_11, t_12, t_13, t_14, t_15, t_16, t_17, t_18, t_19, t_20, t_21, t_22, t_23, t_24, t_25, t_26, t_27, t_28, t_29, t_30, t_31, t_32, t_33, t_34, t_35, t_36, t_37, t_38, t_39, t_40, t_41, t_42, t_43, t_44, t_45, t_46, t_47, t_48, t_49, t_50, t_51, t_52, t_53, t_54, t_55, t_56, t_57, t_58, t_59, t_60, t_61, t_62, t_63, t_64, t_69, t_70, t_71, t_99, t_104, t_105, t_106, t_107, t_108, t_109, t_110, t_111, t_112, t_113, t_114, t_115, t_116, t_121, t_124, t_148, t_255, t_256, t_257, t_390, t_999, t_9999, t_12345, t_99999, t_1103515245] at *; omega)), s5_glassAt rfl h.1 c2, zbd_some, c5, if_pos (by decide), f5_addGlass, if_pos (show zsh 2 = 6 from rfl), zput_eq, a1, hnn, s5_glassOf rfl (by rw [zu_at, hn2]; omega), zbd_some, zu_at, hn2, hni, if_pos (show (0 : Int) ≤ n ∧ (n : Int) < n + 1 by omega), if_neg (by omega)]
              rw [show ((n : Int).toNat) = n by omega, if_pos (sh_g hn8), zput_eq, zput_eq, zput_eq, zput_eq, zput_eq]
              have e5 := s5_hang (k := k) (t := 2) (a := nI n) (x := x) (σ := zu (zu (zu (zu (zu (zu σ 2 6 (nI n + 1)) (2 + 7 + n) 0 (a / 10)) (2 + 7 + n) 1 (a % 10)) (2 + 7 + n) 3 c) (2 + 7 + n) 4 0) (2 + 7 + n) 2 x) rfl (by rw [zu_o (by omega), zu_o (by omega), zu_o (by omega), zu_o (by omega), zu_o (by omega), zu_at, hn2]; omega) (by rw [zu_o (by omega), zu_o (by omega), zu_o (by omega), zu_o (by omega), zu_o (by omega), zu_at, hn2, hni]; omega) (by rw [hni, show ((n : Int).toNat) = n by omega]; exact sh_g hn8) (by rw [hni, show ((n : Int).toNat) = n by omega, zu_at]; exact c2) c2
              rw [hni, show ((n : Int).toNat) = n by omega, zu_at] at e5
              rw [e5, zbd_some, zbd_some, hs1]
            · rw [f9_glass, s9_isKm, zbd_some, if_pos c1, if_neg (by decide), s9_isCell, zbd_some, if_pos c2, if_neg (by decide), s9_isFour, zbd_some, if_pos c3, if_neg (by decide), e104, hnn, if_neg (by rw [← Int32.toInt_inj, hni, t_8]; omega), s9_glassAt (by rw [e104]; exact hn) hk, zbd_some, e104, c5, if_pos (by decide), zput_eq, hnn, if_pos (by rw [zin, g0]; omega), zput_eq, if_pos (by rw [zin, g1]; omega), zput_eq, if_pos (by rw [zin, g2]; omega), zput_eq, if_pos (by rw [zin, g3]; omega), zput_eq, if_pos (by rw [zin, g4]; omega), zput_eq, k0, k1, k2, k3, k4]
            · rw [zu_self, zu_self, zu_self, zu_self, zu_self, zu_self, e104, hR1]
            · intro o ho; unfold pR at ho; exact e1 o (by omega) (by omega) (by omega)
            · intro o ho; rw [zu_o ho, zu_o ho, zu_o ho, zu_o ho, zu_o ho, zu_o ho]
          · rcases gat_spec (R := σ 104) x with ⟨q1, q2⟩ | ⟨j, q1, q2, q3⟩
            · exact absurd q1 c5
            · have hjx : (nI j).toInt = j := nI_toInt (by omega)
              have hj0 : ¬ nI j < 0 := by rw [Int32.lt_iff_toInt_lt, hjx, t_0]; omega
              have h8 : σ 104 2 < 8 := by (simp only [Int32.lt_iff_toInt_lt, Int32.le_iff_toInt_le, ← Int32.toInt_inj, t_m1000000006, t_m1000000005, t_m1000000004, t_m1000000003, t_m1000000002, t_m1000000001, t_m1000000000, t_m33, t_m10, t_m3, t_m2, t_m1, t_0, t_1, t_2, t_3, t_4, t_5, t_6, t_7, t_8, t_9, t_10, t_11, t_12, t_13, t_14, t_15, t_16, t_17, t_18, t_19, t_20, t_21, t_22, t_23, t_24, t_25, t_26, t_27, t_28, t_29, t_30, t_31, t_32, t_33, t_34, t_35, t_36, t_37, t_38, t_39, t_40, t_41, t_42, t_43, t_44, t_45, t_46, t_47, t_48, t_49, t_50, t_51, t_52, t_53, t_54, t_55, t_56, t_57, t_58, t_59, t_60, t_61, t_62, t_63, t_64, t_69, t_70, t_71, t_99, t_104, t_105, t_106, t_107, t_108, t_109, t_110, t_111, t_112, t_113, t_114, t_115, t_116, t_121, t_124, t_148, t_255, t_256, t_257, t_390, t_999, t_9999, t_12345, t_99999, t_1103515245]; omega)
              have h8' : ¬ σ 104 2 = 8 := by (simp only [Int32.lt_iff_toInt_lt, Int32.le_iff_toInt_le, ← Int32.toInt_inj, t_m1000000006, t_m1000000005, t_m1000000004, t_m1000000003, t_m1000000002, t_m1000000001, t_m1000000000, t_m33, t_m10, t_m3, t_m2, t_m1, t_0, t_1, t_2, t_3, t_4, t_5, t_6, t_7, t_8, t_9, t_10, t_11, t_12, t_13, t_14, t_15, t_16, t_17, t_18, t_19, t_20, t_21, t_22, t_23, t_24, t_25, t_26, t_27, t_28, t_29, t_30, t_31, t_32, t_33, t_34, t_35, t_36, t_37, t_38, t_39, t_40, t_41, t_42, t_43, t_44, t_45, t_46, t_47, t_48, t_49, t_50, t_51, t_52, t_53, t_54, t_55, t_56, t_57, t_58, t_59, t_60, t_61, t_62, t_63, t_64, t_69, t_70, t_71, t_99, t_104, t_105, t_106, t_107, t_108, t_109, t_110, t_111, t_112, t_113, t_114, t_115, t_116, t_121, t_124, t_148, t_255, t_256, t_257, t_390, t_999, t_9999, t_12345, t_99999, t_1103515245]; omega)
              refine opk_e3 h ?_ fun s hs => ?_
              · rw [f8_glass, s8_isNoKm, zbd_some, if_pos c1, if_pos rfl, s8_isNoCell, zbd_some, if_pos c2, if_pos rfl, s8_isNoTurn, zbd_some, if_pos c3, if_pos rfl, h.1.1.1, if_pos h8, s5_glassAt rfl h.1 c2, zbd_some, q2, if_neg hj0, e8_3]; rfl
              · rw [f9_glass, s9_isKm, zbd_some, if_pos c1, if_neg (by decide), s9_isCell, zbd_some, if_pos c2, if_neg (by decide), s9_isFour, zbd_some, if_pos c3, if_neg (by decide), hs 104 (by decide), if_neg h8', s9_glassAt (by rw [hs 104 (by decide)]; exact hn) hk, zbd_some, hs 104 (by decide), q2, if_neg hj0, e9_3]; rfl
        · have h8 : ¬ σ 104 2 < 8 := by (simp only [Int32.lt_iff_toInt_lt, Int32.le_iff_toInt_le, ← Int32.toInt_inj, t_m1000000006, t_m1000000005, t_m1000000004, t_m1000000003, t_m1000000002, t_m1000000001, t_m1000000000, t_m33, t_m10, t_m3, t_m2, t_m1, t_0, t_1, t_2, t_3, t_4, t_5, t_6, t_7, t_8, t_9, t_10, t_11, t_12, t_13, t_14, t_15, t_16, t_17, t_18, t_19, t_20, t_21, t_22, t_23, t_24, t_25, t_26, t_27, t_28, t_29, t_30, t_31, t_32, t_33, t_34, t_35, t_36, t_37, t_38, t_39, t_40, t_41, t_42, t_43, t_44, t_45, t_46, t_47, t_48, t_49, t_50, t_51, t_52, t_53, t_54, t_55, t_56, t_57, t_58, t_59, t_60, t_61, t_62, t_63, t_64, t_69, t_70, t_71, t_99, t_104, t_105, t_106, t_107, t_108, t_109, t_110, t_111, t_112, t_113, t_114, t_115, t_116, t_121, t_124, t_148, t_255, t_256, t_257, t_390, t_999, t_9999, t_12345, t_99999, t_1103515245]; omega)
          have h8' : σ 104 2 = 8 := by (simp only [Int32.lt_iff_toInt_lt, Int32.le_iff_toInt_le, ← Int32.toInt_inj, t_m1000000006, t_m1000000005, t_m1000000004, t_m1000000003, t_m1000000002, t_m1000000001, t_m1000000000, t_m33, t_m10, t_m3, t_m2, t_m1, t_0, t_1, t_2, t_3, t_4, t_5, t_6, t_7, t_8, t_9, t_10, t_11, t_12, t_13, t_14, t_15, t_16, t_17, t_18, t_19, t_20, t_21, t_22, t_23, t_24, t_25, t_26, t_27, t_28, t_29, t_30, t_31, t_32, t_33, t_34, t_35, t_36, t_37, t_38, t_39, t_40, t_41, t_42, t_43, t_44, t_45, t_46, t_47, t_48, t_49, t_50, t_51, t_52, t_53, t_54, t_55, t_56, t_57, t_58, t_59, t_60, t_61, t_62, t_63, t_64, t_69, t_70, t_71, t_99, t_104, t_105, t_106, t_107, t_108, t_109, t_110, t_111, t_112, t_113, t_114, t_115, t_116, t_121, t_124, t_148, t_255, t_256, t_257, t_390, t_999, t_9999, t_12345, t_99999, t_1103515245]; omega)
          refine opk_e4 h ?_ fun s hs => ?_
          · rw [f8_glass, s8_isNoKm, zbd_some, if_pos c1, if_pos rfl, s8_isNoCell, zbd_some, if_pos c2, if_pos rfl, s8_isNoTurn, zbd_some, if_pos c3, if_pos rfl, h.1.1.1, if_neg h8, e8_4]; rfl
          · rw [f9_glass, s9_isKm, zbd_some, if_pos c1, if_neg (by decide), s9_isCell, zbd_some, if_pos c2, if_neg (by decide), s9_isFour, zbd_some, if_pos c3, if_neg (by decide), hs 104 (by decide), if_pos h8', e9_4]; rfl
      · refine opk_e1 h ?_ fun s hs => ?_
        · rw [f8_glass, s8_isNoKm, zbd_some, if_pos c1, if_pos rfl, s8_isNoCell, zbd_some, if_pos c2, if_pos rfl, s8_isNoTurn, zbd_some, if_neg c3, if_neg (by decide), e8_1]; rfl
        · rw [f9_glass, s9_isKm, zbd_some, if_pos c1, if_neg (by decide), s9_isCell, zbd_some, if_pos c2, if_neg (by decide), s9_isFour, zbd_some, if_neg c3, if_pos rfl, e9_1]; rfl
    · refine opk_e1 h ?_ fun s hs => ?_
      · rw [f8_glass, s8_isNoKm, zbd_some, if_pos c1, if_pos rfl, s8_isNoCell, zbd_some, if_neg c2, if_neg (by decide), e8_1]; rfl
      · rw [f9_glass, s9_isKm, zbd_some, if_pos c1, if_neg (by decide), s9_isCell, zbd_some, if_neg c2, if_pos rfl, e9_1]; rfl
  · refine opk_e1 h ?_ fun s hs => ?_
    · rw [f8_glass, s8_isNoKm, zbd_some, if_neg c1, if_neg (by decide), e8_1]; rfl
    · rw [f9_glass, s9_isKm, zbd_some, if_neg c1, if_pos rfl, e9_1]; rfl
theorem op_person (h : Rel m σ) (x c : Int32) : opk m (f8_person k x c) (f9_person k x c) σ := by
  have hn := h.2.1.1.np
  by_cases c2 : 0 ≤ x.toInt ∧ x.toInt ≤ 63
  · by_cases c3 : 0 ≤ c.toInt ∧ c.toInt ≤ 3
    · by_cases c4 : (σ 104 3).toInt < 6
      · obtain ⟨n, hn1⟩ : ∃ n : Nat, (σ 104 3).toInt = n := ⟨(σ 104 3).toInt.toNat, by omega⟩
        have hn8 : n < 6 := by omega
        have hnn : σ 104 3 = nI n := i_eq (by rw [hn1, nI_toInt (by omega)])
        have hni : (nI n).toInt = n := nI_toInt (by omega)
        have hn2 : (nI n + 1).toInt = n + 1 := by rw [i_add (by rw [hni, t_1]; omega), hni, t_1]
        have b0 := bP 9999 hn8
        have r1 := h.1.fld h.2.1.2.2 h.2.1.1.ng.2 (i := 7) (j := 3) (by decide) (nI n + 1)
        have w1 := h.2.1.upd0 (j := 3) (w := nI n + 1) (by decide) (by rw [hn2]; exact ⟨by show (0 : Int) ≤ _; omega, by show _ ≤ (6 : Int); omega⟩) (by decide) (fun g hg => by omega)
        have r2 := r1.person w1.2.2 w1.1.ng.2 hn8 (k := 0) (by decide) x
        have w2 := w1.upd0 (j := 46 + 3 * n + 0) (w := x) (by omega) (by rw [b0.1.1, b0.1.2]; exact c2) (by omega) (fun g hg => by omega)
        have r3 := r2.person w2.2.2 w2.1.ng.2 hn8 (k := 1) (by decide) c
        have w3 := w2.upd0 (j := 46 + 3 * n + 1) (w := c) (by omega) (by rw [b0.2.1.1, b0.2.1.2]; exact c3) (by omega) (fun g hg => by omega)
        have r4 := r3.person w3.2.2 w3.1.ng.2 hn8 (k := 2) (by decide) 0
        have w4 := w3.upd0 (j := 46 + 3 * n + 2) (w := 0) (by omega) (by rw [b0.2.2.1, b0.2.2.2, t_0]; omega) (by omega) (fun g hg => by omega)
        have g0 : ((46 : Int32) + (3 : Int32) * nI n).toInt = 46 + 3 * n := by rw [i_p0 (by omega), hni]
        have g1 : ((46 : Int32) + (3 : Int32) * nI n + 1).toInt = 46 + 3 * n + 1 := by rw [i_px (w := 1) (by omega) (by rw [t_1]; omega), hni, t_1]
        have g2 : ((46 : Int32) + (3 : Int32) * nI n + 2).toInt = 46 + 3 * n + 2 := by rw [i_px (w := 2) (by omega) (by rw [t_2]; omega), hni, t_2]
        have k0 : ((46 : Int32) + (3 : Int32) * nI n).toNatClampNeg = 46 + 3 * n + 0 := by rw [i_cl, g0]; omega
        have k1 : ((46 : Int32) + (3 : Int32) * nI n + 1).toNatClampNeg = 46 + 3 * n + 1 := by rw [i_cl, g1]; omega
        have k2 : ((46 : Int32) + (3 : Int32) * nI n + 2).toNatClampNeg = 46 + 3 * n + 2 := by rw [i_cl, g2]; omega
        have e1 : ∀ o, o ≠ 2 → o ≠ 2 + 15 + n → zu (zu (zu (zu σ 2 7 (nI n + 1)) (2 + 15 + n) 0 x) (2 + 15 + n) 1 c) (2 + 15 + n) 2 0 o = σ o := fun o h1 h2 => by rw [zu_o h2, zu_o h2, zu_o h2, zu_o h1]
        have e104 := e1 104 (by omega) (by omega)
        refine ⟨nI n, zu (zu (zu (zu σ 2 7 (nI n + 1)) (2 + 15 + n) 0 x) (2 + 15 + n) 1 c) (2 + 15 + n) 2 0, zu (zu (zu (zu (zu (zu (zu (zu σ 2 7 (nI n + 1)) (2 + 15 + n) 0 x) (2 + 15 + n) 1 c) (2 + 15 + n) 2 0) 104 3 (nI n + 1)) 104 (46 + 3 * n + 0) x) 104 (46 + 3 * n + 1) c) 104 (46 + 3 * n + 2) 0, ?_, ?_, h.fin r4 w4 ?_ ?_ ?_⟩
        · have a1 := h.1.1.2.1
          rw [f8_person, s8_isNoCell, zbd_some, if_pos c2, if_pos rfl, s8_isNoWay, zbd_some, if_pos c3, if_pos rfl, a1, if_pos (by (simp only [Int32.lt_iff_toInt_lt, Int32.le_iff_toInt_le, ← Int32.toInt_inj, t_m1000000006, t_m1000000005, t_m1000000004, t_m1000000003, t_m1000000002, t_m1000000001, t_m1000000000, t_m33, t_m10, t_m3, t_m2, t_m1, t_0, t_1, t_2, t_3, t_4, t_5, t_6, t_7, t_8, t_9, t_10, t_11, t_12, t_13, t_14, t_15, t_16, t_17, t_18, t_19, t_20, t_21, t_22, t_23, t_24, t_25, t_26, t_27, t_28, t_29, t_30, t_31, t_32, t_33, t_34, t_35, t_36, t_37, t_38, t_39, t_40, t_41, t_42, t_43, t_44, t_45, t_46, t_47, t_48, t_49, t_50, t_51, t_52, t_53, t_54, t_55, t_56, t_57, t_58, t_59, t_60, t_61, t_62, t_63, t_64, t_69, t_70, t_71, t_99, t_104, t_105, t_106, t_107, t_108, t_109, t_110, t_111, t_112, t_113, t_114, t_115, t_116, t_121, t_124, t_148, t_255, t_256, t_257, t_390, t_999, t_9999, t_12345, t_99999, t_1103515245] at *; omega)), f5_addPerson, if_pos (show zsh 2 = 6 from rfl), zput_eq, a1, hnn, s5_personOf rfl (by rw [zu_at, hn2]; omega), zbd_some, zu_at, hn2, hni, if_pos (show (0 : Int) ≤ n ∧ (n : Int) < n + 1 by omega), if_neg (by omega)]
          rw [show ((n : Int).toNat) = n by omega, if_pos (sh_p hn8), zput_eq, zput_eq, zput_eq]
          rfl
        · rw [f9_person, s9_isCell, zbd_some, if_pos c2, if_neg (by decide), s9_isFour, zbd_some, if_pos c3, if_neg (by decide), e104, hnn, if_neg (by rw [← Int32.toInt_inj, hni, t_6]; omega), zput_eq, if_pos (by rw [zin, g0]; omega), zput_eq, if_pos (by rw [zin, g1]; omega), zput_eq, if_pos (by rw [zin, g2]; omega), zput_eq, k0, k1, k2]
        · rw [zu_self, zu_self, zu_self, zu_self, e104]
        · intro o ho; unfold pR at ho; exact e1 o (by omega) (by omega)
        · intro o ho; rw [zu_o ho, zu_o ho, zu_o ho, zu_o ho]
      · have h8 : ¬ σ 104 3 < 6 := by (simp only [Int32.lt_iff_toInt_lt, Int32.le_iff_toInt_le, ← Int32.toInt_inj, t_m1000000006, t_m1000000005, t_m1000000004, t_m1000000003, t_m1000000002, t_m1000000001, t_m1000000000, t_m33, t_m10, t_m3, t_m2, t_m1, t_0, t_1, t_2, t_3, t_4, t_5, t_6, t_7, t_8, t_9, t_10, t_11, t_12, t_13, t_14, t_15, t_16, t_17, t_18, t_19, t_20, t_21, t_22, t_23, t_24, t_25, t_26, t_27, t_28, t_29, t_30, t_31, t_32, t_33, t_34, t_35, t_36, t_37, t_38, t_39, t_40, t_41, t_42, t_43, t_44, t_45, t_46, t_47, t_48, t_49, t_50, t_51, t_52, t_53, t_54, t_55, t_56, t_57, t_58, t_59, t_60, t_61, t_62, t_63, t_64, t_69, t_70, t_71, t_99, t_104, t_105, t_106, t_107, t_108, t_109, t_110, t_111, t_112, t_113, t_114, t_115, t_116, t_121, t_124, t_148, t_255, t_256, t_257, t_390, t_999, t_9999, t_12345, t_99999, t_1103515245]; omega)
        have h8' : σ 104 3 = 6 := by (simp only [Int32.lt_iff_toInt_lt, Int32.le_iff_toInt_le, ← Int32.toInt_inj, t_m1000000006, t_m1000000005, t_m1000000004, t_m1000000003, t_m1000000002, t_m1000000001, t_m1000000000, t_m33, t_m10, t_m3, t_m2, t_m1, t_0, t_1, t_2, t_3, t_4, t_5, t_6, t_7, t_8, t_9, t_10, t_11, t_12, t_13, t_14, t_15, t_16, t_17, t_18, t_19, t_20, t_21, t_22, t_23, t_24, t_25, t_26, t_27, t_28, t_29, t_30, t_31, t_32, t_33, t_34, t_35, t_36, t_37, t_38, t_39, t_40, t_41, t_42, t_43, t_44, t_45, t_46, t_47, t_48, t_49, t_50, t_51, t_52, t_53, t_54, t_55, t_56, t_57, t_58, t_59, t_60, t_61, t_62, t_63, t_64, t_69, t_70, t_71, t_99, t_104, t_105, t_106, t_107, t_108, t_109, t_110, t_111, t_112, t_113, t_114, t_115, t_116, t_121, t_124, t_148, t_255, t_256, t_257, t_390, t_999, t_9999, t_12345, t_99999, t_1103515245]; omega)
        refine opk_e4 h ?_ fun s hs => ?_
        · rw [f8_person, s8_isNoCell, zbd_some, if_pos c2, if_pos rfl, s8_isNoWay, zbd_some, if_pos c3, if_pos rfl, h.1.1.2.1, if_neg h8, e8_4]; rfl
        · rw [f9_person, s9_isCell, zbd_some, if_pos c2, if_neg (by decide), s9_isFour, zbd_some, if_pos c3, if_neg (by decide), hs 104 (by decide), if_pos h8', e9_4]; rfl
    · refine opk_e1 h ?_ fun s hs => ?_
      · rw [f8_person, s8_isNoCell, zbd_some, if_pos c2, if_pos rfl, s8_isNoWay, zbd_some, if_neg c3, if_neg (by decide), e8_1]; rfl
      · rw [f9_person, s9_isCell, zbd_some, if_pos c2, if_neg (by decide), s9_isFour, zbd_some, if_neg c3, if_pos rfl, e9_1]; rfl
  · refine opk_e1 h ?_ fun s hs => ?_
    · rw [f8_person, s8_isNoCell, zbd_some, if_neg c2, if_neg (by decide), e8_1]; rfl
    · rw [f9_person, s9_isCell, zbd_some, if_neg c2, if_pos rfl, e9_1]; rfl
end
