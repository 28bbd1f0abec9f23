/-! calls that change glasses and people -/
theorem i_div {a b : Int32} (ha : 0 ≤ a.toInt) (hb : 0 < b.toInt) : (a / b).toInt = a.toInt / b.toInt := by
  have h1 := i_rng a
  have h2 : 0 ≤ a.toInt / b.toInt := Int.ediv_nonneg ha (by omega)
  have h3 : a.toInt / b.toInt ≤ a.toInt := Int.ediv_le_self _ ha
  rw [Int32.toInt_div, Int.tdiv_eq_ediv_of_nonneg ha]
  exact Int.bmod_eq_of_le (by omega) (by omega)
theorem i_mod {a b : Int32} (ha : 0 ≤ a.toInt) : (a % b).toInt = a.toInt % b.toInt := by
  rw [Int32.toInt_mod, Int.tmod_eq_emod_of_nonneg ha]
theorem upd_comm {f : Nat → Int32} {i j : Nat} {a b : Int32} (h : i ≠ j) : upd (upd f i a) j b = upd (upd f j b) i a := by
  funext z
  by_cases h1 : z = i
  · subst h1; rw [upd_ne h, upd_at, upd_at]
  · by_cases h2 : z = j
    · subst h2; rw [upd_at, upd_ne h1, upd_at]
    · rw [upd_ne h2, upd_ne h1, upd_ne h1, upd_ne h2]
theorem bG (hb : Int) {g : Nat} (hg : g < 8) : (bl (6 + 5 * g + 0) = 0 ∧ bh hb (6 + 5 * g + 0) = 6) ∧ (bl (6 + 5 * g + 1) = 0 ∧ bh hb (6 + 5 * g + 1) = 9) ∧ (bl (6 + 5 * g + 2) = 0 ∧ bh hb (6 + 5 * g + 2) = 63) ∧ (bl (6 + 5 * g + 3) = 0 ∧ bh hb (6 + 5 * g + 3) = 3) ∧ (bl (6 + 5 * g + 4) = 0 ∧ bh hb (6 + 5 * g + 4) = 99999) := by
  match g, hg with
  | 0, _ => exact ⟨⟨rfl, rfl⟩, ⟨rfl, rfl⟩, ⟨rfl, rfl⟩, ⟨rfl, rfl⟩, ⟨rfl, rfl⟩⟩
  | 1, _ => exact ⟨⟨rfl, rfl⟩, ⟨rfl, rfl⟩, ⟨rfl, rfl⟩, ⟨rfl, rfl⟩, ⟨rfl, rfl⟩⟩
  | 2, _ => exact ⟨⟨rfl, rfl⟩, ⟨rfl, rfl⟩, ⟨rfl, rfl⟩, ⟨rfl, rfl⟩, ⟨rfl, rfl⟩⟩
  | 3, _ => exact ⟨⟨rfl, rfl⟩, ⟨rfl, rfl⟩, ⟨rfl, rfl⟩, ⟨rfl, rfl⟩, ⟨rfl, rfl⟩⟩
  | 4, _ => exact ⟨⟨rfl, rfl⟩, ⟨rfl, rfl⟩, ⟨rfl, rfl⟩, ⟨rfl, rfl⟩, ⟨rfl, rfl⟩⟩
  | 5, _ => exact ⟨⟨rfl, rfl⟩, ⟨rfl, rfl⟩, ⟨rfl, rfl⟩, ⟨rfl, rfl⟩, ⟨rfl, rfl⟩⟩
  | 6, _ => exact ⟨⟨rfl, rfl⟩, ⟨rfl, rfl⟩, ⟨rfl, rfl⟩, ⟨rfl, rfl⟩, ⟨rfl, rfl⟩⟩
  | 7, _ => exact ⟨⟨rfl, rfl⟩, ⟨rfl, rfl⟩, ⟨rfl, rfl⟩, ⟨rfl, rfl⟩, ⟨rfl, rfl⟩⟩
  | g + 8, hg => exact absurd hg (by omega)
theorem bP (hb : Int) {p : Nat} (hp : p < 6) : (bl (46 + 3 * p + 0) = 0 ∧ bh hb (46 + 3 * p + 0) = 63) ∧ (bl (46 + 3 * p + 1) = 0 ∧ bh hb (46 + 3 * p + 1) = 3) ∧ (bl (46 + 3 * p + 2) = 0 ∧ bh hb (46 + 3 * p + 2) = 99999) := by
  match p, hp with
  | 0, _ => exact ⟨⟨rfl, rfl⟩, ⟨rfl, rfl⟩, ⟨rfl, rfl⟩⟩
  | 1, _ => exact ⟨⟨rfl, rfl⟩, ⟨rfl, rfl⟩, ⟨rfl, rfl⟩⟩
  | 2, _ => exact ⟨⟨rfl, rfl⟩, ⟨rfl, rfl⟩, ⟨rfl, rfl⟩⟩
  | 3, _ => exact ⟨⟨rfl, rfl⟩, ⟨rfl, rfl⟩, ⟨rfl, rfl⟩⟩
  | 4, _ => exact ⟨⟨rfl, rfl⟩, ⟨rfl, rfl⟩, ⟨rfl, rfl⟩⟩
  | 5, _ => exact ⟨⟨rfl, rfl⟩, ⟨rfl, rfl⟩, ⟨rfl, rfl⟩⟩
  | p + 6, hp => exact absurd hp (by omega)
/-- places that the relation reads and a change of the street leaves -/
def pR (o : Nat) : Prop := o = 1 ∨ (29 ≤ o ∧ o ≤ 55) ∨ (90 ≤ o ∧ o ≤ 92) ∨ (94 ≤ o ∧ o ≤ 103) ∨ o = 105 ∨ (107 ≤ o ∧ o ≤ 110) ∨ o = 118
theorem Rel.fin {m : Nat} {σ σ1 σ2 : ZS} {R' : Nat → Int32} (h : Rel m σ) (hR : RS σ1 2 R') (hW : WF 9999 R') (e4 : σ2 104 = R') (e1 : ∀ o, pR o → σ1 o = σ o) (e2 : ∀ o, o ≠ 104 → σ2 o = σ1 o) : Rel (m + 1) σ2 :=
  h.street (by rw [e4]; exact hR.congr hW.2.2 fun o h1 h2 => e2 o (by omega)) (by rw [e4]; exact hW) fun o ho => (e2 o (by unfold pR at *; omega)).trans (e1 o ho)
section
variable {m k : Nat} {σ : ZS}
theorem Rel.ig9 (h : Rel m σ) {s : ZS} (hs : s 104 = σ 104) (a : Int32) : f9_isGlass k a s = some (if 0 ≤ a.toInt ∧ a.toInt < (σ 104 2).toInt then 1 else 0, s) := by
  rw [s9_isGlass (by rw [hs]; exact h.2.1.1.ng.1), hs]
theorem Rel.ip9 (h : Rel m σ) {s : ZS} (hs : s 104 = σ 104) (a : Int32) : f9_isPerson k a s = some (if 0 ≤ a.toInt ∧ a.toInt < (σ 104 3).toInt then 1 else 0, s) := by
  rw [s9_isPerson (by rw [hs]; exact h.2.1.1.np.1), hs]
theorem op_become (h : Rel m σ) (a b : Int32) : opk m (f8_become k a b) (f9_become k a b) σ := by
  have hn := h.2.1.1.ng
  by_cases c1 : 0 ≤ a.toInt ∧ a.toInt < (σ 104 2).toInt
  · have hg : a.toInt.toNat < 8 := by omega
    by_cases c2 : 0 ≤ b.toInt ∧ b.toInt ≤ 69
    · have i1 : ((6 : Int32) + (5 : Int32) * a + (1 : Int32)).toInt = 6 + 5 * a.toInt + 1 := i_gx (w := 1) (by omega) (by rw [t_1]; omega)
      have i1' : ((6 : Int32) + (5 : Int32) * a + (1 : Int32)).toInt.toNat = 6 + 5 * a.toInt.toNat + 1 := by rw [i1]; omega
      have i0 : ((6 : Int32) + (5 : Int32) * a).toInt = 6 + 5 * a.toInt := i_g0 (by omega)
      have i0' : ((6 : Int32) + (5 : Int32) * a).toInt.toNat = 6 + 5 * a.toInt.toNat + 0 := by rw [i0]; omega
      have d1 : (b / 10).toInt = b.toInt / 10 := by rw [i_div c2.1 (by rw [t_10]; omega), t_10]
      have d2 : (b % 10).toInt = b.toInt % 10 := by rw [i_mod c2.1, t_10]
      have hR := (h.1.glass h.2.1.2.2 hg (k := 0) (by decide) (by decide) (b / 10))
      have hW := (h.2.1.upd0 (j := 6 + 5 * a.toInt.toNat + 0) (w := b / 10) (by omega) (by rw [(bG 9999 hg).1.1, (bG 9999 hg).1.2, d1]; omega) (by omega) (fun g hg => by omega))
      have hR2 := hR.glass hW.2.2 hg (k := 1) (by decide) (by decide) (b % 10)
      have hW2 := hW.upd0 (j := 6 + 5 * a.toInt.toNat + 1) (w := b % 10) (by omega) (by rw [(bG 9999 hg).2.1.1, (bG 9999 hg).2.1.2, d2]; omega) (by omega) (fun g hg => by omega)
      refine ⟨σ 104 (6 + 5 * a.toInt.toNat + 0), zu (zu σ (2 + 7 + a.toInt.toNat) 0 (b / 10)) (2 + 7 + a.toInt.toNat) 1 (b % 10), zu (zu (zu (zu σ (2 + 7 + a.toInt.toNat) 0 (b / 10)) (2 + 7 + a.toInt.toNat) 1 (b % 10)) 104 (6 + 5 * a.toInt.toNat + 1) (b % 10)) 104 (6 + 5 * a.toInt.toNat + 0) (b / 10), ?_, ?_, h.fin hR2 hW2 ?_ ?_ ?_⟩
      · rw [f8_become, h.gl8, zbd_some, if_pos c1, if_neg (by omega), s8_isNoKm, zbd_some, if_pos c2, if_pos rfl, if_pos (sh_g hg), zput_eq, zput_eq, h.1.2.1 _ hg 0 (by decide)]
      · rw [f9_become, h.ig9 (by rw [zu_o (by omega), zu_o (by omega)]), zbd_some, if_pos c1, if_neg (by decide), s9_isKm, zbd_some, if_pos c2, if_neg (by decide), if_pos (by rw [zin, i1]; omega), zput_eq, s9_becomes (by rw [i0]; omega), zbd_some, i_cl, i1', i0', zu_k (by omega), zu_o (by omega), zu_o (by omega)]
      · rw [zu_self, zu_self, zu_o (by omega), zu_o (by omega), upd_comm (by omega)]
      · intro o ho; unfold pR at ho; rw [zu_o (by omega), zu_o (by omega)]
      · intro o ho; rw [zu_o ho, zu_o ho]
    · refine opk_e1 h ?_ fun s hs => ?_
      · rw [f8_become, h.gl8, zbd_some, if_pos c1, if_neg (by omega), s8_isNoKm, zbd_some, if_neg c2, if_neg (by decide), e8_1]; rfl
      · rw [f9_become, h.ig9 (hs _ (by decide)), zbd_some, if_pos c1, if_neg (by decide), s9_isKm, zbd_some, if_neg c2, if_pos rfl, e9_1]; rfl
  · refine opk_e1 h ?_ fun s hs => ?_
    · rw [f8_become, h.gl8, zbd_some, if_neg c1, if_pos rfl, e8_1]; rfl
    · rw [f9_become, h.ig9 (hs _ (by decide)), zbd_some, if_neg c1, if_pos rfl, e9_1]; rfl
theorem op_stand (h : Rel m σ) (a b c : Int32) : opk m (f8_stand k a b c) (f9_stand k a b c) σ := by
  have hn := h.2.1.1.np
  by_cases c1 : 0 ≤ a.toInt ∧ a.toInt < (σ 104 3).toInt
  · have hg : a.toInt.toNat < 6 := by omega
    by_cases c2 : 0 ≤ b.toInt ∧ b.toInt ≤ 63
    · by_cases c3 : 0 ≤ c.toInt ∧ c.toInt ≤ 3
      · have i1 : ((46 : Int32) + (3 : Int32) * a + (1 : Int32)).toInt = 46 + 3 * a.toInt + 1 := i_px (w := 1) (by omega) (by rw [t_1]; omega)
        have i1' : ((46 : Int32) + (3 : Int32) * a + (1 : Int32)).toInt.toNat = 46 + 3 * a.toInt.toNat + 1 := by rw [i1]; omega
        have i0 : ((46 : Int32) + (3 : Int32) * a).toInt = 46 + 3 * a.toInt := i_p0 (by omega)
        have i0' : ((46 : Int32) + (3 : Int32) * a).toInt.toNat = 46 + 3 * a.toInt.toNat + 0 := by rw [i0]; omega
        have hR := (h.1.person h.2.1.2.2 h.2.1.1.ng.2 hg (k := 0) (by decide) b)
        have hW := (h.2.1.upd0 (j := 46 + 3 * a.toInt.toNat + 0) (w := b) (by omega) (by rw [(bP 9999 hg).1.1, (bP 9999 hg).1.2]; omega) (by omega) (fun g hg => by omega))
        have hR2 := hR.person hW.2.2 hW.1.ng.2 hg (k := 1) (by decide) c
        have hW2 := hW.upd0 (j := 46 + 3 * a.toInt.toNat + 1) (w := c) (by omega) (by rw [(bP 9999 hg).2.1.1, (bP 9999 hg).2.1.2]; omega) (by omega) (fun g hg => by omega)
        refine ⟨(4 : Int32) * σ 104 (46 + 3 * a.toInt.toNat + 0) + σ 104 (46 + 3 * a.toInt.toNat + 1), zu (zu σ (2 + 15 + a.toInt.toNat) 0 b) (2 + 15 + a.toInt.toNat) 1 c, zu (zu (zu (zu σ (2 + 15 + a.toInt.toNat) 0 b) (2 + 15 + a.toInt.toNat) 1 c) 104 (46 + 3 * a.toInt.toNat + 0) b) 104 (46 + 3 * a.toInt.toNat + 1) c, ?_, ?_, h.fin hR2 hW2 ?_ ?_ ?_⟩
        · rw [f8_stand, h.pe8, zbd_some, if_pos c1, if_neg (by omega), s8_isNoCell, zbd_some, if_pos c2, if_pos rfl, s8_isNoWay, zbd_some, if_pos c3, if_pos rfl, if_pos (sh_p hg), zput_eq, zput_eq, h.1.2.2.1 _ hg 0 (by decide), h.1.2.2.1 _ hg 1 (by decide)]
        · rw [f9_stand, h.ip9 (by rw [zu_o (by omega), zu_o (by omega)]), zbd_some, if_pos c1, if_neg (by decide), s9_isCell, zbd_some, if_pos c2, if_neg (by decide), s9_isFour, zbd_some, if_pos c3, if_neg (by decide), f9_stands, s9_about (by omega) (by rw [t_0]; omega), zbd_some, s9_about (by omega) (by rw [t_1]; omega), zbd_some, if_pos (by rw [zin, i0]; omega), zput_eq, if_pos (by rw [zin, i1]; omega), zput_eq, zbd_some, i_cl, i0', i_cl, i1', t_0, t_1, zu_o (by omega), zu_o (by omega)]
          rfl
        · rw [zu_self, zu_self, zu_o (by omega), zu_o (by omega)]
        · intro o ho; unfold pR at ho; rw [zu_o (by omega), zu_o (by omega)]
        · intro o ho; rw [zu_o ho, zu_o ho]
      · refine opk_e1 h ?_ fun s hs => ?_
        · rw [f8_stand, h.pe8, zbd_some, if_pos c1, if_neg (by omega), s8_isNoCell, zbd_some, if_pos c2, if_pos rfl, s8_isNoWay, zbd_some, if_neg c3, if_neg (by decide), e8_1]; rfl
        · rw [f9_stand, h.ip9 (hs _ (by decide)), zbd_some, if_pos c1, if_neg (by decide), s9_isCell, zbd_some, if_pos c2, if_neg (by decide), s9_isFour, zbd_some, if_neg c3, if_pos rfl, e9_1]; rfl
    · refine opk_e1 h ?_ fun s hs => ?_
      · rw [f8_stand, h.pe8, zbd_some, if_pos c1, if_neg (by omega), s8_isNoCell, zbd_some, if_neg c2, if_neg (by decide), e8_1]; rfl
      · rw [f9_stand, h.ip9 (hs _ (by decide)), zbd_some, if_pos c1, if_neg (by decide), s9_isCell, zbd_some, if_neg c2, if_pos rfl, e9_1]; rfl
  · refine opk_e1 h ?_ fun s hs => ?_
    · rw [f8_stand, h.pe8, zbd_some, if_neg c1, if_pos rfl, e8_1]; rfl
    · rw [f9_stand, h.ip9 (hs _ (by decide)), zbd_some, if_neg c1, if_pos rfl, e9_1]; rfl
theorem op_pay (h : Rel m σ) (a b : Int32) : opk m (f8_pay k a b) (f9_pay k a b) σ := by
  have hn := h.2.1.1.np
  by_cases c1 : 0 ≤ a.toInt ∧ a.toInt < (σ 104 3).toInt
  · have hg : a.toInt.toNat < 6 := by omega
    have ho := (h.2.1.1.pe hg).2.2
    by_cases c2 : 0 ≤ b.toInt ∧ b.toInt ≤ 99999
    · have i1 : ((46 : Int32) + (3 : Int32) * a + (2 : Int32)).toInt = 46 + 3 * a.toInt + 2 := i_px (w := 2) (by omega) (by rw [t_2]; omega)
      have i1' : ((46 : Int32) + (3 : Int32) * a + (2 : Int32)).toInt.toNat = 46 + 3 * a.toInt.toNat + 2 := by rw [i1]; omega
      have hx : ∃ x : Int32, x = (if σ 104 (46 + 3 * a.toInt.toNat + 2) < b then σ 104 (46 + 3 * a.toInt.toNat + 2) else b) ∧ x.toInt = min (σ 104 (46 + 3 * a.toInt.toNat + 2)).toInt b.toInt := by
        by_cases c : σ 104 (46 + 3 * a.toInt.toNat + 2) < b
        · exact ⟨_, rfl, by rw [if_pos c]; (simp only [Int32.lt_iff_toInt_lt, Int32.le_iff_toInt_le, ← Int32.toInt_inj, t_m1000000006, t_m1000000005, t_m1000000004, t_m1000000003, t_m1000000002, t_m1000000001, t_m1000000000, t_m33, t_m10, t_m3, t_m2, t_m1, t_0, t_1, t_2, t_3, t_4, t_5, t_6, t_7, t_8, t_9, t_10, t_11, t_12, t_13, t_14, t_15, t_16, t_17, t_18, t_19, t_20, t_21, t_22, t_23, t_24, t_25, t_26, t_27, t_28, t_29, t_30, t_31, t_32, t_33, t_34, t_35, t_36, t_37, t_38, t_39, t_40, t_41, t_42, t_43, t_44, t_45, t_46, t_47, t_48, t_49, t_50, t_51, t_52, t_53, t_54, t_55, t_56, t_57, t_58, t_59, t_60, t_61, t_62, t_63, t_64, t_69, t_70, t_71, t_99, t_104, t_105, t_106, t_107, t_108, t_109, t_110, t_111, t_112, t_113, t_114, t_115, t_116, t_121, t_124, t_148, t_255, t_256, t_257, t_390, t_999, t_9999, t_12345, t_99999, t_1103515245] at *; omega)⟩
        · exact ⟨_, rfl, by rw [if_neg c]; (simp only [Int32.lt_iff_toInt_lt, Int32.le_iff_toInt_le, ← Int32.toInt_inj, t_m1000000006, t_m1000000005, t_m1000000004, t_m1000000003, t_m1000000002, t_m1000000001, t_m1000000000, t_m33, t_m10, t_m3, t_m2, t_m1, t_0, t_1, t_2, t_3, t_4, t_5, t_6, t_7, t_8, t_9, t_10, t_11, t_12, t_13, t_14, t_15, t_16, t_17, t_18, t_19, t_20, t_21, t_22, t_23, t_24, t_25, t_26, t_27, t_28, t_29, t_30, t_31, t_32, t_33, t_34, t_35, t_36, t_37, t_38, t_39, t_40, t_41, t_42, t_43, t_44, t_45, t_46, t_47, t_48, t_49, t_50, t_51, t_52, t_53, t_54, t_55, t_56, t_57, t_58, t_59, t_60, t_61, t_62, t_63, t_64, t_69, t_70, t_71, t_99, t_104, t_105, t_106, t_107, t_108, t_109, t_110, t_111, t_112, t_113, t_114, t_115, t_116, t_121, t_124, t_148, t_255, t_256, t_257, t_390, t_999, t_9999, t_12345, t_99999, t_1103515245] at *; omega)⟩
      obtain ⟨x, x1, x2⟩ := hx
      have x3 : (σ 104 (46 + 3 * a.toInt.toNat + 2) - x).toInt = (σ 104 (46 + 3 * a.toInt.toNat + 2)).toInt - x.toInt := i_sub (by omega)
      have e2 := h.1.2.2.1 _ hg 2 (by decide)
      refine ⟨x, zu σ (2 + 15 + a.toInt.toNat) 2 (σ 104 (46 + 3 * a.toInt.toNat + 2) - x), zu (zu σ (2 + 15 + a.toInt.toNat) 2 (σ 104 (46 + 3 * a.toInt.toNat + 2) - x)) 104 (46 + 3 * a.toInt.toNat + 2) (σ 104 (46 + 3 * a.toInt.toNat + 2) - x), ?_, ?_, h.two (by omega) (h.1.person h.2.1.2.2 h.2.1.1.ng.2 hg (by decide) _) (h.2.1.upd0 (by omega) ?_ (by omega) (fun g hg => by omega))⟩
      · rw [f8_pay, h.pe8, zbd_some, if_pos c1, if_neg (by omega), if_neg (by (simp only [Int32.lt_iff_toInt_lt, Int32.le_iff_toInt_le, ← Int32.toInt_inj, t_m1000000006, t_m1000000005, t_m1000000004, t_m1000000003, t_m1000000002, t_m1000000001, t_m1000000000, t_m33, t_m10, t_m3, t_m2, t_m1, t_0, t_1, t_2, t_3, t_4, t_5, t_6, t_7, t_8, t_9, t_10, t_11, t_12, t_13, t_14, t_15, t_16, t_17, t_18, t_19, t_20, t_21, t_22, t_23, t_24, t_25, t_26, t_27, t_28, t_29, t_30, t_31, t_32, t_33, t_34, t_35, t_36, t_37, t_38, t_39, t_40, t_41, t_42, t_43, t_44, t_45, t_46, t_47, t_48, t_49, t_50, t_51, t_52, t_53, t_54, t_55, t_56, t_57, t_58, t_59, t_60, t_61, t_62, t_63, t_64, t_69, t_70, t_71, t_99, t_104, t_105, t_106, t_107, t_108, t_109, t_110, t_111, t_112, t_113, t_114, t_115, t_116, t_121, t_124, t_148, t_255, t_256, t_257, t_390, t_999, t_9999, t_12345, t_99999, t_1103515245] at *; omega)), if_pos (by (simp only [Int32.lt_iff_toInt_lt, Int32.le_iff_toInt_le, ← Int32.toInt_inj, t_m1000000006, t_m1000000005, t_m1000000004, t_m1000000003, t_m1000000002, t_m1000000001, t_m1000000000, t_m33, t_m10, t_m3, t_m2, t_m1, t_0, t_1, t_2, t_3, t_4, t_5, t_6, t_7, t_8, t_9, t_10, t_11, t_12, t_13, t_14, t_15, t_16, t_17, t_18, t_19, t_20, t_21, t_22, t_23, t_24, t_25, t_26, t_27, t_28, t_29, t_30, t_31, t_32, t_33, t_34, t_35, t_36, t_37, t_38, t_39, t_40, t_41, t_42, t_43, t_44, t_45, t_46, t_47, t_48, t_49, t_50, t_51, t_52, t_53, t_54, t_55, t_56, t_57, t_58, t_59, t_60, t_61, t_62, t_63, t_64, t_69, t_70, t_71, t_99, t_104, t_105, t_106, t_107, t_108, t_109, t_110, t_111, t_112, t_113, t_114, t_115, t_116, t_121, t_124, t_148, t_255, t_256, t_257, t_390, t_999, t_9999, t_12345, t_99999, t_1103515245] at *; omega)), if_pos (sh_p hg), zput_eq, e2, ← x1]
      · have e104 : zu σ (2 + 15 + a.toInt.toNat) 2 (σ 104 (46 + 3 * a.toInt.toNat + 2) - x) 104 = σ 104 := zu_o (by omega)
        obtain ⟨y, y1, y2⟩ := s9_held (k := k) (a := b) (b := 0) (c := σ 104 (46 + 3 * a.toInt.toNat + 2)) (σ := zu σ (2 + 15 + a.toInt.toNat) 2 (σ 104 (46 + 3 * a.toInt.toNat + 2) - x)) (by rw [t_0]; omega)
        have hxy : y = x := i_eq (by rw [t_0] at y2; omega)
        rw [hxy] at y1
        rw [f9_pay, h.ip9 e104, zbd_some, if_pos c1, if_neg (by decide), s9_in, zbd_some, t_0, t_99999, if_pos c2, if_neg (by decide), s9_about (by omega) (by rw [t_2]; omega), zbd_some, e104, t_2]
        show zbd (f9_held k b 0 (σ 104 (46 + 3 * a.toInt.toNat + 2)) _) _ = _
        rw [y1, zbd_some, if_pos (by rw [zin, i1]; omega), if_pos (by rw [zin, i1]; omega), zput_eq, i_cl, i1', e104]
      · rw [(bP 9999 hg).2.2.1, (bP 9999 hg).2.2.2, x3]; omega
    · refine opk_e1 h ?_ fun s hs => ?_
      · rw [f8_pay, h.pe8, zbd_some, if_pos c1, if_neg (by omega)]
        by_cases c3 : b < 0
        · rw [if_pos c3, e8_1]; rfl
        · rw [if_neg c3, if_neg (by (simp only [Int32.lt_iff_toInt_lt, Int32.le_iff_toInt_le, ← Int32.toInt_inj, t_m1000000006, t_m1000000005, t_m1000000004, t_m1000000003, t_m1000000002, t_m1000000001, t_m1000000000, t_m33, t_m10, t_m3, t_m2, t_m1, t_0, t_1, t_2, t_3, t_4, t_5, t_6, t_7, t_8, t_9, t_10, t_11, t_12, t_13, t_14, t_15, t_16, t_17, t_18, t_19, t_20, t_21, t_22, t_23, t_24, t_25, t_26, t_27, t_28, t_29, t_30, t_31, t_32, t_33, t_34, t_35, t_36, t_37, t_38, t_39, t_40, t_41, t_42, t_43, t_44, t_45, t_46, t_47, t_48, t_49, t_50, t_51, t_52, t_53, t_54, t_55, t_56, t_57, t_58, t_59, t_60, t_61, t_62, t_63, t_64, t_69, t_70, t_71, t_99, t_104, t_105, t_106, t_107, t_108, t_109, t_110, t_111, t_112, t_113, t_114, t_115, t_116, t_121, t_124, t_148, t_255, t_256, t_257, t_390, t_999, t_9999, t_12345, t_99999, t_1103515245] at *; omega)), e8_1]; rfl
      · rw [f9_pay, h.ip9 (hs _ (by decide)), zbd_some, if_pos c1, if_neg (by decide), s9_in, zbd_some, t_0, t_99999, if_neg c2, if_pos rfl, e9_1]; rfl
  · refine opk_e1 h ?_ fun s hs => ?_
    · rw [f8_pay, h.pe8, zbd_some, if_neg c1, if_pos rfl, e8_1]; rfl
    · rw [f9_pay, h.ip9 (hs _ (by decide)), zbd_some, if_neg c1, if_pos rfl, e9_1]; rfl
end
