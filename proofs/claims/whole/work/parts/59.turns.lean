/-! turns from a sheet -/
def tO (N : Nat → Int32) : Nat → Nat → (Nat → Int32) → Int32 × (Nat → Int32)
  | 0, i, R => (nI i, R)
  | d + 1, i, R => if 0 ≤ (N i).toInt ∧ (N i).toInt ≤ 3 then tO N d (i + 1) (upd R (6 + 5 * i + 3) (N i)) else (nI i, R)
section
variable {m k : Nat} {σ : ZS}
theorem WF.turn {hb : Int} {R : Nat → Int32} (h : WF hb R) {j : Nat} (hj : j < 8) {v : Int32} (hv : 0 ≤ v.toInt ∧ v.toInt ≤ 3) : WF hb (upd R (6 + 5 * j + 3) v) :=
  h.upd0 (by omega) (by rw [(bG hb hj).2.2.2.1.1, (bG hb hj).2.2.2.1.2]; exact hv) (by omega) (fun g hg => by omega)
theorem op_turnsOf (hk : 30 ≤ k) (h : Rel m σ) (x : Int32) : opk m (f8_turnsOf k x) (f9_turnsOf k x) σ := by
  have hn := h.2.1.1.ng
  have T2 : Tt 2 := Or.inl rfl
  by_cases c1 : 0 ≤ x.toInt ∧ x.toInt ≤ 3
  · obtain ⟨s, hs4, rfl⟩ : ∃ s : Nat, s < 4 ∧ x = nI s := ⟨x.toInt.toNat, by omega, i_nat c1.1⟩
    have hsx : (nI s).toInt = s := nI_toInt (by omega)
    have hsn : (s : Int).toNat = s := by omega
    have hz : zin (nI s) 4 := nI_z hs4 (by decide)
    obtain ⟨⟨b1, b2⟩, b3, b4, b5⟩ := h.2.2.2.2.1 s hs4
    have nt : ∀ z : ZS, z 108 = σ 108 → f9_notThere k (nI s) z = some (if σ 108 s = 0 then -1000000002 else 0, z) := by
      intro z hz2
      rw [f9_notThere, s9_isSheet, zbd_some, if_pos c1, if_neg (by decide), if_pos hz, nI_nat (by omega), hz2]
      by_cases c : σ 108 s = 0
      · rw [if_pos c, if_pos c]
      · rw [if_neg c, if_neg c]
    by_cases c2 : σ 108 s = 0
    · refine opk_e2 h ?_ fun z hs => ?_
      · rw [f8_turnsOf, s8_sheetOf, zbd_some, if_pos c1, hsx, hsn, if_neg (by omega), if_pos (sh_s hs4), b1, if_pos c2, e8_2]; rfl
      · rw [f9_turnsOf, nt z (hs 108 (by decide)), zbd_some, if_pos c2, if_neg (by decide), e9_2]; rfl
    · obtain ⟨B, hB⟩ : ∃ B : Nat, (B : Int) = min (σ 104 2).toInt (σ 109 s).toInt := ⟨(min (σ 104 2).toInt (σ 109 s).toInt).toNat, by omega⟩
      have hmin : (if σ 104 2 < σ 109 s then σ 104 2 else σ 109 s) = nI B := by
        refine i_eq ?_
        rw [nI_toInt (by omega), hB]
        by_cases c : σ 104 2 < σ 109 s
        · rw [if_pos c]; rw [Int32.lt_iff_toInt_lt] at c; omega
        · rw [if_neg c]; rw [Int32.lt_iff_toInt_lt] at c; omega
      have key8 : ∀ (d i n : Nat) (R : Nat → Int32) (z : ZS), i + d = B → d < n → WF 9999 R → R 2 = σ 104 2 → RS z 2 R → (∀ o, (o < 9 ∨ 17 ≤ o) → z o = σ o) → ∃ z', f8_turnsOf_47 k n (95 + 2 * s) (nI B) (nI i) z = some ((tO (σ (96 + 2 * s)) d i R).1, z') ∧ RS z' 2 (tO (σ (96 + 2 * s)) d i R).2 ∧ WF 9999 (tO (σ (96 + 2 * s)) d i R).2 ∧ (∀ o, (o < 9 ∨ 17 ≤ o) → z' o = σ o) := by
        intro d
        induction d with
        | zero =>
          intro i n R z hi hn hW hR2 hR hs
          obtain ⟨n, rfl⟩ : ∃ q, n = q + 1 := ⟨n - 1, by omega⟩
          have hiB : i = B := by omega
          subst hiB
          show ∃ z', b8_turnsOf_47 k _ (95 + 2 * s) (nI i) (nI i) z = _ ∧ _
          unfold b8_turnsOf_47
          rw [if_pos (by rw [Int32.le_iff_toInt_le]; omega)]
          exact ⟨z, rfl, hR, hW, hs⟩
        | succ d ih =>
          intro i n R z hi hn hW hR2 hR hs
          obtain ⟨n, rfl⟩ : ∃ q, n = q + 1 := ⟨n - 1, by omega⟩
          have hi8 : i < 8 := by omega
          have hix : (nI i).toInt = i := nI_toInt (by omega)
          show ∃ z', b8_turnsOf_47 k (f8_turnsOf_47 k n) (95 + 2 * s) (nI B) (nI i) z = _ ∧ _
          unfold b8_turnsOf_47
          rw [if_neg (by rw [Int32.le_iff_toInt_le, nI_toInt (by omega), nI_toInt (by omega)]; omega), s5_glassOf' T2 hR hW.1, zbd_some, if_pos (sh_s hs4), s4_num hs4 (by omega), zbd_some, hs (96 + 2 * s) (by omega), hix, hR2, if_pos (show (0 : Int) ≤ i ∧ (i : Int) < (σ 104 2).toInt by omega), show (i : Int).toNat = i by omega, if_neg (by omega), s8_isNoTurn, zbd_some, tO]
          by_cases c : 0 ≤ (σ (96 + 2 * s) i).toInt ∧ (σ (96 + 2 * s) i).toInt ≤ 3
          · rw [if_pos c, if_pos rfl, if_pos (sh_g hi8), zput_eq, nI_1, if_pos c]
            exact ih (i + 1) n _ _ (by omega) (by omega) (hW.turn hi8 c) (by rw [upd_ne (by omega)]; exact hR2) (hR.glass hW.2.2 hi8 (by decide) (by decide) _) (fun o ho => by rw [zu_o (by omega)]; exact hs o ho)
          · rw [if_neg c, if_neg (by decide), if_neg c]
            exact ⟨z, rfl, hR, hW, hs⟩
      have key9 : ∀ (d i n : Nat) (z : ZS), i + d = B → d < n → z 104 2 = σ 104 2 → (∀ o, (108 ≤ o ∧ o ≤ 110) → z o = σ o) → ∃ z', f9_turnsOf_18 k n (nI s) (nI i) z = some ((tO (σ (96 + 2 * s)) d i (z 104)).1, z') ∧ z' 104 = (tO (σ (96 + 2 * s)) d i (z 104)).2 ∧ (∀ o, o ≠ 104 → z' o = z o) := by
        intro d
        induction d with
        | zero =>
          intro i n z hi hn h2 hs
          obtain ⟨n, rfl⟩ : ∃ q, n = q + 1 := ⟨n - 1, by omega⟩
          have hiB : i = B := by omega
          subst hiB
          show ∃ z', b9_turnsOf_18 k _ (nI s) (nI i) z = _ ∧ _
          unfold b9_turnsOf_18
          rw [if_pos hz, nI_nat (n := s) (by omega), hs 109 (by omega), h2]
          by_cases q1 : σ 109 s ≤ nI i
          · rw [if_pos q1]; exact ⟨z, rfl, rfl, fun _ _ => rfl⟩
          · rw [if_neg q1, if_pos (by rw [Int32.le_iff_toInt_le, nI_toInt (by omega)] at *; omega)]; exact ⟨z, rfl, rfl, fun _ _ => rfl⟩
        | succ d ih =>
          intro i n z hi hn h2 hs
          obtain ⟨n, rfl⟩ : ∃ q, n = q + 1 := ⟨n - 1, by omega⟩
          have hi8 : i < 8 := by omega
          have hix : (nI i).toInt = i := nI_toInt (by omega)
          have g3 : ((6 : Int32) + (5 : Int32) * nI i + 3).toInt = 6 + 5 * i + 3 := by rw [i_gx (w := 3) (by omega) (by rw [t_3]; omega), hix, t_3]
          have k3 : ((6 : Int32) + (5 : Int32) * nI i + 3).toNatClampNeg = 6 + 5 * i + 3 := by rw [i_cl, g3]; omega
          have hz2 : zin (nI (24 * s + i)) 96 := nI_z (by omega) (by decide)
          show ∃ z', b9_turnsOf_18 k (f9_turnsOf_18 k n) (nI s) (nI i) z = _ ∧ _
          unfold b9_turnsOf_18
          rw [if_pos hz, nI_nat (n := s) (by omega), hs 109 (by omega), if_neg (by rw [Int32.le_iff_toInt_le, hix]; omega), h2, if_neg (by rw [Int32.le_iff_toInt_le, hix]; omega), i_sx hs4 (by omega), if_pos hz2, nI_nat (n := 24 * s + i) (by omega), hs 110 (by omega), ← b5 i (by omega), s9_isFour, zbd_some, tO]
          by_cases c : 0 ≤ (σ (96 + 2 * s) i).toInt ∧ (σ (96 + 2 * s) i).toInt ≤ 3
          · rw [if_pos c, if_neg (by decide), if_pos hz2, if_pos (by rw [zin, g3]; omega), zput_eq, k3, hs 110 (by omega), ← b5 i (by omega), nI_1, if_pos c]
            obtain ⟨z', e1, e2, e3⟩ := ih (i + 1) n (zu z 104 (6 + 5 * i + 3) (σ (96 + 2 * s) i)) (by omega) (by omega) (by rw [zu_k (by omega)]; exact h2) (fun o ho => by rw [zu_o (by omega)]; exact hs o ho)
            rw [zu_self] at e1 e2
            exact ⟨z', e1, e2, fun o ho => by rw [e3 o ho, zu_o ho]⟩
          · rw [if_neg c, if_pos rfl, if_neg c]
            exact ⟨z, rfl, rfl, fun _ _ => rfl⟩
      obtain ⟨σ1, e1, e2, e3, e4⟩ := key8 B 0 k (σ 104) σ (by omega) (by omega) h.2.1 rfl h.1 (fun _ _ => rfl)
      have e104 : σ1 104 = σ 104 := e4 104 (by omega)
      obtain ⟨σ2, g1, g2, g3⟩ := key9 B 0 k σ1 (by omega) (by omega) (by rw [e104]) (fun o ho => e4 o (by omega))
      rw [e104] at g1 g2
      refine ⟨(tO (σ (96 + 2 * s)) B 0 (σ 104)).1, σ1, σ2, ?_, ?_, h.fin e2 e3 g2 (fun o ho => by unfold pR at ho; exact e4 o (by omega)) (fun o ho => g3 o ho)⟩
      · rw [f8_turnsOf, s8_sheetOf, zbd_some, if_pos c1, hsx, hsn, if_neg (by omega), if_pos (sh_s hs4), b1, if_neg c2, h.1.1.1, b2, hmin]
        exact e1
      · rw [f9_turnsOf, nt σ1 (e4 108 (by omega)), zbd_some, if_neg c2, if_pos rfl]
        exact g1
  · refine opk_e1 h ?_ fun s hs => ?_
    · rw [f8_turnsOf, s8_sheetOf, zbd_some, if_neg c1, if_pos rfl, e8_1]; rfl
    · rw [f9_turnsOf, f9_notThere, s9_isSheet, zbd_some, if_neg c1, if_pos rfl, zbd_some, if_neg (by decide), e9_1]; rfl
end
