/-! two spins, the fewest, as the class has them -/
section
variable {k : Nat}
def A2 (p : Nat) (R : Nat → Int32) (o : Option (List Int32)) (r : Int32) (s s' : ZS) : Prop := (∀ o, pC o → s' o = s o) ∧ ((o = none ∧ r = 0 ∧ P8 p R s') ∨ (r = 1 ∧ o = some [s' 93 0, s' 93 1, s' 93 2, s' 93 3]))
theorem two8 (hk : 300 ≤ k) {p : Nat} (hp : p < 6) {x : Int32} {hb : Int} {R : Nat → Int32} (hW : WF hb R) : ∀ (d g n : Nat) (s : ZS), g + d = (R 2).toInt.toNat → d < n → P8 p R s → ∃ r s', f8_isSeenByTwoSpins_2 k n (2 + 15 + p) x (nI g) s = some (r, s') ∧ A2 p R (fg (fun g => ft (R (6 + 5 * g + 3)) (fun t => css (sew p x) 1 (upd R (6 + 5 * g + 3) (nI t)) (g + 1)) 4 0) d g) r s s' := by
  have hn := hW.1.ng
  have T56 : Tt 56 := Or.inr (Or.inr rfl)
  intro d
  induction d with
  | zero =>
    intro g n s hg hn hP
    obtain ⟨n, rfl⟩ : ∃ q, n = q + 1 := ⟨n - 1, by omega⟩
    refine ⟨0, s, ?_, fun _ _ => rfl, Or.inl ⟨rfl, rfl, hP⟩⟩
    show b8_isSeenByTwoSpins_2 k _ _ _ _ s = _
    rw [b8_isSeenByTwoSpins_2, hP.1.1.1, if_pos (by rw [Int32.le_iff_toInt_le, nI_toInt (by omega)]; omega)]
  | succ d ih =>
    intro g n s hg hn hP
    obtain ⟨n, rfl⟩ : ∃ q, n = q + 1 := ⟨n - 1, by omega⟩
    have hg8 : g < 8 := by omega
    have hgx : (nI g).toInt = g := nI_toInt (by omega)
    have hgn : (g : Int).toNat = g := by omega
    have key : ∀ (e t q : Nat) (s : ZS), t + e = 4 → e < q → P8 p R s → ∃ r s', f8_isSeenByTwoSpins_42 k (f8_isSeenByTwoSpins_2 k n) q (2 + 15 + p) x (nI g) (56 + 7 + g) (R (6 + 5 * g + 3)) (nI t) s = some (r, s') ∧ A2 p R (orp (ft (R (6 + 5 * g + 3)) (fun t => css (sew p x) 1 (upd R (6 + 5 * g + 3) (nI t)) (g + 1)) e t) (fg (fun g => ft (R (6 + 5 * g + 3)) (fun t => css (sew p x) 1 (upd R (6 + 5 * g + 3) (nI t)) (g + 1)) 4 0) d (g + 1)) (nI g)) r s s' := by
      intro e
      induction e with
      | zero =>
        intro t q s ht hq hP
        obtain ⟨q, rfl⟩ : ∃ w, q = w + 1 := ⟨q - 1, by omega⟩
        obtain ⟨r, s', f1, f2⟩ := ih (g + 1) n s (by omega) (by omega) hP
        refine ⟨r, s', ?_, f2⟩
        show b8_isSeenByTwoSpins_42 k _ _ _ _ _ _ _ _ s = _
        rw [b8_isSeenByTwoSpins_42, if_pos (by rw [Int32.le_iff_toInt_le, nI_toInt (by omega), t_4]; omega), nI_1]
        exact f1
      | succ e ihe =>
        intro t q s ht hq hP
        obtain ⟨q, rfl⟩ : ∃ w, q = w + 1 := ⟨q - 1, by omega⟩
        have sp := hP.spin (t := t) hW hp hg8
        have nx : ∀ z : ZS, (∀ o, pC o → z o = s o) → P8 p (upd R (6 + 5 * g + 3) (nI t)) z → ∃ r s', f8_isSeenByTwoSpins_42 k (f8_isSeenByTwoSpins_2 k n) q (2 + 15 + p) x (nI g) (56 + 7 + g) (R (6 + 5 * g + 3)) (nI t + 1) (zu z (56 + 7 + g) 3 (R (6 + 5 * g + 3))) = some (r, s') ∧ A2 p R (orp (ft (R (6 + 5 * g + 3)) (fun t => css (sew p x) 1 (upd R (6 + 5 * g + 3) (nI t)) (g + 1)) e (t + 1)) (fg (fun g => ft (R (6 + 5 * g + 3)) (fun t => css (sew p x) 1 (upd R (6 + 5 * g + 3) (nI t)) (g + 1)) 4 0) d (g + 1)) (nI g)) r s s' := by
          intro z hz hPz
          obtain ⟨r, s', f1, f2, f3⟩ := ihe (t + 1) q _ (by omega) (by omega) (hPz.back hW (by omega) hp hg8)
          exact ⟨r, s', by rw [nI_1]; exact f1, fun o ho => by rw [f2 o ho, zu_o (by unfold pC at ho; omega), hz o ho], f3⟩
        show ∃ r s', b8_isSeenByTwoSpins_42 k _ (f8_isSeenByTwoSpins_42 k (f8_isSeenByTwoSpins_2 k n) q) _ _ _ _ _ _ s = _ ∧ _
        rw [b8_isSeenByTwoSpins_42, if_neg (by rw [Int32.le_iff_toInt_le, nI_toInt (by omega), t_4]; omega), if_neg (by omega), if_pos (T56.s1 hg8), zput_eq]
        by_cases c : nI t = R (6 + 5 * g + 3)
        · obtain ⟨r, s', f1, f2⟩ := nx _ (fun o ho => zu_o (by unfold pC at ho; omega)) sp
          refine ⟨r, s', by rw [if_pos c, zput_eq]; exact f1, ?_⟩
          rw [ft, if_pos c]
          exact f2
        · have hW' := hW.spin (t := t) hg8 (by omega)
          have h2' : upd R (6 + 5 * g + 3) (nI t) 2 = R 2 := upd_ne (by omega)
          obtain ⟨r7, s7, g1, g2, g3⟩ := one8 hk hp (x := x) (a := 2) (by decide) hW' ((R 2).toInt.toNat - (g + 1)) (g + 1) k _ (by rw [h2']; omega) (by omega) sp
          have hs7 : ∀ o, pC o → s7 o = s o := fun o ho => by rw [g2 o ho, zu_o (by unfold pC at ho; omega)]
          rw [if_neg c, f8_isSeenByOneSpin, nI_1]
          rw [show (nI 2 : Int32) = 2 from rfl] at g1
          rw [g1, zbd_some, ft, if_neg c, css, h2']
          rcases g3 with ⟨g4, g5, g6⟩ | ⟨g4, g5⟩
          · obtain ⟨r, s', f1, f2⟩ := nx s7 hs7 g6
            refine ⟨r, s', by rw [if_pos g5, zput_eq]; exact f1, ?_⟩
            rw [g4]
            exact f2
          · refine ⟨1, zu (zu s7 93 0 (nI g)) 93 1 (nI t), by rw [g4, if_neg (by decide), zput_eq, zput_eq], fun o ho => by rw [zu_o ho.2, zu_o ho.2, hs7 o ho], Or.inr ⟨rfl, ?_⟩⟩
            rw [g5, zu_k (show (0 : Nat) ≠ 1 by decide), zu_at, zu_at, zu_k (show (2 : Nat) ≠ 1 by decide), zu_k (show (2 : Nat) ≠ 0 by decide), zu_k (show (3 : Nat) ≠ 1 by decide), zu_k (show (3 : Nat) ≠ 0 by decide)]
            rfl
    obtain ⟨r, s', f1, f2⟩ := key 4 0 k s rfl (by omega) hP
    refine ⟨r, s', ?_, f2⟩
    show b8_isSeenByTwoSpins_2 k _ _ _ _ s = _
    rw [b8_isSeenByTwoSpins_2, hP.1.1.1, if_neg (by rw [Int32.le_iff_toInt_le, hgx]; omega), s5_glassOf' T56 hP.1 hW.1, zbd_some, hgx, if_pos (show (0 : Int) ≤ g ∧ (g : Int) < (R 2).toInt by omega), hgn, if_neg (by omega), if_pos (T56.s1 hg8), hP.1.2.1 g hg8 3 (by decide)]
    exact f1
/-- how many spins, and which -/
def few (p : Nat) (x : Int32) (R : Nat → Int32) : Option (Nat × List Int32) := match css (sew p x) 0 R 0 with
  | some l => some (0, l)
  | none => match css (sew p x) 1 R 0 with
    | some l => some (1, l)
    | none => match css (sew p x) 2 R 0 with
      | some l => some (2, l)
      | none => none
theorem few8 (hk : 300 ≤ k) {p : Nat} (hp : p < 6) {x : Int32} {hb : Int} {R : Nat → Int32} (hW : WF hb R) {s : ZS} (hP : P8 p R s) : ∃ r s', f8_fewestSpins k (2 + 15 + p) x s = some (r, s') ∧ (∀ o, pC o → s' o = s o) ∧ ((few p x R = none ∧ r = -1) ∨ (few p x R = some (0, []) ∧ r = 0) ∨ (few p x R = some (1, [s' 93 0, s' 93 1]) ∧ r = 1) ∨ (few p x R = some (2, [s' 93 0, s' 93 1, s' 93 2, s' 93 3]) ∧ r = 2)) := by
  have hn := hW.1.ng
  obtain ⟨s2, M, b, g1, g2, g3, g4⟩ := hP.fol hk hW hp
  rw [f8_fewestSpins, if_pos (sh_p hp), g1, zbd_some, s1_sees hk g4 (lkp_len _ _), zbd_some]
  by_cases c : seen (lkp p R) x = 0
  · have e0 : css (sew p x) 0 R 0 = none := by rw [css, sew, if_pos c]; rfl
    obtain ⟨r5, s5, f1, f2, f3⟩ := one8 hk hp (x := x) (a := 0) (by decide) hW (R 2).toInt.toNat 0 k s2 (by omega) (by omega) g2
    have hs5 : ∀ o, pC o → s5 o = s o := fun o ho => by rw [f2 o ho, g3 o ho]
    rw [if_pos c, f8_isSeenByOneSpin]
    rw [show (nI 0 : Int32) = 0 from rfl] at f1
    rw [f1, zbd_some]
    have e1 : css (sew p x) 1 R 0 = fg (fun g => ft (R (6 + 5 * g + 3)) (fun t => css (sew p x) 0 (upd R (6 + 5 * g + 3) (nI t)) (g + 1)) 4 0) (R 2).toInt.toNat 0 := by rw [css, Nat.sub_zero]
    rw [← e1] at f3
    rcases f3 with ⟨f4, f5, f6⟩ | ⟨f4, f5⟩
    · obtain ⟨r7, s7, h1, h2, h3⟩ := two8 hk hp (x := x) hW (R 2).toInt.toNat 0 k s5 (by omega) (by omega) f6
      have hs7 : ∀ o, pC o → s7 o = s o := fun o ho => by rw [h2 o ho, hs5 o ho]
      rw [if_pos f5, f8_isSeenByTwoSpins]
      rw [show (nI 0 : Int32) = 0 from rfl] at h1
      rw [h1, zbd_some]
      have e2 : css (sew p x) 2 R 0 = fg (fun g => ft (R (6 + 5 * g + 3)) (fun t => css (sew p x) 1 (upd R (6 + 5 * g + 3) (nI t)) (g + 1)) 4 0) (R 2).toInt.toNat 0 := by rw [css, Nat.sub_zero]
      rw [← e2] at h3
      rcases h3 with ⟨h4, h5, h6⟩ | ⟨h4, h5⟩
      · exact ⟨-1, s7, by rw [if_pos h5], hs7, Or.inl ⟨by rw [few, e0, f4, h4], rfl⟩⟩
      · exact ⟨2, s7, by rw [h4, if_neg (by decide)], hs7, Or.inr (Or.inr (Or.inr ⟨by rw [few, e0, f4, h5], rfl⟩))⟩
    · exact ⟨1, s5, by rw [f4, if_neg (by decide)], hs5, Or.inr (Or.inr (Or.inl ⟨by rw [few, e0, f5], rfl⟩))⟩
  · have e0 : css (sew p x) 0 R 0 = some [] := by rw [css, sew, if_neg c]; rfl
    exact ⟨0, s2, by rw [if_neg c], g3, Or.inr (Or.inl ⟨by rw [few, e0], rfl⟩)⟩
end
