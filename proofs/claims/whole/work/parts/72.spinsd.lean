/-! spins -/
/-- places that a call must leave as they are, or change alike -/
def pQ (o : Nat) : Prop := o ≤ 55 ∨ (90 ≤ o ∧ o ≤ 92) ∨ (94 ≤ o ∧ o ≤ 102) ∨ o = 104 ∨ o = 105 ∨ (107 ≤ o ∧ o ≤ 110) ∨ o = 118
section
variable {m k : Nat} {σ : ZS}
theorem opk_c {F8 F9 : ZS → Option (Int32 × ZS)} (h : Rel m σ) {r : Int32} {σ1 : ZS} (h8 : F8 σ = some (r, σ1)) (e1 : ∀ o, pQ o → σ1 o = σ o) (e3 : σ1 103 = σ 103) (h9 : ∀ s : ZS, (∀ o, pQ o → s o = σ o) → s 103 = σ 103 → ∃ s3, F9 s = some (r, s3) ∧ (∀ o, pQ o → s3 o = s o) ∧ s3 103 3 = s 103 3 ∧ s3 103 25 = s 103 25) : opk m F8 F9 σ := by
  obtain ⟨s3, q1, q2, q3, q4⟩ := h9 σ1 e1 e3
  exact ⟨r, σ1, s3, h8, q1, h.congr (by omega) (fun o ho => by rw [q2 o ho, e1 o ho]) (by rw [q3, e3]) (by rw [q4, e3])⟩
theorem opk_c2 {F8 F9 : ZS → Option (Int32 × ZS)} (h : Rel m σ) {σ1 : ZS} (h8 : F8 σ = some ((-1000000002 : Int32), zu σ1 94 2 (σ1 94 2 + 1))) (e1 : ∀ o, pQ o → σ1 o = σ o) (e3 : σ1 103 = σ 103) (h9 : ∀ s : ZS, (∀ o, pQ o → o ≠ 94 → s o = σ o) → s 103 = σ 103 → ∃ s3, F9 s = some ((-1000000002 : Int32), zu s3 107 2 (s3 107 2 + 1)) ∧ (∀ o, pQ o → s3 o = s o) ∧ s3 103 3 = s 103 3 ∧ s3 103 25 = s 103 25) : opk m F8 F9 σ := by
  have h94 : σ1 94 = σ 94 := e1 94 (by unfold pQ; decide)
  obtain ⟨s3, q1, q2, q3, q4⟩ := h9 (zu σ1 94 2 (σ1 94 2 + 1)) (fun o h1 h2 => by rw [zu_o h2]; exact e1 o h1) (by rw [zu_o (by decide)]; exact e3)
  refine ⟨-1000000002, zu σ1 94 2 (σ1 94 2 + 1), zu s3 107 2 (s3 107 2 + 1), h8, q1, (h.err (e := 2) (by decide)).congr (Nat.le_refl _) (fun o ho => ?_) ?_ ?_⟩
  · by_cases ho7 : o = 107
    · subst ho7
      rw [zu_self, zu_self, q2 107 (by unfold pQ; decide), zu_o (by decide), e1 107 (by unfold pQ; decide), zu_o (by decide)]
    · rw [zu_o ho7, zu_o ho7, q2 o ho]
      by_cases ho4 : o = 94
      · subst ho4
        rw [zu_self, zu_self, h94]
      · rw [zu_o ho4, zu_o ho4, e1 o ho]
  · rw [zu_o (by decide), zu_o (by decide), q3, zu_o (by decide), zu_o (by decide), e3]
  · rw [zu_o (by decide), zu_o (by decide), q4, zu_o (by decide), zu_o (by decide), e3]
def W5 (x : Int32) : Prop := x = -1 ∨ x = 0 ∨ x = 1 ∨ x = 2 ∨ x = 3
theorem W5.of {x : Int32} (h : -1 ≤ x.toInt ∧ x.toInt ≤ 3) : W5 x := by
  have : x.toInt = -1 ∨ x.toInt = 0 ∨ x.toInt = 1 ∨ x.toInt = 2 ∨ x.toInt = 3 := by omega
  rcases this with c | c | c | c | c
  · exact Or.inl (i_eq (by rw [c]; rfl))
  · exact Or.inr (Or.inl (i_eq (by rw [c]; rfl)))
  · exact Or.inr (Or.inr (Or.inl (i_eq (by rw [c]; rfl))))
  · exact Or.inr (Or.inr (Or.inr (Or.inl (i_eq (by rw [c]; rfl)))))
  · exact Or.inr (Or.inr (Or.inr (Or.inr (i_eq (by rw [c]; rfl)))))
def an (n : Nat) (l : List Int32) (x : Int32) : Int32 := if 0 ≤ x then (if nI (2 * n) ≤ x then -1 else l.getD x.toInt.toNat 0) else nI n
theorem an9 {n : Nat} (hn : n ≤ 2) {l : List Int32} {x : Int32} (hx : W5 x) {S : Nat → Int32} (h : spn S n l) (s : ZS) : (if 0 ≤ x then (if x < (2 : Int32) * nI n then (if zin (((2 : Int32) * ((nI n - (1 : Int32)) - (x / (2 : Int32)))) + (x % (2 : Int32))) 4 then some (S (((2 : Int32) * ((nI n - (1 : Int32)) - (x / (2 : Int32)))) + (x % (2 : Int32))).toNatClampNeg, s) else none) else some ((-1 : Int32), s)) else some (nI n, s)) = some (an n l x, s) := by
  match n, hn, h with
  | 0, _, h =>
    subst h
    rcases hx with rfl | rfl | rfl | rfl | rfl
    all_goals rfl
  | 1, _, ⟨a, b, t, h1, h2, h3, h4⟩ =>
    have h4' : t = [] := h4
    subst h4' h2 h3 h1
    rcases hx with rfl | rfl | rfl | rfl | rfl
    all_goals rfl
  | 2, _, ⟨a, b, t, h1, h2, h3, c, d, u, g1, g2, g3, g4⟩ =>
    have g4' : u = [] := g4
    subst g4' g2 g3 g1 h2 h3 h1
    rcases hx with rfl | rfl | rfl | rfl | rfl
    all_goals rfl
  | n + 3, hn, _ => exact absurd hn (by omega)
theorem few9 (hk : 300 ≤ k) {p : Nat} (hp : p < 6) {x w : Int32} (hw : W5 w) {hb : Int} {R : Nat → Int32} (hW : WF hb R) {s : ZS} (hR : s 104 = R) : ∃ s', (∀ o, pK o → o ≠ 117 → s' o = s o) ∧ (∀ i, pKm i → s' 103 i = s 103 i) ∧ ((few p x R = none ∧ f9_spins_34 k k (nI p) x w 0 s = some (-1000000002, zu s' 107 2 (s' 107 2 + 1))) ∨ ∃ n l, few p x R = some (n, l) ∧ f9_spins_34 k k (nI p) x w 0 s = some (an n l w, s')) := by
  have stp : ∀ (n q : Nat) (z : ZS), n ≤ 2 → z 104 = R → ∃ r z', A9 R n (css (sew p x) n R 0) r z z' ∧ (r = 0 → f9_spins_34 k (q + 1) (nI p) x w (nI n) z = f9_spins_34 k q (nI p) x w (nI (n + 1)) z') ∧ ∀ l, spn (z' 117) n l → r = 1 → f9_spins_34 k (q + 1) (nI p) x w (nI n) z = some (an n l w, z') := by
    intro n q z hn hz
    obtain ⟨r, z', e1, e2⟩ := cs9 hk hp (x := x) n 6 0 R z hn (by omega) hz hW (Nat.zero_le _)
    have e1' : f9_canSeex k (nI p) x (nI n) 0 z = some (r, z') := e1
    have hb : ∀ y, f9_spins_34 k (q + 1) (nI p) x w (nI n) z = y ↔ b9_spins_34 k (f9_spins_34 k q) (nI p) x w (nI n) z = y := fun y => Iff.rfl
    refine ⟨r, z', e2, fun hr => ?_, fun l hl hr => ?_⟩
    · rw [hb, b9_spins_34, if_neg (by rw [Int32.lt_iff_toInt_lt, nI_toInt (by omega), t_2]; omega), e1', zbd_some, if_pos hr, nI_1]
    · rw [hb, b9_spins_34, if_neg (by rw [Int32.lt_iff_toInt_lt, nI_toInt (by omega), t_2]; omega), e1', zbd_some, hr, if_neg (show ¬ (1 : Int32) = 0 by decide)]
      exact an9 hn hw hl z'
  obtain ⟨k, rfl⟩ : ∃ q, k = q + 4 := ⟨k - 4, by omega⟩
  obtain ⟨r0, s0, ⟨a1, a2, a3, a4⟩, a5, a6⟩ := stp 0 (k + 3) s (by omega) hR
  have f0 : ∀ o, pK o → o ≠ 117 → s0 o = s o := fun o h1 h2 => by
    by_cases h4 : o = 104
    · subst h4; rw [a1, hR]
    · exact a2 o h1 h4 h2
  rcases a4 with ⟨a7, a8⟩ | ⟨a7, l, a8, a9⟩
  · obtain ⟨r1, s1, ⟨b1, b2, b3, b4⟩, b5, b6⟩ := stp 1 (k + 2) s0 (by omega) a1
    have f1 : ∀ o, pK o → o ≠ 117 → s1 o = s o := fun o h1 h2 => by
      by_cases h4 : o = 104
      · subst h4; rw [b1, hR]
      · rw [b2 o h1 h4 h2, f0 o h1 h2]
    have m1 : ∀ i, pKm i → s1 103 i = s 103 i := fun i hi => by rw [b3 i hi, a3 i hi]
    rcases b4 with ⟨b7, b8⟩ | ⟨b7, l, b8, b9⟩
    · obtain ⟨r2, s2, ⟨c1, c2, c3, c4⟩, c5, c6⟩ := stp 2 (k + 1) s1 (by omega) b1
      have f2 : ∀ o, pK o → o ≠ 117 → s2 o = s o := fun o h1 h2 => by
        by_cases h4 : o = 104
        · subst h4; rw [c1, hR]
        · rw [c2 o h1 h4 h2, f1 o h1 h2]
      have m2 : ∀ i, pKm i → s2 103 i = s 103 i := fun i hi => by rw [c3 i hi, m1 i hi]
      rcases c4 with ⟨c7, c8⟩ | ⟨c7, l, c8, c9⟩
      · refine ⟨s2, f2, m2, Or.inl ⟨by rw [few, a7, b7, c7], ?_⟩⟩
        refine (a5 a8).trans ((b5 b8).trans ((c5 c8).trans ?_))
        show b9_spins_34 (k + 4) _ (nI p) x w (nI 3) s2 = _
        rw [b9_spins_34, if_pos (by decide), e9_2]; rfl
      · exact ⟨s2, f2, m2, Or.inr ⟨2, l, by rw [few, a7, b7, c8], (a5 a8).trans ((b5 b8).trans (c6 l c9 c7))⟩⟩
    · exact ⟨s1, f1, m1, Or.inr ⟨1, l, by rw [few, a7, b8], (a5 a8).trans (b6 l b9 b7)⟩⟩
  · exact ⟨s0, f0, a3, Or.inr ⟨0, l, by rw [few, a8], a6 l a9 a7⟩⟩
theorem op_spins (hk : 400 ≤ k) (h : Rel m σ) (a x w : Int32) : opk m (f8_spins k a x w) (f9_spins k a x w) σ := by
  have hn := h.2.1.1.np
  by_cases c1 : 0 ≤ a.toInt ∧ a.toInt < (σ 104 3).toInt
  · obtain ⟨p, hp, rfl⟩ : ∃ s : Nat, s < 6 ∧ a = nI s := ⟨a.toInt.toNat, by omega, i_nat c1.1⟩
    have hpx : (nI p).toInt = p := nI_toInt (by omega)
    have hpn : (p : Int).toNat = p := by omega
    by_cases c2 : 0 ≤ x.toInt ∧ x.toInt ≤ 63
    · by_cases c3 : -1 ≤ w.toInt ∧ w.toInt ≤ 3
      · obtain ⟨s9, e1, e2, e3⟩ := s5_copy (k := k) (t := 56) (u := 2) (by omega) (Or.inr (Or.inr rfl)) (Or.inl rfl) (by decide) h.2.1 h.1
        have hP : P8 p (σ 104) s9 := ⟨e2, by rw [e3 _ (by omega)]; exact h.1.2.2.1 p hp 0 (by decide), by rw [e3 _ (by omega)]; exact h.1.2.2.1 p hp 1 (by decide)⟩
        obtain ⟨r, s1, g1, g2, g3⟩ := few8 (k := k) (by omega) hp (x := x) h.2.1 hP
        have fr : ∀ o, pQ o → s1 o = σ o := fun o ho => by rw [g2 o (by unfold pQ at ho; unfold pC; omega), e3 o (by unfold pQ at ho; omega)]
        have f103 : s1 103 = σ 103 := by rw [g2 103 (by unfold pC; decide), e3 103 (by decide)]
        have r8 : ∀ y, (if 0 ≤ r then (if 0 ≤ w then (if (2 : Int32) * r ≤ w then some ((-1 : Int32), s1) else (if zin w 4 then some (s1 93 w.toNatClampNeg, s1) else none)) else some (r, s1)) else zbd (f8_error k 2 s1) fun r s => some (r, s)) = y → f8_spins k (nI p) x w σ = y := by
          intro y hy
          rw [← hy, f8_spins, h.pe8, zbd_some, if_pos c1, hpx, hpn, if_neg (by omega), s8_isNoCell, zbd_some, if_pos c2, if_pos rfl, if_neg (by rw [Int32.lt_iff_toInt_lt, t_m1]; omega), if_pos (by rw [Int32.le_iff_toInt_le, t_3]; omega), e1, zbd_some, g1, zbd_some]
        have r9 : ∀ z : ZS, z 104 = σ 104 → f9_spins k (nI p) x w z = f9_spins_34 k k (nI p) x w 0 z := by
          intro z hz
          rw [f9_spins, h.ip9 hz, zbd_some, if_pos c1, if_neg (by decide), s9_isCell, zbd_some, if_pos c2, if_neg (by decide), s9_in, zbd_some, t_m1, t_3, if_pos c3, if_neg (by decide)]
        have hW5 := W5.of c3
        have good : ∀ n l, few p x (σ 104) = some (n, l) → f8_spins k (nI p) x w σ = some (an n l w, s1) → opk m (f8_spins k (nI p) x w) (f9_spins k (nI p) x w) σ := by
          intro n l hf h8
          refine opk_c h h8 fr f103 fun z hz1 hz2 => ?_
          have h4 : z 104 = σ 104 := hz1 104 (by unfold pQ; decide)
          obtain ⟨z', q1, q2, q3⟩ := few9 (k := k) (by omega) hp (x := x) hW5 h.2.1 h4
          rcases q3 with ⟨q4, q5⟩ | ⟨n', l', q4, q5⟩
          · rw [hf] at q4; exact absurd q4 (by simp)
          · rw [hf] at q4
            obtain ⟨rfl, rfl⟩ : n = n' ∧ l = l' := by simpa using q4
            exact ⟨z', by rw [r9 z h4]; exact q5, fun o ho => q1 o (by unfold pQ at ho; unfold pK; omega) (by unfold pQ at ho; omega), q2 3 (by unfold pKm; decide), q2 25 (by unfold pKm; decide)⟩
        rcases g3 with ⟨g4, g5⟩ | ⟨g4, g5⟩ | ⟨g4, g5⟩ | ⟨g4, g5⟩
        · refine opk_c2 h (σ1 := s1) (r8 _ (by rw [g5, if_neg (by decide), e8_2]; rfl)) fr f103 fun z hz1 hz2 => ?_
          have h4 : z 104 = σ 104 := hz1 104 (by unfold pQ; decide) (by decide)
          obtain ⟨z', q1, q2, q3⟩ := few9 (k := k) (by omega) hp (x := x) hW5 h.2.1 h4
          rcases q3 with ⟨q4, q5⟩ | ⟨n', l', q4, q5⟩
          · exact ⟨z', by rw [r9 z h4]; exact q5, fun o ho => q1 o (by unfold pQ at ho; unfold pK; omega) (by unfold pQ at ho; omega), q2 3 (by unfold pKm; decide), q2 25 (by unfold pKm; decide)⟩
          · rw [g4] at q4; exact absurd q4 (by simp)
        · refine good 0 [] g4 (r8 _ ?_)
          rw [g5]
          rcases hW5 with rfl | rfl | rfl | rfl | rfl
          all_goals rfl
        · refine good 1 _ g4 (r8 _ ?_)
          rw [g5]
          rcases hW5 with rfl | rfl | rfl | rfl | rfl
          all_goals rfl
        · refine good 2 _ g4 (r8 _ ?_)
          rw [g5]
          rcases hW5 with rfl | rfl | rfl | rfl | rfl
          all_goals rfl
      · refine opk_e1 h ?_ fun s hs => ?_
        · rw [f8_spins, h.pe8, zbd_some, if_pos c1, if_neg (by omega), s8_isNoCell, zbd_some, if_pos c2, if_pos rfl]
          by_cases c4 : w < -1
          · rw [if_pos c4, e8_1]; rfl
          · rw [if_neg c4, if_neg (by rw [Int32.lt_iff_toInt_lt, t_m1] at c4; rw [Int32.le_iff_toInt_le, t_3]; omega), e8_1]; rfl
        · rw [f9_spins, h.ip9 (hs _ (by decide)), zbd_some, if_pos c1, if_neg (by decide), s9_isCell, zbd_some, if_pos c2, if_neg (by decide), s9_in, zbd_some, t_m1, t_3, if_neg c3, if_pos rfl, e9_1]; rfl
    · refine opk_e1 h ?_ fun s hs => ?_
      · rw [f8_spins, h.pe8, zbd_some, if_pos c1, if_neg (by omega), s8_isNoCell, zbd_some, if_neg c2, if_neg (by decide), e8_1]; rfl
      · rw [f9_spins, h.ip9 (hs _ (by decide)), zbd_some, if_pos c1, if_neg (by decide), s9_isCell, zbd_some, if_neg c2, if_pos rfl, e9_1]; rfl
  · refine opk_e1 h ?_ fun s hs => ?_
    · rw [f8_spins, h.pe8, zbd_some, if_neg c1, if_pos rfl, e8_1]; rfl
    · rw [f9_spins, h.ip9 (hs _ (by decide)), zbd_some, if_neg c1, if_pos rfl, e9_1]; rfl
end
