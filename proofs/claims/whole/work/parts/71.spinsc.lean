/-! the model's spins -/
def spn (S : Nat → Int32) : Nat → List Int32 → Prop
  | 0, l => l = []
  | n + 1, l => ∃ a b t, l = a :: b :: t ∧ S (2 * n) = a ∧ S (2 * n + 1) = b ∧ spn S n t
theorem spn_congr {S S' : Nat → Int32} : ∀ (n : Nat) (l : List Int32), (∀ i, i < 2 * n → S' i = S i) → spn S n l → spn S' n l
  | 0, _, _, h => h
  | n + 1, l, e, ⟨a, b, t, h1, h2, h3, h4⟩ => ⟨a, b, t, h1, by rw [e _ (by omega)]; exact h2, by rw [e _ (by omega)]; exact h3, spn_congr n t (fun i hi => e i (by omega)) h4⟩
section
variable {k : Nat}
theorem s9_doesSee (hk : 300 ≤ k) {p : Nat} (hp : p < 6) {x : Int32} {hb : Int} {s : ZS} (hW : WF hb (s 104)) : ∃ s', f9_doesSee k (nI p) x s = some (if sew p x (s 104) then 1 else 0, s') ∧ (∀ o, pK o → s' o = s o) ∧ (∀ i, pKm i → s' 103 i = s 103 i) := by
  obtain ⟨s', e1, e2, e3, e4⟩ := s9_looksOf (k := k) (p := p) (σ := s) hk hW.1 hW.2.2 hp
  refine ⟨s', ?_, e2, e3⟩
  rw [f9_doesSee, e1, zbd_some, s9_sees hk e4 (lkp_len _ _), zbd_some, sew]
  show (if zbo (seen (lkp p (s 104)) x) then some (seen (lkp p (s 104)) x, s') else none) = _
  rcases seen_bo (lkp p (s 104)) x with c | c
  · rw [c, if_pos (Or.inl rfl), if_pos rfl]; rfl
  · rw [c, if_pos (Or.inr rfl)]; rfl
/-- what the model answers to: can it be seen -/
def A9 (R : Nat → Int32) (n : Nat) (o : Option (List Int32)) (r : Int32) (s s' : ZS) : Prop := s' 104 = R ∧ (∀ o, pK o → o ≠ 104 → o ≠ 117 → s' o = s o) ∧ (∀ i, pKm i → s' 103 i = s 103 i) ∧ ((o = none ∧ r = 0) ∨ (r = 1 ∧ ∃ l, o = some l ∧ spn (s' 117) n l))
theorem n2 {n : Nat} (h : n < 2) : (2 : Int32) * nI (n + 1) - 2 = nI (2 * n) ∧ (2 : Int32) * nI (n + 1) - 1 = nI (2 * n + 1) := by
  match n, h with
  | 0, _ => exact ⟨rfl, rfl⟩
  | 1, _ => exact ⟨rfl, rfl⟩
  | n + 2, h => exact absurd h (by omega)
theorem cs9 (hk : 300 ≤ k) {p : Nat} (hp : p < 6) {x : Int32} {hb : Int} : ∀ (n D g : Nat) (R : Nat → Int32) (s : ZS), n ≤ 2 → n < D → s 104 = R → WF hb R → g ≤ (R 2).toInt.toNat → ∃ r s', fCS k D 0 [nI p, x, nI n, nI g] s = some (r, s') ∧ A9 R n (css (sew p x) n R g) r s s' := by
  intro n
  induction n with
  | zero =>
    intro D g R s hn hD hR hW hg
    obtain ⟨D, rfl⟩ : ∃ q, D = q + 1 := ⟨D - 1, by omega⟩
    subst hR
    obtain ⟨s', e1, e2, e3⟩ := s9_doesSee (x := x) hk hp hW
    refine ⟨if sew p x (s 104) then 1 else 0, s', ?_, e2 104 (by unfold pK; decide), fun o h1 h2 h3 => e2 o h1, e3, ?_⟩
    · show f9_canSee k (fCS k D) (nI p) x (nI 0) (nI g) s = _
      rw [f9_canSee, if_pos (show nI 0 = 0 from rfl), e1, zbd_some]
      cases sew p x (s 104) with
      | false => exact if_pos (Or.inl rfl)
      | true => exact if_pos (Or.inr rfl)
    · rw [css]
      cases sew p x (s 104) with
      | false => exact Or.inl ⟨rfl, rfl⟩
      | true => exact Or.inr ⟨rfl, [], rfl, rfl⟩
  | succ m ihm =>
    intro D g0 R s hm hD hR hW hg0
    obtain ⟨D, rfl⟩ : ∃ q, D = q + 1 := ⟨D - 1, by omega⟩
    have hn := hW.1.ng
    have hm1 : (nI (m + 1)).toInt = (m + 1 : Nat) := nI_toInt (by omega)
    have outer : ∀ (d g q : Nat) (s : ZS), g + d = (R 2).toInt.toNat → d < q → s 104 = R → ∃ r s', f9_canSee_15 k (fCS k D) q (nI p) x (nI (m + 1)) (nI g) s = some (r, s') ∧ A9 R (m + 1) (fg (fun g => ft (R (6 + 5 * g + 3)) (fun t => css (sew p x) m (upd R (6 + 5 * g + 3) (nI t)) (g + 1)) 4 0) d g) r s s' := by
      intro d
      induction d with
      | zero =>
        intro g q s hg hq hR
        obtain ⟨q, rfl⟩ : ∃ w, q = w + 1 := ⟨q - 1, by omega⟩
        refine ⟨0, s, ?_, hR, fun _ _ _ _ => rfl, fun _ _ => rfl, Or.inl ⟨rfl, rfl⟩⟩
        show b9_canSee_15 k _ _ _ _ _ _ s = _
        rw [b9_canSee_15, hR, if_pos (by rw [Int32.le_iff_toInt_le, nI_toInt (by omega)]; omega)]
      | succ d ih =>
        intro g q s hg hq hR
        obtain ⟨q, rfl⟩ : ∃ w, q = w + 1 := ⟨q - 1, by omega⟩
        have hg8 : g < 8 := by omega
        have hgx : (nI g).toInt = g := nI_toInt (by omega)
        have i3 : ((6 : Int32) + (5 : Int32) * nI g + (3 : Int32)).toInt = 6 + 5 * (g : Int) + 3 := by rw [i_gx (by omega) (by rw [t_3]; omega), hgx, t_3]
        have hz : zin ((6 : Int32) + (5 : Int32) * nI g + (3 : Int32)) 390 := by rw [zin, i3]; omega
        have hzn : ((6 : Int32) + (5 : Int32) * nI g + (3 : Int32)).toNatClampNeg = 6 + 5 * g + 3 := by rw [i_cl, i3]; omega
        have key : ∀ (e t w : Nat) (s : ZS), t + e = 4 → e < w → s 104 = R → ∃ r s', f9_canSee_38 k (fCS k D) (f9_canSee_15 k (fCS k D) q) w (nI p) x (nI (m + 1)) (nI g) (R (6 + 5 * g + 3)) (nI t) s = some (r, s') ∧ A9 R (m + 1) (orp (ft (R (6 + 5 * g + 3)) (fun t => css (sew p x) m (upd R (6 + 5 * g + 3) (nI t)) (g + 1)) e t) (fg (fun g => ft (R (6 + 5 * g + 3)) (fun t => css (sew p x) m (upd R (6 + 5 * g + 3) (nI t)) (g + 1)) 4 0) d (g + 1)) (nI g)) r s s' := by
          intro e
          induction e with
          | zero =>
            intro t w s ht hw hR
            obtain ⟨w, rfl⟩ : ∃ z, w = z + 1 := ⟨w - 1, by omega⟩
            obtain ⟨r, s', f1, f2⟩ := ih (g + 1) q s (by omega) (by omega) hR
            refine ⟨r, s', ?_, f2⟩
            show b9_canSee_38 k _ _ _ _ _ _ _ _ _ s = _
            rw [b9_canSee_38, if_pos (by rw [Int32.le_iff_toInt_le, nI_toInt (by omega), t_4]; omega), nI_1]
            exact f1
          | succ e ihe =>
            intro t w s ht hw hR
            obtain ⟨w, rfl⟩ : ∃ z, w = z + 1 := ⟨w - 1, by omega⟩
            have hW' := hW.spin (t := t) hg8 (by omega)
            have h2' : upd R (6 + 5 * g + 3) (nI t) 2 = R 2 := upd_ne (by omega)
            have sp : zu s 104 (6 + 5 * g + 3) (nI t) 104 = upd R (6 + 5 * g + 3) (nI t) := by rw [zu_self, hR]
            have bk : ∀ z : ZS, z 104 = upd R (6 + 5 * g + 3) (nI t) → zu z 104 (6 + 5 * g + 3) (R (6 + 5 * g + 3)) 104 = R := fun z hz => by rw [zu_self, hz, upd_back rfl]
            have nx : ∀ z : ZS, z 104 = upd R (6 + 5 * g + 3) (nI t) → (∀ o, pK o → o ≠ 104 → o ≠ 117 → z o = s o) → (∀ i, pKm i → z 103 i = s 103 i) → ∃ r s', b9_canSee_88 k (fCS k D) (f9_canSee_15 k (fCS k D) q) (f9_canSee_38 k (fCS k D) (f9_canSee_15 k (fCS k D) q) w) (nI p) x (nI (m + 1)) (nI g) (R (6 + 5 * g + 3)) (nI t) 0 z = some (r, s') ∧ A9 R (m + 1) (orp (ft (R (6 + 5 * g + 3)) (fun t => css (sew p x) m (upd R (6 + 5 * g + 3) (nI t)) (g + 1)) e (t + 1)) (fg (fun g => ft (R (6 + 5 * g + 3)) (fun t => css (sew p x) m (upd R (6 + 5 * g + 3) (nI t)) (g + 1)) 4 0) d (g + 1)) (nI g)) r s s' := by
              intro z hz1 hz2 hz3
              obtain ⟨r, s', f1, f2, f3, f4, f5⟩ := ihe (t + 1) w _ (by omega) (by omega) (bk z hz1)
              refine ⟨r, s', ?_, f2, fun o q1 q2 q3 => by rw [f3 o q1 q2 q3, zu_o q2, hz2 o q1 q2 q3], fun i hi => by rw [f4 i hi, zu_o (by decide), hz3 i hi], f5⟩
              rw [b9_canSee_88, if_pos hz, hzn, zput_eq, if_pos (show (0 : Int32) = 0 from rfl), nI_1]
              exact f1
            show ∃ r s', b9_canSee_38 k _ _ (f9_canSee_38 k (fCS k D) (f9_canSee_15 k (fCS k D) q) w) _ _ _ _ _ _ s = _ ∧ _
            rw [b9_canSee_38, if_neg (by rw [Int32.le_iff_toInt_le, nI_toInt (by omega), t_4]; omega), if_pos hz, hzn, zput_eq]
            by_cases c : nI t = R (6 + 5 * g + 3)
            · obtain ⟨r, s', f1, f2⟩ := nx _ sp (fun o q1 q2 q3 => zu_o q2) (fun i hi => by rw [zu_o (by decide)])
              refine ⟨r, s', by rw [if_pos c]; exact f1, ?_⟩
              rw [ft, if_pos c]
              exact f2
            · obtain ⟨r5, s5, g1, g2, g3, g4, g5⟩ := ihm D (g + 1) _ _ (by omega) (by omega) sp hW' (by rw [h2']; omega)
              have hs5 : ∀ o, pK o → o ≠ 104 → o ≠ 117 → s5 o = s o := fun o q1 q2 q3 => by rw [g3 o q1 q2 q3, zu_o q2]
              have hs6 : ∀ i, pKm i → s5 103 i = s 103 i := fun i hi => by rw [g4 i hi, zu_o (by decide)]
              rw [if_neg c, nI_sub (by omega) (by omega), show m + 1 - 1 = m by omega, nI_1, g1, zbd_some, ft, if_neg c]
              rcases g5 with ⟨g6, g7⟩ | ⟨g6, l, g7, g8⟩
              · obtain ⟨r, s', f1, f2⟩ := nx s5 g2 hs5 hs6
                refine ⟨r, s', by rw [if_pos g7]; exact f1, ?_⟩
                rw [g6]
                exact f2
              · obtain ⟨y1, y2⟩ := n2 (n := m) (by omega)
                refine ⟨1, zu (zu (zu s5 104 (6 + 5 * g + 3) (R (6 + 5 * g + 3))) 117 (2 * m) (nI g)) 117 (2 * m + 1) (nI t), ?_, ?_, fun o q1 q2 q3 => by rw [zu_o q3, zu_o q3, zu_o q2, hs5 o q1 q2 q3], fun i hi => by rw [zu_o (by decide), zu_o (by decide), zu_o (by decide), hs6 i hi], Or.inr ⟨rfl, nI g :: nI t :: l, ?_, nI g, nI t, l, rfl, ?_, ?_, ?_⟩⟩
                · rw [g6, if_neg (by decide), b9_canSee_88, if_pos hz, hzn, zput_eq, if_neg (by decide), y1, y2, if_pos (nI_z (by omega) (by decide)), zput_eq, if_pos (nI_z (by omega) (by decide)), zput_eq, nI_nat (by omega), nI_nat (by omega)]
                · rw [zu_o (by decide), zu_o (by decide), bk s5 g2]
                · rw [g7]; rfl
                · rw [zu_k (by omega), zu_at]
                · rw [zu_at]
                · refine spn_congr m l (fun i hi => ?_) g8
                  rw [zu_k (by omega), zu_k (by omega), zu_o (by decide)]
        obtain ⟨r, s', f1, f2⟩ := key 4 0 k s rfl (by omega) hR
        refine ⟨r, s', ?_, f2⟩
        show b9_canSee_15 k _ _ _ _ _ _ s = _
        rw [b9_canSee_15, hR, if_neg (by rw [Int32.le_iff_toInt_le, hgx]; omega), s9_of (by omega) (by rw [t_3]; omega), zbd_some, hgx, t_3, hR]
        exact f1
    obtain ⟨r, s', f1, f2⟩ := outer ((R 2).toInt.toNat - g0) g0 k s (by omega) (by omega) hR
    refine ⟨r, s', ?_, f2⟩
    show f9_canSee k (fCS k D) (nI p) x (nI (m + 1)) (nI g0) s = _
    rw [f9_canSee, if_neg (fun q => by rw [q, t_0] at hm1; omega)]
    exact f1
end
