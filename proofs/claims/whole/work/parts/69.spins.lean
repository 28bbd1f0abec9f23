/-! the fewest spins: what is asked, and the class -/
def orp (o e : Option (List Int32)) (v : Int32) : Option (List Int32) := match o with
  | none => e
  | some l => some (v :: l)
def ft (own : Int32) (F : Nat → Option (List Int32)) : Nat → Nat → Option (List Int32)
  | 0, _ => none
  | d + 1, t => if nI t = own then ft own F d (t + 1) else orp (F t) (ft own F d (t + 1)) (nI t)
def fg (G : Nat → Option (List Int32)) : Nat → Nat → Option (List Int32)
  | 0, _ => none
  | d + 1, g => orp (G g) (fg G d (g + 1)) (nI g)
def css (S : (Nat → Int32) → Bool) : Nat → (Nat → Int32) → Nat → Option (List Int32)
  | 0, R, _ => if S R then some [] else none
  | n + 1, R, g0 => fg (fun g => ft (R (6 + 5 * g + 3)) (fun t => css S n (upd R (6 + 5 * g + 3) (nI t)) (g + 1)) 4 0) ((R 2).toInt.toNat - g0) g0
def lkp (p : Nat) (R : Nat → Int32) : List Int32 := R (46 + 3 * p + 0) :: cls (lk R 256 (R (46 + 3 * p + 0)) (R (46 + 3 * p + 1))).1
def sew (p : Nat) (x : Int32) (R : Nat → Int32) : Bool := if seen (lkp p R) x = 0 then false else true
theorem upd_back {f : Nat → Int32} {i : Nat} {a b : Int32} (h : b = f i) : upd (upd f i a) i b = f := by
  subst h
  funext j
  by_cases c : j = i
  · subst c; rw [upd_at]
  · rw [upd_ne c, upd_ne c]
theorem seen_bo (A : List Int32) (x : Int32) : seen A x = 0 ∨ seen A x = 1 := by
  induction A with
  | nil => exact Or.inl rfl
  | cons a A ih =>
    rw [seen]
    by_cases c : a = x
    · rw [if_pos c]; exact Or.inr rfl
    · rw [if_neg c]; exact ih
theorem lkp_len (p : Nat) (R : Nat → Int32) : (lkp p R).length ≤ 257 := by
  have h1 := cls_len (lk R 256 (R (46 + 3 * p + 0)) (R (46 + 3 * p + 1))).1
  have h2 := lk_len (R := R) 256 (R (46 + 3 * p + 0)) (R (46 + 3 * p + 1))
  show (cls _).length + 1 ≤ 257
  omega
/-- places that thinking about spins leaves -/
def pC (o : Nat) : Prop := (o < 56 ∨ 86 ≤ o) ∧ o ≠ 93
/-- a glass turned is still a street -/
theorem WF.spin {hb : Int} {R : Nat → Int32} (h : WF hb R) {g t : Nat} (hg : g < 8) (ht : t < 4) : WF hb (upd R (6 + 5 * g + 3) (nI t)) := by
  have hx : (nI t).toInt = t := nI_toInt (by omega)
  exact h.upd0 (by omega) (by rw [(bG hb hg).2.2.2.1.1, (bG hb hg).2.2.2.1.2, hx]; omega) (by omega) (fun g hg => by omega)
section
variable {k : Nat}
/-- what one spin is asked with, and what it answers -/
def P8 (p : Nat) (R : Nat → Int32) (s : ZS) : Prop := RS s 56 R ∧ s (2 + 15 + p) 0 = R (46 + 3 * p + 0) ∧ s (2 + 15 + p) 1 = R (46 + 3 * p + 1)
def A1 (p : Nat) (R : Nat → Int32) (a : Nat) (o : Option (List Int32)) (r : Int32) (s s' : ZS) : Prop := (∀ o, pC o → s' o = s o) ∧ ((o = none ∧ r = 0 ∧ P8 p R s') ∨ (r = 1 ∧ o = some [s' 93 a, s' 93 (a + 1)]))
theorem P8.spin {p : Nat} {R : Nat → Int32} {s : ZS} (h : P8 p R s) {hb : Int} (hW : WF hb R) {g t : Nat} (hp : p < 6) (hg : g < 8) : P8 p (upd R (6 + 5 * g + 3) (nI t)) (zu s (56 + 7 + g) 3 (nI t)) := by
  refine ⟨h.1.glass hW.2.2 hg (by decide) (by decide) _, ?_, ?_⟩
  · rw [zu_o (by omega), upd_ne (by omega)]; exact h.2.1
  · rw [zu_o (by omega), upd_ne (by omega)]; exact h.2.2
theorem P8.back {p : Nat} {R : Nat → Int32} {s : ZS} {g t : Nat} (h : P8 p (upd R (6 + 5 * g + 3) (nI t)) s) {hb : Int} (hW : WF hb R) (ht : t < 4) (hp : p < 6) (hg : g < 8) : P8 p R (zu s (56 + 7 + g) 3 (R (6 + 5 * g + 3))) := by
  have h1 := h.1.glass (hW.spin hg ht).2.2 hg (k := 3) (by decide) (by decide) (R (6 + 5 * g + 3))
  rw [upd_back rfl] at h1
  refine ⟨h1, ?_, ?_⟩
  · rw [zu_o (by omega), h.2.1, upd_ne (by omega)]
  · rw [zu_o (by omega), h.2.2, upd_ne (by omega)]
theorem P8.fol (hk : 300 ≤ k) {p : Nat} {R : Nat → Int32} {s : ZS} {hb : Int} (h : P8 p R s) (hW : WF hb R) (hp : p < 6) : ∃ s' M b, f1_follow k 56 (s (2 + 15 + p) 0) (s (2 + 15 + p) 1) s = some ((), s') ∧ P8 p R s' ∧ (∀ o, pC o → s' o = s o) ∧ L8 s' (lkp p R) M b := by
  have hpe := hW.1.pe hp
  rw [h.2.1, h.2.2]
  obtain ⟨s', e1, e2, e3⟩ := s1_follow (k := k) (t := 56) (R := R) (σ := s) (c := R (46 + 3 * p + 0)) (w := R (46 + 3 * p + 1)) (by omega) (Or.inr (Or.inr rfl)) hW.1 h.1 hW.2.2 hpe.1 (W4.of hpe.2.1)
  exact ⟨s', _, _, e1, ⟨h.1.congr hW.2.2 fun o q1 q2 => e2 o (by omega) (by omega) (by omega), by rw [e2 _ (by omega) (by omega) (by omega)]; exact h.2.1, by rw [e2 _ (by omega) (by omega) (by omega)]; exact h.2.2⟩, fun o ho => e2 o (by unfold pC at ho; omega) (by unfold pC at ho; omega) (by unfold pC at ho; omega), e3⟩
theorem wsp {a : Nat} (ha : a < 3) (u v : Int32) (s : ZS) : f8_writeSpin k (nI a) u v s = some ((), zu (zu s 93 a u) 93 (a + 1) v) := by
  have hax : (nI a).toInt = a := nI_toInt (by omega)
  rw [f8_writeSpin, nI_1, if_neg (by rw [Int32.lt_iff_toInt_lt, hax, t_0]; omega), if_neg (by rw [Int32.le_iff_toInt_le, nI_toInt (by omega), t_4]; omega), if_pos (nI_z (by omega) (by decide)), zput_eq, if_pos (nI_z (by omega) (by decide)), zput_eq, nI_nat (by omega), nI_nat (by omega)]
theorem one8 (hk : 300 ≤ k) {p : Nat} (hp : p < 6) {x : Int32} {a : Nat} (ha : a < 3) {hb : Int} {R : Nat → Int32} (hW : WF hb R) : ∀ (d g n : Nat) (s : ZS), g + d = (R 2).toInt.toNat → d < n → P8 p R s → ∃ r s', f8_isSeenByOneSpin_3 k n (2 + 15 + p) x (nI a) (nI g) s = some (r, s') ∧ A1 p R a (fg (fun g => ft (R (6 + 5 * g + 3)) (fun t => css (sew p x) 0 (upd R (6 + 5 * g + 3) (nI t)) (g + 1)) 4 0) d g) r s s' := by
  have hn := hW.1.ng
  have T56 : Tt 56 := Or.inr (Or.inr rfl)
  intro d
  induction d with
  | zero =>
    intro g n s hg hn hP
    obtain ⟨n, rfl⟩ : ∃ q, n = q + 1 := ⟨n - 1, by omega⟩
    refine ⟨0, s, ?_, fun _ _ => rfl, Or.inl ⟨rfl, rfl, hP⟩⟩
    show b8_isSeenByOneSpin_3 k _ _ _ _ _ s = _
    rw [b8_isSeenByOneSpin_3, hP.1.1.1, if_pos (by rw [Int32.le_iff_toInt_le, nI_toInt (by omega)]; omega)]
  | succ d ih =>
    intro g n s hg hn hP
    obtain ⟨n, rfl⟩ : ∃ q, n = q + 1 := ⟨n - 1, by omega⟩
    have hg8 : g < 8 := by omega
    have hgx : (nI g).toInt = g := nI_toInt (by omega)
    have hgn : (g : Int).toNat = g := by omega
    have key : ∀ (e t q : Nat) (s : ZS), t + e = 4 → e < q → P8 p R s → ∃ r s', f8_isSeenByOneSpin_45 k (f8_isSeenByOneSpin_3 k n) q (2 + 15 + p) x (nI a) (nI g) (56 + 7 + g) (R (6 + 5 * g + 3)) (nI t) s = some (r, s') ∧ A1 p R a (orp (ft (R (6 + 5 * g + 3)) (fun t => css (sew p x) 0 (upd R (6 + 5 * g + 3) (nI t)) (g + 1)) e t) (fg (fun g => ft (R (6 + 5 * g + 3)) (fun t => css (sew p x) 0 (upd R (6 + 5 * g + 3) (nI t)) (g + 1)) 4 0) d (g + 1)) (nI g)) r s s' := by
      intro e
      induction e with
      | zero =>
        intro t q s ht hq hP
        obtain ⟨q, rfl⟩ : ∃ w, q = w + 1 := ⟨q - 1, by omega⟩
        obtain ⟨r, s', f1, f2⟩ := ih (g + 1) n s (by omega) (by omega) hP
        refine ⟨r, s', ?_, f2⟩
        show b8_isSeenByOneSpin_45 k _ _ _ _ _ _ _ _ _ s = _
        rw [b8_isSeenByOneSpin_45, if_pos (by rw [Int32.le_iff_toInt_le, nI_toInt (by omega), t_4]; omega), nI_1]
        exact f1
      | succ e ihe =>
        intro t q s ht hq hP
        obtain ⟨q, rfl⟩ : ∃ w, q = w + 1 := ⟨q - 1, by omega⟩
        obtain ⟨s6, M, b, g1, g2, g3, g4⟩ := (hP.spin (t := t) hW hp hg8).fol hk (hW.spin hg8 (by omega)) hp
        have hs6 : ∀ o, pC o → s6 o = s o := fun o ho => by rw [g3 o ho, zu_o (by unfold pC at ho; omega)]
        have bk := g2.back hW (by omega) hp hg8
        obtain ⟨r, s', f1, f2, f3⟩ := ihe (t + 1) q _ (by omega) (by omega) bk
        have nx : f8_isSeenByOneSpin_45 k (f8_isSeenByOneSpin_3 k n) q (2 + 15 + p) x (nI a) (nI g) (56 + 7 + g) (R (6 + 5 * g + 3)) (nI t + 1) (zu s6 (56 + 7 + g) 3 (R (6 + 5 * g + 3))) = some (r, s') := by rw [nI_1]; exact f1
        have fr : ∀ o, pC o → s' o = s o := fun o ho => by rw [f2 o ho, zu_o (by unfold pC at ho; omega), hs6 o ho]
        have body : ∀ y, (if nI t = R (6 + 5 * g + 3) then some (r, s') else if seen (lkp p (upd R (6 + 5 * g + 3) (nI t))) x = 0 then some (r, s') else some ((1 : Int32), zu (zu s6 93 a (nI g)) 93 (a + 1) (nI t))) = y → f8_isSeenByOneSpin_45 k (f8_isSeenByOneSpin_3 k n) (q + 1) (2 + 15 + p) x (nI a) (nI g) (56 + 7 + g) (R (6 + 5 * g + 3)) (nI t) s = y := by
          intro y hy
          rw [← hy]
          show b8_isSeenByOneSpin_45 k _ _ _ _ _ _ _ _ _ s = _
          rw [b8_isSeenByOneSpin_45, if_neg (by rw [Int32.le_iff_toInt_le, nI_toInt (by omega), t_4]; omega), if_neg (by omega), if_pos (T56.s1 hg8), zput_eq, if_pos (sh_p hp), g1, zbd_some, zput_eq, s1_sees hk g4 (lkp_len _ _), zbd_some, zput_eq, wsp ha, zbd_some, nx]
        by_cases c : nI t = R (6 + 5 * g + 3)
        · refine ⟨r, s', body _ (by rw [if_pos c]), fr, ?_⟩
          rw [ft, if_pos c]
          exact f3
        · by_cases c2 : seen (lkp p (upd R (6 + 5 * g + 3) (nI t))) x = 0
          · refine ⟨r, s', body _ (by rw [if_neg c, if_pos c2]), fr, ?_⟩
            have hS : css (sew p x) 0 (upd R (6 + 5 * g + 3) (nI t)) (g + 1) = none := by
              rw [css, sew, if_pos c2]; rfl
            rw [ft, if_neg c, hS]
            exact f3
          · refine ⟨1, zu (zu s6 93 a (nI g)) 93 (a + 1) (nI t), body _ (by rw [if_neg c, if_neg c2]), fun o ho => by rw [zu_o ho.2, zu_o ho.2, hs6 o ho], Or.inr ⟨rfl, ?_⟩⟩
            have hS : css (sew p x) 0 (upd R (6 + 5 * g + 3) (nI t)) (g + 1) = some [] := by
              rw [css, sew, if_neg c2]; rfl
            rw [ft, if_neg c, hS, zu_at, zu_k (show a ≠ a + 1 by omega), zu_at]
            rfl
    obtain ⟨r, s', f1, f2⟩ := key 4 0 k s rfl (by omega) hP
    refine ⟨r, s', ?_, f2⟩
    show b8_isSeenByOneSpin_3 k _ _ _ _ _ s = _
    rw [b8_isSeenByOneSpin_3, hP.1.1.1, if_neg (by rw [Int32.le_iff_toInt_le, hgx]; omega), s5_glassOf' T56 hP.1 hW.1, zbd_some, hgx, if_pos (show (0 : Int) ≤ g ∧ (g : Int) < (R 2).toInt by omega), hgn, if_neg (by omega), if_pos (T56.s1 hg8), hP.1.2.1 g hg8 3 (by decide)]
    exact f1
end
