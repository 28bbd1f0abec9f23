/-! what the class's places and the model's have in common -/
/-- the first glass of a row in a cell, or -1 -/
def gfi (R : Nat → Int32) (c : Int32) : Nat → Nat → Int32
  | 0, _ => -1
  | d + 1, g => if R (6 + 5 * g + 2) = c then nI g else gfi R c d (g + 1)
def gat (R : Nat → Int32) (c : Int32) : Int32 := gfi R c (R 2).toInt.toNat 0
def bl (i : Nat) : Int := if i = 1 ∨ (124 ≤ i ∧ i < 148) then -2147483648 else 0
def bh (hb : Int) (i : Nat) : Int := if i = 0 then hb else if i = 1 then 2147483647 else if i = 2 then 8 else if i = 3 then 6 else if i = 4 then 60 else if i = 5 then 24 else if i < 46 then (if (i - 6) % 5 = 0 then 6 else if (i - 6) % 5 = 1 then 9 else if (i - 6) % 5 = 2 then 63 else if (i - 6) % 5 = 3 then 3 else 99999) else if i < 64 then (if (i - 46) % 3 = 0 then 63 else if (i - 46) % 3 = 1 then 3 else 99999) else if i < 124 then 255 else 2147483647
def BD (hb : Int) (R : Nat → Int32) : Prop := ∀ i, i < 148 → bl i ≤ (R i).toInt ∧ (R i).toInt ≤ bh hb i
def DS (R : Nat → Int32) : Prop := ∀ g g' : Nat, (g : Int) < (R 2).toInt → (g' : Int) < (R 2).toInt → R (6 + 5 * g + 2) = R (6 + 5 * g' + 2) → g = g'
/-- a step of a text, as the class has it -/
def enc (w v : Int32) : Int32 := if w = 1 then v else if w = 2 then -1 - v else if w = 3 then -33 else -w
def sgn (w : Int32) : Prop := w = 37 ∨ w = 38 ∨ w = 42 ∨ w = 43 ∨ w = 45 ∨ w = 47 ∨ w = 60 ∨ w = 61 ∨ w = 62 ∨ w = 124
/-- steps that leave one number more on the pile -/
def vok (W V : Nat → Int32) : Nat → Nat → Nat → Prop
  | 0, _, h => h = 1
  | d + 1, i, h => (W i = 1 ∧ 0 ≤ (V i).toInt ∧ (V i).toInt ≤ 9999 ∧ vok W V d (i + 1) (h + 1)) ∨ (W i = 2 ∧ 0 ≤ (V i).toInt ∧ (V i).toInt ≤ 2 ∧ vok W V d (i + 1) (h + 1)) ∨ (W i = 3 ∧ 1 ≤ h ∧ vok W V d (i + 1) h) ∨ (sgn (W i) ∧ 2 ≤ h ∧ vok W V d (i + 1) (h - 1))
def VT1 (R : Nat → Int32) (a : Nat) : Prop := R a = 0 ∨ (0 < (R a).toInt ∧ (R a).toInt ≤ 60 ∧ vok (fun i => R (a + 1 + i)) (fun i => R (a + 61 + i)) (R a).toInt.toNat 0 0)
def VT (R : Nat → Int32) : Prop := VT1 R 148 ∧ VT1 R 269
def TR (σ : ZS) (o : Nat) (R : Nat → Int32) (a : Nat) : Prop := (R a = 0 ∧ σ o 3 = 0) ∨ (0 < (R a).toInt ∧ σ o 3 = 1 ∧ σ o 2 = R a ∧ ∀ i : Nat, (i : Int) < (R a).toInt → σ (o + 1) i = enc (R (a + 1 + i)) (R (a + 61 + i)))
/-- a street of the class is a row of the model -/
def RS (σ : ZS) (t : Nat) (R : Nat → Int32) : Prop :=
  (σ t 6 = R 2 ∧ σ t 7 = R 3 ∧ σ t 8 = R 4 ∧ σ t 9 = R 5 ∧ σ t 10 = R 0 ∧ σ t 11 = R 1) ∧
  (∀ g, g < 8 → ∀ k, k < 5 → σ (t + 7 + g) k = R (6 + 5 * g + k)) ∧
  (∀ p, p < 6 → ∀ k, k < 3 → σ (t + 15 + p) k = R (46 + 3 * p + k)) ∧
  (∀ j, j < 60 → σ (t + 5) j = R (64 + j)) ∧
  (∀ j, j < 24 → σ (t + 6) j = R (124 + j)) ∧
  (∀ c, c < 64 → σ (t + 4) c = gat R (nI c)) ∧
  (TR σ (t + 21) R 148 ∧ TR σ (t + 24) R 269)
def WF (hb : Int) (R : Nat → Int32) : Prop := BD hb R ∧ DS R ∧ VT R
def Img (m : Nat) (σ : ZS) : Prop := σ 1 10 = σ 103 3 ∧ (0 ≤ (σ 103 3).toInt ∧ (σ 103 3).toInt ≤ m) ∧ σ 1 9 = (if σ 103 3 = 0 then 0 else 1) ∧ (σ 103 3 ≠ 0 → RS σ 29 (σ 105) ∧ WF 9999 (σ 105))
def Er (σ : ZS) : Prop := ∀ i, 1 ≤ i → i ≤ 6 → σ 94 i = σ 107 i
def Sh (σ : ZS) : Prop := ∀ s, s < 4 → (σ (95 + 2 * s) 1 = σ 108 s ∧ σ (95 + 2 * s) 2 = σ 109 s) ∧ (σ 108 s = 0 ∨ σ 108 s = 8 ∨ σ 108 s = 16 ∨ σ 108 s = 32) ∧ (0 ≤ (σ 109 s).toInt ∧ (σ 109 s).toInt ≤ 24) ∧ ∀ i, i < 24 → σ (96 + 2 * s) i = σ 110 (24 * s + i)
def Vo (σ : ZS) : Prop := σ 90 1 = σ 103 25 ∧ (0 ≤ (σ 103 25).toInt ∧ (σ 103 25).toInt ≤ 30) ∧ ∀ i, i < 30 → σ 91 i = σ 118 i
def Rel (m : Nat) (σ : ZS) : Prop := RS σ 2 (σ 104) ∧ WF 9999 (σ 104) ∧ Img m σ ∧ Er σ ∧ Sh σ ∧ Vo σ
/-- a call of both sides -/
def opk (m : Nat) (F8 F9 : ZS → Option (Int32 × ZS)) (σ : ZS) : Prop := ∃ (r : Int32) (σ1 σ2 : ZS), F8 σ = some (r, σ1) ∧ F9 σ1 = some (r, σ2) ∧ Rel (m + 1) σ2
theorem BD.ng {hb : Int} {R : Nat → Int32} (h : BD hb R) : 0 ≤ (R 2).toInt ∧ (R 2).toInt ≤ 8 := h 2 (by decide)
theorem BD.np {hb : Int} {R : Nat → Int32} (h : BD hb R) : 0 ≤ (R 3).toInt ∧ (R 3).toInt ≤ 6 := h 3 (by decide)
theorem BD.nt {hb : Int} {R : Nat → Int32} (h : BD hb R) : 0 ≤ (R 4).toInt ∧ (R 4).toInt ≤ 60 := h 4 (by decide)
theorem BD.nw {hb : Int} {R : Nat → Int32} (h : BD hb R) : 0 ≤ (R 5).toInt ∧ (R 5).toInt ≤ 24 := h 5 (by decide)
theorem BD.hr {hb : Int} {R : Nat → Int32} (h : BD hb R) : 0 ≤ (R 0).toInt ∧ (R 0).toInt ≤ hb := h 0 (by decide)
theorem BD.gl {hb : Int} {R : Nat → Int32} (h : BD hb R) {g : Nat} (hg : g < 8) : (0 ≤ (R (6 + 5 * g + 0)).toInt ∧ (R (6 + 5 * g + 0)).toInt ≤ 6) ∧ (0 ≤ (R (6 + 5 * g + 1)).toInt ∧ (R (6 + 5 * g + 1)).toInt ≤ 9) ∧ (0 ≤ (R (6 + 5 * g + 2)).toInt ∧ (R (6 + 5 * g + 2)).toInt ≤ 63) ∧ (0 ≤ (R (6 + 5 * g + 3)).toInt ∧ (R (6 + 5 * g + 3)).toInt ≤ 3) ∧ (0 ≤ (R (6 + 5 * g + 4)).toInt ∧ (R (6 + 5 * g + 4)).toInt ≤ 99999) := by
  match g, hg with
  | 0, _ => exact ⟨h _ (by decide), h _ (by decide), h _ (by decide), h _ (by decide), h _ (by decide)⟩
  | 1, _ => exact ⟨h _ (by decide), h _ (by decide), h _ (by decide), h _ (by decide), h _ (by decide)⟩
  | 2, _ => exact ⟨h _ (by decide), h _ (by decide), h _ (by decide), h _ (by decide), h _ (by decide)⟩
  | 3, _ => exact ⟨h _ (by decide), h _ (by decide), h _ (by decide), h _ (by decide), h _ (by decide)⟩
  | 4, _ => exact ⟨h _ (by decide), h _ (by decide), h _ (by decide), h _ (by decide), h _ (by decide)⟩
  | 5, _ => exact ⟨h _ (by decide), h _ (by decide), h _ (by decide), h _ (by decide), h _ (by decide)⟩
  | 6, _ => exact ⟨h _ (by decide), h _ (by decide), h _ (by decide), h _ (by decide), h _ (by decide)⟩
  | 7, _ => exact ⟨h _ (by decide), h _ (by decide), h _ (by decide), h _ (by decide), h _ (by decide)⟩
  | g + 8, hg => exact absurd hg (by omega)
theorem BD.pe {hb : Int} {R : Nat → Int32} (h : BD hb R) {p : Nat} (hp : p < 6) : (0 ≤ (R (46 + 3 * p + 0)).toInt ∧ (R (46 + 3 * p + 0)).toInt ≤ 63) ∧ (0 ≤ (R (46 + 3 * p + 1)).toInt ∧ (R (46 + 3 * p + 1)).toInt ≤ 3) ∧ (0 ≤ (R (46 + 3 * p + 2)).toInt ∧ (R (46 + 3 * p + 2)).toInt ≤ 99999) := by
  match p, hp with
  | 0, _ => exact ⟨h _ (by decide), h _ (by decide), h _ (by decide)⟩
  | 1, _ => exact ⟨h _ (by decide), h _ (by decide), h _ (by decide)⟩
  | 2, _ => exact ⟨h _ (by decide), h _ (by decide), h _ (by decide)⟩
  | 3, _ => exact ⟨h _ (by decide), h _ (by decide), h _ (by decide)⟩
  | 4, _ => exact ⟨h _ (by decide), h _ (by decide), h _ (by decide)⟩
  | 5, _ => exact ⟨h _ (by decide), h _ (by decide), h _ (by decide)⟩
  | p + 6, hp => exact absurd hp (by omega)
theorem BD.upd {hb : Int} {R : Nat → Int32} (h : BD hb R) {i : Nat} {v : Int32} (hv : i < 148 → bl i ≤ v.toInt ∧ v.toInt ≤ bh hb i) : BD hb (upd R i v) := by
  intro j hj
  by_cases hji : j = i
  · subst hji
    rw [upd_at]
    exact hv hj
  · rw [upd_ne hji]
    exact h j hj
theorem gfi_spec {R : Nat → Int32} {c : Int32} : ∀ (d g : Nat), (gfi R c d g = -1 ∧ ∀ j, g ≤ j → j < g + d → R (6 + 5 * j + 2) ≠ c) ∨ ∃ j, g ≤ j ∧ j < g + d ∧ gfi R c d g = nI j ∧ R (6 + 5 * j + 2) = c ∧ ∀ i, g ≤ i → i < j → R (6 + 5 * i + 2) ≠ c
  | 0, g => Or.inl ⟨rfl, fun j h1 h2 => by omega⟩
  | d + 1, g => by
    by_cases h : R (6 + 5 * g + 2) = c
    · exact Or.inr ⟨g, Nat.le_refl _, by omega, by rw [gfi, if_pos h], h, fun i h1 h2 => by omega⟩
    · rcases gfi_spec (R := R) (c := c) d (g + 1) with ⟨h1, h2⟩ | ⟨j, h1, h2, h3, h4, h5⟩
      · refine Or.inl ⟨by rw [gfi, if_neg h]; exact h1, fun j h3 h4 => ?_⟩
        by_cases hj : j = g
        · subst hj; exact h
        · exact h2 j (by omega) (by omega)
      · refine Or.inr ⟨j, by omega, by omega, by rw [gfi, if_neg h]; exact h3, h4, fun i h6 h7 => ?_⟩
        by_cases hi : i = g
        · subst hi; exact h
        · exact h5 i (by omega) h7
theorem gat_spec {R : Nat → Int32} (c : Int32) : (gat R c = -1 ∧ ∀ j : Nat, (j : Int) < (R 2).toInt → R (6 + 5 * j + 2) ≠ c) ∨ ∃ j : Nat, (j : Int) < (R 2).toInt ∧ gat R c = nI j ∧ R (6 + 5 * j + 2) = c := by
  rcases gfi_spec (R := R) (c := c) (R 2).toInt.toNat 0 with ⟨h1, h2⟩ | ⟨j, h1, h2, h3, h4, h5⟩
  · exact Or.inl ⟨h1, fun j hj => h2 j (Nat.zero_le _) (by omega)⟩
  · exact Or.inr ⟨j, by omega, h3, h4⟩
theorem gat_is {R : Nat → Int32} (hD : DS R) {c : Int32} {g : Nat} (hg : (g : Int) < (R 2).toInt) (h : R (6 + 5 * g + 2) = c) : gat R c = nI g := by
  rcases gat_spec (R := R) c with ⟨h1, h2⟩ | ⟨j, h1, h2, h3⟩
  · exact absurd h (h2 g hg)
  · rw [h2, hD j g h1 hg (h3.trans h.symm)]
theorem gat_no {R : Nat → Int32} {c : Int32} (h : ∀ j : Nat, (j : Int) < (R 2).toInt → R (6 + 5 * j + 2) ≠ c) : gat R c = -1 := by
  rcases gat_spec (R := R) c with ⟨h1, h2⟩ | ⟨j, h1, h2, h3⟩
  · exact h1
  · exact absurd h3 (h j h1)
theorem gfi_congr {R R' : Nat → Int32} {c : Int32} : ∀ (d g : Nat), (∀ j, g ≤ j → j < g + d → R' (6 + 5 * j + 2) = R (6 + 5 * j + 2)) → gfi R' c d g = gfi R c d g
  | 0, g, _ => rfl
  | d + 1, g, h => by
    rw [gfi, gfi, h g (Nat.le_refl _) (by omega), gfi_congr d (g + 1) (fun j h1 h2 => h j (by omega) (by omega))]
theorem gat_congr {R R' : Nat → Int32} (h2 : R' 2 = R 2) (h : ∀ j : Nat, (j : Int) < (R 2).toInt → R' (6 + 5 * j + 2) = R (6 + 5 * j + 2)) (c : Int32) : gat R' c = gat R c := by
  unfold gat
  rw [h2]
  exact gfi_congr _ _ (fun j _ hj => h j (by omega))
theorem TR.congr {σ σ' : ZS} {o a : Nat} {R R' : Nat → Int32} (h : TR σ o R a) (h1 : σ' o = σ o) (h2 : σ' (o + 1) = σ (o + 1)) (h3 : ∀ i, a ≤ i → i < a + 121 → R' i = R i) (hn : (R a).toInt ≤ 60) : TR σ' o R' a := by
  have e0 : R' a = R a := h3 a (Nat.le_refl _) (by omega)
  rcases h with ⟨q1, q2⟩ | ⟨q1, q2, q3, q4⟩
  · exact Or.inl ⟨by rw [e0]; exact q1, by rw [h1]; exact q2⟩
  · refine Or.inr ⟨by rw [e0]; exact q1, by rw [h1]; exact q2, by rw [h1, e0]; exact q3, fun i hi => ?_⟩
    rw [e0] at hi
    rw [h2, h3 (a + 1 + i) (by omega) (by omega), h3 (a + 61 + i) (by omega) (by omega)]
    exact q4 i hi
theorem VT1.len {R : Nat → Int32} {a : Nat} (h : VT1 R a) : 0 ≤ (R a).toInt ∧ (R a).toInt ≤ 60 := by
  rcases h with h | ⟨h1, h2, -⟩
  · rw [h, t_0]; omega
  · omega
theorem vok_congr {W V W' V' : Nat → Int32} : ∀ (d i h : Nat), (∀ j, i ≤ j → j < i + d → W' j = W j ∧ V' j = V j) → vok W V d i h → vok W' V' d i h
  | 0, i, h, _, q => q
  | d + 1, i, h, e, q => by
    obtain ⟨e1, e2⟩ := e i (Nat.le_refl _) (by omega)
    have e3 : ∀ j, i + 1 ≤ j → j < i + 1 + d → W' j = W j ∧ V' j = V j := fun j h1 h2 => e j (by omega) (by omega)
    unfold vok at q ⊢
    rw [e1, e2]
    rcases q with ⟨q1, q2, q3, q4⟩ | ⟨q1, q2, q3, q4⟩ | ⟨q1, q2, q4⟩ | ⟨q1, q2, q4⟩
    · exact Or.inl ⟨q1, q2, q3, vok_congr d _ _ e3 q4⟩
    · exact Or.inr (Or.inl ⟨q1, q2, q3, vok_congr d _ _ e3 q4⟩)
    · exact Or.inr (Or.inr (Or.inl ⟨q1, q2, vok_congr d _ _ e3 q4⟩))
    · exact Or.inr (Or.inr (Or.inr ⟨q1, q2, vok_congr d _ _ e3 q4⟩))
theorem VT1.congr {R R' : Nat → Int32} {a : Nat} (h : VT1 R a) (h3 : ∀ i, a ≤ i → i < a + 121 → R' i = R i) : VT1 R' a := by
  have e0 : R' a = R a := h3 a (Nat.le_refl _) (by omega)
  rcases h with h | ⟨h1, h2, h4⟩
  · exact Or.inl (by rw [e0]; exact h)
  · refine Or.inr ⟨by rw [e0]; exact h1, by rw [e0]; exact h2, ?_⟩
    rw [e0]
    exact vok_congr _ _ _ (fun j _ hj => ⟨h3 _ (by omega) (by omega), h3 _ (by omega) (by omega)⟩) h4
theorem VT.congr {R R' : Nat → Int32} (h : VT R) (h3 : ∀ i, 148 ≤ i → i < 390 → R' i = R i) : VT R' := ⟨h.1.congr fun i h1 h2 => h3 i h1 (by omega), h.2.congr fun i h1 h2 => h3 i (by omega) (by omega)⟩
/-- the class's places of a street, and what they stand on -/
theorem RS.congr {σ σ' : ZS} {t : Nat} {R : Nat → Int32} (h : RS σ t R) (hv : VT R) (e : ∀ o, t ≤ o → o < t + 27 → σ' o = σ o) : RS σ' t R := by
  obtain ⟨⟨a1, a2, a3, a4, a5, a6⟩, b, c, d, f, i, j1, j2⟩ := h
  refine ⟨?_, fun g hg k hk => ?_, fun p hp k hk => ?_, fun j hj => ?_, fun j hj => ?_, fun c hc => ?_, j1.congr (e _ (by omega) (by omega)) (e _ (by omega) (by omega)) (fun _ _ _ => rfl) hv.1.len.2, j2.congr (e _ (by omega) (by omega)) (e _ (by omega) (by omega)) (fun _ _ _ => rfl) hv.2.len.2⟩
  · rw [e t (by omega) (by omega)]; exact ⟨a1, a2, a3, a4, a5, a6⟩
  · rw [e _ (by omega) (by omega)]; exact b g hg k hk
  · rw [e _ (by omega) (by omega)]; exact c p hp k hk
  · rw [e _ (by omega) (by omega)]; exact d j hj
  · rw [e _ (by omega) (by omega)]; exact f j hj
  · rw [e _ (by omega) (by omega)]; exact i c hc
theorem Rel.congr {m m' : Nat} {σ σ' : ZS} (h : Rel m σ) (hm : m ≤ m') (e : ∀ o, (o ≤ 55 ∨ (90 ≤ o ∧ o ≤ 92) ∨ (94 ≤ o ∧ o ≤ 102) ∨ o = 104 ∨ o = 105 ∨ (107 ≤ o ∧ o ≤ 110) ∨ o = 118) → σ' o = σ o) (e3 : σ' 103 3 = σ 103 3) (e25 : σ' 103 25 = σ 103 25) : Rel m' σ' := by
  obtain ⟨h1, h2, ⟨i1, i2, i3, i4⟩, h4, h5, h6⟩ := h
  refine ⟨?_, ?_, ⟨?_, ?_, ?_, fun hn => ?_⟩, fun i q1 q2 => ?_, fun s hs => ?_, ?_⟩
  · rw [e 104 (by omega)]
    exact h1.congr h2.2.2 fun o q1 q2 => e o (by omega)
  · rw [e 104 (by omega)]; exact h2
  · rw [e 1 (by omega), e3]; exact i1
  · rw [e3]; omega
  · rw [e 1 (by omega), e3]; exact i3
  · rw [e3] at hn
    obtain ⟨q1, q2⟩ := i4 hn
    rw [e 105 (by omega)]
    exact ⟨q1.congr q2.2.2 fun o q1 q2 => e o (by omega), q2⟩
  · rw [e 94 (by omega), e 107 (by omega)]; exact h4 i q1 q2
  · rw [e 108 (by omega), e 109 (by omega), e 110 (by omega), e (95 + 2 * s) (by omega), e (96 + 2 * s) (by omega)]
    exact h5 s hs
  · unfold Vo
    rw [e 90 (by omega), e 91 (by omega), e25, e 118 (by omega)]
    exact h6
theorem Rel.err {m : Nat} {σ : ZS} (h : Rel m σ) {e : Nat} (he : 1 ≤ e ∧ e ≤ 6) : Rel (m + 1) (zu (zu σ 94 e (σ 94 e + 1)) 107 e (σ 107 e + 1)) := by
  have hE : Er (zu (zu σ 94 e (σ 94 e + 1)) 107 e (σ 107 e + 1)) := by
    intro i h1 h2
    rw [zu_o (a := 94) (by decide)]
    by_cases hi : i = e
    · subst hi
      rw [zu_at, zu_at, h.2.2.2.1 i h1 h2]
    · rw [zu_k hi, zu_k hi, zu_o (by decide)]
      exact h.2.2.2.1 i h1 h2
  obtain ⟨h1, h2, ⟨i1, i2, i3, i4⟩, h4, h5, h6⟩ := h
  have e0 : ∀ o, o ≠ 94 → o ≠ 107 → zu (zu σ 94 e (σ 94 e + 1)) 107 e (σ 107 e + 1) o = σ o := fun o q1 q2 => by rw [zu_o q2, zu_o q1]
  refine ⟨?_, ?_, ⟨?_, ?_, ?_, fun hn => ?_⟩, hE, fun s hs => ?_, ?_⟩
  · rw [e0 104 (by decide) (by decide)]
    exact h1.congr h2.2.2 fun o q1 q2 => e0 o (by omega) (by omega)
  · rw [e0 104 (by decide) (by decide)]; exact h2
  · rw [e0 1 (by decide) (by decide), e0 103 (by decide) (by decide)]; exact i1
  · rw [e0 103 (by decide) (by decide)]; omega
  · rw [e0 1 (by decide) (by decide), e0 103 (by decide) (by decide)]; exact i3
  · rw [e0 103 (by decide) (by decide)] at hn
    obtain ⟨q1, q2⟩ := i4 hn
    rw [e0 105 (by decide) (by decide)]
    exact ⟨q1.congr q2.2.2 fun o q1 q2 => e0 o (by omega) (by omega), q2⟩
  · rw [e0 108 (by decide) (by decide), e0 109 (by decide) (by decide), e0 110 (by decide) (by decide), e0 (95 + 2 * s) (by omega) (by omega), e0 (96 + 2 * s) (by omega) (by omega)]
    exact h5 s hs
  · unfold Vo
    rw [e0 90 (by decide) (by decide), e0 91 (by decide) (by decide), e0 103 (by decide) (by decide), e0 118 (by decide) (by decide)]
    exact h6
theorem e8_1 {k : Nat} {σ : ZS} : f8_error k (1 : Int32) σ = some ((-1000000001 : Int32), zu σ 94 1 (σ 94 1 + 1)) := by
  unfold f8_error
  rw [if_neg (by decide), if_neg (by decide), if_pos (by decide), if_pos (by decide), zput_eq]
  rfl
theorem e9_1 {k : Nat} {σ : ZS} : f9_error k (-1000000001 : Int32) σ = some ((-1000000001 : Int32), zu σ 107 1 (σ 107 1 + 1)) := by
  unfold f9_error
  rw [if_pos (by decide), if_pos (by decide), zput_eq]
  rfl
theorem opk_e1 {m : Nat} {F8 F9 : ZS → Option (Int32 × ZS)} {σ : ZS} (h : Rel m σ) (h8 : F8 σ = some ((-1000000001 : Int32), zu σ 94 1 (σ 94 1 + 1))) (h9 : ∀ s : ZS, (∀ o, o ≠ 94 → s o = σ o) → F9 s = some ((-1000000001 : Int32), zu s 107 1 (s 107 1 + 1))) : opk m F8 F9 σ := by
  refine ⟨_, _, _, h8, h9 _ (fun o ho => zu_o ho), ?_⟩
  rw [zu_o (a := 107) (by decide)]
  exact h.err (e := 1) (by decide)
theorem e8_2 {k : Nat} {σ : ZS} : f8_error k (2 : Int32) σ = some ((-1000000002 : Int32), zu σ 94 2 (σ 94 2 + 1)) := by
  unfold f8_error
  rw [if_neg (by decide), if_neg (by decide), if_pos (by decide), if_pos (by decide), zput_eq]
  rfl
theorem e9_2 {k : Nat} {σ : ZS} : f9_error k (-1000000002 : Int32) σ = some ((-1000000002 : Int32), zu σ 107 2 (σ 107 2 + 1)) := by
  unfold f9_error
  rw [if_pos (by decide), if_pos (by decide), zput_eq]
  rfl
theorem opk_e2 {m : Nat} {F8 F9 : ZS → Option (Int32 × ZS)} {σ : ZS} (h : Rel m σ) (h8 : F8 σ = some ((-1000000002 : Int32), zu σ 94 2 (σ 94 2 + 1))) (h9 : ∀ s : ZS, (∀ o, o ≠ 94 → s o = σ o) → F9 s = some ((-1000000002 : Int32), zu s 107 2 (s 107 2 + 1))) : opk m F8 F9 σ := by
  refine ⟨_, _, _, h8, h9 _ (fun o ho => zu_o ho), ?_⟩
  rw [zu_o (a := 107) (by decide)]
  exact h.err (e := 2) (by decide)
theorem e8_3 {k : Nat} {σ : ZS} : f8_error k (3 : Int32) σ = some ((-1000000003 : Int32), zu σ 94 3 (σ 94 3 + 1)) := by
  unfold f8_error
  rw [if_neg (by decide), if_neg (by decide), if_pos (by decide), if_pos (by decide), zput_eq]
  rfl
theorem e9_3 {k : Nat} {σ : ZS} : f9_error k (-1000000003 : Int32) σ = some ((-1000000003 : Int32), zu σ 107 3 (σ 107 3 + 1)) := by
  unfold f9_error
  rw [if_pos (by decide), if_pos (by decide), zput_eq]
  rfl
theorem opk_e3 {m : Nat} {F8 F9 : ZS → Option (Int32 × ZS)} {σ : ZS} (h : Rel m σ) (h8 : F8 σ = some ((-1000000003 : Int32), zu σ 94 3 (σ 94 3 + 1))) (h9 : ∀ s : ZS, (∀ o, o ≠ 94 → s o = σ o) → F9 s = some ((-1000000003 : Int32), zu s 107 3 (s 107 3 + 1))) : opk m F8 F9 σ := by
  refine ⟨_, _, _, h8, h9 _ (fun o ho => zu_o ho), ?_⟩
  rw [zu_o (a := 107) (by decide)]
  exact h.err (e := 3) (by decide)
theorem e8_4 {k : Nat} {σ : ZS} : f8_error k (4 : Int32) σ = some ((-1000000004 : Int32), zu σ 94 4 (σ 94 4 + 1)) := by
  unfold f8_error
  rw [if_neg (by decide), if_neg (by decide), if_pos (by decide), if_pos (by decide), zput_eq]
  rfl
theorem e9_4 {k : Nat} {σ : ZS} : f9_error k (-1000000004 : Int32) σ = some ((-1000000004 : Int32), zu σ 107 4 (σ 107 4 + 1)) := by
  unfold f9_error
  rw [if_pos (by decide), if_pos (by decide), zput_eq]
  rfl
theorem opk_e4 {m : Nat} {F8 F9 : ZS → Option (Int32 × ZS)} {σ : ZS} (h : Rel m σ) (h8 : F8 σ = some ((-1000000004 : Int32), zu σ 94 4 (σ 94 4 + 1))) (h9 : ∀ s : ZS, (∀ o, o ≠ 94 → s o = σ o) → F9 s = some ((-1000000004 : Int32), zu s 107 4 (s 107 4 + 1))) : opk m F8 F9 σ := by
  refine ⟨_, _, _, h8, h9 _ (fun o ho => zu_o ho), ?_⟩
  rw [zu_o (a := 107) (by decide)]
  exact h.err (e := 4) (by decide)
theorem e8_5 {k : Nat} {σ : ZS} : f8_error k (5 : Int32) σ = some ((-1000000005 : Int32), zu σ 94 5 (σ 94 5 + 1)) := by
  unfold f8_error
  rw [if_neg (by decide), if_neg (by decide), if_pos (by decide), if_pos (by decide), zput_eq]
  rfl
theorem e9_5 {k : Nat} {σ : ZS} : f9_error k (-1000000005 : Int32) σ = some ((-1000000005 : Int32), zu σ 107 5 (σ 107 5 + 1)) := by
  unfold f9_error
  rw [if_pos (by decide), if_pos (by decide), zput_eq]
  rfl
theorem opk_e5 {m : Nat} {F8 F9 : ZS → Option (Int32 × ZS)} {σ : ZS} (h : Rel m σ) (h8 : F8 σ = some ((-1000000005 : Int32), zu σ 94 5 (σ 94 5 + 1))) (h9 : ∀ s : ZS, (∀ o, o ≠ 94 → s o = σ o) → F9 s = some ((-1000000005 : Int32), zu s 107 5 (s 107 5 + 1))) : opk m F8 F9 σ := by
  refine ⟨_, _, _, h8, h9 _ (fun o ho => zu_o ho), ?_⟩
  rw [zu_o (a := 107) (by decide)]
  exact h.err (e := 5) (by decide)
theorem e8_6 {k : Nat} {σ : ZS} : f8_error k (6 : Int32) σ = some ((-1000000006 : Int32), zu σ 94 6 (σ 94 6 + 1)) := by
  unfold f8_error
  rw [if_neg (by decide), if_neg (by decide), if_pos (by decide), if_pos (by decide), zput_eq]
  rfl
theorem e9_6 {k : Nat} {σ : ZS} : f9_error k (-1000000006 : Int32) σ = some ((-1000000006 : Int32), zu σ 107 6 (σ 107 6 + 1)) := by
  unfold f9_error
  rw [if_pos (by decide), if_pos (by decide), zput_eq]
  rfl
theorem opk_e6 {m : Nat} {F8 F9 : ZS → Option (Int32 × ZS)} {σ : ZS} (h : Rel m σ) (h8 : F8 σ = some ((-1000000006 : Int32), zu σ 94 6 (σ 94 6 + 1))) (h9 : ∀ s : ZS, (∀ o, o ≠ 94 → s o = σ o) → F9 s = some ((-1000000006 : Int32), zu s 107 6 (s 107 6 + 1))) : opk m F8 F9 σ := by
  refine ⟨_, _, _, h8, h9 _ (fun o ho => zu_o ho), ?_⟩
  rw [zu_o (a := 107) (by decide)]
  exact h.err (e := 6) (by decide)
theorem s9_glassAt {k : Nat} {c : Int32} {σ : ZS} (h : 0 ≤ (σ 104 2).toInt ∧ (σ 104 2).toInt ≤ 8) (hk : 9 ≤ k) : f9_glassAt k c σ = some (gat (σ 104) c, σ) := by
  have key : ∀ (d g n : Nat), (g : Int) + d = (σ 104 2).toInt → d < n → f9_glassAt_2 k n c (nI g) σ = some (gfi (σ 104) c d g, σ) := by
    intro d
    induction d with
    | zero =>
      intro g n hg hn
      obtain ⟨n, rfl⟩ : ∃ q, n = q + 1 := ⟨n - 1, by omega⟩
      have hgi : (nI g).toInt = g := nI_toInt (by omega)
      show b9_glassAt_2 k _ c (nI g) σ = _
      unfold b9_glassAt_2
      rw [if_pos (by rw [Int32.le_iff_toInt_le, hgi]; omega)]
      rfl
    | succ d ih =>
      intro g n hg hn
      obtain ⟨n, rfl⟩ : ∃ q, n = q + 1 := ⟨n - 1, by omega⟩
      have hgi : (nI g).toInt = g := nI_toInt (by omega)
      show b9_glassAt_2 k _ c (nI g) σ = _
      unfold b9_glassAt_2
      rw [if_neg (by rw [Int32.le_iff_toInt_le, hgi]; omega), s9_of (by omega) (by rw [t_2]; omega), zbd_some, hgi, t_2]
      show (if σ 104 (6 + 5 * g + 2) = c then _ else _) = some (if σ 104 (6 + 5 * g + 2) = c then nI g else gfi (σ 104) c d (g + 1), σ)
      by_cases hc : σ 104 (6 + 5 * g + 2) = c
      · rw [if_pos hc, if_pos hc]
      · rw [if_neg hc, if_neg hc, nI_1]
        exact ih (g + 1) n (by omega) (by omega)
  exact key (σ 104 2).toInt.toNat 0 k (by omega) (by omega)
theorem s5_glassAt {k t : Nat} {c : Int32} {σ : ZS} (ht : zsh t = 6) {R : Nat → Int32} (h : RS σ t R) (hc : 0 ≤ c.toInt ∧ c.toInt ≤ 63) : f5_glassAt k t c σ = some (gat R c, σ) := by
  unfold f5_glassAt
  rw [if_pos ht, if_neg (by (simp only [Int32.lt_iff_toInt_lt, Int32.le_iff_toInt_le, ← Int32.toInt_inj, t_m1000000006, t_m1000000005, t_m1000000004, t_m1000000003, t_m1000000002, t_m1000000001, t_m1000000000, t_m33, t_m10, t_m3, t_m2, t_m1, t_0, t_1, t_2, t_3, t_4, t_5, t_6, t_7, t_8, t_9, t_10, t_11, t_12, t_13, t_14, t_15, t_16, t_17, t_18, t_19, t_20, t_21, t_22, t_23, t_24, t_25, t_26, t_27, t_28, t_29, t_30, t_31, t_32, t_33, t_34, t_35, t_36, t_37, t_38, t_39, t_40, t_41, t_42, t_43, t_44, t_45, t_46, t_47, t_48, t_49, t_50, t_51, t_52, t_53, t_54, t_55, t_56, t_57, t_58, t_59, t_60, t_61, t_62, t_63, t_64, t_69, t_70, t_71, t_99, t_104, t_105, t_106, t_107, t_108, t_109, t_110, t_111, t_112, t_113, t_114, t_115, t_116, t_121, t_124, t_148, t_255, t_256, t_257, t_390, t_999, t_9999, t_12345, t_99999, t_1103515245] at *; omega)), if_pos (by (simp only [Int32.lt_iff_toInt_lt, Int32.le_iff_toInt_le, ← Int32.toInt_inj, t_m1000000006, t_m1000000005, t_m1000000004, t_m1000000003, t_m1000000002, t_m1000000001, t_m1000000000, t_m33, t_m10, t_m3, t_m2, t_m1, t_0, t_1, t_2, t_3, t_4, t_5, t_6, t_7, t_8, t_9, t_10, t_11, t_12, t_13, t_14, t_15, t_16, t_17, t_18, t_19, t_20, t_21, t_22, t_23, t_24, t_25, t_26, t_27, t_28, t_29, t_30, t_31, t_32, t_33, t_34, t_35, t_36, t_37, t_38, t_39, t_40, t_41, t_42, t_43, t_44, t_45, t_46, t_47, t_48, t_49, t_50, t_51, t_52, t_53, t_54, t_55, t_56, t_57, t_58, t_59, t_60, t_61, t_62, t_63, t_64, t_69, t_70, t_71, t_99, t_104, t_105, t_106, t_107, t_108, t_109, t_110, t_111, t_112, t_113, t_114, t_115, t_116, t_121, t_124, t_148, t_255, t_256, t_257, t_390, t_999, t_9999, t_12345, t_99999, t_1103515245] at *; omega)), if_pos (by rw [zin]; omega)]
  have h1 := h.2.2.2.2.2.1 c.toInt.toNat (by omega)
  rw [← i_nat hc.1] at h1
  exact congrArg (fun z => some (z, σ)) h1
theorem s5_glassOf {k t : Nat} {a : Int32} {σ : ZS} (ht : zsh t = 6) (h : (σ t 6).toInt ≤ 8) : f5_glassOf k t a σ = some (if 0 ≤ a.toInt ∧ a.toInt < (σ t 6).toInt then t + 7 + a.toInt.toNat else 0, σ) := by
  unfold f5_glassOf
  rw [if_pos ht]
  by_cases h1 : a < 0
  · rw [if_pos h1, if_neg (by (simp only [Int32.lt_iff_toInt_lt, Int32.le_iff_toInt_le, ← Int32.toInt_inj, t_m1000000006, t_m1000000005, t_m1000000004, t_m1000000003, t_m1000000002, t_m1000000001, t_m1000000000, t_m33, t_m10, t_m3, t_m2, t_m1, t_0, t_1, t_2, t_3, t_4, t_5, t_6, t_7, t_8, t_9, t_10, t_11, t_12, t_13, t_14, t_15, t_16, t_17, t_18, t_19, t_20, t_21, t_22, t_23, t_24, t_25, t_26, t_27, t_28, t_29, t_30, t_31, t_32, t_33, t_34, t_35, t_36, t_37, t_38, t_39, t_40, t_41, t_42, t_43, t_44, t_45, t_46, t_47, t_48, t_49, t_50, t_51, t_52, t_53, t_54, t_55, t_56, t_57, t_58, t_59, t_60, t_61, t_62, t_63, t_64, t_69, t_70, t_71, t_99, t_104, t_105, t_106, t_107, t_108, t_109, t_110, t_111, t_112, t_113, t_114, t_115, t_116, t_121, t_124, t_148, t_255, t_256, t_257, t_390, t_999, t_9999, t_12345, t_99999, t_1103515245] at *; omega))]
  · rw [if_neg h1]
    by_cases h2 : σ t 6 ≤ a
    · rw [if_pos h2, if_neg (by (simp only [Int32.lt_iff_toInt_lt, Int32.le_iff_toInt_le, ← Int32.toInt_inj, t_m1000000006, t_m1000000005, t_m1000000004, t_m1000000003, t_m1000000002, t_m1000000001, t_m1000000000, t_m33, t_m10, t_m3, t_m2, t_m1, t_0, t_1, t_2, t_3, t_4, t_5, t_6, t_7, t_8, t_9, t_10, t_11, t_12, t_13, t_14, t_15, t_16, t_17, t_18, t_19, t_20, t_21, t_22, t_23, t_24, t_25, t_26, t_27, t_28, t_29, t_30, t_31, t_32, t_33, t_34, t_35, t_36, t_37, t_38, t_39, t_40, t_41, t_42, t_43, t_44, t_45, t_46, t_47, t_48, t_49, t_50, t_51, t_52, t_53, t_54, t_55, t_56, t_57, t_58, t_59, t_60, t_61, t_62, t_63, t_64, t_69, t_70, t_71, t_99, t_104, t_105, t_106, t_107, t_108, t_109, t_110, t_111, t_112, t_113, t_114, t_115, t_116, t_121, t_124, t_148, t_255, t_256, t_257, t_390, t_999, t_9999, t_12345, t_99999, t_1103515245] at *; omega))]
    · rw [if_neg h2, if_pos (by (simp only [Int32.lt_iff_toInt_lt, Int32.le_iff_toInt_le, ← Int32.toInt_inj, t_m1000000006, t_m1000000005, t_m1000000004, t_m1000000003, t_m1000000002, t_m1000000001, t_m1000000000, t_m33, t_m10, t_m3, t_m2, t_m1, t_0, t_1, t_2, t_3, t_4, t_5, t_6, t_7, t_8, t_9, t_10, t_11, t_12, t_13, t_14, t_15, t_16, t_17, t_18, t_19, t_20, t_21, t_22, t_23, t_24, t_25, t_26, t_27, t_28, t_29, t_30, t_31, t_32, t_33, t_34, t_35, t_36, t_37, t_38, t_39, t_40, t_41, t_42, t_43, t_44, t_45, t_46, t_47, t_48, t_49, t_50, t_51, t_52, t_53, t_54, t_55, t_56, t_57, t_58, t_59, t_60, t_61, t_62, t_63, t_64, t_69, t_70, t_71, t_99, t_104, t_105, t_106, t_107, t_108, t_109, t_110, t_111, t_112, t_113, t_114, t_115, t_116, t_121, t_124, t_148, t_255, t_256, t_257, t_390, t_999, t_9999, t_12345, t_99999, t_1103515245] at *; omega)), if_pos (by (simp only [Int32.lt_iff_toInt_lt, Int32.le_iff_toInt_le, ← Int32.toInt_inj, t_m1000000006, t_m1000000005, t_m1000000004, t_m1000000003, t_m1000000002, t_m1000000001, t_m1000000000, t_m33, t_m10, t_m3, t_m2, t_m1, t_0, t_1, t_2, t_3, t_4, t_5, t_6, t_7, t_8, t_9, t_10, t_11, t_12, t_13, t_14, t_15, t_16, t_17, t_18, t_19, t_20, t_21, t_22, t_23, t_24, t_25, t_26, t_27, t_28, t_29, t_30, t_31, t_32, t_33, t_34, t_35, t_36, t_37, t_38, t_39, t_40, t_41, t_42, t_43, t_44, t_45, t_46, t_47, t_48, t_49, t_50, t_51, t_52, t_53, t_54, t_55, t_56, t_57, t_58, t_59, t_60, t_61, t_62, t_63, t_64, t_69, t_70, t_71, t_99, t_104, t_105, t_106, t_107, t_108, t_109, t_110, t_111, t_112, t_113, t_114, t_115, t_116, t_121, t_124, t_148, t_255, t_256, t_257, t_390, t_999, t_9999, t_12345, t_99999, t_1103515245] at *; omega)), if_pos (by (simp only [Int32.lt_iff_toInt_lt, Int32.le_iff_toInt_le, ← Int32.toInt_inj, t_m1000000006, t_m1000000005, t_m1000000004, t_m1000000003, t_m1000000002, t_m1000000001, t_m1000000000, t_m33, t_m10, t_m3, t_m2, t_m1, t_0, t_1, t_2, t_3, t_4, t_5, t_6, t_7, t_8, t_9, t_10, t_11, t_12, t_13, t_14, t_15, t_16, t_17, t_18, t_19, t_20, t_21, t_22, t_23, t_24, t_25, t_26, t_27, t_28, t_29, t_30, t_31, t_32, t_33, t_34, t_35, t_36, t_37, t_38, t_39, t_40, t_41, t_42, t_43, t_44, t_45, t_46, t_47, t_48, t_49, t_50, t_51, t_52, t_53, t_54, t_55, t_56, t_57, t_58, t_59, t_60, t_61, t_62, t_63, t_64, t_69, t_70, t_71, t_99, t_104, t_105, t_106, t_107, t_108, t_109, t_110, t_111, t_112, t_113, t_114, t_115, t_116, t_121, t_124, t_148, t_255, t_256, t_257, t_390, t_999, t_9999, t_12345, t_99999, t_1103515245] at *; omega))]
      rfl
theorem s5_personOf {k t : Nat} {a : Int32} {σ : ZS} (ht : zsh t = 6) (h : (σ t 7).toInt ≤ 6) : f5_personOf k t a σ = some (if 0 ≤ a.toInt ∧ a.toInt < (σ t 7).toInt then t + 15 + a.toInt.toNat else 0, σ) := by
  unfold f5_personOf
  rw [if_pos ht]
  by_cases h1 : a < 0
  · rw [if_pos h1, if_neg (by (simp only [Int32.lt_iff_toInt_lt, Int32.le_iff_toInt_le, ← Int32.toInt_inj, t_m1000000006, t_m1000000005, t_m1000000004, t_m1000000003, t_m1000000002, t_m1000000001, t_m1000000000, t_m33, t_m10, t_m3, t_m2, t_m1, t_0, t_1, t_2, t_3, t_4, t_5, t_6, t_7, t_8, t_9, t_10, t_11, t_12, t_13, t_14, t_15, t_16, t_17, t_18, t_19, t_20, t_21, t_22, t_23, t_24, t_25, t_26, t_27, t_28, t_29, t_30, t_31, t_32, t_33, t_34, t_35, t_36, t_37, t_38, t_39, t_40, t_41, t_42, t_43, t_44, t_45, t_46, t_47, t_48, t_49, t_50, t_51, t_52, t_53, t_54, t_55, t_56, t_57, t_58, t_59, t_60, t_61, t_62, t_63, t_64, t_69, t_70, t_71, t_99, t_104, t_105, t_106, t_107, t_108, t_109, t_110, t_111, t_112, t_113, t_114, t_115, t_116, t_121, t_124, t_148, t_255, t_256, t_257, t_390, t_999, t_9999, t_12345, t_99999, t_1103515245] at *; omega))]
  · rw [if_neg h1]
    by_cases h2 : σ t 7 ≤ a
    · rw [if_pos h2, if_neg (by (simp only [Int32.lt_iff_toInt_lt, Int32.le_iff_toInt_le, ← Int32.toInt_inj, t_m1000000006, t_m1000000005, t_m1000000004, t_m1000000003, t_m1000000002, t_m1000000001, t_m1000000000, t_m33, t_m10, t_m3, t_m2, t_m1, t_0, t_1, t_2, t_3, t_4, t_5, t_6, t_7, t_8, t_9, t_10, t_11, t_12, t_13, t_14, t_15, t_16, t_17, t_18, t_19, t_20, t_21, t_22, t_23, t_24, t_25, t_26, t_27, t_28, t_29, t_30, t_31, t_32, t_33, t_34, t_35, t_36, t_37, t_38, t_39, t_40, t_41, t_42, t_43, t_44, t_45, t_46, t_47, t_48, t_49, t_50, t_51, t_52, t_53, t_54, t_55, t_56, t_57, t_58, t_59, t_60, t_61, t_62, t_63, t_64, t_69, t_70, t_71, t_99, t_104, t_105, t_106, t_107, t_108, t_109, t_110, t_111, t_112, t_113, t_114, t_115, t_116, t_121, t_124, t_148, t_255, t_256, t_257, t_390, t_999, t_9999, t_12345, t_99999, t_1103515245] at *; omega))]
    · rw [if_neg h2, if_pos (by (simp only [Int32.lt_iff_toInt_lt, Int32.le_iff_toInt_le, ← Int32.toInt_inj, t_m1000000006, t_m1000000005, t_m1000000004, t_m1000000003, t_m1000000002, t_m1000000001, t_m1000000000, t_m33, t_m10, t_m3, t_m2, t_m1, t_0, t_1, t_2, t_3, t_4, t_5, t_6, t_7, t_8, t_9, t_10, t_11, t_12, t_13, t_14, t_15, t_16, t_17, t_18, t_19, t_20, t_21, t_22, t_23, t_24, t_25, t_26, t_27, t_28, t_29, t_30, t_31, t_32, t_33, t_34, t_35, t_36, t_37, t_38, t_39, t_40, t_41, t_42, t_43, t_44, t_45, t_46, t_47, t_48, t_49, t_50, t_51, t_52, t_53, t_54, t_55, t_56, t_57, t_58, t_59, t_60, t_61, t_62, t_63, t_64, t_69, t_70, t_71, t_99, t_104, t_105, t_106, t_107, t_108, t_109, t_110, t_111, t_112, t_113, t_114, t_115, t_116, t_121, t_124, t_148, t_255, t_256, t_257, t_390, t_999, t_9999, t_12345, t_99999, t_1103515245] at *; omega)), if_pos (by (simp only [Int32.lt_iff_toInt_lt, Int32.le_iff_toInt_le, ← Int32.toInt_inj, t_m1000000006, t_m1000000005, t_m1000000004, t_m1000000003, t_m1000000002, t_m1000000001, t_m1000000000, t_m33, t_m10, t_m3, t_m2, t_m1, t_0, t_1, t_2, t_3, t_4, t_5, t_6, t_7, t_8, t_9, t_10, t_11, t_12, t_13, t_14, t_15, t_16, t_17, t_18, t_19, t_20, t_21, t_22, t_23, t_24, t_25, t_26, t_27, t_28, t_29, t_30, t_31, t_32, t_33, t_34, t_35, t_36, t_37, t_38, t_39, t_40, t_41, t_42, t_43, t_44, t_45, t_46, t_47, t_48, t_49, t_50, t_51, t_52, t_53, t_54, t_55, t_56, t_57, t_58, t_59, t_60, t_61, t_62, t_63, t_64, t_69, t_70, t_71, t_99, t_104, t_105, t_106, t_107, t_108, t_109, t_110, t_111, t_112, t_113, t_114, t_115, t_116, t_121, t_124, t_148, t_255, t_256, t_257, t_390, t_999, t_9999, t_12345, t_99999, t_1103515245] at *; omega)), if_pos (by (simp only [Int32.lt_iff_toInt_lt, Int32.le_iff_toInt_le, ← Int32.toInt_inj, t_m1000000006, t_m1000000005, t_m1000000004, t_m1000000003, t_m1000000002, t_m1000000001, t_m1000000000, t_m33, t_m10, t_m3, t_m2, t_m1, t_0, t_1, t_2, t_3, t_4, t_5, t_6, t_7, t_8, t_9, t_10, t_11, t_12, t_13, t_14, t_15, t_16, t_17, t_18, t_19, t_20, t_21, t_22, t_23, t_24, t_25, t_26, t_27, t_28, t_29, t_30, t_31, t_32, t_33, t_34, t_35, t_36, t_37, t_38, t_39, t_40, t_41, t_42, t_43, t_44, t_45, t_46, t_47, t_48, t_49, t_50, t_51, t_52, t_53, t_54, t_55, t_56, t_57, t_58, t_59, t_60, t_61, t_62, t_63, t_64, t_69, t_70, t_71, t_99, t_104, t_105, t_106, t_107, t_108, t_109, t_110, t_111, t_112, t_113, t_114, t_115, t_116, t_121, t_124, t_148, t_255, t_256, t_257, t_390, t_999, t_9999, t_12345, t_99999, t_1103515245] at *; omega))]
      rfl
