/-! voices: what is said, and the class -/
def trw (b : Nat → Int32) (T : List Int32) : Nat → Int32 := fun i => if i < T.length then T.getD i 0 else b i
theorem trw_snoc {b : Nat → Int32} {T : List Int32} {v : Int32} : upd (trw b T) T.length v = trw b (T ++ [v]) := by
  funext i
  unfold trw
  have hl : (T ++ [v]).length = T.length + 1 := by rw [List.length_append]; rfl
  rw [hl]
  by_cases c : i = T.length
  · subst c
    rw [upd_at, if_pos (by omega)]
    simp
  · rw [upd_ne c]
    by_cases c2 : i < T.length
    · rw [if_pos c2, if_pos (by omega), List.getD_eq_getElem?_getD, List.getD_eq_getElem?_getD, List.getElem?_append_left c2]
    · rw [if_neg c2, if_neg (by omega)]
theorem trw_nil {b : Nat → Int32} : trw b [] = b := by
  funext i
  exact if_neg (by simp)
def vg (K a x : Int32) : Int32 := if K = 1 then x + a - 4 else if K = 4 then (x + a - 4) * 3 else if K = 6 then 9 else x + a
def tg (K : Int32) : List Int32 := if K = 1 then [20, 10] else if K = 4 then [50, 20, 10] else if K = 6 then [70] else [10]
def vi (K J a mm x : Int32) : Int32 := if J = 2 then 0 - vg K a x * 2 else if J = 5 then 0 - vg K a (x + 1) * 2 else if J = 6 then vg K a x * 2 + mm else vg K a x * 2
def ti (K J : Int32) : List Int32 := if J = 2 then 30 :: 11 :: tg K else if J = 5 then 60 :: 30 :: 11 :: tg K else if J = 6 then 71 :: 11 :: tg K else 11 :: tg K
def vf (K J a mm x : Int32) : Int32 := if J = 3 then vi K K a mm (x / 2) - mm else if J = 4 then (vi K K a mm x - mm) ^^^ a else vi K K a mm x - mm
def tf (K J : Int32) : List Int32 := if J = 3 then 40 :: 12 :: ti K K else if J = 4 then 51 :: 12 :: ti K K else 12 :: ti K K
def vp (K a mm x : Int32) : Int32 := if K = 1 then x / (mm - a) + vi K K a mm 1 else if K = 4 then x / (mm - a) + vi K K a mm 1 else x / (mm - a)
def tp (K a mm : Int32) : List Int32 := if K = 1 then 21 :: 13 :: (if mm - a = 0 then [] else ti K K) else if K = 4 then 21 :: 13 :: (if mm - a = 0 then [] else ti K K) else [13]
theorem tg_len (K : Int32) : (tg K).length ≤ 3 := by
  unfold tg
  split
  · exact by decide
  · split
    · exact by decide
    · split
      · exact by decide
      · exact by decide
theorem ti_len (K J : Int32) : (ti K J).length ≤ 6 := by
  have := tg_len K
  unfold ti
  split
  · show (tg K).length + 1 + 1 ≤ 6; omega
  · split
    · show (tg K).length + 1 + 1 + 1 ≤ 6; omega
    · split
      · show (tg K).length + 1 + 1 ≤ 6; omega
      · show (tg K).length + 1 ≤ 6; omega
section
variable {k : Nat} {K a mm : Int32} {b : Nat → Int32} {T : List Int32} {σ : ZS}
def VS (K a mm : Int32) (b : Nat → Int32) (T : List Int32) (σ : ZS) : Prop := σ 90 1 = nI T.length ∧ σ 91 = trw b T ∧ σ 90 2 = 0 ∧ σ 90 3 = K ∧ σ 90 4 = a ∧ σ 90 5 = mm
def VF (s s' : ZS) : Prop := ∀ o, o ≠ 90 → o ≠ 91 → s' o = s o
theorem bod0 (hk : 10 ≤ k) {J : Int32} (hJ : W7 J) (s : ZS) : f7_bodyFrom k J 0 s = some (if J = 1 then 20 else if J = 4 then 50 else if J = 6 then 70 else 10, s) := by
  obtain ⟨k, rfl⟩ : ∃ q, k = q + 10 := ⟨k - 10, by omega⟩
  rcases hJ with rfl | rfl | rfl | rfl | rfl | rfl | rfl
  all_goals rfl
theorem bod1 (hk : 10 ≤ k) {J : Int32} (hJ : W7 J) (s : ZS) : f7_bodyFrom k J 1 s = some (if J = 2 then 30 else if J = 5 then 60 else if J = 6 then 71 else 11, s) := by
  obtain ⟨k, rfl⟩ : ∃ q, k = q + 10 := ⟨k - 10, by omega⟩
  rcases hJ with rfl | rfl | rfl | rfl | rfl | rfl | rfl
  all_goals rfl
theorem bod2 (hk : 10 ≤ k) {J : Int32} (hJ : W7 J) (s : ZS) : f7_bodyFrom k J 2 s = some (if J = 3 then 40 else if J = 4 then 51 else 12, s) := by
  obtain ⟨k, rfl⟩ : ∃ q, k = q + 10 := ⟨k - 10, by omega⟩
  rcases hJ with rfl | rfl | rfl | rfl | rfl | rfl | rfl
  all_goals rfl
theorem bod3 (hk : 10 ≤ k) {J : Int32} (hJ : W7 J) (s : ZS) : f7_bodyFrom k J 3 s = some (if J = 1 then 21 else if J = 4 then 21 else 13, s) := by
  obtain ⟨k, rfl⟩ : ∃ q, k = q + 10 := ⟨k - 10, by omega⟩
  rcases hJ with rfl | rfl | rfl | rfl | rfl | rfl | rfl
  all_goals rfl
theorem say8 {D d : Nat} {J w x u : Int32} (hV : VS K a mm b T σ) (hT : T.length < 30) (hd : d ≤ 30) (hb : ∀ s, f7_bodyFrom k J w s = some (u, s)) : ∃ s1, fVO k (D + 1) 0 [J, w, x, nI d] σ = b7_say_63 k (fVO k D) x (nI d) u s1 ∧ VS K a mm b (T ++ [u]) s1 ∧ VF σ s1 := by
  obtain ⟨h1, h2, h3, h4, h5, h6⟩ := hV
  refine ⟨zu (zu σ 91 T.length u) 90 1 (nI (T.length + 1)), ?_, ⟨?_, ?_, ?_, ?_, ?_, ?_⟩, fun o q1 q2 => by rw [zu_o q1, zu_o q2]⟩
  · show f7_say k (fVO k D) J w x (nI d) σ = _
    rw [f7_say, if_pos h3, if_pos (by rw [Int32.le_iff_toInt_le, nI_toInt (by omega), t_30]; omega), hb, zbd_some, h1, if_neg (by rw [Int32.lt_iff_toInt_lt, nI_toInt (by omega), t_0]; omega), if_neg (by rw [Int32.le_iff_toInt_le, nI_toInt (by omega), t_30]; omega), if_pos (nI_z (by omega) (by decide)), zput_eq, zput_eq, nI_nat (by omega), zu_o (a := 90) (by decide), h1, nI_1]
  · rw [zu_at, List.length_append]; rfl
  · rw [zu_o (by decide), zu_self, h2, trw_snoc]
  · rw [zu_k (by decide), zu_o (by decide)]; exact h3
  · rw [zu_k (by decide), zu_o (by decide)]; exact h4
  · rw [zu_k (by decide), zu_o (by decide)]; exact h5
  · rw [zu_k (by decide), zu_o (by decide)]; exact h6
/-- a call that is answered so, with these words behind the others -/
def Sd (k : Nat) (K a mm : Int32) (b : Nat → Int32) (T : List Int32) (σ : ZS) (D d : Nat) (J w x v : Int32) (tr : List Int32) : Prop := ∃ s', fVO k D 0 [J, w, x, nI d] σ = some (v, s') ∧ VS K a mm b (T ++ tr) s' ∧ VF σ s'
theorem Sd.of {D d : Nat} {J w x u v : Int32} {tr : List Int32} (hV : VS K a mm b T σ) (hT : T.length < 30) (hd : d ≤ 30) (hb : ∀ s, f7_bodyFrom k J w s = some (u, s)) (hh : ∀ s1, VS K a mm b (T ++ [u]) s1 → ∃ s', b7_say_63 k (fVO k D) x (nI d) u s1 = some (v, s') ∧ VS K a mm b (T ++ [u] ++ tr) s' ∧ VF s1 s') : Sd k K a mm b T σ (D + 1) d J w x v (u :: tr) := by
  obtain ⟨s1, e1, e2, e3⟩ := say8 (D := D) (x := x) hV hT hd hb
  obtain ⟨s', f1, f2, f3⟩ := hh s1 e2
  refine ⟨s', e1.trans f1, ?_, fun o q1 q2 => by rw [f3 o q1 q2, e3 o q1 q2]⟩
  rw [show T ++ u :: tr = T ++ [u] ++ tr by rw [List.append_assoc]; rfl]
  exact f2
theorem ln1 {u : Int32} : (T ++ [u]).length = T.length + 1 := by rw [List.length_append]; rfl
theorem gle8 (hk : 10 ≤ k) {J x : Int32} (hJ : W7 J) {D d : Nat} (hD : 8 ≤ D) (hd : d ≤ 25) (hT : T.length ≤ 25) (hV : VS K a mm b T σ) : Sd k K a mm b T σ D d J 0 x (vg J a x) (tg J) := by
  have g10 : ∀ (D d : Nat) (T : List Int32) (s : ZS) (J : Int32), 2 ≤ D → d ≤ 30 → T.length < 30 → VS K a mm b T s → (∀ z, f7_bodyFrom k J 0 z = some (10, z)) → Sd k K a mm b T s D d J 0 x (x + a) [10] := by
    intro D d T s J hD hd hT hV hb
    obtain ⟨D, rfl⟩ : ∃ q, D = q + 2 := ⟨D - 2, by omega⟩
    refine Sd.of hV hT hd hb fun s1 h1 => ⟨s1, ?_, by rw [List.append_nil]; exact h1, fun _ _ _ => rfl⟩
    show (zbd (f7_sayGlass k (fVO k D) 10 x (nI d + 1) s1) fun r s => some (r, s)) = _
    rw [f7_sayGlass, if_pos rfl, zbd_some, h1.2.2.2.2.1]
  have b00 : ∀ z, f7_bodyFrom k 0 0 z = some (10, z) := fun z => bod0 hk (Or.inl rfl) z
  have g20 : ∀ (D d : Nat) (T : List Int32) (s : ZS) (J : Int32), 4 ≤ D → d ≤ 29 → T.length < 29 → VS K a mm b T s → (∀ z, f7_bodyFrom k J 0 z = some (20, z)) → Sd k K a mm b T s D d J 0 x (x + a - 4) [20, 10] := by
    intro D d T s J hD hd hT hV hb
    obtain ⟨D, rfl⟩ : ∃ q, D = q + 2 := ⟨D - 2, by omega⟩
    refine Sd.of hV (by omega) (by omega) hb fun s1 h1 => ?_
    obtain ⟨s', f1, f2, f3⟩ := g10 D (d + 1) (T ++ [20]) s1 0 (by omega) (by omega) (by rw [ln1]; omega) h1 b00
    refine ⟨s', ?_, f2, f3⟩
    show (zbd (f7_saySpoon k (fVO k D) 20 x (nI d + 1) s1) fun r s => some (r, s)) = _
    rw [f7_saySpoon, if_pos rfl, nI_1, f1, zbd_some, zbd_some]
  have b10 : ∀ z, f7_bodyFrom k 1 0 z = some (20, z) := fun z => bod0 hk (Or.inr (Or.inl rfl)) z
  have b40 : ∀ z, f7_bodyFrom k 4 0 z = some (50, z) := fun z => bod0 hk (Or.inr (Or.inr (Or.inr (Or.inr (Or.inl rfl))))) z
  have b60 : ∀ z, f7_bodyFrom k 6 0 z = some (70, z) := fun z => bod0 hk (Or.inr (Or.inr (Or.inr (Or.inr (Or.inr (Or.inr rfl)))))) z
  have hJ' := hJ
  rcases hJ with rfl | rfl | rfl | rfl | rfl | rfl | rfl
  · exact g10 D d T σ 0 (by omega) (by omega) (by omega) hV b00
  · exact g20 D d T σ 1 (by omega) (by omega) (by omega) hV b10
  · exact g10 D d T σ 2 (by omega) (by omega) (by omega) hV fun z => bod0 hk hJ' z
  · exact g10 D d T σ 3 (by omega) (by omega) (by omega) hV fun z => bod0 hk hJ' z
  · obtain ⟨D, rfl⟩ : ∃ q, D = q + 2 := ⟨D - 2, by omega⟩
    refine Sd.of hV (by omega) (by omega) b40 fun s1 h1 => ?_
    obtain ⟨s', f1, f2, f3⟩ := g20 D (d + 1) (T ++ [50]) s1 1 (by omega) (by omega) (by rw [ln1]; omega) h1 b10
    refine ⟨s', ?_, f2, f3⟩
    show (zbd (f7_sayBowl k (fVO k D) 50 x (nI d + 1) s1) fun r s => some (r, s)) = _
    rw [f7_sayBowl, if_pos rfl, nI_1, f1, zbd_some, zbd_some]
    rfl
  · exact g10 D d T σ 5 (by omega) (by omega) (by omega) hV fun z => bod0 hk hJ' z
  · obtain ⟨D, rfl⟩ : ∃ q, D = q + 2 := ⟨D - 2, by omega⟩
    refine Sd.of hV (by omega) (by omega) b60 fun s1 h1 => ⟨s1, ?_, by rw [List.append_nil]; exact h1, fun _ _ _ => rfl⟩
    show (zbd (f7_saySilvered k (fVO k D) 70 x (nI d + 1) s1) fun r s => some (r, s)) = _
    rw [f7_saySilvered, if_pos rfl, zbd_some]
    rfl
end
