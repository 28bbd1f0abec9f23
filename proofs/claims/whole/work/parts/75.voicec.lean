/-! voices, as the model says them -/
section
variable {k : Nat} {a x : Int32} {b R : Nat → Int32} {T : List Int32} {s : ZS}
def VM (R b : Nat → Int32) (T : List Int32) (s : ZS) : Prop := s 104 = R ∧ s 103 25 = nI T.length ∧ s 118 = trw b T ∧ s 103 26 = 0
def MF (s s' : ZS) : Prop := (∀ o, o ≠ 103 → o ≠ 118 → s' o = s o) ∧ ∀ i, i ≠ 25 → i ≠ 26 → s' 103 i = s 103 i
theorem MF.rf : MF s s := ⟨fun _ _ _ => rfl, fun _ _ _ => rfl⟩
theorem MF.tr {s1 s2 s3 : ZS} (h1 : MF s1 s2) (h2 : MF s2 s3) : MF s1 s3 := ⟨fun o q1 q2 => by rw [h2.1 o q1 q2, h1.1 o q1 q2], fun i q1 q2 => by rw [h2.2 i q1 q2, h1.2 i q1 q2]⟩
theorem beg9 (u : Int32) (hT : T.length < 30) (h : VM R b T s) : ∃ s1, f9_begins k u s = some ((), s1) ∧ VM R b (T ++ [u]) s1 ∧ MF s s1 := by
  obtain ⟨h0, h1, h2, h3⟩ := h
  refine ⟨zu (zu s 118 T.length u) 103 25 (nI (T.length + 1)), ?_, ⟨?_, ?_, ?_, ?_⟩, fun o q1 q2 => by rw [zu_o q1, zu_o q2], fun i q1 q2 => by rw [zu_k q1, zu_o (by decide)]⟩
  · rw [f9_begins, h1, if_neg (by rw [Int32.le_iff_toInt_le, nI_toInt (by omega), t_30]; omega), if_pos (nI_z (by omega) (by decide)), zput_eq, zput_eq, nI_nat (by omega), zu_o (a := 103) (by decide), h1, nI_1]
  · rw [zu_o (by decide), zu_o (by decide)]; exact h0
  · rw [zu_at, List.length_append]; rfl
  · rw [zu_o (by decide), zu_self, h2, trw_snoc]
  · rw [zu_k (by decide), zu_o (by decide)]; exact h3
def Md (F : ZS → Option (Int32 × ZS)) (R b : Nat → Int32) (T : List Int32) (s : ZS) (v : Int32) (tr : List Int32) : Prop := ∃ s', F s = some (v, s') ∧ VM R b (T ++ tr) s' ∧ MF s s'
/-- a word first, and then the rest -/
theorem Md.beg {F : ZS → Option (Int32 × ZS)} {u v : Int32} {tr : List Int32} (hT : T.length < 30) (h : VM R b T s) (hF : ∀ s1, VM R b (T ++ [u]) s1 → Md F R b (T ++ [u]) s1 v tr) : Md (fun s => zbd (f9_begins k u s) fun _ s1 => F s1) R b T s v (u :: tr) := by
  obtain ⟨s1, e1, e2, e3⟩ := beg9 (k := k) u hT h
  obtain ⟨s', f1, f2, f3⟩ := hF s1 e2
  refine ⟨s', ?_, ?_, e3.tr f3⟩
  · show zbd (f9_begins k u s) _ = _
    rw [e1, zbd_some]
    exact f1
  · rw [show T ++ u :: tr = T ++ [u] ++ tr by rw [List.append_assoc]; rfl]
    exact f2
/-- what comes behind changes the number alone -/
theorem Md.af {F : ZS → Option (Int32 × ZS)} {v w : Int32} {tr : List Int32} {G : Int32 → ZS → Option (Int32 × ZS)} (hF : Md F R b T s v tr) (hG : ∀ z, z 104 = R → G v z = some (w, z)) : Md (fun s => zbd (F s) G) R b T s w tr := by
  obtain ⟨s', f1, f2, f3⟩ := hF
  refine ⟨s', ?_, f2, f3⟩
  show zbd (F s) G = _
  rw [f1, zbd_some]
  exact hG s' f2.1
theorem Md.rt {v : Int32} (h : VM R b T s) : Md (fun s => some (v, s)) R b T s v [] := ⟨s, rfl, by rw [List.append_nil]; exact h, MF.rf⟩
theorem pG9 (hT : T.length < 30) (h : VM R b T s) : Md (f9_plainGleams k a x) R b T s (x + a) [10] := Md.beg hT h fun s1 h1 => Md.rt h1
theorem sG9 (hT : T.length < 29) (h : VM R b T s) : Md (f9_spoonGleams k a x) R b T s (x + a - 4) [20, 10] := Md.beg (by omega) h fun s1 h1 => (pG9 (by rw [ln1]; omega) h1).af fun z _ => rfl
variable {K mm : Int32}
theorem of0 (ha : 0 ≤ a.toInt ∧ a.toInt < 8) (eK : R (6 + 5 * a.toInt.toNat + 0) = K) {z : ZS} (hz : z 104 = R) : f9_of k a 0 z = some (K, z) := by
  rw [s9_of (by omega) (by rw [t_0]; omega), hz, t_0, ← eK]; rfl
theorem of1 (ha : 0 ≤ a.toInt ∧ a.toInt < 8) (eM : R (6 + 5 * a.toInt.toNat + 1) = mm) {z : ZS} (hz : z 104 = R) : f9_of k a 1 z = some (mm, z) := by
  rw [s9_of (by omega) (by rw [t_1]; omega), hz, t_1, ← eM]; rfl
theorem gle9 (ha : 0 ≤ a.toInt ∧ a.toInt < 8) (eK : R (6 + 5 * a.toInt.toNat + 0) = K) (hK : W7 K) (hT : T.length < 28) (h : VM R b T s) : Md (f9_gleams k a x) R b T s (vg K a x) (tg K) := by
  have P := fun (T : List Int32) (s : ZS) (hT : T.length < 30) (h : VM R b T s) => (pG9 (k := k) (a := a) (x := x) hT h).af (G := fun r s => some (r, s)) (w := x + a) fun z _ => rfl
  have hof := of0 (k := k) ha eK h.1
  unfold Md f9_gleams
  rw [hof, zbd_some]
  rcases hK with rfl | rfl | rfl | rfl | rfl | rfl | rfl
  · rw [if_neg (by decide), if_neg (by decide), if_neg (by decide)]
    exact P T s (by omega) h
  · rw [if_pos rfl]
    exact (sG9 (by omega) h).af fun z _ => rfl
  · rw [if_neg (by decide), if_neg (by decide), if_neg (by decide)]
    exact P T s (by omega) h
  · rw [if_neg (by decide), if_neg (by decide), if_neg (by decide)]
    exact P T s (by omega) h
  · rw [if_neg (by decide), if_pos rfl]
    exact Md.beg (u := 50) (v := (x + a - 4) * 3) (tr := [20, 10]) (F := fun s5 => zbd (f9_spoonGleams k a x s5) fun r6 s6 => some (r6 * 3, s6)) (by omega) h fun s1 h1 => (sG9 (by rw [ln1]; omega) h1).af fun z _ => rfl
  · rw [if_neg (by decide), if_neg (by decide), if_neg (by decide)]
    exact P T s (by omega) h
  · rw [if_neg (by decide), if_neg (by decide), if_pos rfl]
    exact Md.beg (u := 70) (v := 9) (tr := []) (F := fun s8 => some (9, s8)) (by omega) h fun s1 h1 => Md.rt h1
theorem pI9 (ha : 0 ≤ a.toInt ∧ a.toInt < 8) (eK : R (6 + 5 * a.toInt.toNat + 0) = K) (hK : W7 K) (hT : T.length < 27) (h : VM R b T s) : Md (f9_plainGlints k a x) R b T s (vg K a x * 2) (11 :: tg K) := Md.beg (by omega) h fun s1 h1 => (gle9 ha eK hK (by rw [ln1]; omega) h1).af fun z _ => rfl
theorem nI9 (ha : 0 ≤ a.toInt ∧ a.toInt < 8) (eK : R (6 + 5 * a.toInt.toNat + 0) = K) (hK : W7 K) (hT : T.length < 26) (h : VM R b T s) : Md (f9_paneGlints k a x) R b T s (0 - vg K a x * 2) (30 :: 11 :: tg K) := Md.beg (by omega) h fun s1 h1 => (pI9 ha eK hK (by rw [ln1]; omega) h1).af fun z _ => by rw [Int32.zero_sub]
theorem gli9 (ha : 0 ≤ a.toInt ∧ a.toInt < 8) (eK : R (6 + 5 * a.toInt.toNat + 0) = K) (eM : R (6 + 5 * a.toInt.toNat + 1) = mm) (hK : W7 K) (hT : T.length < 25) (h : VM R b T s) : Md (f9_glints k a x) R b T s (vi K K a mm x) (ti K K) := by
  have P := (pI9 (k := k) (x := x) ha eK hK (show T.length < 27 by omega) h).af (G := fun r s => some (r, s)) fun z _ => rfl
  have hK' := hK
  have hof := of0 (k := k) ha eK h.1
  unfold Md f9_glints
  rw [hof, zbd_some]
  rcases hK with rfl | rfl | rfl | rfl | rfl | rfl | rfl
  · rw [if_neg (by decide), if_neg (by decide), if_neg (by decide), if_neg (by decide), if_neg (by decide)]
    exact P
  · rw [if_neg (by decide), if_neg (by decide), if_neg (by decide), if_neg (by decide), if_neg (by decide)]
    exact P
  · rw [if_pos rfl]
    exact (nI9 ha eK hK' (by omega) h).af fun z _ => rfl
  · rw [if_neg (by decide), if_pos rfl]
    exact P
  · rw [if_neg (by decide), if_neg (by decide), if_pos rfl]
    exact P
  · rw [if_neg (by decide), if_neg (by decide), if_neg (by decide), if_pos rfl]
    exact Md.beg (u := 60) (tr := 30 :: 11 :: tg 5) (v := 0 - vg 5 a (x + 1) * 2) (F := fun s9 => zbd (f9_paneGlints k a (x + 1) s9) fun r10 s10 => some (r10, s10)) (by omega) h fun s1 h1 => (nI9 ha eK hK' (by rw [ln1]; omega) h1).af fun z _ => rfl
  · rw [if_neg (by decide), if_neg (by decide), if_neg (by decide), if_neg (by decide), if_pos rfl]
    exact Md.beg (u := 71) (tr := 11 :: tg 6) (v := vg 6 a x * 2 + mm) (F := fun s9 => zbd (f9_plainGlints k a x s9) fun r13 s13 => zbd (f9_of k a 1 s13) fun r14 s14 => some (r13 + r14, s14)) (by omega) h fun s1 h1 => (pI9 ha eK hK' (by rw [ln1]; omega) h1).af fun z hz => by rw [of1 ha eM hz, zbd_some]
theorem pF9 (ha : 0 ≤ a.toInt ∧ a.toInt < 8) (eK : R (6 + 5 * a.toInt.toNat + 0) = K) (eM : R (6 + 5 * a.toInt.toNat + 1) = mm) (hK : W7 K) (hT : T.length < 24) (h : VM R b T s) : Md (f9_plainFades k a x) R b T s (vi K K a mm x - mm) (12 :: ti K K) := Md.beg (by omega) h fun s1 h1 => (gli9 ha eK eM hK (by rw [ln1]; omega) h1).af fun z hz => by rw [of1 ha eM hz, zbd_some]
theorem fad9 (ha : 0 ≤ a.toInt ∧ a.toInt < 8) (eK : R (6 + 5 * a.toInt.toNat + 0) = K) (eM : R (6 + 5 * a.toInt.toNat + 1) = mm) (hK : W7 K) (hT : T.length < 23) (h : VM R b T s) : Md (f9_fades k a x) R b T s (vf K K a mm x) (tf K K) := by
  have P := (pF9 (k := k) (x := x) ha eK eM hK (show T.length < 24 by omega) h).af (G := fun r s => some (r, s)) fun z _ => rfl
  have hK' := hK
  have hof := of0 (k := k) ha eK h.1
  unfold Md f9_fades
  rw [hof, zbd_some]
  rcases hK with rfl | rfl | rfl | rfl | rfl | rfl | rfl
  · rw [if_neg (by decide), if_neg (by decide)]; exact P
  · rw [if_neg (by decide), if_neg (by decide)]; exact P
  · rw [if_neg (by decide), if_neg (by decide)]; exact P
  · rw [if_pos rfl]
    exact Md.beg (u := 40) (tr := 12 :: ti 3 3) (v := vi 3 3 a mm (x / 2) - mm) (F := fun s9 => zbd (f9_plainFades k a (x / 2) s9) fun r10 s10 => some (r10, s10)) (by omega) h fun s1 h1 => (pF9 ha eK eM hK' (by rw [ln1]; omega) h1).af fun z _ => rfl
  · rw [if_neg (by decide), if_pos rfl]
    exact Md.beg (u := 51) (tr := 12 :: ti 4 4) (v := (vi 4 4 a mm x - mm) ^^^ a) (F := fun s9 => zbd (f9_plainFades k a x s9) fun r10 s10 => some (r10 ^^^ a, s10)) (by omega) h fun s1 h1 => (pF9 ha eK eM hK' (by rw [ln1]; omega) h1).af fun z _ => rfl
  · rw [if_neg (by decide), if_neg (by decide)]; exact P
  · rw [if_neg (by decide), if_neg (by decide)]; exact P
/-- parted, as the model has it -/
def PM (R b : Nat → Int32) (T : List Int32) (s : ZS) : Prop := s 104 = R ∧ s 103 25 = nI T.length ∧ s 118 = trw b T ∧ s 103 26 = 1
def Pm (F : ZS → Option (Int32 × ZS)) (R b : Nat → Int32) (T : List Int32) (a mm : Int32) (s : ZS) (v : Int32) (tr : List Int32) : Prop := ∃ r s', F s = some (r, s') ∧ MF s s' ∧ ((mm - a = 0 ∧ PM R b (T ++ tr) s') ∨ (¬ mm - a = 0 ∧ r = v ∧ VM R b (T ++ tr) s'))
theorem pP9 (ha : 0 ≤ a.toInt ∧ a.toInt < 8) (eM : R (6 + 5 * a.toInt.toNat + 1) = mm) (hT : T.length < 30) (h : VM R b T s) : Pm (f9_plainParts k a x) R b T a mm s (x / (mm - a)) [13] := by
  obtain ⟨s1, e1, e2, e3⟩ := beg9 (k := k) 13 hT h
  unfold Pm
  rw [f9_plainParts, e1, zbd_some, of1 ha eM e2.1, zbd_some]
  obtain ⟨h0, h1, h2, h3⟩ := e2
  by_cases c : mm - a = 0
  · refine ⟨0, zu s1 103 26 1, ?_, e3.tr ⟨fun o q1 q2 => zu_o q1, fun i q1 q2 => zu_k q2⟩, Or.inl ⟨c, ?_, ?_, ?_, ?_⟩⟩
    · rw [if_pos c, zput_eq, zu_at, if_neg (by decide)]
    · rw [zu_o (by decide)]; exact h0
    · rw [zu_k (by decide)]; exact h1
    · rw [zu_o (by decide)]; exact h2
    · rw [zu_at]
  · refine ⟨x / (mm - a), zu s1 103 26 0, ?_, e3.tr ⟨fun o q1 q2 => zu_o q1, fun i q1 q2 => zu_k q2⟩, Or.inr ⟨c, rfl, ?_, ?_, ?_, ?_⟩⟩
    · rw [if_neg c, zput_eq, zu_at, if_pos rfl, if_pos c]
    · rw [zu_o (by decide)]; exact h0
    · rw [zu_k (by decide)]; exact h1
    · rw [zu_o (by decide)]; exact h2
    · rw [zu_at]
theorem p21 (ha : 0 ≤ a.toInt ∧ a.toInt < 8) (eK : R (6 + 5 * a.toInt.toNat + 0) = K) (eM : R (6 + 5 * a.toInt.toNat + 1) = mm) (hK : W7 K) (hT : T.length < 20) (h : VM R b T s) : Pm (b9_parts_20 k a x) R b T a mm s (x / (mm - a) + vi K K a mm 1) (21 :: 13 :: (if mm - a = 0 then [] else ti K K)) := by
  obtain ⟨s1, e1, e2, e3⟩ := beg9 (k := k) 21 (by omega) h
  obtain ⟨r, s2, f1, f2, f3⟩ := pP9 (k := k) (x := x) ha eM (show (T ++ [21]).length < 30 by rw [ln1]; omega) e2
  have hl : T ++ [21] ++ [13] = T ++ [21, 13] := by rw [List.append_assoc]; rfl
  rw [hl] at f3
  unfold Pm
  rw [b9_parts_20, e1, zbd_some, f1, zbd_some]
  rcases f3 with ⟨c, h0, h1, h2, h3⟩ | ⟨c, hr, h⟩
  · refine ⟨0, s2, by rw [h3, if_neg (by decide)], e3.tr f2, Or.inl ⟨c, ?_⟩⟩
    rw [if_pos c]
    exact ⟨h0, h1, h2, h3⟩
  · obtain ⟨s', q1, q2, q3⟩ := gli9 (k := k) (x := 1) ha eK eM hK (by rw [List.length_append]; show T.length + 2 < 25; omega) h
    refine ⟨r + vi K K a mm 1, s', by rw [h.2.2.2, if_pos rfl, q1, zbd_some], e3.tr (f2.tr q3), Or.inr ⟨c, by rw [hr], ?_⟩⟩
    rw [if_neg c, show T ++ 21 :: 13 :: ti K K = T ++ [21, 13] ++ ti K K by rw [List.append_assoc]; rfl]
    exact q2
theorem par9 (ha : 0 ≤ a.toInt ∧ a.toInt < 8) (eK : R (6 + 5 * a.toInt.toNat + 0) = K) (eM : R (6 + 5 * a.toInt.toNat + 1) = mm) (hK : W7 K) (hT : T.length < 20) (h : VM R b T s) : Pm (f9_parts k a x) R b T a mm s (vp K a mm x) (tp K a mm) := by
  have P : Pm (fun s => zbd (f9_plainParts k a x s) fun r s => some (r, s)) R b T a mm s (x / (mm - a)) [13] := by
    obtain ⟨r, s', f1, f2, f3⟩ := pP9 (k := k) (x := x) ha eM (show T.length < 30 by omega) h
    exact ⟨r, s', by show zbd (f9_plainParts k a x s) _ = _; rw [f1, zbd_some], f2, f3⟩
  have hK' := hK
  have hof := of0 (k := k) ha eK h.1
  unfold Pm f9_parts
  rw [hof, zbd_some, hof, zbd_some]
  rcases hK with rfl | rfl | rfl | rfl | rfl | rfl | rfl
  · rw [if_neg (by decide), if_neg (by decide)]; exact P
  · rw [if_pos rfl]; exact p21 ha eK eM hK' hT h
  · rw [if_neg (by decide), if_neg (by decide)]; exact P
  · rw [if_neg (by decide), if_neg (by decide)]; exact P
  · rw [if_neg (by decide), if_pos rfl]; exact p21 ha eK eM hK' hT h
  · rw [if_neg (by decide), if_neg (by decide)]; exact P
  · rw [if_neg (by decide), if_neg (by decide)]; exact P
end
