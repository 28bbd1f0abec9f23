/-! glints, fades, parts, as the class says them -/
section
variable {k : Nat} {K a mm : Int32} {b : Nat → Int32} {T : List Int32} {σ : ZS}
theorem Sd.go {D d : Nat} {J w x u v v' x' J' w' : Int32} {tr : List Int32} (hV : VS K a mm b T σ) (hT : T.length < 30) (hd : d ≤ 29) (hb : ∀ s, f7_bodyFrom k J w s = some (u, s)) (hr : ∀ s1, VS K a mm b (T ++ [u]) s1 → Sd k K a mm b (T ++ [u]) s1 D (d + 1) J' w' x' v' tr) (hh : ∀ s1 s', VS K a mm b (T ++ [u]) s1 → VS K a mm b (T ++ [u] ++ tr) s' → fVO k D 0 [J', w', x', nI d + 1] s1 = some (v', s') → b7_say_63 k (fVO k (D + 1)) x (nI d) u s1 = some (v, s')) : Sd k K a mm b T σ (D + 2) d J w x v (u :: tr) := by
  refine Sd.of hV hT (by omega) hb fun s1 h1 => ?_
  obtain ⟨s', f1, f2, f3⟩ := hr s1 h1
  exact ⟨s', hh s1 s' h1 f2 (by rw [nI_1]; exact f1), f2, f3⟩
theorem g11 (hk : 10 ≤ k) (hK : W7 K) {J x : Int32} {D d : Nat} (hD : 10 ≤ D) (hd : d ≤ 24) (hT : T.length ≤ 24) (hV : VS K a mm b T σ) (hb : ∀ z, f7_bodyFrom k J 1 z = some (11, z)) : Sd k K a mm b T σ D d J 1 x (vg K a x * 2) (11 :: tg K) := by
  obtain ⟨D, rfl⟩ : ∃ q, D = q + 2 := ⟨D - 2, by omega⟩
  refine Sd.go (J' := K) (w' := 0) (x' := x) (v' := vg K a x) hV (by omega) (by omega) hb (fun s1 h1 => gle8 hk hK (by omega) (by omega) (by rw [ln1]; omega) h1) fun s1 s' h1 h2 h3 => ?_
  show (zbd (f7_sayGlass k (fVO k D) 11 x (nI d + 1) s1) fun r s => some (r, s)) = _
  rw [f7_sayGlass, if_neg (by decide), if_pos rfl, h1.2.2.2.1, h3, zbd_some, zbd_some]
theorem g30 (hk : 10 ≤ k) (hK : W7 K) {J x : Int32} {D d : Nat} (hD : 12 ≤ D) (hd : d ≤ 23) (hT : T.length ≤ 23) (hV : VS K a mm b T σ) (hb : ∀ z, f7_bodyFrom k J 1 z = some (30, z)) : Sd k K a mm b T σ D d J 1 x (0 - vg K a x * 2) (30 :: 11 :: tg K) := by
  obtain ⟨D, rfl⟩ : ∃ q, D = q + 2 := ⟨D - 2, by omega⟩
  refine Sd.go (J' := 0) (w' := 1) (x' := x) (v' := vg K a x * 2) hV (by omega) (by omega) hb (fun s1 h1 => g11 hk hK (by omega) (by omega) (by rw [ln1]; omega) h1 fun z => bod1 hk (Or.inl rfl) z) fun s1 s' h1 h2 h3 => ?_
  show (zbd (f7_sayOnly k (fVO k D) 30 x (nI d + 1) s1) fun r s => some (r, s)) = _
  rw [f7_sayOnly, if_pos rfl, h3, zbd_some, zbd_some]
theorem gli8 (hk : 10 ≤ k) (hK : W7 K) {J x : Int32} (hJ : W7 J) {D d : Nat} (hD : 16 ≤ D) (hd : d ≤ 20) (hT : T.length ≤ 20) (hV : VS K a mm b T σ) : Sd k K a mm b T σ D d J 1 x (vi K J a mm x) (ti K J) := by
  have hJ' := hJ
  rcases hJ with rfl | rfl | rfl | rfl | rfl | rfl | rfl
  · exact g11 hk hK (by omega) (by omega) (by omega) hV fun z => bod1 hk hJ' z
  · exact g11 hk hK (by omega) (by omega) (by omega) hV fun z => bod1 hk hJ' z
  · exact g30 hk hK (by omega) (by omega) (by omega) hV fun z => bod1 hk hJ' z
  · exact g11 hk hK (by omega) (by omega) (by omega) hV fun z => bod1 hk hJ' z
  · exact g11 hk hK (by omega) (by omega) (by omega) hV fun z => bod1 hk hJ' z
  · obtain ⟨D, rfl⟩ : ∃ q, D = q + 2 := ⟨D - 2, by omega⟩
    refine Sd.go (u := 60) (J' := 2) (w' := 1) (x' := x + 1) (v' := 0 - vg K a (x + 1) * 2) (tr := 30 :: 11 :: tg K) hV (by omega) (by omega) (fun z => bod1 hk hJ' z) (fun s1 h1 => g30 hk hK (by omega) (by omega) (by rw [ln1]; omega) h1 fun z => bod1 hk (Or.inr (Or.inr (Or.inl rfl))) z) fun s1 s' h1 h2 h3 => ?_
    show (zbd (f7_sayOnly k (fVO k D) 60 x (nI d + 1) s1) fun r s => some (r, s)) = _
    rw [f7_sayOnly, if_neg (by decide), if_neg (by decide), if_pos rfl, h3, zbd_some, zbd_some]
    rfl
  · obtain ⟨D, rfl⟩ : ∃ q, D = q + 2 := ⟨D - 2, by omega⟩
    refine Sd.go (u := 71) (J' := 0) (w' := 1) (x' := x) (v' := vg K a x * 2) (tr := 11 :: tg K) hV (by omega) (by omega) (fun z => bod1 hk hJ' z) (fun s1 h1 => g11 hk hK (by omega) (by omega) (by rw [ln1]; omega) h1 fun z => bod1 hk (Or.inl rfl) z) fun s1 s' h1 h2 h3 => ?_
    show (zbd (f7_saySilvered k (fVO k D) 71 x (nI d + 1) s1) fun r s => some (r, s)) = _
    rw [f7_saySilvered, if_neg (by decide), h3, zbd_some, zbd_some, h2.2.2.2.2.2]
    rfl
theorem g12 (hk : 10 ≤ k) (hK : W7 K) {J x : Int32} {D d : Nat} (hD : 18 ≤ D) (hd : d ≤ 19) (hT : T.length ≤ 19) (hV : VS K a mm b T σ) (hb : ∀ z, f7_bodyFrom k J 2 z = some (12, z)) : Sd k K a mm b T σ D d J 2 x (vi K K a mm x - mm) (12 :: ti K K) := by
  obtain ⟨D, rfl⟩ : ∃ q, D = q + 2 := ⟨D - 2, by omega⟩
  refine Sd.go (J' := K) (w' := 1) (x' := x) (v' := vi K K a mm x) hV (by omega) (by omega) hb (fun s1 h1 => gli8 hk hK hK (by omega) (by omega) (by rw [ln1]; omega) h1) fun s1 s' h1 h2 h3 => ?_
  show (zbd (f7_sayGlass k (fVO k D) 12 x (nI d + 1) s1) fun r s => some (r, s)) = _
  rw [f7_sayGlass, if_neg (by decide), if_neg (by decide), if_pos rfl, h1.2.2.2.1, h3, zbd_some, zbd_some, h2.2.2.2.2.2]
theorem fad8 (hk : 10 ≤ k) (hK : W7 K) {J x : Int32} (hJ : W7 J) {D d : Nat} (hD : 20 ≤ D) (hd : d ≤ 18) (hT : T.length ≤ 18) (hV : VS K a mm b T σ) : Sd k K a mm b T σ D d J 2 x (vf K J a mm x) (tf K J) := by
  have hJ' := hJ
  rcases hJ with rfl | rfl | rfl | rfl | rfl | rfl | rfl
  · exact g12 hk hK (by omega) (by omega) (by omega) hV fun z => bod2 hk hJ' z
  · exact g12 hk hK (by omega) (by omega) (by omega) hV fun z => bod2 hk hJ' z
  · exact g12 hk hK (by omega) (by omega) (by omega) hV fun z => bod2 hk hJ' z
  · obtain ⟨D, rfl⟩ : ∃ q, D = q + 2 := ⟨D - 2, by omega⟩
    refine Sd.go (u := 40) (J' := 0) (w' := 2) (x' := x / 2) (v' := vi K K a mm (x / 2) - mm) (tr := 12 :: ti K K) hV (by omega) (by omega) (fun z => bod2 hk hJ' z) (fun s1 h1 => g12 hk hK (by omega) (by omega) (by rw [ln1]; omega) h1 fun z => bod2 hk (Or.inl rfl) z) fun s1 s' h1 h2 h3 => ?_
    show (zbd (f7_sayOnly k (fVO k D) 40 x (nI d + 1) s1) fun r s => some (r, s)) = _
    rw [f7_sayOnly, if_neg (by decide), if_pos rfl, h3, zbd_some, zbd_some]
    rfl
  · obtain ⟨D, rfl⟩ : ∃ q, D = q + 2 := ⟨D - 2, by omega⟩
    refine Sd.go (u := 51) (J' := 1) (w' := 2) (x' := x) (v' := vi K K a mm x - mm) (tr := 12 :: ti K K) hV (by omega) (by omega) (fun z => bod2 hk hJ' z) (fun s1 h1 => g12 hk hK (by omega) (by omega) (by rw [ln1]; omega) h1 fun z => bod2 hk (Or.inr (Or.inl rfl)) z) fun s1 s' h1 h2 h3 => ?_
    show (zbd (f7_sayBowl k (fVO k D) 51 x (nI d + 1) s1) fun r s => some (r, s)) = _
    rw [f7_sayBowl, if_neg (by decide), h3, zbd_some, zbd_some, h2.2.2.2.2.1]
    rfl
  · exact g12 hk hK (by omega) (by omega) (by omega) hV fun z => bod2 hk hJ' z
  · exact g12 hk hK (by omega) (by omega) (by omega) hV fun z => bod2 hk hJ' z
/-- parted, with these words -/
def PS (b : Nat → Int32) (T : List Int32) (s : ZS) : Prop := s 90 1 = nI T.length ∧ s 91 = trw b T ∧ s 90 2 = 1
def Pd (k : Nat) (K a mm : Int32) (b : Nat → Int32) (T : List Int32) (σ : ZS) (D d : Nat) (J x v : Int32) (tr : List Int32) : Prop := ∃ r s', fVO k D 0 [J, 3, x, nI d] σ = some (r, s') ∧ VF σ s' ∧ ((mm - a = 0 ∧ PS b (T ++ tr) s') ∨ (¬ mm - a = 0 ∧ r = v ∧ VS K a mm b (T ++ tr) s'))
theorem g13 {J x : Int32} {D d : Nat} (hD : 2 ≤ D) (hd : d ≤ 30) (hT : T.length < 30) (hV : VS K a mm b T σ) (hb : ∀ z, f7_bodyFrom k J 3 z = some (13, z)) : Pd k K a mm b T σ D d J x (x / (mm - a)) [13] := by
  obtain ⟨D, rfl⟩ : ∃ q, D = q + 2 := ⟨D - 2, by omega⟩
  obtain ⟨s1, e1, e2, e3⟩ := say8 (D := D + 1) (x := x) hV hT hd hb
  have e1' : fVO k (D + 2) 0 [J, 3, x, nI d] σ = zbd (f7_sayGlass k (fVO k D) 13 x (nI d + 1) s1) fun r s => some (r, s) := e1
  have e2' := e2
  obtain ⟨h1, h2, h3, h4, h5, h6⟩ := e2
  by_cases c : mm - a = 0
  · refine ⟨0, zu s1 90 2 1, ?_, fun o q1 q2 => by rw [zu_o q1, e3 o q1 q2], Or.inl ⟨c, ?_, ?_, ?_⟩⟩
    · rw [e1', f7_sayGlass, if_neg (by decide), if_neg (by decide), if_neg (by decide), h6, h5, if_pos c, zput_eq, if_pos c, zbd_some]
    · rw [zu_k (by decide)]; exact h1
    · rw [zu_o (by decide)]; exact h2
    · rw [zu_at]
  · refine ⟨x / (mm - a), zu s1 90 2 0, ?_, fun o q1 q2 => by rw [zu_o q1, e3 o q1 q2], Or.inr ⟨c, rfl, ?_, ?_, ?_, ?_, ?_, ?_⟩⟩
    · rw [e1', f7_sayGlass, if_neg (by decide), if_neg (by decide), if_neg (by decide), h6, h5, if_neg c, zput_eq, if_neg c, if_pos c, zbd_some]
    · rw [zu_k (by decide)]; exact h1
    · rw [zu_o (by decide)]; exact h2
    · rw [zu_at]
    · rw [zu_k (by decide)]; exact h4
    · rw [zu_k (by decide)]; exact h5
    · rw [zu_k (by decide)]; exact h6
theorem g21 (hk : 10 ≤ k) (hK : W7 K) {J x : Int32} {D d : Nat} (hD : 18 ≤ D) (hd : d ≤ 18) (hT : T.length ≤ 18) (hV : VS K a mm b T σ) (hb : ∀ z, f7_bodyFrom k J 3 z = some (21, z)) : Pd k K a mm b T σ D d J x (x / (mm - a) + vi K K a mm 1) (21 :: 13 :: (if mm - a = 0 then [] else ti K K)) := by
  obtain ⟨D, rfl⟩ : ∃ q, D = q + 2 := ⟨D - 2, by omega⟩
  obtain ⟨s1, e1, e2, e3⟩ := say8 (D := D + 1) (d := d) (x := x) hV (by omega) (by omega) hb
  have e1' : fVO k (D + 2) 0 [J, 3, x, nI d] σ = zbd (f7_saySpoon k (fVO k D) 21 x (nI d + 1) s1) fun r s => some (r, s) := e1
  obtain ⟨r, s2, f1, f2, f3⟩ := g13 (D := D) (d := d + 1) (x := x) (J := 0) (by omega) (by omega) (by rw [ln1]; omega) e2 fun z => bod3 hk (Or.inl rfl) z
  have hl : T ++ [21] ++ [13] = T ++ [21, 13] := by rw [List.append_assoc]; rfl
  rw [hl] at f3
  rcases f3 with ⟨c, h1, h2, h3⟩ | ⟨c, hr, h⟩
  · refine ⟨r + 0, s2, ?_, fun o q1 q2 => by rw [f2 o q1 q2, e3 o q1 q2], Or.inl ⟨c, ?_⟩⟩
    · obtain ⟨D, rfl⟩ : ∃ q, D = q + 1 := ⟨D - 1, by omega⟩
      have e4 : ∀ u w x y, fVO k (D + 1) 0 [u, w, x, y] s2 = some (0, s2) := by
        intro u w x y
        show f7_say k (fVO k D) u w x y s2 = _
        rw [f7_say, h3, if_neg (by decide)]
      rw [e1', f7_saySpoon, if_neg (by decide), nI_1, f1, zbd_some, e4, zbd_some, zbd_some]
    · rw [if_pos c]
      exact ⟨h1, h2, h3⟩
  · obtain ⟨s', q1, q2, q3⟩ := gli8 (x := 1) (D := D) (d := d + 1) hk hK hK (by omega) (by omega) (by rw [List.length_append]; show T.length + 2 ≤ 20; omega) h
    refine ⟨r + vi K K a mm 1, s', ?_, fun o p1 p2 => by rw [q3 o p1 p2, f2 o p1 p2, e3 o p1 p2], Or.inr ⟨c, by rw [hr], ?_⟩⟩
    · rw [e1', f7_saySpoon, if_neg (by decide), nI_1, f1, zbd_some, h.2.2.2.1, q1, zbd_some, zbd_some]
    · rw [if_neg c, show T ++ 21 :: 13 :: ti K K = T ++ [21, 13] ++ ti K K by rw [List.append_assoc]; rfl]
      exact q2
theorem par8 (hk : 10 ≤ k) (hK : W7 K) {x : Int32} {D d : Nat} (hD : 20 ≤ D) (hd : d ≤ 18) (hT : T.length ≤ 18) (hV : VS K a mm b T σ) : Pd k K a mm b T σ D d K x (vp K a mm x) (tp K a mm) := by
  have hK' := hK
  rcases hK with rfl | rfl | rfl | rfl | rfl | rfl | rfl
  · exact g13 (by omega) (by omega) (by omega) hV fun z => bod3 hk hK' z
  · exact g21 hk hK' (by omega) (by omega) (by omega) hV fun z => bod3 hk hK' z
  · exact g13 (by omega) (by omega) (by omega) hV fun z => bod3 hk hK' z
  · exact g13 (by omega) (by omega) (by omega) hV fun z => bod3 hk hK' z
  · exact g21 hk hK' (by omega) (by omega) (by omega) hV fun z => bod3 hk hK' z
  · exact g13 (by omega) (by omega) (by omega) hV fun z => bod3 hk hK' z
  · exact g13 (by omega) (by omega) (by omega) hV fun z => bod3 hk hK' z
end
