/-! texts read: the two readers' states -/
def ec (p : Int32 × Int32) : Int32 := enc p.1 p.2
def hr (B : Nat → Int32) (n i : Nat) : Int32 := if i < n then B i else -1
/-- steps that carry a pile of h numbers to one of h' -/
def vl : List (Int32 × Int32) → Nat → Nat → Prop
  | [], h, h' => h = h'
  | p :: L, h, h' => (p.1 = 1 ∧ 0 ≤ p.2.toInt ∧ p.2.toInt ≤ 9999 ∧ vl L (h + 1) h') ∨ (p.1 = 2 ∧ 0 ≤ p.2.toInt ∧ p.2.toInt ≤ 2 ∧ vl L (h + 1) h') ∨ (p.1 = 3 ∧ 1 ≤ h ∧ vl L h h') ∨ (sgn p.1 ∧ 2 ≤ h ∧ vl L (h - 1) h')
theorem vl_app : ∀ (L M : List (Int32 × Int32)) (h h1 h2 : Nat), vl L h h1 → vl M h1 h2 → vl (L ++ M) h h2
  | [], M, h, h1, h2, q, r => by
    have : h = h1 := q
    subst this
    exact r
  | p :: L, M, h, h1, h2, q, r => by
    rcases q with ⟨q1, q2, q3, q4⟩ | ⟨q1, q2, q3, q4⟩ | ⟨q1, q2, q4⟩ | ⟨q1, q2, q4⟩
    · exact Or.inl ⟨q1, q2, q3, vl_app L M _ _ _ q4 r⟩
    · exact Or.inr (Or.inl ⟨q1, q2, q3, vl_app L M _ _ _ q4 r⟩)
    · exact Or.inr (Or.inr (Or.inl ⟨q1, q2, vl_app L M _ _ _ q4 r⟩))
    · exact Or.inr (Or.inr (Or.inr ⟨q1, q2, vl_app L M _ _ _ q4 r⟩))
theorem vl_vok {W V : Nat → Int32} : ∀ (L : List (Int32 × Int32)) (i h : Nat), (∀ j, j < L.length → W (i + j) = (L.map Prod.fst).getD j 0 ∧ V (i + j) = (L.map Prod.snd).getD j 0) → vl L h 1 → vok W V L.length i h
  | [], i, h, e, q => q
  | p :: L, i, h, e, q => by
    have e0 := e 0 (Nat.succ_pos _)
    have e1 : W i = p.1 := e0.1
    have e2 : V i = p.2 := e0.2
    have e3 : ∀ j, j < L.length → W (i + 1 + j) = (L.map Prod.fst).getD j 0 ∧ V (i + 1 + j) = (L.map Prod.snd).getD j 0 := by
      intro j hj
      have := e (j + 1) (Nat.succ_lt_succ hj)
      rw [show i + (j + 1) = i + 1 + j by omega] at this
      exact this
    show vok W V (L.length + 1) i h
    unfold vok
    rw [e1, e2]
    rcases q with ⟨q1, q2, q3, q4⟩ | ⟨q1, q2, q3, q4⟩ | ⟨q1, q2, q4⟩ | ⟨q1, q2, q4⟩
    · exact Or.inl ⟨q1, q2, q3, vl_vok L _ _ e3 q4⟩
    · exact Or.inr (Or.inl ⟨q1, q2, q3, vl_vok L _ _ e3 q4⟩)
    · exact Or.inr (Or.inr (Or.inl ⟨q1, q2, vl_vok L _ _ e3 q4⟩))
    · exact Or.inr (Or.inr (Or.inr ⟨q1, q2, vl_vok L _ _ e3 q4⟩))
def CI (n u : Nat) (B : Nat → Int32) (i : Nat) (L : List (Int32 × Int32)) (s : ZS) : Prop := (s 86 1 = 7 ∧ s 86 2 = nI n ∧ s 86 3 = nI i ∧ s 86 4 = nI u) ∧ (∀ j, j < n → s 7 j = B j) ∧ s 87 2 = nI L.length ∧ hol (s 88) (L.map ec)
def CF (s s' : ZS) : Prop := (∀ o, o ≠ 86 → o ≠ 87 → o ≠ 88 → s' o = s o) ∧ s' 87 3 = s 87 3
def CX (n j : Nat) (s : ZS) : Prop := s 86 3 = nI j ∧ s 86 2 = nI n
def MI (u : Nat) (R : Nat → Int32) (dep i : Nat) (L : List (Int32 × Int32)) (s : ZS) : Prop := s 104 = R ∧ s 103 19 = nI i ∧ s 103 18 = nI L.length ∧ s 103 20 = nI dep ∧ s 103 21 = 0 ∧ s 103 22 = nI u ∧ hol (s 113) (L.map Prod.fst) ∧ hol (s 114) (L.map Prod.snd)
def MG (s s' : ZS) : Prop := (∀ o, o ≠ 103 → o ≠ 113 → o ≠ 114 → s' o = s o) ∧ ∀ i, i ≠ 18 → i ≠ 19 → i ≠ 20 → i ≠ 21 → s' 103 i = s 103 i
def MX (R : Nat → Int32) (j : Nat) (s : ZS) : Prop := s 104 = R ∧ s 103 19 = nI j ∧ s 103 21 = 1 ∧ 0 ≤ (s 103 18).toInt
theorem CF.rf {s : ZS} : CF s s := ⟨fun _ _ _ _ => rfl, rfl⟩
theorem CF.tr {s1 s2 s3 : ZS} (h1 : CF s1 s2) (h2 : CF s2 s3) : CF s1 s3 := ⟨fun o q1 q2 q3 => by rw [h2.1 o q1 q2 q3, h1.1 o q1 q2 q3], by rw [h2.2, h1.2]⟩
theorem MG.rf {s : ZS} : MG s s := ⟨fun _ _ _ _ => rfl, fun _ _ _ _ _ => rfl⟩
theorem MG.tr {s1 s2 s3 : ZS} (h1 : MG s1 s2) (h2 : MG s2 s3) : MG s1 s3 := ⟨fun o q1 q2 q3 => by rw [h2.1 o q1 q2 q3, h1.1 o q1 q2 q3], fun i q1 q2 q3 q4 => by rw [h2.2 i q1 q2 q3 q4, h1.2 i q1 q2 q3 q4]⟩
theorem hol_map {f : Int32 × Int32 → Int32} {L : List (Int32 × Int32)} {p : Int32 × Int32} {S : Nat → Int32} (h : hol S (L.map f)) : hol (upd S L.length (f p)) ((L ++ [p]).map f) := by
  have e : (L ++ [p]).map f = L.map f ++ [f p] := by rw [List.map_append]; rfl
  have el : L.length = (L.map f).length := (List.length_map _).symm
  rw [e, el]
  exact hol_snoc h
theorem ln2 {L : List (Int32 × Int32)} {p : Int32 × Int32} : (L ++ [p]).length = L.length + 1 := by rw [List.length_append]; rfl
section
variable {k n u i j dep : Nat} {B R : Nat → Int32} {L : List (Int32 × Int32)} {s : ZS}
theorem sgn8 (hn : n ≤ 60) (hi : i ≤ n) (h : CI n u B i L s) : f3_signHere k s = some (hr B n i, s) := by
  obtain ⟨⟨h1, h2, h3, h4⟩, h5, -⟩ := h
  have e7 : (s 86 1).toNatClampNeg = 7 := by rw [h1]; rfl
  have hx : (nI i).toInt = i := nI_toInt (by omega)
  rw [f3_signHere, e7, if_neg (by decide), h3, if_neg (by rw [Int32.lt_iff_toInt_lt, hx, t_0]; omega), h2, hr]
  by_cases c : i < n
  · rw [if_neg (by rw [Int32.le_iff_toInt_le, hx, nI_toInt (by omega)]; omega), if_pos (show zsh 7 = 15 from rfl), if_pos (show nI i < nI (zln 7) by rw [show zln 7 = 60 from rfl, Int32.lt_iff_toInt_lt, hx, nI_toInt (by omega)]; omega), if_pos (show zin (nI i) (zln 7) from nI_z (show i < 60 by omega) (by decide)), if_pos c, nI_nat (by omega), h5 i c]
  · rw [if_pos (by rw [Int32.le_iff_toInt_le, hx, nI_toInt (by omega)]; omega), if_neg c]
theorem adv8 (h : CI n u B i L s) : CI n u B (i + 1) L (zu s 86 3 (s 86 3 + 1)) ∧ CF s (zu s 86 3 (s 86 3 + 1)) := by
  obtain ⟨⟨h1, h2, h3, h4⟩, h5, h6, h7⟩ := h
  refine ⟨⟨⟨?_, ?_, ?_, ?_⟩, fun j hj => ?_, ?_, ?_⟩, fun o q1 q2 q3 => zu_o q1, by rw [zu_o (by decide)]⟩
  · rw [zu_k (by decide)]; exact h1
  · rw [zu_k (by decide)]; exact h2
  · rw [zu_at, h3, nI_1]
  · rw [zu_k (by decide)]; exact h4
  · rw [zu_o (by decide)]; exact h5 j hj
  · rw [zu_o (by decide)]; exact h6
  · rw [zu_o (by decide)]; exact h7
theorem add8 (hL : L.length < 60) (h : CI n u B i L s) (p : Int32 × Int32) : ∃ s', f6_add k 87 (ec p) s = some ((), s') ∧ CI n u B i (L ++ [p]) s' ∧ CF s s' := by
  obtain ⟨⟨h1, h2, h3, h4⟩, h5, h6, h7⟩ := h
  have hx : (nI L.length).toInt = L.length := nI_toInt (by omega)
  refine ⟨zu (zu s 88 L.length (ec p)) 87 2 (nI (L.length + 1)), ?_, ⟨⟨?_, ?_, ?_, ?_⟩, fun j hj => ?_, ?_, ?_⟩, fun o q1 q2 q3 => by rw [zu_o q2, zu_o q3], by rw [zu_k (by decide), zu_o (by decide)]⟩
  · rw [f6_add, if_pos (show zsh 87 = 7 from rfl), h6, if_neg (by rw [Int32.lt_iff_toInt_lt, hx, t_0]; omega), if_neg (by rw [Int32.le_iff_toInt_le, hx, t_60]; omega), if_pos (nI_z hL (by decide)), zput_eq, zput_eq, nI_nat (by omega), zu_o (a := 87) (by decide), h6, nI_1]
  · rw [zu_o (by decide), zu_o (by decide)]; exact h1
  · rw [zu_o (by decide), zu_o (by decide)]; exact h2
  · rw [zu_o (by decide), zu_o (by decide)]; exact h3
  · rw [zu_o (by decide), zu_o (by decide)]; exact h4
  · rw [zu_o (by decide), zu_o (by decide)]; exact h5 j hj
  · rw [zu_at, ln2]
  · rw [zu_o (by decide), zu_self]; exact hol_map h7
theorem add_any (v : Int32) (s : ZS) : ∃ s', f6_add k 87 v s = some ((), s') ∧ s' 86 = s 86 ∧ CF s s' := by
  rw [f6_add, if_pos (show zsh 87 = 7 from rfl)]
  by_cases c1 : s 87 2 < 0
  · exact ⟨s, by rw [if_pos c1], rfl, CF.rf⟩
  · by_cases c2 : (60 : Int32) ≤ s 87 2
    · exact ⟨s, by rw [if_neg c1, if_pos c2], rfl, CF.rf⟩
    · have c3 : zin (s 87 2) 60 := by
        rw [Int32.lt_iff_toInt_lt, t_0] at c1
        rw [Int32.le_iff_toInt_le, t_60] at c2
        rw [zin]; omega
      exact ⟨_, by rw [if_neg c1, if_neg c2, if_pos c3, zput_eq, zput_eq], by rw [zu_o (by decide), zu_o (by decide)], fun o q1 q2 q3 => by rw [zu_o q2, zu_o q3], by rw [zu_k (by decide), zu_o (by decide)]⟩
theorem byt9 (hn : n ≤ 60) (hR4 : R 4 = nI n) (hRB : ∀ j, j < n → R (64 + j) = B j) (hi : i ≤ n) (h0 : s 104 = R) (h1 : s 103 19 = nI i) : f9_byteHere k s = some (hr B n i, s) := by
  have hx : (nI i).toInt = i := nI_toInt (by omega)
  rw [f9_byteHere, h0, h1, hR4, hr]
  by_cases c : i < n
  · have e1 : (64 : Int32) + nI i = nI (64 + i) := i_ad (a := 64) (by omega)
    rw [if_neg (by rw [Int32.le_iff_toInt_le, hx, nI_toInt (by omega)]; omega), e1, if_pos (nI_z (by omega) (by decide)), if_pos c, nI_nat (by omega), hRB i c]
  · rw [if_pos (by rw [Int32.le_iff_toInt_le, hx, nI_toInt (by omega)]; omega), if_neg c]
theorem adv9 (h : MI u R dep i L s) : MI u R dep (i + 1) L (zu s 103 19 (s 103 19 + 1)) ∧ MG s (zu s 103 19 (s 103 19 + 1)) := by
  obtain ⟨h0, h1, h2, h3, h4, h5, h6, h7⟩ := h
  refine ⟨⟨?_, ?_, ?_, ?_, ?_, ?_, ?_, ?_⟩, fun o q1 q2 q3 => zu_o q1, fun i q1 q2 q3 q4 => zu_k q2⟩
  · rw [zu_o (by decide)]; exact h0
  · rw [zu_at, h1, nI_1]
  · rw [zu_k (by decide)]; exact h2
  · rw [zu_k (by decide)]; exact h3
  · rw [zu_k (by decide)]; exact h4
  · rw [zu_k (by decide)]; exact h5
  · rw [zu_o (by decide)]; exact h6
  · rw [zu_o (by decide)]; exact h7
theorem stp9 (hL : L.length < 60) (h : MI u R dep i L s) (p : Int32 × Int32) : ∃ s', f9_step k p.1 p.2 s = some ((), s') ∧ MI u R dep i (L ++ [p]) s' ∧ MG s s' := by
  obtain ⟨h0, h1, h2, h3, h4, h5, h6, h7⟩ := h
  have hx : (nI L.length).toInt = L.length := nI_toInt (by omega)
  have hz : zin (nI L.length) 60 := nI_z hL (by decide)
  refine ⟨zu (zu (zu s 113 L.length p.1) 114 L.length p.2) 103 18 (nI (L.length + 1)), ?_, ⟨?_, ?_, ?_, ?_, ?_, ?_, ?_, ?_⟩, fun o q1 q2 q3 => by rw [zu_o q1, zu_o q3, zu_o q2], fun i q1 q2 q3 q4 => by rw [zu_k q1, zu_o (by decide), zu_o (by decide)]⟩
  · rw [f9_step, h2, if_neg (by rw [Int32.le_iff_toInt_le, hx, t_60]; omega), if_pos hz, zput_eq, zu_o (a := 103) (by decide), h2, if_pos hz, zput_eq, zput_eq, nI_nat (by omega), zu_o (a := 103) (by decide), zu_o (a := 103) (by decide), h2, nI_1]
  · rw [zu_o (by decide), zu_o (by decide), zu_o (by decide)]; exact h0
  · rw [zu_k (by decide), zu_o (by decide), zu_o (by decide)]; exact h1
  · rw [zu_at, ln2]
  · rw [zu_k (by decide), zu_o (by decide), zu_o (by decide)]; exact h3
  · rw [zu_k (by decide), zu_o (by decide), zu_o (by decide)]; exact h4
  · rw [zu_k (by decide), zu_o (by decide), zu_o (by decide)]; exact h5
  · rw [zu_o (by decide), zu_o (by decide), zu_self]; exact hol_map h6
  · rw [zu_o (by decide), zu_self, zu_o (by decide)]; exact hol_map h7
theorem stp_any (a b : Int32) (h : MX R j s) : ∃ s', f9_step k a b s = some ((), s') ∧ MX R j s' ∧ MG s s' := by
  obtain ⟨h0, h1, h2, h3⟩ := h
  rw [f9_step]
  by_cases c : (60 : Int32) ≤ s 103 18
  · exact ⟨s, by rw [if_pos c], ⟨h0, h1, h2, h3⟩, MG.rf⟩
  · have c2 := c
    rw [Int32.le_iff_toInt_le, t_60] at c2
    have hz : zin (s 103 18) 60 := by rw [zin]; omega
    have e1 : (s 103 18 + 1).toInt = (s 103 18).toInt + 1 := by rw [i_add (by rw [t_1]; omega), t_1]
    refine ⟨zu (zu (zu s 113 (s 103 18).toNatClampNeg a) 114 (s 103 18).toNatClampNeg b) 103 18 (s 103 18 + 1), ?_, ⟨?_, ?_, ?_, ?_⟩, fun o q1 q2 q3 => by rw [zu_o q1, zu_o q3, zu_o q2], fun i q1 q2 q3 q4 => by rw [zu_k q1, zu_o (by decide), zu_o (by decide)]⟩
    · rw [if_neg c, if_pos hz, zput_eq, zu_o (a := 103) (by decide), if_pos hz, zput_eq, zput_eq, zu_o (a := 103) (by decide), zu_o (a := 103) (by decide)]
    · rw [zu_o (by decide), zu_o (by decide), zu_o (by decide)]; exact h0
    · rw [zu_k (by decide), zu_o (by decide), zu_o (by decide)]; exact h1
    · rw [zu_k (by decide), zu_o (by decide), zu_o (by decide)]; exact h2
    · rw [zu_at, e1]; omega
end
