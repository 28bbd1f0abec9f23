/-! texts read: numbers and names -/
def ch (u t : Nat) : Int32 := if u = 0 then (if t = 0 then 110 else if t = 1 then 107 else 109) else (if t = 0 then 116 else if t = 1 then 104 else 112)
def nm (u : Nat) (c : Int32) : Int32 := if c = ch u 0 then 0 else if c = ch u 1 then 1 else if c = ch u 2 then 2 else -1
theorem nm_cs (u : Nat) (c : Int32) : (∃ t, t < 3 ∧ c = ch u t ∧ nm u c = nI t ∧ ∀ t', t' < t → ¬ ch u t' = c) ∨ (nm u c = -1 ∧ ∀ t, t < 3 → ¬ ch u t = c) := by
  unfold nm
  by_cases c0 : c = ch u 0
  · exact Or.inl ⟨0, by decide, c0, by rw [if_pos c0]; rfl, fun t ht => absurd ht (by omega)⟩
  · by_cases c1 : c = ch u 1
    · refine Or.inl ⟨1, by decide, c1, by rw [if_neg c0, if_pos c1]; rfl, fun t ht => ?_⟩
      obtain rfl : t = 0 := by omega
      exact fun q => c0 q.symm
    · by_cases c2 : c = ch u 2
      · refine Or.inl ⟨2, by decide, c2, by rw [if_neg c0, if_neg c1, if_pos c2]; rfl, fun t ht => ?_⟩
        have : t = 0 ∨ t = 1 := by omega
        rcases this with rfl | rfl
        · exact fun q => c0 q.symm
        · exact fun q => c1 q.symm
      · refine Or.inr ⟨by rw [if_neg c0, if_neg c1, if_neg c2], fun t ht => ?_⟩
        have : t = 0 ∨ t = 1 ∨ t = 2 := by omega
        rcases this with rfl | rfl | rfl
        · exact fun q => c0 q.symm
        · exact fun q => c1 q.symm
        · exact fun q => c2 q.symm
theorem s9_name {k u : Nat} {c : Int32} {s : ZS} (hu : u = 0 ∨ u = 1) (h : s 103 22 = nI u) : f9_nameOf k c s = some (nm u c, s) := by
  unfold f9_nameOf
  rw [h]
  by_cases c104 : c = 104
  · subst c104
    rcases hu with rfl | rfl
    all_goals rfl
  by_cases c105 : c = 105
  · subst c105
    rcases hu with rfl | rfl
    all_goals rfl
  by_cases c106 : c = 106
  · subst c106
    rcases hu with rfl | rfl
    all_goals rfl
  by_cases c107 : c = 107
  · subst c107
    rcases hu with rfl | rfl
    all_goals rfl
  by_cases c108 : c = 108
  · subst c108
    rcases hu with rfl | rfl
    all_goals rfl
  by_cases c109 : c = 109
  · subst c109
    rcases hu with rfl | rfl
    all_goals rfl
  by_cases c110 : c = 110
  · subst c110
    rcases hu with rfl | rfl
    all_goals rfl
  by_cases c111 : c = 111
  · subst c111
    rcases hu with rfl | rfl
    all_goals rfl
  by_cases c112 : c = 112
  · subst c112
    rcases hu with rfl | rfl
    all_goals rfl
  by_cases c113 : c = 113
  · subst c113
    rcases hu with rfl | rfl
    all_goals rfl
  by_cases c114 : c = 114
  · subst c114
    rcases hu with rfl | rfl
    all_goals rfl
  by_cases c115 : c = 115
  · subst c115
    rcases hu with rfl | rfl
    all_goals rfl
  by_cases c116 : c = 116
  · subst c116
    rcases hu with rfl | rfl
    all_goals rfl
  rw [if_neg c104, if_neg c105, if_neg c106, if_neg c107, if_neg c108, if_neg c109, if_neg c110, if_neg c111, if_neg c112, if_neg c113, if_neg c114, if_neg c115, if_neg c116]
  rcases hu with rfl | rfl
  · show some ((-1 : Int32), s) = some (if c = 110 then 0 else if c = 107 then 1 else if c = 109 then 2 else -1, s)
    rw [if_neg c110, if_neg c107, if_neg c109]
  · show some ((-1 : Int32), s) = some (if c = 116 then 0 else if c = 104 then 1 else if c = 112 then 2 else -1, s)
    rw [if_neg c116, if_neg c104, if_neg c112]
theorem s3_dig {k : Nat} {c : Int32} {s : ZS} : f3_isDigit k c s = some (if 48 ≤ c.toInt ∧ c.toInt ≤ 57 then 1 else 0, s) := by
  unfold f3_isDigit
  by_cases h1 : c < 48
  · rw [if_pos h1, if_neg (by rw [Int32.lt_iff_toInt_lt, t_48] at h1; omega)]
  · rw [if_neg h1]
    rw [Int32.lt_iff_toInt_lt, t_48] at h1
    by_cases h2 : (57 : Int32) < c
    · rw [if_pos h2, if_neg (by rw [Int32.lt_iff_toInt_lt, t_57] at h2; omega)]
    · rw [if_neg h2, if_pos (by rw [Int32.lt_iff_toInt_lt, t_57] at h2; omega)]
section
variable {k n u dep : Nat} {B R : Nat → Int32}
theorem chA {t : Nat} (hu : u = 0 ∨ u = 1) (ht : t < 3) (s : ZS) : fS_charAt k ((3 : Int32) * nI u + nI t) s = some (ch u t, s) := by
  have : t = 0 ∨ t = 1 ∨ t = 2 := by omega
  rcases hu with rfl | rfl <;> rcases this with rfl | rfl | rfl
  all_goals rfl
theorem fS_len {s : ZS} : fS_length k s = some (6, s) := by
  rw [fS_length, fS_coder, if_neg (by decide), zbd_some]
  rfl
theorem ust {t q : Nat} {c : Int32} {rc : Nat → List Int32 → ZS → Option (Int32 × ZS)} {s : ZS} (hu : u = 0 ∨ u = 1) (ht : t < 3) (h : s 86 4 = nI u) : f3_readUnit_54 k rc (q + 1) c (nI t) s = if ch u t = c then (zbd (f6_add k 87 (ec (2, nI t)) s) fun _ s7 => some ((1 : Int32), zu s7 86 3 (s7 86 3 + 1))) else f3_readUnit_54 k rc q c (nI (t + 1)) s := by
  have e : (3 : Int32) * nI u + nI t = nI (3 * u + t) := by
    have : t = 0 ∨ t = 1 ∨ t = 2 := by omega
    rcases hu with rfl | rfl <;> rcases this with rfl | rfl | rfl
    all_goals rfl
  have hu1 : u ≤ 1 := by omega
  have hx : (nI (3 * u + t)).toInt = (3 * u + t : Nat) := nI_toInt (by omega)
  have ca := chA (k := k) hu ht s
  rw [e] at ca
  show b3_readUnit_54 k _ _ _ _ s = _
  rw [b3_readUnit_54, if_neg (by rw [Int32.le_iff_toInt_le, nI_toInt (by omega), t_3]; omega), h, e, if_neg (by rw [Int32.lt_iff_toInt_lt, hx, t_0]; omega), fS_len, zbd_some, if_neg (by rw [Int32.le_iff_toInt_le, hx, t_6]; omega), ca, zbd_some, nI_1]
  rfl
theorem uend {q : Nat} {c : Int32} {rc : Nat → List Int32 → ZS → Option (Int32 × ZS)} {s : ZS} : f3_readUnit_54 k rc (q + 1) c (nI 3) s = some (0, s) := by
  show b3_readUnit_54 k _ _ _ _ s = _
  rw [b3_readUnit_54, if_pos (by decide)]
theorem MI.z21 {i : Nat} {L : List (Int32 × Int32)} {s : ZS} (h : MI u R dep i L s) : MI u R dep i L (zu s 103 21 0) ∧ MG s (zu s 103 21 0) := by
  obtain ⟨h0, h1, h2, h3, h4, h5, h6, h7⟩ := h
  refine ⟨⟨?_, ?_, ?_, ?_, ?_, ?_, ?_, ?_⟩, fun o q1 q2 q3 => zu_o q1, fun i q1 q2 q3 q4 => zu_k q4⟩
  · rw [zu_o (by decide)]; exact h0
  · rw [zu_k (by decide)]; exact h1
  · rw [zu_k (by decide)]; exact h2
  · rw [zu_k (by decide)]; exact h3
  · rw [zu_at]
  · rw [zu_k (by decide)]; exact h5
  · rw [zu_o (by decide)]; exact h6
  · rw [zu_o (by decide)]; exact h7
theorem MI.dp {i d' : Nat} {L : List (Int32 × Int32)} {s : ZS} (h : MI u R dep i L s) {v : Int32} (hv : v = nI d') : MI u R d' i L (zu s 103 20 v) ∧ MG s (zu s 103 20 v) := by
  obtain ⟨h0, h1, h2, h3, h4, h5, h6, h7⟩ := h
  refine ⟨⟨?_, ?_, ?_, ?_, ?_, ?_, ?_, ?_⟩, fun o q1 q2 q3 => zu_o q1, fun i q1 q2 q3 q4 => zu_k q3⟩
  · rw [zu_o (by decide)]; exact h0
  · rw [zu_k (by decide)]; exact h1
  · rw [zu_k (by decide)]; exact h2
  · rw [zu_at]; exact hv
  · rw [zu_k (by decide)]; exact h4
  · rw [zu_k (by decide)]; exact h5
  · rw [zu_o (by decide)]; exact h6
  · rw [zu_o (by decide)]; exact h7
theorem MX.dp {j : Nat} {s : ZS} (h : MX R j s) (v : Int32) : MX R j (zu s 103 20 v) ∧ MG s (zu s 103 20 v) := by
  obtain ⟨h0, h1, h2, h3⟩ := h
  refine ⟨⟨?_, ?_, ?_, ?_⟩, fun o q1 q2 q3 => zu_o q1, fun i q1 q2 q3 q4 => zu_k q3⟩
  · rw [zu_o (by decide)]; exact h0
  · rw [zu_k (by decide)]; exact h1
  · rw [zu_k (by decide)]; exact h2
  · rw [zu_k (by decide)]; exact h3
/-- digits -/
theorem rd_num (hn : n ≤ 60) (hR4 : R 4 = nI n) (hRB : ∀ j, j < n → R (64 + j) = B j) : ∀ (d x v i qc qm : Nat) (L : List (Int32 × Int32)), x + d = 4 → v < 10 ^ x → i ≤ n → L.length ≤ i → d < qc → d < qm → (0 < x ∧ L.length < i ∨ x = 0 ∧ 48 ≤ (hr B n i).toInt ∧ (hr B n i).toInt ≤ 57) → ∃ j w : Nat, i ≤ j ∧ L.length < j ∧ j ≤ n ∧ (x = 0 → i < j) ∧ w ≤ 9999 ∧ (∀ s, CI n u B i L s → ∃ s', f3_readNumber_4 k qc (nI v) (nI x) s = some ((), s') ∧ CI n u B j (L ++ [(1, nI w)]) s' ∧ CF s s') ∧ (∀ s, MI u R dep i L s → ∃ s', f9_number_4 k qm (nI v) (nI x) s = some ((), s') ∧ MI u R dep j (L ++ [(1, nI w)]) s' ∧ MG s s') := by
  have stop : ∀ (x v i : Nat) (L : List (Int32 × Int32)), 0 < x → x ≤ 4 → v ≤ 9999 → i ≤ n → L.length < i → (∀ s, CI n u B i L s → ∃ s', (zbd (f6_add k 87 (nI v) s) fun _ s2 => some ((), s2)) = some ((), s') ∧ CI n u B i (L ++ [(1, nI v)]) s' ∧ CF s s') ∧ (∀ s, MI u R dep i L s → ∃ s', b9_number_52 k (nI v) (nI x) s = some ((), s') ∧ MI u R dep i (L ++ [(1, nI v)]) s' ∧ MG s s') := by
    intro x v i L hx hx4 hv hi hL
    refine ⟨fun s hs => ?_, fun s hs => ?_⟩
    · obtain ⟨s', e1, e2, e3⟩ := add8 (k := k) (by omega) hs (1, nI v)
      have e1' : f6_add k 87 (nI v) s = some ((), s') := e1
      exact ⟨s', by rw [e1', zbd_some], e2, e3⟩
    · obtain ⟨a1, a2⟩ := hs.z21
      obtain ⟨s', e1, e2, e3⟩ := stp9 (k := k) (by omega) a1 (1, nI v)
      have e1' : f9_step k 1 (nI v) (zu s 103 21 0) = some ((), s') := e1
      have hx0 : ¬ nI x = 0 := fun q => by have := nI_inj (a := x) (b := 0) (by omega) (by decide) q; omega
      exact ⟨s', by rw [b9_number_52, if_neg hx0, zput_eq, e1', zbd_some], e2, a2.tr e3⟩
  intro d
  induction d with
  | zero =>
    intro x v i qc qm L hx hv hi hL hqc hqm hd
    obtain ⟨qc, rfl⟩ : ∃ w, qc = w + 1 := ⟨qc - 1, by omega⟩
    obtain ⟨qm, rfl⟩ : ∃ w, qm = w + 1 := ⟨qm - 1, by omega⟩
    obtain rfl : x = 4 := by omega
    have hv4 : v < 10000 := hv
    have hLi : L.length < i := by
      rcases hd with q | q
      · exact q.2
      · exact absurd q.1 (by decide)
    obtain ⟨q1, q2⟩ := stop 4 v i L (by decide) (by decide) (by omega) hi hLi
    refine ⟨i, v, Nat.le_refl _, hLi, hi, fun q => absurd q (by decide), by omega, fun s hs => ?_, fun s hs => ?_⟩
    · obtain ⟨s', e1, e2⟩ := q1 s hs
      refine ⟨s', ?_, e2⟩
      show b3_readNumber_4 k _ _ _ s = _
      rw [b3_readNumber_4, if_pos (by decide)]
      exact e1
    · obtain ⟨s', e1, e2⟩ := q2 s hs
      refine ⟨s', ?_, e2⟩
      show b9_number_4 k _ _ _ s = _
      rw [b9_number_4, if_pos (by decide)]
      exact e1
  | succ d ih =>
    intro x v i qc qm L hx hv hi hL hqc hqm hd
    obtain ⟨qc, rfl⟩ : ∃ w, qc = w + 1 := ⟨qc - 1, by omega⟩
    obtain ⟨qm, rfl⟩ : ∃ w, qm = w + 1 := ⟨qm - 1, by omega⟩
    have hp : 10 ^ x ≤ 10 ^ 3 := Nat.pow_le_pow_right (by decide) (by omega)
    have hp3 : (10 : Nat) ^ 3 = 1000 := by decide
    have hv3 : v < 1000 := by rw [hp3] at hp; omega
    have n4 : ¬ (4 : Int32) ≤ nI x := by rw [Int32.le_iff_toInt_le, nI_toInt (by omega), t_4]; omega
    by_cases dg : 48 ≤ (hr B n i).toInt ∧ (hr B n i).toInt ≤ 57
    · have hin : i < n := by
        by_cases c : i < n
        · exact c
        · rw [hr, if_neg c, t_m1] at dg; omega
      obtain ⟨c, hc⟩ : ∃ c, c = hr B n i := ⟨_, rfl⟩
      rw [← hc] at dg
      obtain ⟨w0, hw1, hw2, hcw⟩ : ∃ w0 : Nat, 48 ≤ w0 ∧ w0 ≤ 57 ∧ c = nI w0 := ⟨c.toInt.toNat, by omega, by omega, i_nat (by omega)⟩
      have eV : (10 : Int32) * nI v + c - 48 = nI (10 * v + (w0 - 48)) := by
        have e1 : ((10 : Int32) * nI v).toInt = 10 * v := by rw [i_mul (by rw [t_10, nI_toInt (by omega)]; omega), t_10, nI_toInt (by omega)]
        have e2 : ((10 : Int32) * nI v + c).toInt = 10 * v + w0 := by rw [hcw, i_add (by rw [e1, nI_toInt (by omega)]; omega), e1, nI_toInt (by omega)]
        refine i_eq ?_
        rw [i_sub (by rw [e2, t_48]; omega), e2, t_48, nI_toInt (by omega)]
        omega
      obtain ⟨j, w, h1, h2, h3, h4, h5, h6, h7⟩ := ih (x + 1) (10 * v + (w0 - 48)) (i + 1) qc qm L (by omega) (by rw [Nat.pow_succ]; omega) (by omega) (by omega) (by omega) (by omega) (Or.inl ⟨by omega, by omega⟩)
      refine ⟨j, w, by omega, h2, h3, fun _ => by omega, h5, fun s hs => ?_, fun s hs => ?_⟩
      · obtain ⟨a1, a2⟩ := adv8 hs
        obtain ⟨s', e1, e2, e3⟩ := h6 _ a1
        refine ⟨s', ?_, e2, a2.tr e3⟩
        show b3_readNumber_4 k _ _ _ s = _
        rw [b3_readNumber_4, if_neg n4, sgn8 hn hi hs, zbd_some, s3_dig, zbd_some, ← hc, if_pos dg, if_neg (by decide), sgn8 hn hi hs, zbd_some, ← hc, zput_eq, eV, nI_1]
        exact e1
      · obtain ⟨a1, a2⟩ := adv9 hs
        obtain ⟨s', e1, e2, e3⟩ := h7 _ a1
        refine ⟨s', ?_, e2, a2.tr e3⟩
        have by9 := byt9 (k := k) hn hR4 hRB hi hs.1 hs.2.1
        show b9_number_4 k _ _ _ s = _
        rw [b9_number_4, if_neg n4, by9, zbd_some, s9_in, zbd_some, ← hc, t_48, t_57, if_pos dg, if_neg (by decide), by9, zbd_some, ← hc, zput_eq, eV, nI_1]
        exact e1
    · have hx0 : 0 < x ∧ L.length < i := by
        rcases hd with q | q
        · exact q
        · exact absurd q.2 dg
      obtain ⟨q1, q2⟩ := stop x v i L hx0.1 (by omega) (by omega) hi hx0.2
      refine ⟨i, v, Nat.le_refl _, hx0.2, hi, fun q => absurd q (by omega), by omega, fun s hs => ?_, fun s hs => ?_⟩
      · obtain ⟨s', e1, e2⟩ := q1 s hs
        refine ⟨s', ?_, e2⟩
        show b3_readNumber_4 k _ _ _ s = _
        rw [b3_readNumber_4, if_neg n4, sgn8 hn hi hs, zbd_some, s3_dig, zbd_some, if_neg dg, if_pos rfl]
        exact e1
      · obtain ⟨s', e1, e2⟩ := q2 s hs
        refine ⟨s', ?_, e2⟩
        have by9 := byt9 (k := k) hn hR4 hRB hi hs.1 hs.2.1
        show b9_number_4 k _ _ _ s = _
        rw [b9_number_4, if_neg n4, by9, zbd_some, s9_in, zbd_some, t_48, t_57, if_neg dg, if_pos rfl]
        exact e1
end
