/-! what a text is worth -/
def two (w x y : Int32) : Int32 := if w = 37 then (if y = 0 then 0 else x % y) else if w = 38 then (if x = 0 then 0 else if y = 0 then 0 else 1) else if w = 42 then x * y else if w = 43 then x + y else if w = 45 then x - y else if w = 47 then (if y = 0 then 0 else x / y) else if w = 60 then (if y ≤ x then 0 else 1) else if w = 61 then (if x = y then 1 else 0) else if w = 62 then (if x ≤ y then 0 else 1) else (if x = 0 then (if y = 0 then 0 else 1) else 1)
theorem s6_joined {k : Nat} {w x y : Int32} {σ : ZS} (h : sgn w) : f6_joined k w x y σ = some (two w x y, σ) := by
  rcases h with rfl | rfl | rfl | rfl | rfl | rfl | rfl | rfl | rfl | rfl
  · show (if y = 0 then some ((0 : Int32), σ) else if ¬ y = 0 then some (x % y, σ) else none) = some (if y = 0 then 0 else x % y, σ)
    by_cases c : y = 0
    · rw [if_pos c, if_pos c]
    · rw [if_neg c, if_neg c, if_pos c]
  · show (if x = 0 then some ((0 : Int32), σ) else if y = 0 then some ((0 : Int32), σ) else some (1, σ)) = some (if x = 0 then 0 else if y = 0 then 0 else 1, σ)
    by_cases c : x = 0
    · rw [if_pos c, if_pos c]
    · rw [if_neg c, if_neg c]
      by_cases c : y = 0
      · rw [if_pos c, if_pos c]
      · rw [if_neg c, if_neg c]
  · rfl
  · rfl
  · rfl
  · show (if y = 0 then some ((0 : Int32), σ) else if ¬ y = 0 then some (x / y, σ) else none) = some (if y = 0 then 0 else x / y, σ)
    by_cases c : y = 0
    · rw [if_pos c, if_pos c]
    · rw [if_neg c, if_neg c, if_pos c]
  · show (if y ≤ x then some ((0 : Int32), σ) else some (1, σ)) = some (if y ≤ x then 0 else 1, σ)
    by_cases c : y ≤ x
    · rw [if_pos c, if_pos c]
    · rw [if_neg c, if_neg c]
  · show (if x = y then some ((1 : Int32), σ) else some (0, σ)) = some (if x = y then 1 else 0, σ)
    by_cases c : x = y
    · rw [if_pos c, if_pos c]
    · rw [if_neg c, if_neg c]
  · show (if x ≤ y then some ((0 : Int32), σ) else some (1, σ)) = some (if x ≤ y then 0 else 1, σ)
    by_cases c : x ≤ y
    · rw [if_pos c, if_pos c]
    · rw [if_neg c, if_neg c]
  · show (if x = 0 then (if y = 0 then some ((0 : Int32), σ) else some (1, σ)) else some (1, σ)) = some (if x = 0 then (if y = 0 then 0 else 1) else 1, σ)
    by_cases c : x = 0
    · rw [if_pos c, if_pos c]
      by_cases c : y = 0
      · rw [if_pos c, if_pos c]
      · rw [if_neg c, if_neg c]
    · rw [if_neg c, if_neg c]
theorem s9_twoOf {k : Nat} {w x y : Int32} {σ : ZS} (h : sgn w) : f9_twoOf k w x y σ = some (two w x y, σ) := by
  rcases h with rfl | rfl | rfl | rfl | rfl | rfl | rfl | rfl | rfl | rfl
  · show (if y = 0 then some ((0 : Int32), σ) else if ¬ y = 0 then some (x % y, σ) else none) = some (if y = 0 then 0 else x % y, σ)
    by_cases c : y = 0
    · rw [if_pos c, if_pos c]
    · rw [if_neg c, if_neg c, if_pos c]
  · show (if x = 0 then some ((0 : Int32), σ) else if y = 0 then some ((0 : Int32), σ) else some (1, σ)) = some (if x = 0 then 0 else if y = 0 then 0 else 1, σ)
    by_cases c : x = 0
    · rw [if_pos c, if_pos c]
    · rw [if_neg c, if_neg c]
      by_cases c : y = 0
      · rw [if_pos c, if_pos c]
      · rw [if_neg c, if_neg c]
  · rfl
  · rfl
  · rfl
  · show (if y = 0 then some ((0 : Int32), σ) else if ¬ y = 0 then some (x / y, σ) else none) = some (if y = 0 then 0 else x / y, σ)
    by_cases c : y = 0
    · rw [if_pos c, if_pos c]
    · rw [if_neg c, if_neg c, if_pos c]
  · show (if y ≤ x then some ((0 : Int32), σ) else some (1, σ)) = some (if y ≤ x then 0 else 1, σ)
    by_cases c : y ≤ x
    · rw [if_pos c, if_pos c]
    · rw [if_neg c, if_neg c]
  · show (if x = y then some ((1 : Int32), σ) else some (0, σ)) = some (if x = y then 1 else 0, σ)
    by_cases c : x = y
    · rw [if_pos c, if_pos c]
    · rw [if_neg c, if_neg c]
  · show (if x ≤ y then some ((0 : Int32), σ) else some (1, σ)) = some (if x ≤ y then 0 else 1, σ)
    by_cases c : x ≤ y
    · rw [if_pos c, if_pos c]
    · rw [if_neg c, if_neg c]
  · show (if x = 0 then (if y = 0 then some ((0 : Int32), σ) else some (1, σ)) else some (1, σ)) = some (if x = 0 then (if y = 0 then 0 else 1) else 1, σ)
    by_cases c : x = 0
    · rw [if_pos c, if_pos c]
      by_cases c : y = 0
      · rw [if_pos c, if_pos c]
      · rw [if_neg c, if_neg c]
    · rw [if_neg c, if_neg c]
/-- the worth of the steps from i on, over a pile -/
def wk (a b c : Int32) (W V : Nat → Int32) : Nat → Nat → List Int32 → Int32
  | 0, _, s => s.headD 0
  | d + 1, i, s => if W i = 1 then wk a b c W V d (i + 1) (V i :: s) else if W i = 2 then wk a b c W V d (i + 1) ((if V i = 0 then a else if V i = 1 then b else c) :: s) else if W i = 3 then wk a b c W V d (i + 1) ((if s.headD 0 = 0 then 1 else 0) :: s.tail) else wk a b c W V d (i + 1) (two (W i) (s.tail.headD 0) (s.headD 0) :: s.tail.tail)
section
variable {a b c : Int32} {W V : Nat → Int32} {d i : Nat} {s : List Int32}
theorem wk_1 (h : W i = 1) : wk a b c W V (d + 1) i s = wk a b c W V d (i + 1) (V i :: s) := by rw [wk, if_pos h]
theorem wk_2 (h : W i = 2) : wk a b c W V (d + 1) i s = wk a b c W V d (i + 1) ((if V i = 0 then a else if V i = 1 then b else c) :: s) := by rw [wk, if_neg (by rw [h]; decide), if_pos h]
theorem wk_3 (h : W i = 3) : wk a b c W V (d + 1) i s = wk a b c W V d (i + 1) ((if s.headD 0 = 0 then 1 else 0) :: s.tail) := by rw [wk, if_neg (by rw [h]; decide), if_neg (by rw [h]; decide), if_pos h]
theorem wk_4 (h1 : ¬ W i = 1) (h2 : ¬ W i = 2) (h3 : ¬ W i = 3) : wk a b c W V (d + 1) i s = wk a b c W V d (i + 1) (two (W i) (s.tail.headD 0) (s.headD 0) :: s.tail.tail) := by rw [wk, if_neg h1, if_neg h2, if_neg h3]
end
/-- a pile in slots -/
def stk (S : Nat → Int32) : List Int32 → Prop
  | [] => True
  | x :: s => S s.length = x ∧ stk S s
theorem stk_up {S : Nat → Int32} : ∀ {s : List Int32} {n : Nat} {v : Int32}, s.length ≤ n → stk S s → stk (upd S n v) s
  | [], _, _, _, _ => trivial
  | x :: s, n, v, hn, h => by
    have hn' : s.length + 1 ≤ n := hn
    exact ⟨by rw [upd_ne (by omega)]; exact h.1, stk_up (by omega) h.2⟩
theorem nI_sub {n : Nat} (h : 1 ≤ n) (h2 : n < 2 ^ 31) : nI n - 1 = nI (n - 1) := by
  refine i_eq ?_
  rw [i_sub (by rw [nI_toInt h2, t_1]; omega), nI_toInt h2, nI_toInt (by omega), t_1]
  omega
theorem nI_pr {n : Nat} (h : 1 ≤ n) (h2 : n < 2 ^ 31) : nI n + (-1) = nI (n - 1) := by
  refine i_eq ?_
  rw [i_add (by rw [nI_toInt h2, t_m1]; omega), nI_toInt h2, nI_toInt (by omega), t_m1]
  omega
theorem nI_z {n m : Nat} (h : n < m) (hm : m < 2 ^ 31) : zin (nI n) m := by
  rw [zin, nI_toInt (by omega)]
  omega
theorem nI_nat {n : Nat} (h : n < 2 ^ 31) : (nI n).toNatClampNeg = n := by
  rw [i_cl, nI_toInt h]
  omega
theorem sgn_enc {w v : Int32} (h : sgn w) : enc w v = -w ∧ -(enc w v) = w ∧ (enc w v) < -3 ∧ ¬ enc w v = -33 ∧ ¬ w = 1 ∧ ¬ w = 2 ∧ ¬ w = 3 := by
  have e : enc w v = -w := by
    rcases h with rfl | rfl | rfl | rfl | rfl | rfl | rfl | rfl | rfl | rfl
    all_goals rfl
  rw [e]
  rcases h with rfl | rfl | rfl | rfl | rfl | rfl | rfl | rfl | rfl | rfl
  all_goals exact ⟨rfl, by decide, by decide, by decide, by decide, by decide, by decide⟩
theorem s6_works {k t : Nat} {a b c : Int32} {W V : Nat → Int32} {len : Nat} (hl : len ≤ 60) : ∀ (d i n : Nat) (s : List Int32) (σ : ZS), (∀ i, i < len → σ (t + 1) i = enc (W i) (V i)) → σ t 2 = nI len → i + d = len → vok W V d i s.length → s.length ≤ i → stk (σ (t + 2)) s → d < n → ∃ σ', f6_worth_6 k t n a b c (nI s.length) (nI i) σ = some (wk a b c W V d i s, σ') ∧ ∀ o, o ≠ t + 2 → σ' o = σ o
  | 0, i, n, s, σ, hE, hL, hi, hv, hs, hS, hn => by
    obtain ⟨n, rfl⟩ : ∃ q, n = q + 1 := ⟨n - 1, by omega⟩
    have hv1 : s.length = 1 := hv
    obtain ⟨x, rfl⟩ : ∃ x, s = [x] := by
      match s, hv1 with
      | [x], _ => exact ⟨x, rfl⟩
    refine ⟨σ, ?_, fun _ _ => rfl⟩
    show b6_worth_6 k t _ a b c (nI 1) (nI i) σ = some (x, σ)
    unfold b6_worth_6
    rw [if_pos (by rw [hL, Int32.le_iff_toInt_le, nI_toInt (by omega), nI_toInt (by omega)]; omega), if_neg (by decide), if_pos (by decide)]
    have : σ (t + 2) 0 = x := hS.1
    rw [← this]
    rfl
  | d + 1, i, n, s, σ, hE, hL, hi, hv, hs, hS, hn => by
    obtain ⟨n, rfl⟩ : ∃ q, n = q + 1 := ⟨n - 1, by omega⟩
    have hi6 : i < 60 := by omega
    have hE' := hE i (by omega)
    have up : ∀ (j : Nat) (v : Int32), (∀ i, i < len → zu σ (t + 2) j v (t + 1) i = enc (W i) (V i)) ∧ zu σ (t + 2) j v t 2 = nI len := fun j v => ⟨fun i hi => by rw [zu_o (by omega)]; exact hE i hi, by rw [zu_o (by omega)]; exact hL⟩
    have fin : ∀ {σ1 : ZS} {j : Nat} {v : Int32} {m : Option (Int32 × ZS)} {r : Int32}, σ1 = zu σ (t + 2) j v → (∃ σ', m = some (r, σ') ∧ ∀ o, o ≠ t + 2 → σ' o = σ1 o) → ∃ σ', m = some (r, σ') ∧ ∀ o, o ≠ t + 2 → σ' o = σ o := by
      rintro σ1 j v m r rfl ⟨σ', h1, h2⟩
      exact ⟨σ', h1, fun o ho => by rw [h2 o ho, zu_o ho]⟩
    have hz : zin (nI i) 60 := nI_z hi6 (by decide)
    show ∃ σ', b6_worth_6 k t (f6_worth_6 k t n) a b c (nI s.length) (nI i) σ = some (wk a b c W V (d + 1) i s, σ') ∧ _
    unfold b6_worth_6
    rw [if_neg (by rw [hL, Int32.le_iff_toInt_le, nI_toInt (by omega), nI_toInt (by omega)]; omega), if_neg (by rw [Int32.le_iff_toInt_le, nI_toInt (by omega), t_60]; omega), if_pos hz, nI_nat (n := i) (by omega), hE', nI_1]
    have push : ∀ v : Int32, vok W V d (i + 1) (s.length + 1) → ∃ σ', f6_worth_6 k t n a b c (nI (s.length + 1)) (nI (i + 1)) (zu σ (t + 2) s.length v) = some (wk a b c W V d (i + 1) (v :: s), σ') ∧ ∀ o, o ≠ t + 2 → σ' o = σ o := fun v hv =>
      fin rfl (s6_works hl d (i + 1) n (v :: s) (zu σ (t + 2) s.length v) (up _ _).1 (up _ _).2 (by omega) hv (by show s.length + 1 ≤ _; omega) ⟨zu_at, by rw [zu_self]; exact stk_up (Nat.le_refl _) hS⟩ (by omega))
    rcases hv with ⟨q1, q2, q3, hv⟩ | ⟨q1, q2, q3, hv⟩ | ⟨q1, q2, hv⟩ | ⟨q1, q2, hv⟩
    · have e1 : enc (W i) (V i) = V i := if_pos q1
      rw [e1, if_neg (by (simp only [Int32.lt_iff_toInt_lt, Int32.le_iff_toInt_le, ← Int32.toInt_inj, t_m1000000006, t_m1000000005, t_m1000000004, t_m1000000003, t_m1000000002, t_m1000000001, t_m1000000000, t_m33, t_m10, t_m3, t_m2, t_m1, t_0, t_1, t_2, t_3, t_4, t_5, t_6, t_7, t_8, t_9, t_10, t_11, t_12, t_13, t_14, t_15, t_16, t_17, t_18, t_19, t_20, t_21, t_22, t_23, t_24, t_25, t_26, t_27, t_28, t_29, t_30, t_31, t_32, t_33, t_34, t_35, t_36, t_37, t_38, t_39, t_40, t_41, t_42, t_43, t_44, t_45, t_46, t_47, t_48, t_49, t_50, t_51, t_52, t_53, t_54, t_55, t_56, t_57, t_58, t_59, t_60, t_61, t_62, t_63, t_64, t_69, t_70, t_71, t_99, t_104, t_105, t_106, t_107, t_108, t_109, t_110, t_111, t_112, t_113, t_114, t_115, t_116, t_121, t_124, t_148, t_255, t_256, t_257, t_390, t_999, t_9999, t_12345, t_99999, t_1103515245]; omega)), if_neg (by rw [Int32.le_iff_toInt_le, nI_toInt (by omega), t_60]; omega), if_neg (by (simp only [Int32.lt_iff_toInt_lt, Int32.le_iff_toInt_le, ← Int32.toInt_inj, t_m1000000006, t_m1000000005, t_m1000000004, t_m1000000003, t_m1000000002, t_m1000000001, t_m1000000000, t_m33, t_m10, t_m3, t_m2, t_m1, t_0, t_1, t_2, t_3, t_4, t_5, t_6, t_7, t_8, t_9, t_10, t_11, t_12, t_13, t_14, t_15, t_16, t_17, t_18, t_19, t_20, t_21, t_22, t_23, t_24, t_25, t_26, t_27, t_28, t_29, t_30, t_31, t_32, t_33, t_34, t_35, t_36, t_37, t_38, t_39, t_40, t_41, t_42, t_43, t_44, t_45, t_46, t_47, t_48, t_49, t_50, t_51, t_52, t_53, t_54, t_55, t_56, t_57, t_58, t_59, t_60, t_61, t_62, t_63, t_64, t_69, t_70, t_71, t_99, t_104, t_105, t_106, t_107, t_108, t_109, t_110, t_111, t_112, t_113, t_114, t_115, t_116, t_121, t_124, t_148, t_255, t_256, t_257, t_390, t_999, t_9999, t_12345, t_99999, t_1103515245]; omega)), if_pos (nI_z (by omega) (by decide)), zput_eq, nI_nat (by omega), nI_1]
      rw [wk_1 q1]
      exact push _ hv
    · have h3 : V i = 0 ∨ V i = 1 ∨ V i = 2 := by
        have : (V i).toInt = 0 ∨ (V i).toInt = 1 ∨ (V i).toInt = 2 := by omega
        rcases this with h | h | h
        · exact Or.inl (i_eq h)
        · exact Or.inr (Or.inl (i_eq h))
        · exact Or.inr (Or.inr (i_eq h))
      have g6 : ¬ (60 : Int32) ≤ nI s.length := by rw [Int32.le_iff_toInt_le, nI_toInt (by omega), t_60]; omega
      rw [wk_2 q1]
      rcases h3 with h3 | h3 | h3
      · rw [h3, q1, show enc 2 0 = -1 from rfl, if_neg (by decide), if_neg g6, if_pos (by decide), if_pos rfl, if_pos (nI_z (by omega) (by decide)), zput_eq, nI_nat (by omega), nI_1, if_pos rfl]
        exact push _ hv
      · rw [h3, q1, show enc 2 1 = -2 from rfl, if_neg (by decide), if_neg g6, if_pos (by decide), if_neg (by decide), if_pos rfl, if_pos (nI_z (by omega) (by decide)), zput_eq, nI_nat (by omega), nI_1, if_neg (by decide), if_pos rfl]
        exact push _ hv
      · rw [h3, q1, show enc 2 2 = -3 from rfl, if_neg (by decide), if_neg g6, if_pos (by decide), if_neg (by decide), if_neg (by decide), if_pos (nI_z (by omega) (by decide)), zput_eq, nI_nat (by omega), nI_1, if_neg (by decide), if_neg (by decide)]
        exact push _ hv
    · match s, q2, hs, hS, hv with
      | x :: s, _, hs, hS, hv =>
        have hs' : s.length + 1 ≤ i := hs
        have hx : σ (t + 2) s.length = x := hS.1
        have hL1 : nI (x :: s).length - 1 = nI s.length := by
          show nI (s.length + 1) - 1 = _
          rw [nI_sub (by omega) (by omega)]; rfl
        have h1 : ¬ nI (x :: s).length < 1 := by
          show ¬ nI (s.length + 1) < 1
          rw [Int32.lt_iff_toInt_lt, nI_toInt (by omega), t_1]; omega
        have hz2 : zin (nI s.length) 60 := nI_z (by omega) (by decide)
        rw [wk_3 q1]
        rw [q1, show enc 3 (V i) = -33 from rfl, if_pos (by decide), if_pos rfl, if_neg h1, hL1, if_pos hz2, nI_nat (by omega), hx, if_pos hz2, if_pos hz2]
        have nx : ∀ v : Int32, ∃ σ', f6_worth_6 k t n a b c (nI (x :: s).length) (nI (i + 1)) (zu σ (t + 2) s.length v) = some (wk a b c W V d (i + 1) (v :: s), σ') ∧ ∀ o, o ≠ t + 2 → σ' o = σ o := fun v =>
          fin rfl (s6_works hl d (i + 1) n (v :: s) (zu σ (t + 2) s.length v) (up _ _).1 (up _ _).2 (by omega) hv (by show s.length + 1 ≤ _; omega) ⟨zu_at, by rw [zu_self]; exact stk_up (Nat.le_refl _) hS.2⟩ (by omega))
        show ∃ σ', (if x = 0 then _ else _) = some (wk a b c W V d (i + 1) ((if x = 0 then 1 else 0) :: s), σ') ∧ _
        by_cases c0 : x = 0
        · rw [if_pos c0, if_pos c0, zput_eq]; exact nx _
        · rw [if_neg c0, if_neg c0, zput_eq]; exact nx _
    · match s, q2, hs, hS, hv with
      | y :: x :: s, _, hs, hS, hv =>
        have hs' : s.length + 1 + 1 ≤ i := hs
        have hy : σ (t + 2) (s.length + 1) = y := hS.1
        have hx : σ (t + 2) s.length = x := hS.2.1
        have hP : nI (y :: x :: s).length + (-1) = nI (s.length + 1) := by
          show nI (s.length + 1 + 1) + (-1) = _
          rw [nI_pr (by omega) (by omega)]; rfl
        have hP1 : nI (s.length + 1) - 1 = nI s.length := by
          rw [nI_sub (by omega) (by omega)]; rfl
        have h1 : ¬ nI (y :: x :: s).length < 2 := by
          show ¬ nI (s.length + 1 + 1) < 2
          rw [Int32.lt_iff_toInt_lt, nI_toInt (by omega), t_2]; omega
        have hz2 : zin (nI s.length) 60 := nI_z (by omega) (by decide)
        have hz3 : zin (nI (s.length + 1)) 60 := nI_z (by omega) (by decide)
        obtain ⟨e1, e2, e3, e4, e5, e6, e7⟩ := sgn_enc (v := V i) q1
        rw [wk_4 e5 e6 e7, if_pos e3, if_neg e4, if_neg h1, hP, hP1, if_pos hz2, if_pos hz3, e2, nI_nat (n := s.length) (by omega), nI_nat (n := s.length + 1) (by omega), hx, hy, s6_joined q1, zbd_some, if_pos hz2, zput_eq]
        exact fin rfl (s6_works hl d (i + 1) n (two (W i) x y :: s) (zu σ (t + 2) s.length _) (up _ _).1 (up _ _).2 (by omega) hv (by show s.length + 1 ≤ _; omega) ⟨zu_at, by rw [zu_self]; exact stk_up (Nat.le_refl _) hS.2.2⟩ (by omega))
theorem s9_works {k : Nat} {a b c : Int32} {R : Nat → Int32} {pl : Nat} (hpl : pl = 148 ∨ pl = 269) {W V : Nat → Int32} (hWV : ∀ i, W i = R (pl + 1 + i) ∧ V i = R (pl + 61 + i)) {len : Nat} (hl : len ≤ 60) (hR : R pl = nI len) : ∀ (d i n : Nat) (s : List Int32) (σ : ZS), σ 104 = R → (σ 115 0 = a ∧ σ 115 1 = b ∧ σ 115 2 = c) → i + d = len → vok W V d i s.length → s.length ≤ i → stk (σ 116) s → d < n → ∃ σ', f9_works_4 k n (nI pl) (nI s.length) (nI i) σ = some (wk a b c W V d i s, σ') ∧ ∀ o, o ≠ 116 → σ' o = σ o
  | 0, i, n, s, σ, hE, hL, hi, hv, hs, hS, hn => by
    obtain ⟨n, rfl⟩ : ∃ q, n = q + 1 := ⟨n - 1, by omega⟩
    have hv1 : s.length = 1 := hv
    obtain ⟨x, rfl⟩ : ∃ x, s = [x] := by
      match s, hv1 with
      | [x], _ => exact ⟨x, rfl⟩
    refine ⟨σ, ?_, fun _ _ => rfl⟩
    show b9_works_4 k _ (nI pl) (nI 1) (nI i) σ = some (x, σ)
    unfold b9_works_4
    rw [if_pos (nI_z (by omega) (by decide)), nI_nat (by omega), hE, hR, if_pos (by rw [Int32.le_iff_toInt_le, nI_toInt (by omega), nI_toInt (by omega)]; omega)]
    have : σ 116 0 = x := hS.1
    rw [← this]
  | d + 1, i, n, s, σ, hE, hL, hi, hv, hs, hS, hn => by
    obtain ⟨n, rfl⟩ : ∃ q, n = q + 1 := ⟨n - 1, by omega⟩
    have hi6 : i < 60 := by omega
    have up : ∀ (j : Nat) (v : Int32), zu σ 116 j v 104 = R ∧ (zu σ 116 j v 115 0 = a ∧ zu σ 116 j v 115 1 = b ∧ zu σ 116 j v 115 2 = c) := fun j v => ⟨by rw [zu_o (by omega)]; exact hE, by rw [zu_o (by omega)]; exact hL⟩
    have fin : ∀ {σ1 : ZS} {j : Nat} {v : Int32} {m : Option (Int32 × ZS)} {r : Int32}, σ1 = zu σ 116 j v → (∃ σ', m = some (r, σ') ∧ ∀ o, o ≠ 116 → σ' o = σ1 o) → ∃ σ', m = some (r, σ') ∧ ∀ o, o ≠ 116 → σ' o = σ o := by
      rintro σ1 j v m r rfl ⟨σ', h1, h2⟩
      exact ⟨σ', h1, fun o ho => by rw [h2 o ho, zu_o ho]⟩
    have ad : ∀ j : Nat, j < 62 → nI pl + nI j = nI (pl + j) := fun j hj => by
      refine i_eq ?_
      rw [i_add (by rw [nI_toInt (by omega), nI_toInt (by omega)]; omega), nI_toInt (by omega), nI_toInt (by omega), nI_toInt (by omega)]
      omega
    have ad2 : ∀ j z : Nat, z < 62 → j < 60 → nI (pl + z) + nI j = nI (pl + z + j) := fun j z hz hj => by
      refine i_eq ?_
      rw [i_add (by rw [nI_toInt (by omega), nI_toInt (by omega)]; omega), nI_toInt (by omega), nI_toInt (by omega), nI_toInt (by omega)]
      omega
    have eW : nI pl + 1 + nI i = nI (pl + 1 + i) := by
      rw [show (1 : Int32) = nI 1 from rfl, ad 1 (by omega), ad2 i 1 (by omega) hi6]
    have eV : nI pl + 61 + nI i = nI (pl + 61 + i) := by
      rw [show (61 : Int32) = nI 61 from rfl, ad 61 (by omega), ad2 i 61 (by omega) hi6]
    have zW : zin (nI (pl + 1 + i)) 390 := nI_z (by omega) (by decide)
    have zV : zin (nI (pl + 61 + i)) 390 := nI_z (by omega) (by decide)
    show ∃ σ', b9_works_4 k (f9_works_4 k n) (nI pl) (nI s.length) (nI i) σ = some (wk a b c W V (d + 1) i s, σ') ∧ _
    unfold b9_works_4
    rw [if_pos (nI_z (by omega) (by decide)), nI_nat (n := pl) (by omega), hE, hR, if_neg (by rw [Int32.le_iff_toInt_le, nI_toInt (by omega), nI_toInt (by omega)]; omega), eW, if_pos zW, nI_nat (n := pl + 1 + i) (by omega), nI_1]
    have push : ∀ v : Int32, vok W V d (i + 1) (s.length + 1) → ∃ σ', f9_works_4 k n (nI pl) (nI (s.length + 1)) (nI (i + 1)) (zu σ 116 s.length v) = some (wk a b c W V d (i + 1) (v :: s), σ') ∧ ∀ o, o ≠ 116 → σ' o = σ o := fun v hv =>
      fin rfl (s9_works hpl hWV hl hR d (i + 1) n (v :: s) (zu σ 116 s.length v) (up _ _).1 (up _ _).2 (by omega) hv (by show s.length + 1 ≤ _; omega) ⟨zu_at, by rw [zu_self]; exact stk_up (Nat.le_refl _) hS⟩ (by omega))
    rcases hv with ⟨q1, q2, q3, hv⟩ | ⟨q1, q2, q3, hv⟩ | ⟨q1, q2, hv⟩ | ⟨q1, q2, hv⟩
    · have q1' : R (pl + 1 + i) = 1 := (hWV i).1.symm.trans q1
      rw [if_pos q1', b9_works_38, if_pos q1', eV, if_pos zV, if_pos (nI_z (by omega) (by decide)), zput_eq, nI_nat (n := s.length) (by omega), nI_nat (n := pl + 61 + i) (by omega), hE, nI_1, nI_1]
      rw [wk_1 q1, (hWV i).2]
      exact push _ hv
    · have q1' : R (pl + 1 + i) = 2 := (hWV i).1.symm.trans q1
      have h3 : R (pl + 61 + i) = 0 ∨ R (pl + 61 + i) = 1 ∨ R (pl + 61 + i) = 2 := by
        have : (R (pl + 61 + i)).toInt = 0 ∨ (R (pl + 61 + i)).toInt = 1 ∨ (R (pl + 61 + i)).toInt = 2 := by rw [← (hWV i).2]; omega
        rcases this with h | h | h
        · exact Or.inl (i_eq h)
        · exact Or.inr (Or.inl (i_eq h))
        · exact Or.inr (Or.inr (i_eq h))
      rw [if_neg (by rw [q1']; decide), if_pos q1', b9_works_38, if_neg (by rw [q1']; decide), eV, if_pos zV, nI_nat (n := pl + 61 + i) (by omega), hE, wk_2 q1, (hWV i).2]
      show ∃ σ', _ = some (wk a b c W V d (i + 1) ((if R (pl + 61 + i) = 0 then a else if R (pl + 61 + i) = 1 then b else c) :: s), σ') ∧ _
      rcases h3 with h3 | h3 | h3
      · rw [h3, if_pos (by decide), if_pos (nI_z (by omega) (by decide)), zput_eq, nI_nat (by omega), nI_1, nI_1, if_pos rfl]
        show ∃ σ', f9_works_4 k n (nI pl) (nI (s.length + 1)) (nI (i + 1)) (zu σ 116 s.length (σ 115 0)) = _ ∧ _
        rw [hL.1]
        exact push _ hv
      · rw [h3, if_pos (by decide), if_pos (nI_z (by omega) (by decide)), zput_eq, nI_nat (by omega), nI_1, nI_1, if_neg (by decide), if_pos rfl]
        show ∃ σ', f9_works_4 k n (nI pl) (nI (s.length + 1)) (nI (i + 1)) (zu σ 116 s.length (σ 115 1)) = _ ∧ _
        rw [hL.2.1]
        exact push _ hv
      · rw [h3, if_pos (by decide), if_pos (nI_z (by omega) (by decide)), zput_eq, nI_nat (by omega), nI_1, nI_1, if_neg (by decide), if_neg (by decide)]
        show ∃ σ', f9_works_4 k n (nI pl) (nI (s.length + 1)) (nI (i + 1)) (zu σ 116 s.length (σ 115 2)) = _ ∧ _
        rw [hL.2.2]
        exact push _ hv
    · match s, q2, hs, hS, hv with
      | x :: s, _, hs, hS, hv =>
        have q1' : R (pl + 1 + i) = 3 := (hWV i).1.symm.trans q1
        have hs' : s.length + 1 ≤ i := hs
        have hx : σ 116 s.length = x := hS.1
        have hL1 : nI (x :: s).length - 1 = nI s.length := by
          show nI (s.length + 1) - 1 = _
          rw [nI_sub (by omega) (by omega)]; rfl
        have hz2 : zin (nI s.length) 60 := nI_z (by omega) (by decide)
        rw [wk_3 q1]
        rw [q1', if_neg (by decide), if_neg (by decide), if_pos rfl, hL1, if_pos hz2, nI_nat (by omega), hx, if_pos hz2, if_pos hz2]
        have nx : ∀ v : Int32, ∃ σ', f9_works_4 k n (nI pl) (nI (x :: s).length) (nI (i + 1)) (zu σ 116 s.length v) = some (wk a b c W V d (i + 1) (v :: s), σ') ∧ ∀ o, o ≠ 116 → σ' o = σ o := fun v =>
          fin rfl (s9_works hpl hWV hl hR d (i + 1) n (v :: s) (zu σ 116 s.length v) (up _ _).1 (up _ _).2 (by omega) hv (by show s.length + 1 ≤ _; omega) ⟨zu_at, by rw [zu_self]; exact stk_up (Nat.le_refl _) hS.2⟩ (by omega))
        show ∃ σ', (if x = 0 then _ else _) = some (wk a b c W V d (i + 1) ((if x = 0 then 1 else 0) :: s), σ') ∧ _
        by_cases c0 : x = 0
        · rw [if_pos c0, if_pos c0, zput_eq]; exact nx _
        · rw [if_neg c0, if_neg c0, zput_eq]; exact nx _
    · match s, q2, hs, hS, hv with
      | y :: x :: s, _, hs, hS, hv =>
        have hs' : s.length + 1 + 1 ≤ i := hs
        have hy : σ 116 (s.length + 1) = y := hS.1
        have hx : σ 116 s.length = x := hS.2.1
        have hP : nI (y :: x :: s).length + (-1) = nI (s.length + 1) := by
          show nI (s.length + 1 + 1) + (-1) = _
          rw [nI_pr (by omega) (by omega)]; rfl
        have hP1 : nI (s.length + 1) - 1 = nI s.length := by
          rw [nI_sub (by omega) (by omega)]; rfl
        have hz2 : zin (nI s.length) 60 := nI_z (by omega) (by decide)
        have hz3 : zin (nI (s.length + 1)) 60 := nI_z (by omega) (by decide)
        have q1' : sgn (R (pl + 1 + i)) := (hWV i).1 ▸ q1
        obtain ⟨e1, e2, e3, e4, e5, e6, e7⟩ := sgn_enc (v := 0) q1
        rw [wk_4 e5 e6 e7, ← (hWV i).1, if_neg e5, if_neg e6, if_neg e7, hP, hP1, if_pos hz2, if_pos hz3, nI_nat (n := s.length) (by omega), nI_nat (n := s.length + 1) (by omega), hx, hy, s9_twoOf q1, zbd_some, if_pos hz2, zput_eq]
        exact fin rfl (s9_works hpl hWV hl hR d (i + 1) n (two (W i) x y :: s) (zu σ 116 s.length _) (up _ _).1 (up _ _).2 (by omega) hv (by show s.length + 1 ≤ _; omega) ⟨zu_at, by rw [zu_self]; exact stk_up (Nat.le_refl _) hS.2.2⟩ (by omega))
