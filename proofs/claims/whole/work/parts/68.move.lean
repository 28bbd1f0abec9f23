/-! move -/
theorem i_ad {a b : Nat} (h : a + b < 2 ^ 31) : nI a + nI b = nI (a + b) := by
  refine i_eq ?_
  rw [i_add (by rw [nI_toInt (by omega), nI_toInt (by omega)]; omega), nI_toInt (by omega), nI_toInt (by omega), nI_toInt (by omega)]
  omega
theorem i_sb {a b : Nat} (h : b ≤ a) (ha : a < 2 ^ 31) : nI a - nI b = nI (a - b) := by
  refine i_eq ?_
  rw [i_sub (by rw [nI_toInt (by omega), nI_toInt (by omega)]; omega), nI_toInt (by omega), nI_toInt (by omega), nI_toInt (by omega)]
  omega
section
variable {m k : Nat} {σ : ZS}
theorem s4_holds {s : Nat} (hs : s < 4) {l : Int} (hl : (σ (95 + 2 * s) 2).toInt = l) (hL : 0 ≤ l ∧ l ≤ 24) (x n : Int32) : f4_holds k (95 + 2 * s) x n σ = some (if 0 ≤ n.toInt ∧ 0 ≤ x.toInt ∧ x.toInt + n.toInt ≤ l then 1 else 0, σ) := by
  rw [f4_holds, if_pos (sh_s hs)]
  simp only [Int32.lt_iff_toInt_lt, t_0, hl]
  by_cases c1 : n.toInt < 0
  · rw [if_pos c1, if_neg (by omega)]
  · rw [if_neg c1]
    by_cases c2 : x.toInt < 0
    · rw [if_pos c2, if_neg (by omega)]
    · rw [if_neg c2]
      by_cases c3 : l < n.toInt
      · rw [if_pos c3, if_neg (by omega)]
      · rw [if_neg c3]
        have e : (σ (95 + 2 * s) 2 - n).toInt = l - n.toInt := by rw [i_sub (by rw [hl]; omega), hl]
        rw [e]
        by_cases c4 : l - n.toInt < x.toInt
        · rw [if_pos c4, if_neg (by omega)]
        · rw [if_neg c4, if_pos (by omega)]
/-- the model's numbers, moved -/
theorem s9_mv (hk : 30 ≤ k) {a b i j n : Nat} (ha : a < 4) (hb : b < 4) (hi : i + n ≤ 24) (hj : j + n ≤ 24) : ∃ z, f9_move_28 k k (nI a) (nI i) (nI b) (nI j) (nI n) 0 σ = some (nI n, z) ∧ (∀ v, v < n → z 110 (24 * b + j + v) = σ 110 (24 * a + i + v)) ∧ (∀ x, (x < 24 * b + j ∨ 24 * b + j + n ≤ x) → z 110 x = σ 110 x) ∧ ∀ o, o ≠ 110 → z o = σ o := by
  have ix : ∀ (c p v : Nat), c < 4 → p + v < 24 → (24 : Int32) * nI c + nI p + nI v = nI (24 * c + p + v) := fun c p v hc hp => by rw [i_sx hc (by omega), i_ad (by omega)]
  have fin : ∀ z : ZS, (∀ v, v < n → z 110 (24 * b + j + v) = σ 110 (24 * a + i + v)) → (∀ x, (x < 24 * b + j ∨ 24 * b + j + n ≤ x) → z 110 x = σ 110 x) → (∀ o, o ≠ 110 → z o = σ o) → ∀ q, 0 < q → ∃ z', f9_move_28 k q (nI a) (nI i) (nI b) (nI j) (nI n) (nI n) z = some (nI n, z') ∧ (∀ v, v < n → z' 110 (24 * b + j + v) = σ 110 (24 * a + i + v)) ∧ (∀ x, (x < 24 * b + j ∨ 24 * b + j + n ≤ x) → z' 110 x = σ 110 x) ∧ ∀ o, o ≠ 110 → z' o = σ o := by
    intro z h1 h2 h3 q hq
    obtain ⟨q, rfl⟩ : ∃ w, q = w + 1 := ⟨q - 1, by omega⟩
    refine ⟨z, ?_, h1, h2, h3⟩
    show b9_move_28 k _ _ _ _ _ _ _ z = _
    rw [b9_move_28, if_pos (by rw [Int32.le_iff_toInt_le]; exact Int.le_refl _)]
  have hni : (nI i).toInt = i := nI_toInt (by omega)
  have hnj : (nI j).toInt = j := nI_toInt (by omega)
  by_cases hd : j ≤ i
  · have key : ∀ (d t q : Nat) (z : ZS), t + d = n → d < q → (∀ v, v < t → z 110 (24 * b + j + v) = σ 110 (24 * a + i + v)) → (∀ x, (x < 24 * b + j ∨ 24 * b + j + t ≤ x) → z 110 x = σ 110 x) → (∀ o, o ≠ 110 → z o = σ o) → ∃ z', f9_move_28 k q (nI a) (nI i) (nI b) (nI j) (nI n) (nI t) z = some (nI n, z') ∧ (∀ v, v < n → z' 110 (24 * b + j + v) = σ 110 (24 * a + i + v)) ∧ (∀ x, (x < 24 * b + j ∨ 24 * b + j + n ≤ x) → z' 110 x = σ 110 x) ∧ ∀ o, o ≠ 110 → z' o = σ o := by
      intro d
      induction d with
      | zero =>
        intro t q z ht hq h1 h2 h3
        have : t = n := by omega
        subst this
        exact fin z h1 h2 h3 q (by omega)
      | succ d ih =>
        intro t q z ht hq h1 h2 h3
        obtain ⟨q, rfl⟩ : ∃ w, q = w + 1 := ⟨q - 1, by omega⟩
        obtain ⟨z', g1, g2, g3, g4⟩ := ih (t + 1) q (zu z 110 (24 * b + j + t) (z 110 (24 * a + i + t))) (by omega) (by omega) (fun v hv => by
          by_cases c : v = t
          · subst c
            rw [zu_at]
            by_cases e : a = b
            · subst e
              by_cases e2 : j = i
              · subst e2; exact h2 _ (by omega)
              · exact h2 _ (by omega)
            · exact h2 _ (by omega)
          · rw [zu_k (by omega)]; exact h1 v (by omega)) (fun x hx => by rw [zu_k (by omega)]; exact h2 x (by omega)) (fun o ho => by rw [zu_o ho]; exact h3 o ho)
        refine ⟨z', ?_, g2, g3, g4⟩
        show b9_move_28 k (f9_move_28 k q) _ _ _ _ _ _ z = _
        rw [b9_move_28, if_neg (by rw [Int32.le_iff_toInt_le, nI_toInt (by omega), nI_toInt (by omega)]; omega), if_pos (by rw [Int32.le_iff_toInt_le, hni, hnj]; omega), b9_move_53, ix a i t ha (by omega), ix b j t hb (by omega), if_pos (nI_z (by omega) (by decide)), if_pos (nI_z (by omega) (by decide)), zput_eq, nI_nat (by omega), nI_nat (by omega), nI_1]
        exact g1
    exact key n 0 k σ (by omega) (by omega) (fun v hv => absurd hv (by omega)) (fun _ _ => rfl) (fun _ _ => rfl)
  · have key : ∀ (d t q : Nat) (z : ZS), t + d = n → d < q → (∀ v, d ≤ v → v < n → z 110 (24 * b + j + v) = σ 110 (24 * a + i + v)) → (∀ x, (x < 24 * b + j + d ∨ 24 * b + j + n ≤ x) → z 110 x = σ 110 x) → (∀ o, o ≠ 110 → z o = σ o) → ∃ z', f9_move_28 k q (nI a) (nI i) (nI b) (nI j) (nI n) (nI t) z = some (nI n, z') ∧ (∀ v, v < n → z' 110 (24 * b + j + v) = σ 110 (24 * a + i + v)) ∧ (∀ x, (x < 24 * b + j ∨ 24 * b + j + n ≤ x) → z' 110 x = σ 110 x) ∧ ∀ o, o ≠ 110 → z' o = σ o := by
      intro d
      induction d with
      | zero =>
        intro t q z ht hq h1 h2 h3
        have : t = n := by omega
        subst this
        exact fin z (fun v hv => h1 v (by omega) hv) h2 h3 q (by omega)
      | succ d ih =>
        intro t q z ht hq h1 h2 h3
        obtain ⟨q, rfl⟩ : ∃ w, q = w + 1 := ⟨q - 1, by omega⟩
        obtain ⟨z', g1, g2, g3, g4⟩ := ih (t + 1) q (zu z 110 (24 * b + j + d) (z 110 (24 * a + i + d))) (by omega) (by omega) (fun v hv hv2 => by
          by_cases c : v = d
          · subst c
            rw [zu_at]
            by_cases e : a = b
            · subst e; exact h2 _ (by omega)
            · exact h2 _ (by omega)
          · rw [zu_k (by omega)]; exact h1 v (by omega) hv2) (fun x hx => by rw [zu_k (by omega)]; exact h2 x (by omega)) (fun o ho => by rw [zu_o ho]; exact h3 o ho)
        refine ⟨z', ?_, g2, g3, g4⟩
        have ev : nI n - 1 - nI t = nI d := by rw [nI_sub (by omega) (by omega), i_sb (by omega) (by omega), show n - 1 - t = d by omega]
        show b9_move_28 k (f9_move_28 k q) _ _ _ _ _ _ z = _
        rw [b9_move_28, if_neg (by rw [Int32.le_iff_toInt_le, nI_toInt (by omega), nI_toInt (by omega)]; omega), if_neg (by rw [Int32.le_iff_toInt_le, hni, hnj]; omega), b9_move_53, ev, ix a i d ha (by omega), ix b j d hb (by omega), if_pos (nI_z (by omega) (by decide)), if_pos (nI_z (by omega) (by decide)), zput_eq, nI_nat (by omega), nI_nat (by omega), nI_1]
        exact g1
    exact key n 0 k σ (by omega) (by omega) (fun v hv hv2 => absurd hv2 (by omega)) (fun _ _ => rfl) (fun _ _ => rfl)
theorem op_move (hk : 30 ≤ k) (h : Rel m σ) (x i y j n : Int32) : opk m (f8_move k x i y j n) (f9_move k x i y j n) σ := by
  by_cases c1 : 0 ≤ x.toInt ∧ x.toInt ≤ 3
  · by_cases c2 : 0 ≤ y.toInt ∧ y.toInt ≤ 3
    · obtain ⟨a, ha, rfl⟩ : ∃ s : Nat, s < 4 ∧ x = nI s := ⟨x.toInt.toNat, by omega, i_nat c1.1⟩
      obtain ⟨b, hb, rfl⟩ : ∃ s : Nat, s < 4 ∧ y = nI s := ⟨y.toInt.toNat, by omega, i_nat c2.1⟩
      have hax : (nI a).toInt = a := nI_toInt (by omega)
      have hbx : (nI b).toInt = b := nI_toInt (by omega)
      have han : (a : Int).toNat = a := by omega
      have hbn : (b : Int).toNat = b := by omega
      have hza : zin (nI a) 4 := nI_z ha (by decide)
      have hzb : zin (nI b) 4 := nI_z hb (by decide)
      have nna : (nI a).toNatClampNeg = a := nI_nat (by omega)
      have nnb : (nI b).toNatClampNeg = b := nI_nat (by omega)
      obtain ⟨⟨a1, a2⟩, a3, a4, a5⟩ := h.2.2.2.2.1 a ha
      obtain ⟨⟨b1, b2⟩, b3, b4, b5⟩ := h.2.2.2.2.1 b hb
      have r8 : f8_move k (nI a) i (nI b) j n σ = (if σ 108 a = 0 then some (-1000000002, zu σ 94 2 (σ 94 2 + 1)) else if σ 108 b = 0 then some (-1000000002, zu σ 94 2 (σ 94 2 + 1)) else if σ 108 a = σ 108 b then (if (0 ≤ n.toInt ∧ 0 ≤ i.toInt ∧ i.toInt + n.toInt ≤ (σ 109 a).toInt) ∧ (0 ≤ n.toInt ∧ 0 ≤ j.toInt ∧ j.toInt + n.toInt ≤ (σ 109 b).toInt) then some (n, zurow σ (95 + 2 * b + 1) (va_cpy (σ (95 + 2 * a + 1)) (σ (95 + 2 * b + 1)) i.toNatClampNeg j.toNatClampNeg n.toNatClampNeg)) else some (-1000000001, zu σ 94 1 (σ 94 1 + 1))) else some (-1000000005, zu σ 94 5 (σ 94 5 + 1))) := by
        rw [f8_move, s8_sheetOf, zbd_some, if_pos c1, s8_sheetOf, zbd_some, if_pos c2, hax, hbx, han, hbn, if_neg (show ¬ 95 + 2 * a = 0 by omega), if_neg (show ¬ 95 + 2 * b = 0 by omega), if_pos (sh_s ha), if_pos (sh_s hb), a1, b1]
        by_cases d1 : σ 108 a = 0
        · rw [if_pos d1, if_pos d1, e8_2]; rfl
        · rw [if_neg d1, if_neg d1]
          by_cases d2 : σ 108 b = 0
          · rw [if_pos d2, if_pos d2, e8_2]; rfl
          · rw [if_neg d2, if_neg d2]
            by_cases d3 : σ 108 a = σ 108 b
            · rw [if_pos d3, if_pos d3, s4_holds ha (by rw [a2]) a4, zbd_some]
              by_cases d4 : 0 ≤ n.toInt ∧ 0 ≤ i.toInt ∧ i.toInt + n.toInt ≤ (σ 109 a).toInt
              · rw [if_pos d4, if_neg (show ¬ (1 : Int32) = 0 by decide), s4_holds hb (by rw [b2]) b4, zbd_some]
                by_cases d5 : 0 ≤ n.toInt ∧ 0 ≤ j.toInt ∧ j.toInt + n.toInt ≤ (σ 109 b).toInt
                · rw [if_pos d5, if_neg (show ¬ (1 : Int32) = 0 by decide), if_pos (show 0 ≤ i.toInt ∧ 0 ≤ j.toInt ∧ 0 ≤ n.toInt ∧ i.toInt + n.toInt ≤ 24 ∧ j.toInt + n.toInt ≤ 24 by omega), zput_eq, if_pos ⟨d4, d5⟩]
                · rw [if_neg d5, if_pos (show (0 : Int32) = 0 from rfl), if_neg (fun q => d5 q.2), e8_1]; rfl
              · rw [if_neg d4, if_pos (show (0 : Int32) = 0 from rfl), if_neg (fun q => d4 q.1), e8_1]; rfl
            · rw [if_neg d3, if_neg d3, e8_5]; rfl
      have r9 : ∀ z : ZS, z 108 = σ 108 → z 109 = σ 109 → f9_notMoved k (nI a) i (nI b) j n z = some (if σ 108 a = 0 then -1000000002 else if σ 108 b = 0 then -1000000002 else if σ 108 a = σ 108 b then (if (0 ≤ n.toInt ∧ 0 ≤ i.toInt ∧ i.toInt + n.toInt ≤ (σ 109 a).toInt) ∧ (0 ≤ n.toInt ∧ 0 ≤ j.toInt ∧ j.toInt + n.toInt ≤ (σ 109 b).toInt) then 0 else -1000000001) else -1000000005, z) := by
        intro z q1 q2
        rw [f9_notMoved, s9_isSheet, zbd_some, if_pos c1, if_neg (show ¬ (1 : Int32) = 0 by decide), s9_isSheet, zbd_some, if_pos c2, if_neg (show ¬ (1 : Int32) = 0 by decide)]
        rw [if_pos hza, nna, q1]
        by_cases d1 : σ 108 a = 0
        · rw [if_pos d1, if_pos d1]
        · rw [if_neg d1, if_neg d1, if_pos hzb, nnb]
          by_cases d2 : σ 108 b = 0
          · rw [if_pos d2, if_pos d2]
          · rw [if_neg d2, if_neg d2, if_pos hza, if_pos hzb]
            by_cases d3 : σ 108 a = σ 108 b
            · rw [if_pos d3, if_pos d3]
              by_cases e1 : n < 0
              · rw [if_pos e1, if_pos (show (0 : Int32) = 0 from rfl), if_neg (by rw [Int32.lt_iff_toInt_lt, t_0] at e1; omega)]
              · rw [if_neg e1]
                by_cases e2 : i < 0
                · rw [if_pos e2, if_pos (show (0 : Int32) = 0 from rfl), if_neg (by rw [Int32.lt_iff_toInt_lt, t_0] at e2; omega)]
                · rw [if_neg e2]
                  by_cases e3 : j < 0
                  · rw [if_pos e3, if_pos (show (0 : Int32) = 0 from rfl), if_neg (by rw [Int32.lt_iff_toInt_lt, t_0] at e3; omega)]
                  · rw [if_neg e3, if_pos hza, q2]
                    rw [Int32.lt_iff_toInt_lt, t_0] at e1 e2 e3
                    have s1 : (σ 109 a - i).toInt = (σ 109 a).toInt - i.toInt := i_sub (by have := i_rng i; omega)
                    have s2 : (σ 109 b - j).toInt = (σ 109 b).toInt - j.toInt := i_sub (by have := i_rng j; omega)
                    by_cases e4 : σ 109 a - i < n
                    · rw [if_pos e4, if_pos (show (0 : Int32) = 0 from rfl), if_neg (by rw [Int32.lt_iff_toInt_lt, s1] at e4; omega)]
                    · rw [if_neg e4, if_pos hzb]
                      by_cases e5 : σ 109 b - j < n
                      · rw [if_pos e5, if_pos (show (0 : Int32) = 0 from rfl), if_neg (by rw [Int32.lt_iff_toInt_lt, s2] at e5; omega)]
                      · rw [if_neg e5, if_neg (show ¬ (1 : Int32) = 0 by decide), if_pos (by rw [Int32.lt_iff_toInt_lt, s1] at e4; rw [Int32.lt_iff_toInt_lt, s2] at e5; omega)]
            · rw [if_neg d3, if_neg d3]
      by_cases d1 : σ 108 a = 0
      · refine opk_e2 h (by rw [r8, if_pos d1]) fun z hs => ?_
        rw [f9_move, r9 z (hs 108 (by decide)) (hs 109 (by decide)), zbd_some, if_pos d1, if_neg (by decide), e9_2]; rfl
      · by_cases d2 : σ 108 b = 0
        · refine opk_e2 h (by rw [r8, if_neg d1, if_pos d2]) fun z hs => ?_
          rw [f9_move, r9 z (hs 108 (by decide)) (hs 109 (by decide)), zbd_some, if_neg d1, if_pos d2, if_neg (by decide), e9_2]; rfl
        · by_cases d3 : σ 108 a = σ 108 b
          · by_cases d4 : (0 ≤ n.toInt ∧ 0 ≤ i.toInt ∧ i.toInt + n.toInt ≤ (σ 109 a).toInt) ∧ (0 ≤ n.toInt ∧ 0 ≤ j.toInt ∧ j.toInt + n.toInt ≤ (σ 109 b).toInt)
            · obtain ⟨n, hn24, rfl⟩ : ∃ q : Nat, q ≤ 24 ∧ n = nI q := ⟨n.toInt.toNat, by omega, i_nat d4.1.1⟩
              obtain ⟨i, hi24, rfl⟩ : ∃ q : Nat, q ≤ 24 ∧ i = nI q := ⟨i.toInt.toNat, by omega, i_nat d4.1.2.1⟩
              obtain ⟨j, hj24, rfl⟩ : ∃ q : Nat, q ≤ 24 ∧ j = nI q := ⟨j.toInt.toNat, by omega, i_nat d4.2.2.1⟩
              have d4' := d4
              rw [nI_toInt (by omega), nI_toInt (by omega), nI_toInt (by omega)] at d4'
              obtain ⟨s1, hs1⟩ : ∃ s1, s1 = zurow σ (95 + 2 * b + 1) (va_cpy (σ (95 + 2 * a + 1)) (σ (95 + 2 * b + 1)) i j n) := ⟨_, rfl⟩
              have q1 : ∀ o, o ≠ 95 + 2 * b + 1 → s1 o = σ o := fun o ho => by rw [hs1]; exact zr_o ho
              obtain ⟨z, e1, e2, e3, e4⟩ := s9_mv (k := k) (σ := s1) hk (i := i) (j := j) (n := n) ha hb (by omega) (by omega)
              refine ⟨nI n, s1, z, ?_, ?_, h.sheets (fun s hs => ?_) (fun o ho => by rw [e4 o (by omega), q1 o (by omega)])⟩
              · rw [r8, if_neg d1, if_neg d2, if_pos d3, if_pos d4, hs1, nI_nat (by omega), nI_nat (by omega), nI_nat (by omega)]
              · rw [f9_move, r9 _ (q1 108 (by omega)) (q1 109 (by omega)), zbd_some, if_neg d1, if_neg d2, if_pos d3, if_pos d4, if_pos rfl]
                exact e1
              · obtain ⟨g1, g2, g3, g4⟩ := h.2.2.2.2.1 s hs
                rw [e4 (95 + 2 * s) (by omega), e4 108 (by omega), e4 109 (by omega), q1 (95 + 2 * s) (by omega), q1 108 (by omega), q1 109 (by omega)]
                refine ⟨g1, g2, g3, fun x hx => ?_⟩
                rw [e4 (96 + 2 * s) (by omega)]
                by_cases c : s = b
                · subst c
                  have hx2 : s1 (96 + 2 * s) x = va_cpy (σ (95 + 2 * a + 1)) (σ (95 + 2 * s + 1)) i j n x := by
                    rw [hs1, show 96 + 2 * s = 95 + 2 * s + 1 by omega]
                    unfold zurow
                    rw [if_pos rfl]
                  rw [hx2]
                  unfold va_cpy
                  by_cases c2 : j ≤ x ∧ x < j + n
                  · rw [if_pos c2, show 24 * s + x = 24 * s + j + (x - j) by omega, e2 (x - j) (by omega), q1 110 (by omega), show 95 + 2 * a + 1 = 96 + 2 * a by omega, show 24 * a + i + (x - j) = 24 * a + (i + (x - j)) by omega]
                    exact a5 _ (by omega)
                  · rw [if_neg c2, e3 _ (by omega), q1 110 (by omega), show 95 + 2 * s + 1 = 96 + 2 * s by omega]
                    exact g4 x hx
                · rw [q1 (96 + 2 * s) (by omega), e3 _ (by omega), q1 110 (by omega)]
                  exact g4 x hx
            · refine opk_e1 h (by rw [r8, if_neg d1, if_neg d2, if_pos d3, if_neg d4]) fun z hs => ?_
              rw [f9_move, r9 z (hs 108 (by decide)) (hs 109 (by decide)), zbd_some, if_neg d1, if_neg d2, if_pos d3, if_neg d4, if_neg (by decide), e9_1]; rfl
          · refine opk_e5 h (by rw [r8, if_neg d1, if_neg d2, if_neg d3]) fun z hs => ?_
            rw [f9_move, r9 z (hs 108 (by decide)) (hs 109 (by decide)), zbd_some, if_neg d1, if_neg d2, if_neg d3, if_neg (by decide), e9_5]; rfl
    · refine opk_e1 h ?_ fun s hs => ?_
      · rw [f8_move, s8_sheetOf, zbd_some, if_pos c1, s8_sheetOf, zbd_some, if_neg c2, if_neg (by omega), if_pos rfl, e8_1]; rfl
      · rw [f9_move, f9_notMoved, s9_isSheet, zbd_some, if_pos c1, if_neg (by decide), s9_isSheet, zbd_some, if_neg c2, if_pos rfl, zbd_some, if_neg (by decide), e9_1]; rfl
  · refine opk_e1 h ?_ fun s hs => ?_
    · rw [f8_move, s8_sheetOf, zbd_some, if_neg c1, s8_sheetOf, zbd_some, if_pos rfl, e8_1]; rfl
    · rw [f9_move, f9_notMoved, s9_isSheet, zbd_some, if_neg c1, if_pos rfl, zbd_some, if_neg (by decide), e9_1]; rfl
end
