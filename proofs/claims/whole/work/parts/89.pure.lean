/-! the law answers 1 -/
theorem law_all {k N : Nat} {xs : Nat → Int32} (hk : 400 ≤ k) (hN : N ≤ 3072) : ∀ (d m q : Nat) (σ : ZS), N < 6 * (m + d) + 6 → m ≤ 512 → d < q → Rel m σ → ∃ z, fW_law_18 k N xs q (nI (6 * m)) σ = some (1, z) := by
  intro d
  induction d with
  | zero =>
    intro m q σ hd hm hq h
    obtain ⟨q, rfl⟩ : ∃ w, q = w + 1 := ⟨q - 1, by omega⟩
    have e6 : (nI N - 6).toInt = (N : Int) - 6 := by rw [i_sub (by rw [nI_toInt (by omega), t_6]; omega), nI_toInt (by omega), t_6]
    refine ⟨σ, ?_⟩
    show bW_law_18 k N xs _ (nI (6 * m)) σ = _
    rw [bW_law_18, if_pos (by rw [Int32.lt_iff_toInt_lt, e6, nI_toInt (by omega)]; omega)]
  | succ d ih =>
    intro m q σ hd hm hq h
    obtain ⟨q, rfl⟩ : ∃ w, q = w + 1 := ⟨q - 1, by omega⟩
    have e6 : (nI N - 6).toInt = (N : Int) - 6 := by rw [i_sub (by rw [nI_toInt (by omega), t_6]; omega), nI_toInt (by omega), t_6]
    show ∃ z, bW_law_18 k N xs (fW_law_18 k N xs q) (nI (6 * m)) σ = _
    rw [bW_law_18]
    by_cases c : nI N - 6 < nI (6 * m)
    · exact ⟨σ, by rw [if_pos c]⟩
    · rw [if_neg c]
      rw [Int32.lt_iff_toInt_lt, e6, nI_toInt (by omega)] at c
      have hz : ∀ j : Nat, j ≤ 5 → zin (nI (6 * m) + nI j) N := fun j hj => by rw [i_ad (by omega)]; exact nI_z (by omega) (by omega)
      have h0 : zin (nI (6 * m)) N := nI_z (by omega) (by omega)
      have h1 : zin (nI (6 * m) + 1) N := hz 1 (by decide)
      have h2 : zin (nI (6 * m) + 2) N := hz 2 (by decide)
      have h3 : zin (nI (6 * m) + 3) N := hz 3 (by decide)
      have h4 : zin (nI (6 * m) + 4) N := hz 4 (by decide)
      have h5 : zin (nI (6 * m) + 5) N := hz 5 (by decide)
      have hx6 : nI (6 * m) + 6 = nI (6 * (m + 1)) := by
        have : nI (6 * m) + nI 6 = nI (6 * m + 6) := i_ad (by omega)
        rw [show 6 * (m + 1) = 6 * m + 6 by omega]
        exact this
      have hq : ∀ s, Rel (m + 1) s → ∃ z, fW_law_18 k N xs q (nI (6 * m) + 6) s = some (1, z) := fun s hs => by
        rw [hx6]
        exact ih (m + 1) q s (by omega) (by omega) (by omega) hs
      have hm' : m ≤ 100000 := by omega
      rw [if_pos h0]
      generalize xs (nI (6 * m)).toNatClampNeg &&& (63 : Int32) = v
      by_cases c0 : v = 0
      · rw [if_pos c0]; exact lw_208 hk hm' h h1 h2 h3 h4 h5 hq
      rw [if_neg c0]
      by_cases c1 : v = 1
      · rw [if_pos c1]; exact lw_251 hk hm' h h1 h2 h3 h4 h5 hq
      rw [if_neg c1]
      by_cases c2 : v = 2
      · rw [if_pos c2]; exact lw_284 hk hm' h h1 h2 h3 h4 h5 hq
      rw [if_neg c2]
      by_cases c3 : v = 3
      · rw [if_pos c3]; exact lw_317 hk hm' h h1 h2 h3 h4 h5 hq
      rw [if_neg c3]
      by_cases c4 : v = 4
      · rw [if_pos c4]; exact lw_350 hk hm' h h1 h2 h3 h4 h5 hq
      rw [if_neg c4]
      by_cases c5 : v = 5
      · rw [if_pos c5]; exact lw_383 hk hm' h h1 h2 h3 h4 h5 hq
      rw [if_neg c5]
      by_cases c6 : v = 6
      · rw [if_pos c6]; exact lw_416 hk hm' h h1 h2 h3 h4 h5 hq
      rw [if_neg c6]
      by_cases c7 : v = 7
      · rw [if_pos c7]; exact lw_449 hk hm' h h1 h2 h3 h4 h5 hq
      rw [if_neg c7]
      by_cases c8 : v = 8
      · rw [if_pos c8]; exact lw_482 hk hm' h h1 h2 h3 h4 h5 hq
      rw [if_neg c8]
      by_cases c9 : v = 9
      · rw [if_pos c9]; exact lw_515 hk hm' h h1 h2 h3 h4 h5 hq
      rw [if_neg c9]
      by_cases c10 : v = 10
      · rw [if_pos c10]; exact lw_558 hk hm' h h1 h2 h3 h4 h5 hq
      rw [if_neg c10]
      by_cases c11 : v = 11
      · rw [if_pos c11]; exact lw_591 hk hm' h h1 h2 h3 h4 h5 hq
      rw [if_neg c11]
      by_cases c12 : v = 12
      · rw [if_pos c12]; exact lw_614 hk hm' h h1 h2 h3 h4 h5 hq
      rw [if_neg c12]
      by_cases c13 : v = 13
      · rw [if_pos c13]; exact lw_677 hk hm' h h1 h2 h3 h4 h5 hq
      rw [if_neg c13]
      by_cases c14 : v = 14
      · rw [if_pos c14]; exact lw_700 hk hm' h h1 h2 h3 h4 h5 hq
      rw [if_neg c14]
      by_cases c15 : v = 15
      · rw [if_pos c15]; exact lw_723 hk hm' h h1 h2 h3 h4 h5 hq
      rw [if_neg c15]
      by_cases c16 : v = 16
      · rw [if_pos c16]; exact lw_776 hk hm' h h1 h2 h3 h4 h5 hq
      rw [if_neg c16]
      by_cases c17 : v = 17
      · rw [if_pos c17]; exact lw_799 hk hm' h h1 h2 h3 h4 h5 hq
      rw [if_neg c17]
      by_cases c18 : v = 18
      · rw [if_pos c18]; exact lw_822 hk hm' h h1 h2 h3 h4 h5 hq
      rw [if_neg c18]
      by_cases c19 : v = 19
      · rw [if_pos c19]; exact lw_845 hk hm' h h1 h2 h3 h4 h5 hq
      rw [if_neg c19]
      by_cases c20 : v = 20
      · rw [if_pos c20]; exact lw_888 hk hm' h h1 h2 h3 h4 h5 hq
      rw [if_neg c20]
      by_cases c21 : v = 21
      · rw [if_pos c21]; exact lw_931 hk hm' h h1 h2 h3 h4 h5 hq
      rw [if_neg c21]
      by_cases c22 : v = 22
      · rw [if_pos c22]; exact lw_954 hk hm' h h1 h2 h3 h4 h5 hq
      rw [if_neg c22]
      by_cases c23 : v = 23
      · rw [if_pos c23]; exact lw_987 hk hm' h h1 h2 h3 h4 h5 hq
      rw [if_neg c23]
      by_cases c24 : v = 24
      · rw [if_pos c24]; exact lw_1020 hk hm' h h1 h2 h3 h4 h5 hq
      rw [if_neg c24]
      by_cases c25 : v = 25
      · rw [if_pos c25]; exact lw_1063 hk hm' h h1 h2 h3 h4 h5 hq
      rw [if_neg c25]
      by_cases c26 : v = 26
      · rw [if_pos c26]; exact lw_1086 hk hm' h h1 h2 h3 h4 h5 hq
      rw [if_neg c26]
      by_cases c27 : v = 27
      · rw [if_pos c27]; exact lw_1119 hk hm' h h1 h2 h3 h4 h5 hq
      rw [if_neg c27]
      by_cases c28 : v = 28
      · rw [if_pos c28]; exact lw_1162 hk hm' h h1 h2 h3 h4 h5 hq
      rw [if_neg c28]
      by_cases c29 : v = 29
      · rw [if_pos c29]; exact lw_1185 hk hm' h h1 h2 h3 h4 h5 hq
      rw [if_neg c29]
      by_cases c30 : v = 30
      · rw [if_pos c30]; exact lw_1228 hk hm' h h1 h2 h3 h4 h5 hq
      rw [if_neg c30]
      by_cases c31 : v = 31
      · rw [if_pos c31]; exact lw_1271 hk hm' h h1 h2 h3 h4 h5 hq
      rw [if_neg c31]
      by_cases c32 : v = 32
      · rw [if_pos c32]; exact lw_1334 hk hm' h h1 h2 h3 h4 h5 hq
      rw [if_neg c32]
      by_cases c33 : v = 33
      · rw [if_pos c33]; exact lw_1357 hk hm' h h1 h2 h3 h4 h5 hq
      rw [if_neg c33]
      by_cases c34 : v = 34
      · rw [if_pos c34]; exact lw_1380 hk hm' h h1 h2 h3 h4 h5 hq
      rw [if_neg c34]
      by_cases c35 : v = 35
      · rw [if_pos c35]; exact lw_1393 hk hm' h h1 h2 h3 h4 h5 hq
      rw [if_neg c35]
      by_cases c36 : v = 36
      · rw [if_pos c36]; exact lw_1406 hk hm' h h1 h2 h3 h4 h5 hq
      rw [if_neg c36]
      by_cases c37 : v = 37
      · rw [if_pos c37]; exact lw_1429 hk hm' h h1 h2 h3 h4 h5 hq
      rw [if_neg c37]
      by_cases c38 : v = 38
      · rw [if_pos c38]; exact lw_1442 hk hm' h h1 h2 h3 h4 h5 hq
      rw [if_neg c38]
      by_cases c39 : v = 39
      · rw [if_pos c39]; exact lw_1465 hk hm' h h1 h2 h3 h4 h5 hq
      rw [if_neg c39]
      exact hq σ h.up
theorem pure_law (N : Nat) (xs : Nat → Int32) (hN : N ≤ 3072) : ∃ (k n : Nat) (σr : ZS), fW_law_18 k N xs n 0 zs0 = some (1, σr) := by
  obtain ⟨z, hz⟩ := law_all (k := 400) (N := N) (xs := xs) (Nat.le_refl _) hN 512 0 513 zs0 (by omega) (by decide) (by decide) Rel.zero
  exact ⟨400, 513, z, hz⟩
