/-! fits -/
def isS (N : Nat → Int32) (A : List Int32) : Nat → Nat → Bool
  | 0, _ => true
  | d + 1, i => if N i = A.getD i 0 then isS N A d (i + 1) else false
def isSo (N : Nat → Int32) (L : Nat) (A : List Int32) : Bool := if L ≤ A.length then isS N A L 0 else false
section
variable {m k : Nat} {σ : ZS}
theorem s8_isLook (hk : 30 ≤ k) {s L : Nat} (hs : s < 4) {A M : List Int32} {b : Bool} (h : L8 σ A M b) (hA : A.length ≤ 257) (hL : L ≤ 24) (e : σ (95 + 2 * s) 2 = nI L) : f8_isLook k (95 + 2 * s) σ = some (if isSo (σ (96 + 2 * s)) L A then 1 else 0, σ) := by
  have key : ∀ (d i n : Nat), i + d = L → L ≤ A.length → d < n → f8_isLook_18 k n (95 + 2 * s) (nI i) σ = some (if isS (σ (96 + 2 * s)) A d i then 1 else 0, σ) := by
    intro d
    induction d with
    | zero =>
      intro i n hi hl hn
      obtain ⟨n, rfl⟩ : ∃ q, n = q + 1 := ⟨n - 1, by omega⟩
      show b8_isLook_18 k _ _ _ σ = _
      rw [b8_isLook_18, if_pos (sh_s hs), e, if_pos (by rw [Int32.le_iff_toInt_le, nI_toInt (by omega), nI_toInt (by omega)]; omega)]
      rfl
    | succ d ih =>
      intro i n hi hl hn
      obtain ⟨n, rfl⟩ : ∃ q, n = q + 1 := ⟨n - 1, by omega⟩
      have hx : (nI i).toInt = i := nI_toInt (by omega)
      show b8_isLook_18 k _ _ _ σ = _
      rw [b8_isLook_18, if_pos (sh_s hs), e, if_neg (by rw [Int32.le_iff_toInt_le, nI_toInt (by omega), nI_toInt (by omega)]; omega), s4_num hs (by omega), zbd_some, f1_cellAt, if_neg (by rw [Int32.lt_iff_toInt_lt, hx, t_0]; omega), h.1, if_neg (by rw [Int32.le_iff_toInt_le, hx, nI_toInt (by omega)]; omega), if_pos (by rw [Int32.lt_iff_toInt_lt, hx, t_257]; omega), if_pos (nI_z (by omega) (by decide)), zbd_some, nI_nat (by omega), h.2.2.2.1 i (by omega), nI_1, isS]
      by_cases c : σ (96 + 2 * s) i = A.getD i 0
      · rw [if_pos c, if_pos c]; exact ih (i + 1) n (by omega) hl (by omega)
      · rw [if_neg c, if_neg c]; rfl
  rw [f8_isLook, if_pos (sh_s hs), e, h.1, isSo]
  by_cases c : L ≤ A.length
  · rw [if_pos (by rw [Int32.le_iff_toInt_le, nI_toInt (by omega), nI_toInt (by omega)]; omega), if_pos c]
    exact key L 0 k (by omega) c (by omega)
  · rw [if_neg (by rw [Int32.le_iff_toInt_le, nI_toInt (by omega), nI_toInt (by omega)]; omega), if_neg c]; rfl
theorem s9_isSo (hk : 30 ≤ k) {s L : Nat} (hs : s < 4) {A : List Int32} (h9 : σ 103 9 = nI A.length) (h : hol (σ 111) A) (hA : A.length ≤ 257) (hL : L ≤ 24) (e : σ 109 s = nI L) {N : Nat → Int32} (hN : ∀ i, i < 24 → σ 110 (24 * s + i) = N i) : f9_isSo k (nI s) σ = some (if isSo N L A then 1 else 0, σ) := by
  have hz : zin (nI s) 4 := nI_z hs (by decide)
  have z0 : ∀ (n : Nat) (x : Int32), 0 < n → f9_isSo_21 k n (nI s) 0 x σ = some (0, σ) := by
    intro n x hn
    obtain ⟨n, rfl⟩ : ∃ q, n = q + 1 := ⟨n - 1, by omega⟩
    show b9_isSo_21 k _ _ _ _ σ = _
    rw [b9_isSo_21, if_pos hz, if_pos (show zbo 0 from Or.inl rfl), if_pos (show (0 : Int32) = 0 from rfl), ite_self]
  have key : ∀ (d i n : Nat), i + d = L → L ≤ A.length → d < n → f9_isSo_21 k n (nI s) 1 (nI i) σ = some (if isS N A d i then 1 else 0, σ) := by
    intro d
    induction d with
    | zero =>
      intro i n hi hl hn
      obtain ⟨n, rfl⟩ : ∃ q, n = q + 1 := ⟨n - 1, by omega⟩
      show b9_isSo_21 k _ _ _ _ σ = _
      rw [b9_isSo_21, if_pos hz, nI_nat (by omega), e, if_pos (by rw [Int32.le_iff_toInt_le, nI_toInt (by omega), nI_toInt (by omega)]; omega), if_pos (show zbo 1 from Or.inr rfl)]
      rfl
    | succ d ih =>
      intro i n hi hl hn
      obtain ⟨n, rfl⟩ : ∃ q, n = q + 1 := ⟨n - 1, by omega⟩
      show b9_isSo_21 k _ _ _ _ σ = _
      rw [b9_isSo_21, if_pos hz, nI_nat (n := s) (by omega), e, if_neg (by rw [Int32.le_iff_toInt_le, nI_toInt (by omega), nI_toInt (by omega)]; omega), if_neg (by decide), i_sx hs (by omega), if_pos (nI_z (by omega) (by decide)), if_pos (nI_z (by omega) (by decide)), nI_nat (by omega), nI_nat (by omega), hN i (by omega), h i (by omega), nI_1, isS]
      by_cases c : N i = A.getD i 0
      · rw [if_pos c, if_pos c]; exact ih (i + 1) n (by omega) hl (by omega)
      · rw [if_neg c, if_neg c]; exact z0 n _ (by omega)
  rw [f9_isSo, if_pos hz, nI_nat (by omega), h9, e, isSo]
  by_cases c : L ≤ A.length
  · rw [if_neg (by rw [Int32.lt_iff_toInt_lt, nI_toInt (by omega), nI_toInt (by omega)]; omega), if_pos c]
    exact key L 0 k (by omega) c (by omega)
  · rw [if_pos (by rw [Int32.lt_iff_toInt_lt, nI_toInt (by omega), nI_toInt (by omega)]; omega), if_neg c]
    exact z0 k 0 (by omega)
theorem op_fits (hk : 300 ≤ k) (h : Rel m σ) (x a : Int32) : opk m (f8_fits k x a) (f9_fits k x a) σ := by
  by_cases c1 : 0 ≤ x.toInt ∧ x.toInt ≤ 3
  · obtain ⟨s, hs4, rfl⟩ : ∃ s : Nat, s < 4 ∧ x = nI s := ⟨x.toInt.toNat, by omega, i_nat c1.1⟩
    have hsx : (nI s).toInt = s := nI_toInt (by omega)
    have hsn : (s : Int).toNat = s := by omega
    have hz : zin (nI s) 4 := nI_z hs4 (by decide)
    obtain ⟨⟨b1, b2⟩, b3, b4, b5⟩ := h.2.2.2.2.1 s hs4
    by_cases c2 : 0 ≤ a.toInt ∧ a.toInt ≤ 1
    · by_cases c4 : σ 108 s = 0
      · refine opk_e2 h ?_ fun z hs => ?_
        · rw [f8_fits, s8_sheetOf, zbd_some, if_pos c1, hsx, hsn, if_neg (by omega), if_neg (by rw [Int32.lt_iff_toInt_lt, t_0]; omega), if_pos (by rw [Int32.le_iff_toInt_le, t_1]; omega), if_pos (sh_s hs4), b1, if_pos c4, e8_2]; rfl
        · rw [f9_fits, s9_isSheet, zbd_some, if_pos c1, if_neg (by decide), s9_in, zbd_some, t_0, t_1, if_pos c2, if_neg (by decide), if_pos hz, nI_nat (by omega), hs 108 (by decide), if_pos c4, e9_2]; rfl
      · obtain ⟨L, hL, eL⟩ : ∃ L : Nat, L ≤ 24 ∧ σ 109 s = nI L := ⟨(σ 109 s).toInt.toNat, by omega, i_nat b4.1⟩
        obtain ⟨P, hP⟩ : ∃ P : Nat → Bool, P = fun i => isSo (σ (96 + 2 * s)) L (lkA (σ 104) i) := ⟨_, rfl⟩
        refine opk_all (k := k) h P a ?_ fun z hz0 => ?_
        · have key8 : ∀ (d i n : Nat) (z : ZS), i + d = 256 → d < n → (∀ o, pD 2 o → z o = σ o) → ∃ s1, (∀ o, pD 2 o → s1 o = σ o) ∧ f8_fits_47 k n a (95 + 2 * s) (nI (ct P i)) (ls P i) (nI i) z = (if a = 0 then some (nI (ct P 256), s1) else if 0 ≤ ls P 256 then some (ls P 256, s1) else zbd (f8_error k 2 s1) fun r s => some (r, s)) := by
            intro d
            induction d with
            | zero =>
              intro i n z hi hn hz1
              obtain ⟨n, rfl⟩ : ∃ q, n = q + 1 := ⟨n - 1, by omega⟩
              have : i = 256 := by omega
              subst this
              refine ⟨z, hz1, ?_⟩
              show b8_fits_47 k _ a _ (nI (ct P 256)) (ls P 256) 256 z = _
              unfold b8_fits_47
              rw [if_pos (by decide), s8_many]
              by_cases q1 : a = 0
              · rw [if_pos q1]; rfl
              · rw [if_neg q1]
                by_cases q2 : 0 ≤ ls P 256
                · rw [if_pos q2, zbd_some]
                · rw [if_neg q2, e8_2]; rfl
            | succ d ih =>
              intro i n z hi hn hz1
              obtain ⟨n, rfl⟩ : ∃ q, n = q + 1 := ⟨n - 1, by omega⟩
              show ∃ s1, _ ∧ b8_fits_47 k (f8_fits_47 k n) a _ (nI (ct P i)) (ls P i) (nI i) z = _
              unfold b8_fits_47
              obtain ⟨s1, e1, e2, e3⟩ := st8 hk h hz1 (i := i) (by omega)
              have hAl := (lkA_len (R := σ 104) (i := i)).2
              have IH := ih (i + 1) n s1 (by omega) (by omega) e2
              have hc : ct P (i + 1) = ct P i + (if P i then 1 else 0) := rfl
              have hl : ls P (i + 1) = if 0 ≤ ls P i then ls P i else if P i then nI i else -1 := rfl
              have hPi : P i = isSo (σ (96 + 2 * s)) L (lkA (σ 104) i) := by rw [hP]
              rw [if_neg (by rw [Int32.le_iff_toInt_le, nI_toInt (by omega), t_256]; omega), e1, zbd_some, s8_isLook (by omega) hs4 e3 hAl hL (by rw [e2 _ (by unfold pD; omega), b2, eL]), zbd_some, e2 (96 + 2 * s) (by unfold pD; omega), ← hPi, nI_1, nI_1]
              cases hq : P i with
              | false =>
                have hl2 : ls P (i + 1) = ls P i := by
                  have := ls_ld P 0 i (by omega)
                  have h0 : ls P i = if 0 ≤ ls P i then ls P i else -1 := this
                  rw [hl, hq]
                  exact h0.symm
                rw [hc, hq, hl2] at IH
                exact IH
              | true =>
                rw [hc, hl, hq] at IH
                rw [if_pos rfl] at IH
                rw [if_pos (show true = true from rfl), if_neg (show ¬ (1 : Int32) = 0 by decide)]
                by_cases q3 : 0 ≤ ls P i
                · rw [if_pos q3]; rw [if_pos q3] at IH; exact IH
                · rw [if_neg q3]; rw [if_neg q3, if_pos rfl] at IH; exact IH
          obtain ⟨s1, e1, e2⟩ := key8 256 0 k σ rfl (by omega) (fun _ _ => rfl)
          refine ⟨s1, e1, ?_⟩
          rw [f8_fits, s8_sheetOf, zbd_some, if_pos c1, hsx, hsn, if_neg (by omega), if_neg (by rw [Int32.lt_iff_toInt_lt, t_0]; omega), if_pos (by rw [Int32.le_iff_toInt_le, t_1]; omega), if_pos (sh_s hs4), b1, if_neg c4]
          exact e2
        · have h4 : z 104 = σ 104 := hz0 104 (by unfold pD; decide) (by decide)
          have key9 : ∀ (d i n : Nat) (s1 : ZS), i + d = 256 → i < n → (∀ o, pK o → s1 o = z o) → (∀ i, pKm i → s1 103 i = z 103 i) → ∃ s3, (∀ o, pK o → s3 o = z o) ∧ (∀ i, pKm i → s3 103 i = z 103 i) ∧ f9_fits_49 k n (nI s) a (nI (ct P 256 - ct P i)) (ld P d i) (nI i + (-1)) s1 = (if a = 0 then some (nI (ct P 256), s3) else if 0 ≤ ld P 256 0 then some (ld P 256 0, s3) else zbd (f9_error k (-1000000002) s3) fun r s => some (r, s)) := by
            intro d i
            induction i generalizing d with
            | zero =>
              intro n s1 hi hn hs1 hs2
              obtain ⟨n, rfl⟩ : ∃ q, n = q + 1 := ⟨n - 1, by omega⟩
              have : d = 256 := by omega
              subst this
              refine ⟨s1, hs1, hs2, ?_⟩
              show b9_fits_49 k _ (nI s) a (nI (ct P 256 - 0)) (ld P 256 0) (-1) s1 = _
              unfold b9_fits_49
              rw [if_pos (by decide), Nat.sub_zero]
            | succ i ih =>
              intro n s1 hi hn hs1 hs2
              obtain ⟨n, rfl⟩ : ∃ q, n = q + 1 := ⟨n - 1, by omega⟩
              rw [nI_m1 (by omega)]
              show ∃ s3, _ ∧ _ ∧ b9_fits_49 k (f9_fits_49 k n) (nI s) a _ _ (nI i) s1 = _
              unfold b9_fits_49
              have hc : ct P (i + 1) = ct P i + (if P i then 1 else 0) := rfl
              have hl : ld P (d + 1) i = if P i then nI i else ld P d (i + 1) := rfl
              have hmono := ct_mono P (255 - i) (i + 1)
              rw [show i + 1 + (255 - i) = 256 by omega] at hmono
              have hPi : P i = isSo (σ (96 + 2 * s)) L (lkA (σ 104) i) := by rw [hP]
              obtain ⟨s4, e1, e2, e3, e4⟩ := st9 hk h (s := s1) (by rw [hs1 104 (by unfold pK; decide), h4]) (i := i) (by omega)
              have hAl := (lkA_len (R := σ 104) (i := i)).2
              have IH := ih (d + 1) n s4 (by omega) (by omega) (fun o ho => by rw [e2 o ho, hs1 o ho]) (fun j hj => by rw [e3 j hj, hs2 j hj])
              have so : f9_isSo k (nI s) s4 = some (if P i then 1 else 0, s4) := by
                rw [hPi]
                exact s9_isSo (by omega) hs4 e4.1 e4.2.2.1 hAl hL (by rw [e2 109 (by unfold pK; decide), hs1 109 (by unfold pK; decide), hz0 109 (by unfold pD; decide) (by decide), eL]) (fun j hj => by rw [e2 110 (by unfold pK; decide), hs1 110 (by unfold pK; decide), hz0 110 (by unfold pD; decide) (by decide)]; exact (b5 j hj).symm)
              rw [if_neg (by rw [Int32.lt_iff_toInt_lt, nI_toInt (by omega), t_0]; omega), e1, zbd_some, so, zbd_some]
              cases hq : P i with
              | false =>
                rw [hl, hq] at IH
                rw [hc, hq, if_neg (show ¬ false = true by decide), if_pos (show (0 : Int32) = 0 from rfl), b9_fits_84, if_pos (show (0 : Int32) = 0 from rfl), Int32.add_zero]
                exact IH
              | true =>
                rw [hl, hq] at IH
                rw [hc, hq] at hmono
                rw [if_pos rfl] at hmono
                rw [hc, hq, if_pos (show true = true from rfl), if_pos (show true = true from rfl), if_neg (show ¬ (1 : Int32) = 0 by decide), b9_fits_84, if_neg (show ¬ (1 : Int32) = 0 by decide), nI_1, show ct P 256 - (ct P i + 1) + 1 = ct P 256 - ct P i by omega]
                exact IH
          obtain ⟨s3, g1, g2, g3⟩ := key9 0 256 k z rfl (by omega) (fun _ _ => rfl) (fun _ _ => rfl)
          refine ⟨s3, g1, g2, ?_⟩
          rw [Nat.sub_self] at g3
          rw [f9_fits, s9_isSheet, zbd_some, if_pos c1, if_neg (by decide), s9_in, zbd_some, t_0, t_1, if_pos c2, if_neg (by decide), if_pos hz, nI_nat (by omega), hz0 108 (by unfold pD; decide) (by decide), if_neg c4]
          exact g3
    · refine opk_e1 h ?_ fun z hs => ?_
      · rw [f8_fits, s8_sheetOf, zbd_some, if_pos c1, hsx, hsn, if_neg (by omega)]
        by_cases c3 : a < 0
        · rw [if_pos c3, e8_1]; rfl
        · rw [if_neg c3, if_neg (by rw [Int32.lt_iff_toInt_lt, t_0] at c3; rw [Int32.le_iff_toInt_le, t_1]; omega), e8_1]; rfl
      · rw [f9_fits, s9_isSheet, zbd_some, if_pos c1, if_neg (by decide), s9_in, zbd_some, t_0, t_1, if_neg c2, if_pos rfl, e9_1]; rfl
  · refine opk_e1 h ?_ fun s hs => ?_
    · rw [f8_fits, s8_sheetOf, zbd_some, if_neg c1, if_pos rfl, e8_1]; rfl
    · rw [f9_fits, s9_isSheet, zbd_some, if_neg c1, if_pos rfl, e9_1]; rfl
end
