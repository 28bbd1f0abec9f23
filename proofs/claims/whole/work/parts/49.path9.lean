/-! the model's look, and the tax on the way -/
def tx (R : Nat → Int32) : Int32 → Nat → List Int32 → Int32
  | a, _, [] => a
  | a, i, g :: M => tx R (clp 0 999 (a + gv R 0 (nI (i + 1)) (R (6 + 5 * g.toInt.toNat + 0)) (R (6 + 5 * g.toInt.toNat + 1)))) (i + 1) M
theorem tx_snoc {R : Nat → Int32} {g : Int32} : ∀ (M : List Int32) (a : Int32) (i : Nat), tx R a i (M ++ [g]) = clp 0 999 (tx R a i M + gv R 0 (nI (i + M.length + 1)) (R (6 + 5 * g.toInt.toNat + 0)) (R (6 + 5 * g.toInt.toNat + 1)))
  | [], a, i => rfl
  | h :: M, a, i => by
    show tx R _ (i + 1) (M ++ [g]) = clp 0 999 (tx R _ (i + 1) M + _)
    rw [tx_snoc M _ (i + 1), show i + 1 + M.length + 1 = i + (h :: M).length + 1 by show _ = i + (M.length + 1) + 1; omega]
theorem tx_rng {R : Nat → Int32} : ∀ (M : List Int32) (a : Int32) (i : Nat), 0 ≤ a.toInt ∧ a.toInt ≤ 999 → 0 ≤ (tx R a i M).toInt ∧ (tx R a i M).toInt ≤ 999
  | [], a, i, h => h
  | g :: M, a, i, h => tx_rng M _ _ (by rw [clp_int (by decide), t_0, t_999]; omega)
def L9 (R : Nat → Int32) (σ : ZS) (A M : List Int32) : Prop := σ 103 9 = nI A.length ∧ σ 103 10 = nI M.length ∧ hol (σ 111) A ∧ (∀ g, g < 8 → σ 112 g = nI (M.count (nI g))) ∧ σ 103 12 = tx R 0 0 M
/-- what a look leaves as it was -/
def pK (o : Nat) : Prop := o ≠ 103 ∧ o ≠ 111 ∧ o ≠ 112 ∧ o ≠ 115 ∧ o ≠ 116
def pKm (i : Nat) : Prop := i ≠ 9 ∧ i ≠ 10 ∧ i ≠ 12 ∧ i ≠ 13
theorem nI_inj {a b : Nat} (ha : a < 2 ^ 31) (hb : b < 2 ^ 31) (h : nI a = nI b) : a = b := by
  have := congrArg Int32.toInt h
  rw [nI_toInt ha, nI_toInt hb] at this
  omega
/-- a glass met -/
theorem s9_meet {k j : Nat} {w : Int32} {σ : ZS} {R : Nat → Int32} {A M : List Int32} (hk : 61 ≤ k) (h104 : σ 104 = R) (hv : VT R) (hj : j < 8) (hw : W4 w) (ht : W4 (R (6 + 5 * j + 3))) (hL : L9 R σ A M) (hM : M.length < 300) : ∃ σ', f9_meet k (nI j) w σ = some (onw R j w, σ') ∧ (∀ o, pK o → σ' o = σ o) ∧ (∀ i, pKm i → σ' 103 i = σ 103 i) ∧ L9 R σ' A (if onw R j w = w then M else M ++ [nI j]) := by
  subst h104
  have hjx : (nI j).toInt = j := nI_toInt (by omega)
  have hz : zin (nI j) 8 := nI_z hj (by decide)
  obtain ⟨a, b, c, d, e⟩ := hL
  rw [f9_meet, s9_onward hj hw ht, zbd_some]
  by_cases hs : onw (σ 104) j w = w
  · rw [if_pos hs, if_pos hs]
    exact ⟨σ, rfl, fun _ _ => rfl, fun _ _ => rfl, a, b, c, d, e⟩
  · rw [if_neg hs, if_neg hs, zput_eq, if_pos hz, if_pos hz, zput_eq, nI_nat (by omega), b, nI_1, zu_o (by decide), d j hj, nI_1]
    have ee : ∀ o, o ≠ 103 → o ≠ 112 → zu (zu σ 103 10 (nI (M.length + 1))) 112 j (nI (M.count (nI j) + 1)) o = σ o := fun o h1 h2 => by rw [zu_o h2, zu_o h1]
    generalize hσ1 : zu (zu σ 103 10 (nI (M.length + 1))) 112 j (nI (M.count (nI j) + 1)) = σ1 at ee ⊢
    have e104 : σ1 104 = σ 104 := ee _ (by decide) (by decide)
    have e10 : σ1 103 10 = nI (M.length + 1) := by rw [← hσ1, zu_o (by decide), zu_at]
    have e12 : σ1 103 12 = tx (σ 104) 0 0 M := by rw [← hσ1, zu_o (by decide), zu_k (by decide)]; exact e
    rw [s9_of' hj (j := 0) t_0 (by decide), zbd_some, s9_of' hj (j := 1) t_1 (by decide), zbd_some, e104, e10, e12]
    obtain ⟨σ2, g1, g2⟩ := s9_gives (k := k) (u := 0) (σ := σ1) (a := nI (M.length + 1)) (b := σ 104 (6 + 5 * j + 0)) (c := σ 104 (6 + 5 * j + 1)) hk (by decide) (by rw [e104]; exact hv)
    rw [e104] at g1
    rw [show (0 : Int32) = nI 0 from rfl, g1, zbd_some, s9_clp, zbd_some, zput_eq]
    refine ⟨_, rfl, fun o ho => ?_, fun i hi => ?_, ?_, ?_, ?_, fun g hg => ?_, ?_⟩
    · rw [zu_o ho.1, g2 o ho.2.2.2.1 ho.2.2.2.2, ee o ho.1 ho.2.2.1]
    · rw [zu_k hi.2.2.1, g2 103 (by decide) (by decide), ← hσ1, zu_o (by decide), zu_k hi.2.1]
    · rw [zu_k (by decide), g2 103 (by decide) (by decide), ← hσ1, zu_o (by decide), zu_k (by decide)]; exact a
    · rw [zu_k (by decide), g2 103 (by decide) (by decide), ← hσ1, zu_o (by decide), zu_at, List.length_append]; rfl
    · rw [zu_o (by decide), g2 111 (by decide) (by decide), ← hσ1, zu_o (by decide), zu_o (by decide)]; exact c
    · rw [zu_o (by decide), g2 112 (by decide) (by decide), ← hσ1, List.count_append]
      by_cases hgj : g = j
      · subst hgj
        rw [zu_at]
        congr 2
        rw [List.count_cons_self, List.count_nil]
      · rw [zu_k hgj, zu_o (by decide), d g hg]
        congr 1
        rw [List.count_cons_of_ne (fun q => hgj (nI_inj (by omega) (by omega) q.symm)), List.count_nil]
        rfl
    · rw [zu_at, tx_snoc, hjx]
      rw [show 0 + M.length + 1 = M.length + 1 by omega, show ((j : Int).toNat) = j by omega]
      rfl
def L9f (R : Nat → Int32) (σ : ZS) (A M : List Int32) (b : Bool) : Prop := σ 103 9 = nI A.length ∧ σ 103 10 = nI M.length ∧ hol (σ 111) A ∧ (∀ g, g < 8 → σ 112 g = nI (M.count (nI g))) ∧ σ 103 12 = (if b then 999 else tx R 0 0 M) ∧ σ 103 13 = (if b then 1 else 0)
theorem s9_133 {k : Nat} {x : Int32} {σ : ZS} {R : Nat → Int32} {A M : List Int32} (hL : L9 R σ A M) : ∃ σ', b9_looks_133 k x σ = some ((), σ') ∧ (∀ o, pK o → σ' o = σ o) ∧ (∀ i, pKm i → σ' 103 i = σ 103 i) ∧ L9f R σ' A M (decide (¬ x < 0)) := by
  obtain ⟨a, b, c, d, e⟩ := hL
  unfold b9_looks_133
  by_cases h : x < 0
  · rw [if_pos h, zput_eq, zu_at, if_pos rfl, zput_eq]
    refine ⟨_, rfl, fun o ho => by rw [zu_o ho.1, zu_o ho.1], fun i hi => by rw [zu_k hi.2.2.1, zu_k hi.2.2.2], ?_, ?_, ?_, ?_, ?_, ?_⟩
    · rw [zu_k (by decide), zu_k (by decide)]; exact a
    · rw [zu_k (by decide), zu_k (by decide)]; exact b
    · rw [zu_o (by decide), zu_o (by decide)]; exact c
    · rw [zu_o (by decide), zu_o (by decide)]; exact d
    · rw [zu_at, zu_k (by decide), e, decide_eq_false (fun q => q h)]; rfl
    · rw [zu_k (by decide), zu_at, decide_eq_false (fun q => q h)]; rfl
  · rw [if_neg h, zput_eq, zu_at, if_neg (by decide), zput_eq]
    refine ⟨_, rfl, fun o ho => by rw [zu_o ho.1, zu_o ho.1], fun i hi => by rw [zu_k hi.2.2.1, zu_k hi.2.2.2], ?_, ?_, ?_, ?_, ?_, ?_⟩
    · rw [zu_k (by decide), zu_k (by decide)]; exact a
    · rw [zu_k (by decide), zu_k (by decide)]; exact b
    · rw [zu_o (by decide), zu_o (by decide)]; exact c
    · rw [zu_o (by decide), zu_o (by decide)]; exact d
    · rw [zu_at, decide_eq_true h]; rfl
    · rw [zu_k (by decide), zu_at, decide_eq_true h]; rfl
def nx2 (c w : Int32) : Int32 := if w = -1 then -1 else nxc c w
theorem s9_lks {k : Nat} {hb : Int} {R : Nat → Int32} (hk : 61 ≤ k) (hB : BD hb R) (hv : VT R) : ∀ (d n : Nat) (c w : Int32) (A M : List Int32) (σ : ZS), σ 104 = R → (0 ≤ c.toInt ∧ c.toInt ≤ 63) → (w = -1 ∨ W4 w) → A.length + d = 257 → 1 ≤ A.length → M.length < A.length → L9 R σ A M → d < n → ∃ σ', f9_looks_52 k n w (nx2 c w) σ = some ((), σ') ∧ (∀ o, pK o → σ' o = σ o) ∧ (∀ i, pKm i → σ' 103 i = σ 103 i) ∧ L9f R σ' (A ++ cls (lk R d c w).1) (M ++ mets (lk R d c w).1) (lk R d c w).2 := by
  intro d
  induction d with
  | zero =>
    intro n c w A M σ h104 hc hw hA hA1 hM hL hn
    obtain ⟨n, rfl⟩ : ∃ q, n = q + 1 := ⟨n - 1, by omega⟩
    show ∃ σ', b9_looks_52 k _ w (nx2 c w) σ = _ ∧ _
    unfold b9_looks_52
    obtain ⟨σ', e1, e2, e3, e4⟩ := s9_133 (k := k) (x := nx2 c w) hL
    have hlk : lk R 0 c w = ([], decide (¬ nx2 c w < 0)) := by
      unfold nx2
      by_cases h1 : w = -1
      · rw [lk_w h1, if_pos h1]; rfl
      · rw [if_neg h1]
        by_cases h2 : nxc c w < 0
        · rw [lk_n h2, decide_eq_false (fun q => q h2)]
        · rw [lk_0 h1 h2, decide_eq_true h2]
    refine ⟨σ', ?_, e2, e3, ?_⟩
    · by_cases h : nx2 c w < 0
      · rw [if_pos h]; exact e1
      · rw [if_neg h, hL.1, if_pos (by rw [Int32.le_iff_toInt_le, nI_toInt (by omega), t_257]; omega)]; exact e1
    · rw [hlk]
      show L9f R σ' (A ++ []) (M ++ []) _
      rw [List.append_nil, List.append_nil]
      exact e4
  | succ d ih =>
    intro n c w A M σ h104 hc hw hA hA1 hM hL hn
    obtain ⟨n, rfl⟩ : ∃ q, n = q + 1 := ⟨n - 1, by omega⟩
    show ∃ σ', b9_looks_52 k _ w (nx2 c w) σ = _ ∧ _
    unfold b9_looks_52
    by_cases hx : nx2 c w < 0
    · obtain ⟨σ', e1, e2, e3, e4⟩ := s9_133 (k := k) (x := nx2 c w) hL
      have hlk : lk R (d + 1) c w = ([], false) := by
        unfold nx2 at hx
        by_cases h1 : w = -1
        · exact lk_w h1
        · rw [if_neg h1] at hx; exact lk_n hx
      rw [if_pos hx, hlk]
      refine ⟨σ', e1, e2, e3, ?_⟩
      show L9f R σ' (A ++ []) (M ++ []) _
      rw [List.append_nil, List.append_nil]
      rw [decide_eq_false (fun q => q hx)] at e4
      exact e4
    · have h1 : ¬ w = -1 := fun q => hx (by rw [nx2, if_pos q]; decide)
      have hn2 : nx2 c w = nxc c w := by rw [nx2, if_neg h1]
      have h2 : ¬ nxc c w < 0 := by rw [← hn2]; exact hx
      have hw4 : W4 w := hw.resolve_left h1
      have hr : 0 ≤ (nxc c w).toInt ∧ (nxc c w).toInt ≤ 63 := (nxc_rng hc).resolve_left fun q => h2 (by rw [q]; decide)
      rw [hn2, if_neg h2, hL.1, if_neg (by rw [Int32.le_iff_toInt_le, nI_toInt (by omega), t_257]; omega), if_pos (nI_z (by omega) (by decide)), zput_eq, zput_eq, nI_nat (by omega), zu_o (by decide), hL.1, nI_1, lk_s h1 h2]
      have hσ1 : ∃ σ1 : ZS, σ1 = zu (zu σ 111 A.length (nxc c w)) 103 9 (nI (A.length + 1)) := ⟨_, rfl⟩
      obtain ⟨σ1, hσ1⟩ := hσ1
      rw [← hσ1]
      have k1 : ∀ o, pK o → σ1 o = σ o := fun o ho => by rw [hσ1, zu_o ho.1, zu_o ho.2.1]
      have k2 : ∀ i, pKm i → σ1 103 i = σ 103 i := fun i hi => by rw [hσ1, zu_k hi.1, zu_o (by decide)]
      have h104' : σ1 104 = R := by rw [k1 104 (by unfold pK; decide)]; exact h104
      have hL1 : L9 R σ1 (A ++ [nxc c w]) M := by
        obtain ⟨a, b, cc, dd, e⟩ := hL
        refine ⟨?_, ?_, ?_, ?_, ?_⟩
        · rw [hσ1, zu_at, List.length_append]; rfl
        · rw [hσ1, zu_k (by decide), zu_o (by decide)]; exact b
        · rw [hσ1, zu_o (by decide), zu_self]; exact hol_snoc cc
        · rw [hσ1, zu_o (by decide), zu_o (by decide)]; exact dd
        · rw [hσ1, zu_k (by decide), zu_o (by decide)]; exact e
      have fin : ∀ (v : Int32) (M' : List Int32) (σ2 : ZS), v = vway R (nxc c w) w → (v = -1 ∨ W4 v) → M' = M ++ mets [(nxc c w, if vway R (nxc c w) w = w then -1 else gat R (nxc c w))] → M'.length ≤ A.length → (∀ o, pK o → σ2 o = σ1 o) → (∀ i, pKm i → σ2 103 i = σ1 103 i) → L9 R σ2 (A ++ [nxc c w]) M' → ∃ σ', b9_looks_112 k (f9_looks_52 k n) (nxc c w) v σ2 = some ((), σ') ∧ (∀ o, pK o → σ' o = σ o) ∧ (∀ i, pKm i → σ' 103 i = σ 103 i) ∧ L9f R σ' (A ++ cls ((nxc c w, if vway R (nxc c w) w = w then -1 else gat R (nxc c w)) :: (lk R d (nxc c w) (vway R (nxc c w) w)).1)) (M ++ mets ((nxc c w, if vway R (nxc c w) w = w then -1 else gat R (nxc c w)) :: (lk R d (nxc c w) (vway R (nxc c w) w)).1)) (lk R d (nxc c w) (vway R (nxc c w) w)).2 := by
        intro v M' σ2 hvv hvr hM' hMl hσ2 hσ3 hL2
        subst hvv
        obtain ⟨σ', f1, f2, f3, f4⟩ := ih n (nxc c w) (vway R (nxc c w) w) (A ++ [nxc c w]) M' σ2 (by rw [hσ2 104 (by unfold pK; decide)]; exact h104') hr hvr (by rw [List.length_append]; show A.length + 1 + d = 257; omega) (by rw [List.length_append]; show 1 ≤ A.length + 1; omega) (by rw [List.length_append]; show M'.length < A.length + 1; omega) hL2 (by omega)
        refine ⟨σ', ?_, fun o ho => by rw [f2 o ho, hσ2 o ho, k1 o ho], fun i hi => by rw [f3 i hi, hσ3 i hi, k2 i hi], ?_⟩
        · unfold b9_looks_112
          unfold nx2 at f1
          by_cases hv1 : vway R (nxc c w) w = -1
          · rw [if_pos hv1]
            rw [if_pos hv1] at f1
            exact f1
          · rw [if_neg hv1, s9_next hr, zbd_some]
            rw [if_neg hv1] at f1
            exact f1
        · have ea : A ++ [nxc c w] ++ cls (lk R d (nxc c w) (vway R (nxc c w) w)).1 = A ++ cls ((nxc c w, if vway R (nxc c w) w = w then -1 else gat R (nxc c w)) :: (lk R d (nxc c w) (vway R (nxc c w) w)).1) := by
            rw [List.append_assoc]; rfl
          have eb : M' ++ mets (lk R d (nxc c w) (vway R (nxc c w) w)).1 = M ++ mets ((nxc c w, if vway R (nxc c w) w = w then -1 else gat R (nxc c w)) :: (lk R d (nxc c w) (vway R (nxc c w) w)).1) := by
            rw [hM', List.append_assoc]
            congr 1
            by_cases hz : (if vway R (nxc c w) w = w then -1 else gat R (nxc c w)) = -1
            · rw [mets_p hz, mets_p hz]; rfl
            · rw [mets_q hz, mets_q hz]; rfl
          rw [← ea, ← eb]
          exact f4
      have nil1 : ∀ z : Int32, z = -1 → mets [(nxc c w, z)] = [] := fun z hz => by rw [mets_p hz]; rfl
      have one1 : ∀ z : Int32, ¬ z = -1 → mets [(nxc c w, z)] = [z] := fun z hz => by rw [mets_q hz]; rfl
      rw [s9_glassAt (by rw [h104']; exact hB.ng) (by omega), zbd_some, h104']
      rcases gat_spec (R := R) (nxc c w) with ⟨q1, q2⟩ | ⟨j, q1, q2, q3⟩
      · have hvw : vway R (nxc c w) w = w := by rw [vway, if_pos q1]
        rw [if_neg (by rw [q1]; decide)]
        exact fin w M σ1 hvw.symm (Or.inr hw4) (by rw [if_pos hvw, nil1 _ rfl, List.append_nil]) (by omega) (fun _ _ => rfl) (fun _ _ => rfl) hL1
      · have hn8 := hB.ng
        have hj8 : j < 8 := by omega
        have hj : (nI j).toInt = j := nI_toInt (by omega)
        have hj1 : ¬ nI j = -1 := fun q => by rw [q, t_m1] at hj; omega
        have hjn : (j : Int).toNat = j := by omega
        have hvw : vway R (nxc c w) w = onw R j w := by rw [vway, q2, if_neg hj1, hj, hjn]
        have hvr := vway_rng (r := nxc c w) hB hw4
        rw [hvw] at hvr
        obtain ⟨σ2, g1, g2, g3, g4⟩ := s9_meet (k := k) hk h104' hv hj8 hw4 (W4.of (hB.gl hj8).2.2.2.1) hL1 (by omega)
        have q2' := q2
        rw [q2, if_pos (by rw [Int32.le_iff_toInt_le, hj, t_0]; omega), g1, zbd_some]
        have := fin (onw R j w) (if onw R j w = w then M else M ++ [nI j]) σ2 hvw.symm hvr (by
          rw [hvw, q2']
          by_cases hs : onw R j w = w
          · rw [if_pos hs, if_pos hs, nil1 _ rfl, List.append_nil]
          · rw [if_neg hs, if_neg hs, one1 _ hj1]) (by
          by_cases hs : onw R j w = w
          · rw [if_pos hs]; omega
          · rw [if_neg hs, List.length_append]; show M.length + 1 ≤ _; omega) g2 g3 g4
        rw [q2'] at this
        exact this
/-- the model's look -/
theorem s9_looks {k : Nat} {hb : Int} {c w : Int32} {σ : ZS} (hk : 257 ≤ k) (hB : BD hb (σ 104)) (hv : VT (σ 104)) (hc : 0 ≤ c.toInt ∧ c.toInt ≤ 63) (hw : W4 w) : ∃ σ', f9_looks k c w σ = some ((), σ') ∧ (∀ o, pK o → σ' o = σ o) ∧ (∀ i, pKm i → σ' 103 i = σ 103 i) ∧ L9f (σ 104) σ' (c :: cls (lk (σ 104) 256 c w).1) (mets (lk (σ 104) 256 c w).1) (lk (σ 104) 256 c w).2 := by
  have key : ∀ (d n z : Nat) (s : ZS), z + d = 8 → d < n → s 104 = σ 104 → (∀ g, g < z → s 112 g = 0) → s 103 10 = 0 → s 103 12 = 0 → (∀ o, pK o → s o = σ o) → (∀ i, pKm i → s 103 i = σ 103 i) → ∃ σ', f9_looks_12 k n c w (nI z) s = some ((), σ') ∧ (∀ o, pK o → σ' o = σ o) ∧ (∀ i, pKm i → σ' 103 i = σ 103 i) ∧ L9f (σ 104) σ' (c :: cls (lk (σ 104) 256 c w).1) (mets (lk (σ 104) 256 c w).1) (lk (σ 104) 256 c w).2 := by
    intro d
    induction d with
    | zero =>
      intro n z s hz hn h104 h112 h10 h12 p1 p2
      obtain ⟨n, rfl⟩ : ∃ q, n = q + 1 := ⟨n - 1, by omega⟩
      show ∃ σ', b9_looks_12 k _ c w (nI z) s = _ ∧ _
      unfold b9_looks_12
      rw [if_pos (by rw [Int32.le_iff_toInt_le, nI_toInt (by omega), t_8]; omega), zput_eq, zput_eq, s9_next hc, zbd_some]
      obtain ⟨σ', f1, f2, f3, f4⟩ := s9_lks (k := k) (R := σ 104) (by omega) hB hv 256 k c w [c] [] (zu (zu s 111 0 c) 103 9 1) (by rw [zu_o (by decide), zu_o (by decide)]; exact h104) hc (Or.inr hw) rfl (Nat.le_refl _) (Nat.lt_succ_self _) ⟨by rw [zu_at]; rfl, by rw [zu_k (by decide), zu_o (by decide), h10]; rfl, by
        intro i hi
        have : i = 0 := by
          have : i < 1 := hi
          omega
        subst this
        rw [zu_o (by decide), zu_at]; rfl, fun g hg => by rw [zu_o (by decide), zu_o (by decide), h112 g (by omega)]; rfl, by rw [zu_k (by decide), zu_o (by decide), h12]; rfl⟩ (by omega)
      refine ⟨σ', ?_, fun o ho => by rw [f2 o ho, zu_o ho.1, zu_o ho.2.1, p1 o ho], fun i hi => by rw [f3 i hi, zu_k hi.1, zu_o (by decide), p2 i hi], f4⟩
      rw [nx2, if_neg hw.ne] at f1
      exact f1
    | succ d ih =>
      intro n z s hz hn h104 h112 h10 h12 p1 p2
      obtain ⟨n, rfl⟩ : ∃ q, n = q + 1 := ⟨n - 1, by omega⟩
      show ∃ σ', b9_looks_12 k (f9_looks_12 k n) c w (nI z) s = _ ∧ _
      unfold b9_looks_12
      rw [if_neg (by rw [Int32.le_iff_toInt_le, nI_toInt (by omega), t_8]; omega), if_pos (nI_z (by omega) (by decide)), zput_eq, nI_nat (by omega), nI_1]
      refine ih n (z + 1) (zu s 112 z 0) (by omega) (by omega) (by rw [zu_o (by decide)]; exact h104) (fun g hg => ?_) (by rw [zu_o (by decide)]; exact h10) (by rw [zu_o (by decide)]; exact h12) (fun o ho => by rw [zu_o ho.2.2.1]; exact p1 o ho) (fun i hi => by rw [zu_o (by decide)]; exact p2 i hi)
      by_cases hgz : g = z
      · subst hgz; rw [zu_at]
      · rw [zu_k hgz]; exact h112 g (by omega)
  rw [f9_looks, zput_eq, zput_eq]
  exact key 8 k 0 (zu (zu σ 103 10 0) 103 12 0) (by decide) (by omega) (by rw [zu_o (by decide), zu_o (by decide)]) (fun g hg => absurd hg (by omega)) (by rw [zu_k (by decide), zu_at]) (by rw [zu_at]) (fun o ho => by rw [zu_o ho.1, zu_o ho.1]) (fun i hi => by rw [zu_k hi.2.2.1, zu_k hi.2.1])
