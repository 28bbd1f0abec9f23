/-! the way of a look -/
def vway (R : Nat → Int32) (r w : Int32) : Int32 := if gat R r = -1 then w else onw R (gat R r).toInt.toNat w
def lk (R : Nat → Int32) : Nat → Int32 → Int32 → List (Int32 × Int32) × Bool
  | 0, c, w => ([], if w = -1 then false else if nxc c w < 0 then false else true)
  | d + 1, c, w => if w = -1 then ([], false) else if nxc c w < 0 then ([], false) else
      ((nxc c w, if vway R (nxc c w) w = w then -1 else gat R (nxc c w)) :: (lk R d (nxc c w) (vway R (nxc c w) w)).1, (lk R d (nxc c w) (vway R (nxc c w) w)).2)
def cls : List (Int32 × Int32) → List Int32
  | [] => []
  | p :: l => p.1 :: cls l
def mets : List (Int32 × Int32) → List Int32
  | [] => []
  | p :: l => if p.2 = -1 then mets l else p.2 :: mets l
theorem mets_p {p : Int32 × Int32} {l : List (Int32 × Int32)} (h : p.2 = -1) : mets (p :: l) = mets l := by rw [mets, if_pos h]
theorem mets_q {p : Int32 × Int32} {l : List (Int32 × Int32)} (h : ¬ p.2 = -1) : mets (p :: l) = p.2 :: mets l := by rw [mets, if_neg h]
theorem i_nn {a : Int32} (h : ¬ a < 0) : 0 ≤ a := by (simp only [Int32.lt_iff_toInt_lt, Int32.le_iff_toInt_le, ← Int32.toInt_inj, t_m1000000006, t_m1000000005, t_m1000000004, t_m1000000003, t_m1000000002, t_m1000000001, t_m1000000000, t_m33, t_m10, t_m3, t_m2, t_m1, t_0, t_1, t_2, t_3, t_4, t_5, t_6, t_7, t_8, t_9, t_10, t_11, t_12, t_13, t_14, t_15, t_16, t_17, t_18, t_19, t_20, t_21, t_22, t_23, t_24, t_25, t_26, t_27, t_28, t_29, t_30, t_31, t_32, t_33, t_34, t_35, t_36, t_37, t_38, t_39, t_40, t_41, t_42, t_43, t_44, t_45, t_46, t_47, t_48, t_49, t_50, t_51, t_52, t_53, t_54, t_55, t_56, t_57, t_58, t_59, t_60, t_61, t_62, t_63, t_64, t_69, t_70, t_71, t_99, t_104, t_105, t_106, t_107, t_108, t_109, t_110, t_111, t_112, t_113, t_114, t_115, t_116, t_121, t_124, t_148, t_255, t_256, t_257, t_390, t_999, t_9999, t_12345, t_99999, t_1103515245] at *; omega)
theorem i_ng {a : Int32} (h : a < 0) : ¬ 0 ≤ a := by (simp only [Int32.lt_iff_toInt_lt, Int32.le_iff_toInt_le, ← Int32.toInt_inj, t_m1000000006, t_m1000000005, t_m1000000004, t_m1000000003, t_m1000000002, t_m1000000001, t_m1000000000, t_m33, t_m10, t_m3, t_m2, t_m1, t_0, t_1, t_2, t_3, t_4, t_5, t_6, t_7, t_8, t_9, t_10, t_11, t_12, t_13, t_14, t_15, t_16, t_17, t_18, t_19, t_20, t_21, t_22, t_23, t_24, t_25, t_26, t_27, t_28, t_29, t_30, t_31, t_32, t_33, t_34, t_35, t_36, t_37, t_38, t_39, t_40, t_41, t_42, t_43, t_44, t_45, t_46, t_47, t_48, t_49, t_50, t_51, t_52, t_53, t_54, t_55, t_56, t_57, t_58, t_59, t_60, t_61, t_62, t_63, t_64, t_69, t_70, t_71, t_99, t_104, t_105, t_106, t_107, t_108, t_109, t_110, t_111, t_112, t_113, t_114, t_115, t_116, t_121, t_124, t_148, t_255, t_256, t_257, t_390, t_999, t_9999, t_12345, t_99999, t_1103515245] at *; omega)
def hol (S : Nat → Int32) (A : List Int32) : Prop := ∀ i, i < A.length → S i = A.getD i 0
theorem hol_snoc {S : Nat → Int32} {A : List Int32} {v : Int32} (h : hol S A) : hol (upd S A.length v) (A ++ [v]) := by
  intro i hi
  rw [List.length_append] at hi
  have hi' : i < A.length + 1 := hi
  by_cases hx : i = A.length
  · subst hx
    rw [upd_at]
    simp
  · rw [upd_ne hx, h i (by omega)]
    rw [List.getD_eq_getElem?_getD, List.getD_eq_getElem?_getD, List.getElem?_append_left (by omega)]
def L8 (σ : ZS) (A M : List Int32) (b : Bool) : Prop := σ 83 2 = nI A.length ∧ σ 83 3 = nI M.length ∧ σ 83 4 = (if b then 1 else 0) ∧ hol (σ 84) A ∧ hol (σ 85) M
theorem s1_enter {k : Nat} {σ : ZS} {A M : List Int32} {r : Int32} (h : L8 σ A M false) (hA : A.length < 257) : ∃ σ', f1_enter k r σ = some ((), σ') ∧ (∀ o, o ≠ 83 → o ≠ 84 → σ' o = σ o) ∧ L8 σ' (A ++ [r]) M false := by
  obtain ⟨a, b, c, d, e⟩ := h
  have hx : (nI A.length).toInt = A.length := nI_toInt (by omega)
  refine ⟨zu (zu σ 84 A.length r) 83 2 (nI A.length + 1), ?_, fun o h1 h2 => by rw [zu_o h1, zu_o h2], ?_, ?_, ?_, ?_, ?_⟩
  · rw [f1_enter, a, if_neg (by rw [Int32.lt_iff_toInt_lt, hx, t_0]; omega), if_neg (by rw [Int32.le_iff_toInt_le, hx, t_257]; omega), if_pos (nI_z hA (by decide)), zput_eq, zput_eq, nI_nat (by omega), zu_o (by decide), a]
  · rw [zu_at, List.length_append, nI_1]; rfl
  · rw [zu_k (by decide), zu_o (by decide)]; exact b
  · rw [zu_k (by decide), zu_o (by decide)]; exact c
  · rw [zu_o (by decide), zu_self]; exact hol_snoc d
  · rw [zu_o (by decide), zu_o (by decide)]; exact e
theorem s1_meet {k : Nat} {σ : ZS} {A M : List Int32} {r : Int32} (h : L8 σ A M false) (hA : M.length < 257) : ∃ σ', f1_meet k r σ = some ((), σ') ∧ (∀ o, o ≠ 83 → o ≠ 85 → σ' o = σ o) ∧ L8 σ' A (M ++ [r]) false := by
  obtain ⟨a, b, c, d, e⟩ := h
  have hx : (nI M.length).toInt = M.length := nI_toInt (by omega)
  refine ⟨zu (zu σ 85 M.length r) 83 3 (nI M.length + 1), ?_, fun o h1 h2 => by rw [zu_o h1, zu_o h2], ?_, ?_, ?_, ?_, ?_⟩
  · rw [f1_meet, b, if_neg (by rw [Int32.lt_iff_toInt_lt, hx, t_0]; omega), if_neg (by rw [Int32.le_iff_toInt_le, hx, t_257]; omega), if_pos (nI_z hA (by decide)), zput_eq, zput_eq, nI_nat (by omega), zu_o (by decide), b]
  · rw [zu_k (by decide), zu_o (by decide)]; exact a
  · rw [zu_at, List.length_append, nI_1]; rfl
  · rw [zu_k (by decide), zu_o (by decide)]; exact c
  · rw [zu_o (by decide), zu_o (by decide)]; exact d
  · rw [zu_o (by decide), zu_self]; exact hol_snoc e
theorem s5_glassOf' {k t : Nat} {a : Int32} {σ : ZS} {R : Nat → Int32} {hb : Int} (ht : Tt t) (h : RS σ t R) (hB : BD hb R) : f5_glassOf k t a σ = some (if 0 ≤ a.toInt ∧ a.toInt < (R 2).toInt then t + 7 + a.toInt.toNat else 0, σ) := by
  have := s5_glassOf (k := k) (t := t) (a := a) (σ := σ) ht.s6 (by rw [h.1.1]; exact hB.ng.2)
  rw [h.1.1] at this
  exact this
theorem s5_personOf' {k t : Nat} {a : Int32} {σ : ZS} {R : Nat → Int32} {hb : Int} (ht : Tt t) (h : RS σ t R) (hB : BD hb R) : f5_personOf k t a σ = some (if 0 ≤ a.toInt ∧ a.toInt < (R 3).toInt then t + 15 + a.toInt.toNat else 0, σ) := by
  have := s5_personOf (k := k) (t := t) (a := a) (σ := σ) ht.s6 (by rw [h.1.2.1]; exact hB.np.2)
  rw [h.1.2.1] at this
  exact this
/-- a glass on the way turns it, as the class has it -/
theorem s0_onw {k t g : Nat} {w : Int32} {σ : ZS} {R : Nat → Int32} (ht : Tt t) (h : RS σ t R) (hg : g < 8) : f0_onward k (t + 7 + g) w (nt (R 0)) σ = some (onw R g w, σ) := by
  rw [s0_onward (ht.s1 hg), h.2.1 g hg 0 (by decide), h.2.1 g hg 1 (by decide), h.2.1 g hg 3 (by decide), h.2.1 g hg 4 (by decide)]
  rfl
theorem vway_rng {hb : Int} {R : Nat → Int32} (hB : BD hb R) {r w : Int32} (hw : W4 w) : vway R r w = -1 ∨ W4 (vway R r w) := by
  unfold vway
  rcases gat_spec (R := R) r with ⟨q1, q2⟩ | ⟨j, q1, q2, q3⟩
  · rw [if_pos q1]; exact Or.inr hw
  · have hn := hB.ng
    have hj : (nI j).toInt = j := nI_toInt (by omega)
    rw [q2, if_neg (fun q => by rw [q, t_m1] at hj; omega), hj]
    exact onv_rng (W4.of (hB.gl (show (j : Int).toNat < 8 by omega)).2.2.2.1) hw
theorem W4.ne {w : Int32} (h : W4 w) : ¬ w = -1 := by
  rcases h with rfl | rfl | rfl | rfl
  all_goals decide
section
variable {R : Nat → Int32} {c w : Int32} {d : Nat}
theorem lk_w (h : w = -1) : lk R d c w = ([], false) := by
  cases d with
  | zero => rw [lk, if_pos h]
  | succ d => rw [lk, if_pos h]
theorem lk_n (h : nxc c w < 0) : lk R d c w = ([], false) := by
  cases d with
  | zero =>
    rw [lk]
    by_cases hw : w = -1
    · rw [if_pos hw]
    · rw [if_neg hw, if_pos h]
  | succ d =>
    rw [lk]
    by_cases hw : w = -1
    · rw [if_pos hw]
    · rw [if_neg hw, if_pos h]
theorem lk_0 (hw : ¬ w = -1) (h : ¬ nxc c w < 0) : lk R 0 c w = ([], true) := by rw [lk, if_neg hw, if_neg h]
theorem lk_s (hw : ¬ w = -1) (h : ¬ nxc c w < 0) : lk R (d + 1) c w = ((nxc c w, if vway R (nxc c w) w = w then -1 else gat R (nxc c w)) :: (lk R d (nxc c w) (vway R (nxc c w) w)).1, (lk R d (nxc c w) (vway R (nxc c w) w)).2) := by rw [lk, if_neg hw, if_neg h]
end
theorem s1_fol {k t : Nat} {hb : Int} {R : Nat → Int32} (ht : Tt t) (hB : BD hb R) : ∀ (d n x : Nat) (c w : Int32) (A M : List Int32) (σ : ZS), RS σ t R → VT R → (0 ≤ c.toInt ∧ c.toInt ≤ 63) → (w = -1 ∨ W4 w) → A.length + d = 257 → A.length = x + 1 → M.length ≤ x → L8 σ A M false → d < n → ∃ σ', f1_follow_35 k n t (nt (R 0)) c w (nI x) σ = some ((), σ') ∧ (∀ o, o ≠ 83 → o ≠ 84 → o ≠ 85 → σ' o = σ o) ∧ L8 σ' (A ++ cls (lk R d c w).1) (M ++ mets (lk R d c w).1) (lk R d c w).2 := by
  intro d
  induction d with
  | zero =>
    intro n x c w A M σ hR hv hc hw hA hx hM hL hn
    obtain ⟨n, rfl⟩ : ∃ q, n = q + 1 := ⟨n - 1, by omega⟩
    have hxi : (nI x).toInt = x := nI_toInt (by omega)
    show ∃ σ', b1_follow_35 k _ t _ c w (nI x) σ = _ ∧ _
    unfold b1_follow_35
    rw [if_neg (by rw [Int32.le_iff_toInt_le, hxi, t_257]; omega)]
    by_cases h1 : w = -1
    · rw [if_pos h1, lk_w h1]
      refine ⟨σ, rfl, fun _ _ _ _ => rfl, ?_⟩
      show L8 σ (A ++ []) (M ++ []) false
      rw [List.append_nil, List.append_nil]; exact hL
    · rw [if_neg h1, s1_next, zbd_some]
      by_cases h2 : nxc c w < 0
      · rw [if_neg (i_ng h2), lk_n h2]
        refine ⟨σ, rfl, fun _ _ _ _ => rfl, ?_⟩
        show L8 σ (A ++ []) (M ++ []) false
        rw [List.append_nil, List.append_nil]; exact hL
      · obtain ⟨a, b, cc, dd, e⟩ := hL
        rw [if_pos (i_nn h2), a, if_neg (by rw [Int32.lt_iff_toInt_lt, nI_toInt (by omega), t_257]; omega), zput_eq, lk_0 h1 h2]
        refine ⟨_, rfl, fun o h1 _ _ => zu_o h1, ?_⟩
        show L8 _ (A ++ []) (M ++ []) true
        rw [List.append_nil, List.append_nil]
        exact ⟨by rw [zu_k (by decide)]; exact a, by rw [zu_k (by decide)]; exact b, by rw [zu_at]; rfl, by rw [zu_o (by decide)]; exact dd, by rw [zu_o (by decide)]; exact e⟩
  | succ d ih =>
    intro n x c w A M σ hR hv hc hw hA hx hM hL hn
    obtain ⟨n, rfl⟩ : ∃ q, n = q + 1 := ⟨n - 1, by omega⟩
    have hxi : (nI x).toInt = x := nI_toInt (by omega)
    show ∃ σ', b1_follow_35 k _ t _ c w (nI x) σ = _ ∧ _
    unfold b1_follow_35
    rw [if_neg (by rw [Int32.le_iff_toInt_le, hxi, t_257]; omega)]
    by_cases h1 : w = -1
    · rw [if_pos h1, lk_w h1]
      refine ⟨σ, rfl, fun _ _ _ _ => rfl, ?_⟩
      show L8 σ (A ++ []) (M ++ []) false
      rw [List.append_nil, List.append_nil]; exact hL
    · have hw4 : W4 w := hw.resolve_left h1
      rw [if_neg h1, s1_next, zbd_some]
      by_cases h2 : nxc c w < 0
      · rw [if_neg (i_ng h2), lk_n h2]
        refine ⟨σ, rfl, fun _ _ _ _ => rfl, ?_⟩
        show L8 σ (A ++ []) (M ++ []) false
        rw [List.append_nil, List.append_nil]; exact hL
      · have hr : 0 ≤ (nxc c w).toInt ∧ (nxc c w).toInt ≤ 63 := (nxc_rng hc).resolve_left fun q => h2 (by rw [q]; decide)
        obtain ⟨σ1, e1, e2, e3⟩ := s1_enter (k := k) (r := nxc c w) hL (by omega)
        have hR1 : RS σ1 t R := hR.congr hv fun o q1 q2 => e2 o (by have := ht.le; omega) (by have := ht.le; omega)
        rw [if_pos (i_nn h2), hL.1, if_pos (by rw [Int32.lt_iff_toInt_lt, nI_toInt (by omega), t_257]; omega), e1, zbd_some, if_pos ht.s6, s5_glassAt ht.s6 hR1 hr, zbd_some, s5_glassOf' ht hR1 hB, zbd_some, lk_s h1 h2]
        have fin : ∀ (g v : Int32) (M' : List Int32) (σ2 : ZS), v = vway R (nxc c w) w → (v = -1 ∨ W4 v) → M' = M ++ mets [(nxc c w, if vway R (nxc c w) w = w then -1 else gat R (nxc c w))] → M'.length ≤ x + 1 → (∀ o, o ≠ 83 → o ≠ 84 → o ≠ 85 → σ2 o = σ1 o) → L8 σ2 (A ++ [nxc c w]) M' false → ∃ σ', f1_follow_35 k n t (nt (R 0)) (nxc c w) v (nI x + 1) σ2 = some ((), σ') ∧ (∀ o, o ≠ 83 → o ≠ 84 → o ≠ 85 → σ' o = σ o) ∧ L8 σ' (A ++ cls ((nxc c w, if vway R (nxc c w) w = w then -1 else gat R (nxc c w)) :: (lk R d (nxc c w) (vway R (nxc c w) w)).1)) (M ++ mets ((nxc c w, if vway R (nxc c w) w = w then -1 else gat R (nxc c w)) :: (lk R d (nxc c w) (vway R (nxc c w) w)).1)) (lk R d (nxc c w) (vway R (nxc c w) w)).2 := by
          intro g v M' σ2 hvv hvr hM' hMl hσ2 hL2
          subst hvv
          rw [nI_1]
          obtain ⟨σ', f1, f2, f3⟩ := ih n (x + 1) (nxc c w) (vway R (nxc c w) w) (A ++ [nxc c w]) M' σ2 (hR1.congr hv fun o q1 q2 => hσ2 o (by have := ht.le; omega) (by have := ht.le; omega) (by have := ht.le; omega)) hv hr hvr (by rw [List.length_append]; show A.length + 1 + d = 257; omega) (by rw [List.length_append]; show A.length + 1 = _; omega) hMl hL2 (by omega)
          refine ⟨σ', f1, fun o q1 q2 q3 => by rw [f2 o q1 q2 q3, hσ2 o q1 q2 q3, e2 o q1 q2], ?_⟩
          have ea : A ++ [nxc c w] ++ cls (lk R d (nxc c w) (vway R (nxc c w) w)).1 = A ++ cls ((nxc c w, if vway R (nxc c w) w = w then -1 else gat R (nxc c w)) :: (lk R d (nxc c w) (vway R (nxc c w) w)).1) := by
            rw [List.append_assoc]; rfl
          have eb : M' ++ mets (lk R d (nxc c w) (vway R (nxc c w) w)).1 = M ++ mets ((nxc c w, if vway R (nxc c w) w = w then -1 else gat R (nxc c w)) :: (lk R d (nxc c w) (vway R (nxc c w) w)).1) := by
            rw [hM', List.append_assoc]
            congr 1
            by_cases hz : (if vway R (nxc c w) w = w then -1 else gat R (nxc c w)) = -1
            · rw [mets_p hz, mets_p hz]; rfl
            · rw [mets_q hz, mets_q hz]; rfl
          rw [← ea, ← eb]
          exact f3
        have nil1 : ∀ z : Int32, z = -1 → mets [(nxc c w, z)] = [] := fun z hz => by rw [mets_p hz]; rfl
        have one1 : ∀ z : Int32, ¬ z = -1 → mets [(nxc c w, z)] = [z] := fun z hz => by rw [mets_q hz]; rfl
        rcases gat_spec (R := R) (nxc c w) with ⟨q1, q2⟩ | ⟨j, q1, q2, q3⟩
        · have hvw : vway R (nxc c w) w = w := by rw [vway, if_pos q1]
          rw [if_neg (show ¬ (0 ≤ (gat R (nxc c w)).toInt ∧ (gat R (nxc c w)).toInt < (R 2).toInt) by rw [q1, t_m1]; omega), if_pos rfl, b1_follow_121, if_pos rfl]
          exact fin 0 w M σ1 hvw.symm (Or.inr hw4) (by rw [if_pos hvw, nil1 _ rfl, List.append_nil]) (by omega) (fun _ _ _ _ => rfl) e3
        · have hn8 := hB.ng
          have hj : (nI j).toInt = j := nI_toInt (by omega)
          have hj1 : ¬ nI j = -1 := fun q => by rw [q, t_m1] at hj; omega
          have hjn : (j : Int).toNat = j := by omega
          have hvw : vway R (nxc c w) w = onw R j w := by rw [vway, q2, if_neg hj1, hj, hjn]
          have hvr := vway_rng (r := nxc c w) hB hw4
          rw [hvw] at hvr
          rw [q2, hj, if_pos (show (0 : Int) ≤ j ∧ (j : Int) < (R 2).toInt by omega), hjn, if_neg (by omega), if_pos (ht.s1 (show j < 8 by omega)), s0_onw ht hR1 (by omega), zbd_some, b1_follow_121]
          by_cases hs : onw R j w = w
          · rw [if_pos hs]
            have := fin 0 w M σ1 (hvw.trans hs).symm (Or.inr hw4) (by rw [if_pos (hvw.trans hs), nil1 _ rfl, List.append_nil]) (by omega) (fun _ _ _ _ => rfl) e3
            rw [q2] at this
            exact this
          · obtain ⟨σ2, g1, g2, g3⟩ := s1_meet (k := k) (r := nI j) e3 (by omega)
            rw [if_neg hs, g1, zbd_some]
            have := fin 0 (onw R j w) (M ++ [nI j]) σ2 hvw.symm hvr (by rw [if_neg (by rw [hvw]; exact hs), q2, one1 _ hj1]) (by rw [List.length_append]; show M.length + 1 ≤ _; omega) (fun o q1 q2 q3 => g2 o q1 q3) g3
            rw [q2] at this
            exact this
/-- the class's look -/
theorem s1_follow {k t : Nat} {hb : Int} {R : Nat → Int32} {c w : Int32} {σ : ZS} (hk : 257 ≤ k) (ht : Tt t) (hB : BD hb R) (hR : RS σ t R) (hv : VT R) (hc : 0 ≤ c.toInt ∧ c.toInt ≤ 63) (hw : W4 w) : ∃ σ', f1_follow k t c w σ = some ((), σ') ∧ (∀ o, o ≠ 83 → o ≠ 84 → o ≠ 85 → σ' o = σ o) ∧ L8 σ' (c :: cls (lk R 256 c w).1) (mets (lk R 256 c w).1) (lk R 256 c w).2 := by
  have e0 : ∀ o, o ≠ 83 → zu (zu (zu σ 83 2 0) 83 3 0) 83 4 0 o = σ o := fun o ho => by rw [zu_o ho, zu_o ho, zu_o ho]
  have hL : L8 (zu (zu (zu σ 83 2 0) 83 3 0) 83 4 0) [] [] false := ⟨by rw [zu_k (by decide), zu_k (by decide), zu_at]; rfl, by rw [zu_k (by decide), zu_at]; rfl, by rw [zu_at]; rfl, fun i hi => absurd hi (by simp), fun i hi => absurd hi (by simp)⟩
  obtain ⟨σ1, e1, e2, e3⟩ := s1_enter (k := k) (r := c) hL (by decide)
  have hR1 : RS σ1 t R := hR.congr hv fun o q1 q2 => by have := ht.le; rw [e2 o (by omega) (by omega), e0 o (by omega)]
  obtain ⟨σ', f1, f2, f3⟩ := s1_fol (k := k) ht hB 256 k 0 c w [c] [] σ1 hR1 hv hc (Or.inr hw) rfl rfl (Nat.le_refl _) e3 (by omega)
  refine ⟨σ', ?_, fun o q1 q2 q3 => by rw [f2 o q1 q2 q3, e2 o q1 q2, e0 o q1], f3⟩
  rw [f1_follow, if_pos ht.s6, s5_night ht.s6, zbd_some, zput_eq, zput_eq, zput_eq, e1, zbd_some, hR.1.2.2.2.2.1]
  exact f1
theorem lk_len {R : Nat → Int32} : ∀ (d : Nat) (c w : Int32), (lk R d c w).1.length ≤ d
  | 0, c, w => Nat.le_refl _
  | d + 1, c, w => by
    by_cases hw : w = -1
    · rw [lk_w hw]; exact Nat.zero_le _
    · by_cases h : nxc c w < 0
      · rw [lk_n h]; exact Nat.zero_le _
      · rw [lk_s hw h]
        have := lk_len (R := R) d (nxc c w) (vway R (nxc c w) w)
        show (lk R d (nxc c w) (vway R (nxc c w) w)).1.length + 1 ≤ d + 1
        omega
theorem cls_len : ∀ (l : List (Int32 × Int32)), (cls l).length = l.length
  | [] => rfl
  | p :: l => congrArg (· + 1) (cls_len l)
theorem mets_len : ∀ (l : List (Int32 × Int32)), (mets l).length ≤ l.length
  | [] => Nat.le_refl _
  | p :: l => by
    have := mets_len l
    by_cases h : p.2 = -1
    · rw [mets, if_pos h]; show _ ≤ l.length + 1; omega
    · rw [mets, if_neg h]; show (mets l).length + 1 ≤ l.length + 1; omega
/-- every glass met is there -/
theorem mets_in {R : Nat → Int32} : ∀ (d : Nat) (c w g : Int32), g ∈ mets (lk R d c w).1 → ∃ j : Nat, (j : Int) < (R 2).toInt ∧ g = nI j
  | 0, c, w, g, h => by
    have : g ∈ mets [] := h
    exact absurd this (by simp [mets])
  | d + 1, c, w, g, h => by
    by_cases hw : w = -1
    · rw [lk_w hw] at h; exact absurd h (by simp [mets])
    · by_cases hn : nxc c w < 0
      · rw [lk_n hn] at h; exact absurd h (by simp [mets])
      · rw [lk_s hw hn] at h
        by_cases hz : (if vway R (nxc c w) w = w then -1 else gat R (nxc c w)) = -1
        · rw [mets_p hz] at h; exact mets_in d _ _ g h
        · rw [mets_q hz] at h
          rcases List.mem_cons.mp h with h | h
          · by_cases hs : vway R (nxc c w) w = w
            · rw [if_pos hs] at hz; exact absurd rfl hz
            · rcases gat_spec (R := R) (nxc c w) with ⟨q1, q2⟩ | ⟨j, q1, q2, q3⟩
              · rw [if_neg hs] at hz; exact absurd q1 hz
              · exact ⟨j, q1, by rw [h, if_neg hs]; exact q2⟩
          · exact mets_in d _ _ g h
