/-! tax, dues -/
theorem hol_at {S : Nat → Int32} {P Q : List Int32} {g : Int32} (h : hol S (P ++ g :: Q)) : S P.length = g := by
  rw [h P.length (by rw [List.length_append]; show _ < P.length + (Q.length + 1); omega), List.getD_eq_getElem?_getD, List.getElem?_append_right (Nat.le_refl _), Nat.sub_self]
  rfl
theorem s1_metAt {k : Nat} {σ : ZS} {A P Q : List Int32} {g : Int32} {b : Bool} (hL : L8 σ A (P ++ g :: Q) b) (hl : P.length < 257) (hl2 : (P ++ g :: Q).length < 300) : f1_metAt k (nI P.length) σ = some (g, σ) := by
  have hx : (nI P.length).toInt = P.length := nI_toInt (by omega)
  have hq : (P ++ g :: Q).length = P.length + (Q.length + 1) := List.length_append
  rw [f1_metAt, if_neg (by rw [Int32.lt_iff_toInt_lt, hx, t_0]; omega), hL.2.1, if_neg (by rw [Int32.le_iff_toInt_le, hx, nI_toInt (by omega)]; omega), if_pos (by rw [Int32.lt_iff_toInt_lt, hx, t_257]; omega), if_pos (nI_z hl (by decide)), nI_nat (by omega), hol_at hL.2.2.2.2]
theorem tx_999 {R : Nat → Int32} : ∀ (M : List Int32) (i : Nat), tx R 999 i M = 999
  | [], i => rfl
  | g :: M, i => by
    have h := gv_rng (R := R) (u := 0) (a := nI (i + 1)) (b := R (6 + 5 * g.toInt.toNat + 0)) (c := R (6 + 5 * g.toInt.toNat + 1))
    rw [if_pos rfl] at h
    have e : clp 0 999 (999 + gv R 0 (nI (i + 1)) (R (6 + 5 * g.toInt.toNat + 0)) (R (6 + 5 * g.toInt.toNat + 1))) = 999 := by
      refine i_eq ?_
      rw [clp_int (by decide), i_add (by rw [t_999]; omega), t_0, t_999]
      omega
    rw [tx, e]
    exact tx_999 M (i + 1)
theorem s5_tax {k t : Nat} {hb : Int} {R : Nat → Int32} {A M : List Int32} {b : Bool} {σ : ZS} (hk : 300 ≤ k) (ht : Tt t) (hB : BD hb R) (hR : RS σ t R) (hv : VT R) (hL : L8 σ A M b) (hM : M.length ≤ 256) (hin : ∀ g ∈ M, ∃ j : Nat, (j : Int) < (R 2).toInt ∧ g = nI j) : ∃ σ', f5_taxOf k t σ = some (if b then 999 else tx R 0 0 M, σ') ∧ ∀ o, o ≠ t + 23 → σ' o = σ o := by
  have htl := ht.le
  have key : ∀ (Q P : List Int32) (n : Nat) (a : Int32) (s : ZS), M = P ++ Q → (0 ≤ a.toInt ∧ a.toInt ≤ 2000) → (∀ o, o ≠ t + 23 → s o = σ o) → Q.length < n → ∃ σ', f5_taxOf_15 k t n a (nI P.length) s = some (tx R (clp 0 999 a) P.length Q, σ') ∧ ∀ o, o ≠ t + 23 → σ' o = σ o := by
    intro Q
    induction Q with
    | nil =>
      intro P n a s hPQ ha hs hn
      obtain ⟨n, rfl⟩ : ∃ q, n = q + 1 := ⟨n - 1, by omega⟩
      have hMP : M.length = P.length := by rw [hPQ, List.append_nil]
      show ∃ σ', b5_taxOf_15 k t _ a (nI P.length) s = _ ∧ _
      unfold b5_taxOf_15
      rw [hs 83 (by omega), hL.2.1, if_pos (by rw [Int32.le_iff_toInt_le, nI_toInt (by omega), nI_toInt (by omega)]; omega)]
      refine ⟨s, ?_, hs⟩
      congr 2
      refine i_eq ?_
      show _ = (clp 0 999 a).toInt
      rw [clp_int (by decide), t_0, t_999]
      by_cases c : a < 999
      · rw [if_pos c]; rw [Int32.lt_iff_toInt_lt, t_999] at c; omega
      · rw [if_neg c]; rw [Int32.lt_iff_toInt_lt, t_999] at c; rw [t_999]; omega
    | cons g Q ih =>
      intro P n a s hPQ ha hs hn
      obtain ⟨n, rfl⟩ : ∃ q, n = q + 1 := ⟨n - 1, by omega⟩
      have hMP : M.length = P.length + (Q.length + 1) := by rw [hPQ, List.length_append]; rfl
      show ∃ σ', b5_taxOf_15 k t (f5_taxOf_15 k t n) a (nI P.length) s = _ ∧ _
      unfold b5_taxOf_15
      rw [hs 83 (by omega), hL.2.1, if_neg (by rw [Int32.le_iff_toInt_le, nI_toInt (by omega), nI_toInt (by omega)]; omega)]
      by_cases c : 999 ≤ a
      · have c' := c
        rw [Int32.le_iff_toInt_le, t_999] at c'
        have e : clp 0 999 a = 999 := by
          refine i_eq ?_
          rw [clp_int (by decide), t_0, t_999]; omega
        rw [if_pos c, if_neg (by rw [Int32.lt_iff_toInt_lt, t_999]; omega), e, tx_999]
        exact ⟨s, rfl, hs⟩
      · have c' := c
        rw [Int32.le_iff_toInt_le, t_999] at c'
        obtain ⟨j, hj, rfl⟩ := hin g (by rw [hPQ]; exact List.mem_append_right _ List.mem_cons_self)
        have hn8 := hB.ng
        have hjx : (nI j).toInt = j := nI_toInt (by omega)
        have hjn : (j : Int).toNat = j := by omega
        have hLs : L8 s A (P ++ nI j :: Q) b := by
          rw [← hPQ]
          unfold L8
          rw [hs 83 (by omega), hs 84 (by omega), hs 85 (by omega)]
          exact hL
        have hRs : RS s t R := hR.congr2 hv fun o q1 q2 q3 q4 => hs o q3
        rw [if_neg c, s1_metAt hLs (by omega) (by rw [← hPQ]; omega), zbd_some, s5_glassOf' ht hRs hB, zbd_some, hjx, if_pos (show (0 : Int) ≤ j ∧ (j : Int) < (R 2).toInt by omega), hjn, if_neg (by omega), if_pos (ht.s1 (show j < 8 by omega)), hRs.2.1 j (by omega) 0 (by decide), hRs.2.1 j (by omega) 1 (by decide), nI_1]
        obtain ⟨σ1, e1, e2⟩ := s5_given (k := k) (t := t) (u := 0) (a := nI (P.length + 1)) (b := R (6 + 5 * j + 0)) (c := R (6 + 5 * j + 1)) (by omega) ht (by decide) hRs hv
        have hg := gv_rng (R := R) (u := 0) (a := nI (P.length + 1)) (b := R (6 + 5 * j + 0)) (c := R (6 + 5 * j + 1))
        rw [if_pos rfl] at hg
        have ea : (a + gv R 0 (nI (P.length + 1)) (R (6 + 5 * j + 0)) (R (6 + 5 * j + 1))).toInt = a.toInt + (gv R 0 (nI (P.length + 1)) (R (6 + 5 * j + 0)) (R (6 + 5 * j + 1))).toInt := i_add (by omega)
        have ec : clp 0 999 a = a := by
          refine i_eq ?_
          rw [clp_int (by decide), t_0, t_999]; omega
        rw [show (0 : Int32) = nI 0 from rfl, e1, zbd_some]
        obtain ⟨σ', f1, f2⟩ := ih (P ++ [nI j]) n (a + gv R 0 (nI (P.length + 1)) (R (6 + 5 * j + 0)) (R (6 + 5 * j + 1))) σ1 (by rw [hPQ, List.append_assoc]; rfl) (by omega) (fun o ho => by rw [e2 o (by omega), hs o ho]) (by have : (nI j :: Q).length = Q.length + 1 := rfl; omega)
        rw [List.length_append] at f1
        refine ⟨σ', ?_, f2⟩
        show f5_taxOf_15 k t n _ (nI (P.length + 1)) σ1 = some (tx R (clp 0 999 (clp 0 999 a + gv R 0 (nI (P.length + 1)) (R (6 + 5 * (nI j).toInt.toNat + 0)) (R (6 + 5 * (nI j).toInt.toNat + 1)))) (P.length + 1) Q, σ')
        rw [hjx, hjn, ec]
        exact f1
  rw [f5_taxOf, if_pos ht.s6, hL.2.2.1]
  cases b with
  | true => exact ⟨σ, by rw [if_neg (by decide)]; rfl, fun _ _ => rfl⟩
  | false =>
    rw [if_pos (show (if false = true then (1 : Int32) else 0) = 0 from rfl)]
    exact key M [] k 0 σ rfl (by decide) (fun _ _ => rfl) (by omega)
def txo (R : Nat → Int32) (c w : Int32) : Int32 := if (lk R 256 c w).2 then 999 else tx R 0 0 (mets (lk R 256 c w).1)
def due (R : Nat → Int32) (p : Nat) : Int32 := gv R 1 (txo R (R (46 + 3 * p + 0)) (R (46 + 3 * p + 1))) (R 0 % 24) (nI p)
theorem mets_256 {R : Nat → Int32} {c w : Int32} : (mets (lk R 256 c w).1).length ≤ 256 := Nat.le_trans (mets_len _) (lk_len 256 c w)
/-- places of a street's row and of looks -/
def pD (t o : Nat) : Prop := o ≠ 83 ∧ o ≠ 84 ∧ o ≠ 85 ∧ o ≠ t + 23 ∧ o ≠ t + 26
theorem s5_due {k t p : Nat} {hb : Int} {R : Nat → Int32} {σ : ZS} (hk : 300 ≤ k) (ht : Tt t) (hB : BD hb R) (hR : RS σ t R) (hv : VT R) (hp : (p : Int) < (R 3).toInt) : ∃ σ', f5_dueOf k t (nI p) σ = some (due R p, σ') ∧ (∀ o, pD t o → σ' o = σ o) ∧ L8 σ' (R (46 + 3 * p + 0) :: cls (lk R 256 (R (46 + 3 * p + 0)) (R (46 + 3 * p + 1))).1) (mets (lk R 256 (R (46 + 3 * p + 0)) (R (46 + 3 * p + 1))).1) (lk R 256 (R (46 + 3 * p + 0)) (R (46 + 3 * p + 1))).2 := by
  have htl := ht.le
  have hn := hB.np
  have hpx : (nI p).toInt = p := nI_toInt (by omega)
  have hpn : (p : Int).toNat = p := by omega
  have hp6 : p < 6 := by omega
  have hb' := hB.pe hp6
  obtain ⟨σ1, e1, e2, e3⟩ := s1_follow (k := k) (t := t) (c := R (46 + 3 * p + 0)) (w := R (46 + 3 * p + 1)) (by omega) ht hB hR hv hb'.1 (W4.of hb'.2.1)
  have hR1 : RS σ1 t R := hR.congr hv fun o q1 q2 => e2 o (by omega) (by omega) (by omega)
  obtain ⟨σ2, f1, f2⟩ := s5_tax hk ht hB hR1 hv e3 mets_256 (fun g hg => mets_in _ _ _ g hg)
  have hR2 : RS σ2 t R := hR1.congr2 hv fun o q1 q2 q3 q4 => f2 o q3
  obtain ⟨σ3, g1, g2⟩ := s5_given (k := k) (t := t) (u := 1) (a := txo R (R (46 + 3 * p + 0)) (R (46 + 3 * p + 1))) (b := R 0 % 24) (c := nI p) (by omega) ht (by decide) hR2 hv
  refine ⟨σ3, ?_, fun o ho => ?_, ?_⟩
  · rw [f5_dueOf, if_pos ht.s6, s5_personOf' ht hR hB, zbd_some, hpx, if_pos (show (0 : Int) ≤ p ∧ (p : Int) < (R 3).toInt by omega), hpn, if_neg (by omega), if_pos (ht.s3 hp6), hR.2.2.1 p hp6 0 (by decide), hR.2.2.1 p hp6 1 (by decide), e1, zbd_some, f1, zbd_some, hR2.1.2.2.2.2.1]
    exact congrArg (fun z => zbd z _) g1
  · obtain ⟨o1, o2, o3, o4, o5⟩ := ho
    rw [g2 o (by omega), f2 o o4, e2 o o1 o2 o3]
  · unfold L8
    rw [g2 83 (by omega), g2 84 (by omega), g2 85 (by omega), f2 83 (by omega), f2 84 (by omega), f2 85 (by omega)]
    exact e3
theorem s9_about' {k p j : Nat} {w : Int32} {σ : ZS} (h : p < 6) (hw : w.toInt = j) (hj : j ≤ 2) : f9_about k (nI p) w σ = some (σ 104 (46 + 3 * p + j), σ) := by
  have hx : (nI p).toInt = p := nI_toInt (by omega)
  rw [s9_about (by omega) (by omega), hx, hw]
  rfl
theorem s9_looksOf {k p : Nat} {hb : Int} {σ : ZS} (hk : 300 ≤ k) (hB : BD hb (σ 104)) (hv : VT (σ 104)) (hp : p < 6) : ∃ σ', f9_looksOf k (nI p) σ = some ((), σ') ∧ (∀ o, pK o → σ' o = σ o) ∧ (∀ i, pKm i → σ' 103 i = σ 103 i) ∧ L9f (σ 104) σ' (σ 104 (46 + 3 * p + 0) :: cls (lk (σ 104) 256 (σ 104 (46 + 3 * p + 0)) (σ 104 (46 + 3 * p + 1))).1) (mets (lk (σ 104) 256 (σ 104 (46 + 3 * p + 0)) (σ 104 (46 + 3 * p + 1))).1) (lk (σ 104) 256 (σ 104 (46 + 3 * p + 0)) (σ 104 (46 + 3 * p + 1))).2 := by
  have hb' := hB.pe hp
  obtain ⟨σ1, e1, e2, e3, e4⟩ := s9_looks (k := k) (c := σ 104 (46 + 3 * p + 0)) (w := σ 104 (46 + 3 * p + 1)) (by omega) hB hv hb'.1 (W4.of hb'.2.1)
  refine ⟨σ1, ?_, e2, e3, e4⟩
  rw [f9_looksOf, s9_about' hp (j := 0) t_0 (by decide), zbd_some, s9_about' hp (j := 1) t_1 (by decide), zbd_some, e1, zbd_some]
theorem s9_due {k p : Nat} {hb : Int} {σ : ZS} (hk : 300 ≤ k) (hB : BD hb (σ 104)) (hv : VT (σ 104)) (hp : p < 6) : ∃ σ', f9_dueOf k (nI p) σ = some (due (σ 104) p, σ') ∧ (∀ o, pK o → σ' o = σ o) ∧ (∀ i, pKm i → σ' 103 i = σ 103 i) ∧ L9f (σ 104) σ' (σ 104 (46 + 3 * p + 0) :: cls (lk (σ 104) 256 (σ 104 (46 + 3 * p + 0)) (σ 104 (46 + 3 * p + 1))).1) (mets (lk (σ 104) 256 (σ 104 (46 + 3 * p + 0)) (σ 104 (46 + 3 * p + 1))).1) (lk (σ 104) 256 (σ 104 (46 + 3 * p + 0)) (σ 104 (46 + 3 * p + 1))).2 := by
  obtain ⟨σ1, e1, e2, e3, e4⟩ := s9_looksOf (k := k) hk hB hv hp
  have e104 : σ1 104 = σ 104 := e2 104 (by unfold pK; decide)
  obtain ⟨σ2, g1, g2⟩ := s9_gives (k := k) (u := 1) (σ := σ1) (a := txo (σ 104) (σ 104 (46 + 3 * p + 0)) (σ 104 (46 + 3 * p + 1))) (b := σ 104 0 % 24) (c := nI p) (by omega) (by decide) (by rw [e104]; exact hv)
  rw [e104] at g1
  refine ⟨σ2, ?_, fun o ho => by rw [g2 o ho.2.2.2.1 ho.2.2.2.2, e2 o ho], fun i hi => by rw [g2 103 (by decide) (by decide), e3 i hi], ?_⟩
  · rw [f9_dueOf, e1, zbd_some, e104, e4.2.2.2.2.1]
    exact congrArg (fun z => zbd z _) g1
  · unfold L9f
    rw [g2 103 (by decide) (by decide), g2 111 (by decide) (by decide), g2 112 (by decide) (by decide)]
    exact e4
section
variable {m k : Nat} {σ : ZS}
theorem op_look (hk : 300 ≤ k) (h : Rel m σ) (c w x : Int32) : opk m (f8_look k c w x) (f9_look k c w x) σ := by
  by_cases c1 : 0 ≤ c.toInt ∧ c.toInt ≤ 63
  · by_cases c2 : 0 ≤ w.toInt ∧ w.toInt ≤ 3
    · by_cases c3 : 0 ≤ x.toInt ∧ x.toInt ≤ 3
      · have hx4 : W4 x := W4.of c3
        obtain ⟨σ1, e1, e2, e3⟩ := s1_follow (k := k) (t := 2) (R := σ 104) (c := c) (w := w) (by omega) (Or.inl rfl) h.2.1.1 h.1 h.2.1.2.2 c1 (W4.of c2)
        have hR1 : RS σ1 2 (σ 104) := h.1.congr h.2.1.2.2 fun o q1 q2 => e2 o (by omega) (by omega) (by omega)
        obtain ⟨σ2, f1, f2⟩ := s5_tax hk (Or.inl rfl) h.2.1.1 hR1 h.2.1.2.2 e3 mets_256 (fun g hg => mets_in _ _ _ g hg)
        have d8 : f8_look k c w x σ = (if x = 3 then zbd (f5_taxOf k 2 σ1) fun r10 s10 => some (r10, s10) else if σ1 83 4 = 0 then (if x = 0 then zbd (f1_cellAt k (σ1 83 2 - 1) σ1) fun r13 s13 => some (r13, s13) else if x = 1 then some (σ1 83 2, σ1) else some (σ1 83 3, σ1)) else zbd (f8_error k 2 σ1) fun r15 s15 => some (r15, s15)) := by
          rw [f8_look, s8_isNoCell, zbd_some, if_pos c1, if_pos rfl, s8_isNoWay, zbd_some, if_pos c2, if_pos rfl, if_neg (by rw [Int32.lt_iff_toInt_lt, t_0]; omega), if_pos (by rw [Int32.le_iff_toInt_le, t_3]; omega), e1, zbd_some]
        -- the model, from a state that has the same row
        have d9 : ∀ s : ZS, s 104 = σ 104 → ∃ s1, f9_look k c w x s = (if s1 103 13 = 0 then b9_look_53 k x s1 else if 3 ≤ x then b9_look_53 k x s1 else zbd (f9_error k (-1000000002) s1) fun r13 s13 => some (r13, s13)) ∧ (∀ o, pK o → s1 o = s o) ∧ (∀ i, pKm i → s1 103 i = s 103 i) ∧ L9f (σ 104) s1 (c :: cls (lk (σ 104) 256 c w).1) (mets (lk (σ 104) 256 c w).1) (lk (σ 104) 256 c w).2 := by
          intro s hs
          obtain ⟨s1, g1, g2, g3, g4⟩ := s9_looks (k := k) (σ := s) (c := c) (w := w) (by omega) (by rw [hs]; exact h.2.1.1) (by rw [hs]; exact h.2.1.2.2) c1 (W4.of c2)
          rw [hs] at g4
          exact ⟨s1, by rw [f9_look, s9_isCell, zbd_some, if_pos c1, if_neg (by decide), s9_isFour, zbd_some, if_pos c2, if_neg (by decide), s9_isFour, zbd_some, if_pos c3, if_neg (by decide), g1, zbd_some], g2, g3, g4⟩
        have len := cls_len (lk (σ 104) 256 c w).1
        have len2 := lk_len (R := σ 104) 256 c w
        generalize hA : c :: cls (lk (σ 104) 256 c w).1 = A at e3 d9
        have hAl : 1 ≤ A.length ∧ A.length ≤ 257 := by rw [← hA]; show 1 ≤ (cls _).length + 1 ∧ (cls _).length + 1 ≤ 257; omega
        have hM := mets_256 (R := σ 104) (c := c) (w := w)
        have fin : ∀ {s1 s2 : ZS} (_ : ∀ o, pD 2 o → s1 o = σ o) (_ : ∀ o, pK o → s2 o = s1 o) (_ : ∀ i, pKm i → s2 103 i = s1 103 i), Rel (m + 1) s2 := fun {s1 s2} q1 q2 q3 => h.look (by omega) (fun o ho => by rw [q2 o (by unfold pL at ho; unfold pK; omega), q1 o (by unfold pL at ho; unfold pD; omega)]) (by rw [q3 3 (by unfold pKm; decide), q1 103 (by unfold pD; decide)]) (by rw [q3 25 (by unfold pKm; decide), q1 103 (by unfold pD; decide)])
        by_cases x3 : x = 3
        · obtain ⟨s2, g1, g2, g3, g4⟩ := d9 σ2 (by rw [f2 104 (by decide), e2 104 (by decide) (by decide) (by decide)])
          refine ⟨txo (σ 104) c w, σ2, s2, ?_, ?_, fin (fun o ho => by rw [f2 o ho.2.2.2.1, e2 o ho.1 ho.2.1 ho.2.2.1]) g2 g3⟩
          · rw [d8, if_pos x3, f1, zbd_some]; rfl
          · have l53 : b9_look_53 k x s2 = some (s2 103 12, s2) := by rw [b9_look_53, if_neg (by rw [x3]; decide), if_neg (by rw [x3]; decide), if_neg (by rw [x3]; decide)]
            rw [g1, l53, if_pos (show (3 : Int32) ≤ x by rw [x3]; decide), g4.2.2.2.2.1]
            by_cases z : s2 103 13 = 0
            · rw [if_pos z]; rfl
            · rw [if_neg z]; rfl
        · have hx3' : ¬ (3 : Int32) ≤ x := by
            rcases hx4 with rfl | rfl | rfl | rfl
            · decide
            · decide
            · decide
            · exact absurd rfl x3
          obtain ⟨s2, g1, g2, g3, g4⟩ := d9 σ1 (by rw [e2 104 (by decide) (by decide) (by decide)])
          have s1D : ∀ o, pD 2 o → σ1 o = σ o := fun o ho => e2 o ho.1 ho.2.1 ho.2.2.1
          rw [opk]
          rw [d8, if_neg x3, e3.1, e3.2.1, e3.2.2.1]
          cases hev : (lk (σ 104) 256 c w).2 with
          | true =>
            have h94 : σ1 94 = σ 94 := e2 94 (by decide) (by decide) (by decide)
            obtain ⟨s3, g1', g2', g3', g4'⟩ := d9 (zu σ1 94 2 (σ 94 2 + 1)) (by rw [zu_o (by decide), e2 104 (by decide) (by decide) (by decide)])
            rw [hev] at g4'
            refine ⟨-1000000002, zu σ1 94 2 (σ 94 2 + 1), zu s3 107 2 (s3 107 2 + 1), ?_, ?_, ?_⟩
            · rw [if_neg (by decide), e8_2, h94]; rfl
            · rw [g1', g4'.2.2.2.2.2, if_neg (by decide), if_neg hx3', e9_2]; rfl
            · have hr := h.err (e := 2) (by decide)
              refine hr.look (Nat.le_refl _) (fun o ho => ?_) ?_ ?_
              · by_cases ho7 : o = 107
                · subst ho7
                  rw [zu_self, zu_self, g2' 107 (by unfold pK; decide), zu_o (by decide), e2 107 (by decide) (by decide) (by decide), zu_o (by decide)]
                · rw [zu_o ho7, zu_o ho7, g2' o (by unfold pL at ho; unfold pK; omega)]
                  by_cases ho4 : o = 94
                  · subst ho4
                    rw [zu_self, zu_self, h94]
                  · rw [zu_o ho4, zu_o ho4, e2 o (by unfold pL at ho; omega) (by unfold pL at ho; omega) (by unfold pL at ho; omega)]
              · rw [zu_o (by decide), zu_o (by decide), g3' 3 (by unfold pKm; decide), zu_o (by decide), zu_o (by decide), e2 103 (by decide) (by decide) (by decide)]
              · rw [zu_o (by decide), zu_o (by decide), g3' 25 (by unfold pKm; decide), zu_o (by decide), zu_o (by decide), e2 103 (by decide) (by decide) (by decide)]
          | false =>
            rw [hev] at g4
            rw [if_pos (show (if false = true then (1 : Int32) else 0) = 0 from rfl)]
            have hz : s2 103 13 = 0 := g4.2.2.2.2.2
            rcases hx4 with rfl | rfl | rfl | rfl
            · have hA1 : nI A.length - 1 = nI (A.length - 1) := nI_sub (by omega) (by omega)
              have hx : (nI (A.length - 1)).toInt = (A.length - 1 : Nat) := nI_toInt (by omega)
              have hval : σ1 84 (A.length - 1) = A.getD (A.length - 1) 0 := e3.2.2.2.1 _ (by omega)
              have hval9 : s2 111 (A.length - 1) = A.getD (A.length - 1) 0 := g4.2.2.1 _ (by omega)
              refine ⟨A.getD (A.length - 1) 0, σ1, s2, ?_, ?_, fin s1D g2 g3⟩
              · rw [if_pos rfl, hA1, f1_cellAt, if_neg (by rw [Int32.lt_iff_toInt_lt, hx, t_0]; omega), e3.1, if_neg (by rw [Int32.le_iff_toInt_le, hx, nI_toInt (by omega)]; omega), if_pos (by rw [Int32.lt_iff_toInt_lt, hx, t_257]; omega), if_pos (nI_z (by omega) (by decide)), nI_nat (by omega), hval, zbd_some]
              · rw [g1, if_pos hz, b9_look_53, if_pos rfl, g4.1, hA1, if_pos (nI_z (by omega) (by decide)), nI_nat (by omega), hval9]
            · refine ⟨nI A.length, σ1, s2, ?_, ?_, fin s1D g2 g3⟩
              · rw [if_neg (by decide), if_pos rfl]
              · rw [g1, if_pos hz, b9_look_53, if_neg (by decide), if_pos rfl, g4.1]
            · refine ⟨nI (mets (lk (σ 104) 256 c w).1).length, σ1, s2, ?_, ?_, fin s1D g2 g3⟩
              · rw [if_neg (by decide), if_neg (by decide)]
              · rw [g1, if_pos hz, b9_look_53, if_neg (by decide), if_neg (by decide), if_pos rfl, g4.2.1]
            · exact absurd rfl x3
      · refine opk_e1 h ?_ fun s hs => ?_
        · rw [f8_look, s8_isNoCell, zbd_some, if_pos c1, if_pos rfl, s8_isNoWay, zbd_some, if_pos c2, if_pos rfl]
          by_cases c4 : x < 0
          · rw [if_pos c4, e8_1]; rfl
          · rw [if_neg c4, if_neg (by rw [Int32.lt_iff_toInt_lt, t_0] at c4; rw [Int32.le_iff_toInt_le, t_3]; omega), e8_1]; rfl
        · rw [f9_look, s9_isCell, zbd_some, if_pos c1, if_neg (by decide), s9_isFour, zbd_some, if_pos c2, if_neg (by decide), s9_isFour, zbd_some, if_neg c3, if_pos rfl, e9_1]; rfl
    · refine opk_e1 h ?_ fun s hs => ?_
      · rw [f8_look, s8_isNoCell, zbd_some, if_pos c1, if_pos rfl, s8_isNoWay, zbd_some, if_neg c2, if_neg (by decide), e8_1]; rfl
      · rw [f9_look, s9_isCell, zbd_some, if_pos c1, if_neg (by decide), s9_isFour, zbd_some, if_neg c2, if_pos rfl, e9_1]; rfl
  · refine opk_e1 h ?_ fun s hs => ?_
    · rw [f8_look, s8_isNoCell, zbd_some, if_neg c1, if_neg (by decide), e8_1]; rfl
    · rw [f9_look, s9_isCell, zbd_some, if_neg c1, if_pos rfl, e9_1]; rfl
end
