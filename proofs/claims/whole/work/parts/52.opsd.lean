/-! calls that look, and hours -/
section
variable {m k : Nat} {σ : ZS}
theorem opk_lk {F8 F9 : ZS → Option (Int32 × ZS)} (h : Rel m σ) {r : Int32} {σ1 : ZS} (h8 : F8 σ = some (r, σ1)) (e1 : ∀ o, pD 2 o → σ1 o = σ o) (h9 : ∀ s : ZS, (∀ o, pD 2 o → s o = σ o) → ∃ s3, F9 s = some (r, s3) ∧ (∀ o, pK o → s3 o = s o) ∧ (∀ i, pKm i → s3 103 i = s 103 i)) : opk m F8 F9 σ := by
  obtain ⟨s3, q1, q2, q3⟩ := h9 σ1 e1
  exact ⟨r, σ1, s3, h8, q1, h.look (by omega) (fun o ho => by rw [q2 o (by unfold pL at ho; unfold pK; omega), e1 o (by unfold pL at ho; unfold pD; omega)]) (by rw [q3 3 (by unfold pKm; decide), e1 103 (by unfold pD; decide)]) (by rw [q3 25 (by unfold pKm; decide), e1 103 (by unfold pD; decide)])⟩
theorem opk_l2 {F8 F9 : ZS → Option (Int32 × ZS)} (h : Rel m σ) {σ1 : ZS} (h8 : F8 σ = some ((-1000000002 : Int32), zu σ1 94 2 (σ1 94 2 + 1))) (e1 : ∀ o, pD 2 o → σ1 o = σ o) (h9 : ∀ s : ZS, (∀ o, pD 2 o → o ≠ 94 → s o = σ o) → ∃ s3, F9 s = some ((-1000000002 : Int32), zu s3 107 2 (s3 107 2 + 1)) ∧ (∀ o, pK o → s3 o = s o) ∧ (∀ i, pKm i → s3 103 i = s 103 i)) : opk m F8 F9 σ := by
  have h94 : σ1 94 = σ 94 := e1 94 (by unfold pD; decide)
  obtain ⟨s3, q1, q2, q3⟩ := h9 (zu σ1 94 2 (σ1 94 2 + 1)) (fun o h1 h2 => by rw [zu_o h2]; exact e1 o h1)
  refine ⟨-1000000002, zu σ1 94 2 (σ1 94 2 + 1), zu s3 107 2 (s3 107 2 + 1), h8, q1, (h.err (e := 2) (by decide)).look (Nat.le_refl _) (fun o ho => ?_) ?_ ?_⟩
  · by_cases ho7 : o = 107
    · subst ho7
      rw [zu_self, zu_self, q2 107 (by unfold pK; decide), zu_o (by decide), e1 107 (by unfold pD; decide), zu_o (by decide)]
    · rw [zu_o ho7, zu_o ho7, q2 o (by unfold pL at ho; unfold pK; omega)]
      by_cases ho4 : o = 94
      · subst ho4
        rw [zu_self, zu_self, h94]
      · rw [zu_o ho4, zu_o ho4, e1 o (by unfold pL at ho; unfold pD; omega)]
  · rw [zu_o (by decide), zu_o (by decide), q3 3 (by unfold pKm; decide), zu_o (by decide), zu_o (by decide), e1 103 (by unfold pD; decide)]
  · rw [zu_o (by decide), zu_o (by decide), q3 25 (by unfold pKm; decide), zu_o (by decide), zu_o (by decide), e1 103 (by unfold pD; decide)]
theorem Rel.strt (h : Rel m σ) {σ' : ZS} (hR : RS σ' 2 (σ' 104)) (hW : WF 9999 (σ' 104)) (e : ∀ o, (o = 1 ∨ (29 ≤ o ∧ o ≤ 55) ∨ (90 ≤ o ∧ o ≤ 92) ∨ (94 ≤ o ∧ o ≤ 102) ∨ o = 105 ∨ (107 ≤ o ∧ o ≤ 110) ∨ o = 118) → σ' o = σ o) (e3 : σ' 103 3 = σ 103 3) (e25 : σ' 103 25 = σ 103 25) : Rel (m + 1) σ' := by
  obtain ⟨h1, h2, ⟨i1, i2, i3, i4⟩, h4, h5, h6⟩ := h
  refine ⟨hR, hW, ⟨?_, ?_, ?_, fun hn => ?_⟩, fun i q1 q2 => ?_, fun s hs => ?_, ?_⟩
  · rw [e 1 (by omega), e3]; exact i1
  · rw [e3]; omega
  · rw [e 1 (by omega), e3]; exact i3
  · rw [e3] at hn
    obtain ⟨q1, q2⟩ := i4 hn
    rw [e 105 (by omega)]
    exact ⟨q1.congr q2.2.2 fun o q1 q2 => e o (by omega), q2⟩
  · rw [e 94 (by omega), e 107 (by omega)]; exact h4 i q1 q2
  · rw [e 108 (by omega), e 109 (by omega), e 110 (by omega), e (95 + 2 * s) (by omega), e (96 + 2 * s) (by omega)]
    exact h5 s hs
  · unfold Vo
    rw [e 90 (by omega), e 91 (by omega), e25, e 118 (by omega)]
    exact h6
def hrs (R : Nat → Int32) : Nat → (Nat → Int32)
  | 0 => R
  | n + 1 => hrs (hourR R) n
theorem hourR_WF {hb : Int} (hb2 : hb ≤ 20000) {R : Nat → Int32} (hW : WF hb R) : WF (hb + 1) (hourR R) ∧ (hourR R 0).toInt = (R 0).toInt + 1 := by
  have hn := hW.1.np
  have h0 := hW.1.hr
  refine ⟨hgo_WF hb2 _ 0 R hW (by omega), ?_⟩
  rw [hourR, hgo_hr _ 0 R hW (by omega), i_add (by rw [t_1]; omega), t_1]
theorem WF.tight {hb hb' : Int} {R : Nat → Int32} (hW : WF hb R) (h : (R 0).toInt ≤ hb') : WF hb' R := by
  refine ⟨fun i hi => ?_, hW.2⟩
  have := hW.1 i hi
  unfold bh at this ⊢
  by_cases c : i = 0
  · rw [if_pos c] at this ⊢; subst c; exact ⟨this.1, h⟩
  · rw [if_neg c] at this ⊢; exact this
theorem hrs_WF : ∀ (d : Nat) (hb : Int) (R : Nat → Int32), WF hb R → hb + d ≤ 20000 → WF (hb + d) (hrs R d) ∧ (hrs R d 0).toInt = (R 0).toInt + d
  | 0, hb, R, hW, h => ⟨by rw [show hb + ((0 : Nat) : Int) = hb by omega]; exact hW, by rw [hrs]; omega⟩
  | d + 1, hb, R, hW, h => by
    obtain ⟨h1, h2⟩ := hourR_WF (by omega) hW
    obtain ⟨h3, h4⟩ := hrs_WF d (hb + 1) (hourR R) h1 (by omega)
    rw [show hb + ((d + 1 : Nat) : Int) = hb + 1 + d by omega]
    exact ⟨h3, by rw [hrs, h4, h2]; omega⟩
theorem op_hours (hk : 300 ≤ k) (h : Rel m σ) (a : Int32) : opk m (f8_hours k a) (f9_hours k a) σ := by
  have h0 := h.2.1.1.hr
  have e10 := h.1.1.2.2.2.2.1
  by_cases c1 : 1 ≤ a.toInt ∧ a.toInt ≤ 48
  · have ea : (σ 104 0 + a).toInt = (σ 104 0).toInt + a.toInt := i_add (by omega)
    by_cases c2 : (σ 104 0).toInt + a.toInt ≤ 9999
    · obtain ⟨N, hN, rfl⟩ : ∃ N : Nat, N ≤ 48 ∧ a = nI N := ⟨a.toInt.toNat, by omega, i_nat (by omega)⟩
      have hNx : (nI N).toInt = N := nI_toInt (by omega)
      have key8 : ∀ (d i n : Nat) (hb : Int) (R : Nat → Int32) (s : ZS), i + d = N → d < n → hb + d ≤ 20000 → WF hb R → RS s 2 R → (∀ o, pH 2 o → s o = σ o) → ∃ σ', f8_hours_40 k n (nI N) (nI i) s = some (hrs R d 0, σ') ∧ RS σ' 2 (hrs R d) ∧ ∀ o, pH 2 o → σ' o = σ o := by
        intro d
        induction d with
        | zero =>
          intro i n hb R s hi hn hb2 hW hR hs
          obtain ⟨n, rfl⟩ : ∃ q, n = q + 1 := ⟨n - 1, by omega⟩
          show ∃ σ', b8_hours_40 k _ (nI N) (nI i) s = _ ∧ _
          unfold b8_hours_40
          rw [if_pos (by rw [Int32.le_iff_toInt_le, nI_toInt (by omega), nI_toInt (by omega)]; omega), hR.1.2.2.2.2.1]
          exact ⟨s, rfl, hR, hs⟩
        | succ d ih =>
          intro i n hb R s hi hn hb2 hW hR hs
          obtain ⟨n, rfl⟩ : ∃ q, n = q + 1 := ⟨n - 1, by omega⟩
          show ∃ σ', b8_hours_40 k (f8_hours_40 k n) (nI N) (nI i) s = _ ∧ _
          unfold b8_hours_40
          obtain ⟨s1, q1, q2, q3⟩ := s5_hour (k := k) hk (Or.inl rfl) hW hR
          rw [if_neg (by rw [Int32.le_iff_toInt_le, nI_toInt (by omega), nI_toInt (by omega)]; omega), q1, zbd_some, nI_1]
          exact ih (i + 1) n (hb + 1) (hourR R) s1 (by omega) (by omega) (by omega) (hourR_WF (by omega) hW).1 q2 (fun o ho => by rw [q3 o ho, hs o ho])
      have key9 : ∀ (d i n : Nat) (hb : Int) (s0 s : ZS), i + d = N → d < n → hb + d ≤ 20000 → WF hb (s 104) → (∀ o, pK o → o ≠ 104 → s o = s0 o) → (∀ i, pKm i → s 103 i = s0 103 i) → ∃ σ', f9_hours_40 k n (nI N) (nI i) s = some (hrs (s 104) d 0, σ') ∧ σ' 104 = hrs (s 104) d ∧ (∀ o, pK o → o ≠ 104 → σ' o = s0 o) ∧ (∀ i, pKm i → σ' 103 i = s0 103 i) := by
        intro d
        induction d with
        | zero =>
          intro i n hb s0 s hi hn hb2 hW hs hs2
          obtain ⟨n, rfl⟩ : ∃ q, n = q + 1 := ⟨n - 1, by omega⟩
          show ∃ σ', b9_hours_40 k _ (nI N) (nI i) s = _ ∧ _
          unfold b9_hours_40
          rw [if_pos (by rw [Int32.le_iff_toInt_le, nI_toInt (by omega), nI_toInt (by omega)]; omega)]
          exact ⟨s, rfl, rfl, hs, hs2⟩
        | succ d ih =>
          intro i n hb s0 s hi hn hb2 hW hs hs2
          obtain ⟨n, rfl⟩ : ∃ q, n = q + 1 := ⟨n - 1, by omega⟩
          show ∃ σ', b9_hours_40 k (f9_hours_40 k n) (nI N) (nI i) s = _ ∧ _
          unfold b9_hours_40
          obtain ⟨s1, q1, q2, q3, q4⟩ := s9_hour (k := k) hk hW
          rw [if_neg (by rw [Int32.le_iff_toInt_le, nI_toInt (by omega), nI_toInt (by omega)]; omega), q1, zbd_some, nI_1]
          have := ih (i + 1) n (hb + 1) s0 s1 (by omega) (by omega) (by omega) (by rw [q2]; exact (hourR_WF (by omega) hW).1) (fun o ho h4 => by rw [q3 o ho h4, hs o ho h4]) (fun i hi => by rw [q4 i hi, hs2 i hi])
          rw [q2] at this
          exact this
      obtain ⟨σ1, f1, f2, f3⟩ := key8 N 0 k 9999 (σ 104) σ (by omega) (by omega) (by omega) h.2.1 h.1 (fun _ _ => rfl)
      have e104 : σ1 104 = σ 104 := f3 104 (by unfold pH; decide)
      obtain ⟨σ2, g1, g2, g3, g4⟩ := key9 N 0 k 9999 σ1 σ1 (by omega) (by omega) (by omega) (by rw [e104]; exact h.2.1) (fun _ _ _ => rfl) (fun _ _ => rfl)
      rw [e104] at g1 g2
      obtain ⟨w1, w2⟩ := hrs_WF N 9999 (σ 104) h.2.1 (by omega)
      have hW : WF 9999 (hrs (σ 104) N) := w1.tight (by omega)
      refine ⟨hrs (σ 104) N 0, σ1, σ2, ?_, ?_, h.strt ?_ ?_ ?_ ?_ ?_⟩
      · rw [f8_hours, if_neg (by rw [Int32.lt_iff_toInt_lt, t_1]; omega), if_pos (by rw [Int32.le_iff_toInt_le, t_48]; omega), e10, if_pos (by rw [Int32.le_iff_toInt_le, t_9999, ea]; omega)]
        exact f1
      · rw [f9_hours, s9_in, zbd_some, t_1, t_48, if_pos c1, if_neg (by decide), e104, if_pos (by rw [Int32.le_iff_toInt_le, t_9999, ea]; omega)]
        exact g1
      · rw [g2]; exact f2.congr hW.2.2 fun o q1 q2 => g3 o (by unfold pK; omega) (by omega)
      · rw [g2]; exact hW
      · intro o ho; rw [g3 o (by unfold pK; omega) (by omega), f3 o (by unfold pH; omega)]
      · rw [g4 3 (by unfold pKm; decide), f3 103 (by unfold pH; decide)]
      · rw [g4 25 (by unfold pKm; decide), f3 103 (by unfold pH; decide)]
    · refine opk_e3 h ?_ fun s hs => ?_
      · rw [f8_hours, if_neg (by rw [Int32.lt_iff_toInt_lt, t_1]; omega), if_pos (by rw [Int32.le_iff_toInt_le, t_48]; omega), e10, if_neg (by rw [Int32.le_iff_toInt_le, t_9999, ea]; omega), e8_3]; rfl
      · rw [f9_hours, s9_in, zbd_some, t_1, t_48, if_pos c1, if_neg (by decide), hs 104 (by decide), if_neg (by rw [Int32.le_iff_toInt_le, t_9999, ea]; omega), e9_3]; rfl
  · refine opk_e1 h ?_ fun s hs => ?_
    · unfold f8_hours
      by_cases c3 : a < 1
      · rw [if_pos c3, e8_1]; rfl
      · rw [if_neg c3, if_neg (by rw [Int32.lt_iff_toInt_lt, t_1] at c3; rw [Int32.le_iff_toInt_le, t_48]; omega), e8_1]; rfl
    · rw [f9_hours, s9_in, zbd_some, t_1, t_48, if_neg c1, if_pos rfl, e9_1]; rfl
theorem op_personIs (hk : 300 ≤ k) (h : Rel m σ) (a b : Int32) : opk m (f8_personIs k a b) (f9_personIs k a b) σ := by
  have hn := h.2.1.1.np
  by_cases c1 : 0 ≤ a.toInt ∧ a.toInt < (σ 104 3).toInt
  · have hg : a.toInt.toNat < 6 := by omega
    have han : a = nI a.toInt.toNat := i_nat c1.1
    have hap : (2 + 15 + a.toInt.toNat) ≠ 0 := by omega
    by_cases c2 : 0 ≤ b.toInt ∧ b.toInt ≤ 3
    · by_cases c3 : b = 3
      · obtain ⟨σ1, e1, e2, e3⟩ := s5_due (k := k) (p := a.toInt.toNat) hk (Or.inl rfl) h.2.1.1 h.1 h.2.1.2.2 (by omega)
        rw [← han] at e1
        refine opk_lk h (r := due (σ 104) a.toInt.toNat) (σ1 := σ1) ?_ e2 fun s hs => ?_
        · rw [f8_personIs, h.pe8, zbd_some, if_pos c1, if_neg hap, c3, if_neg (by decide), if_neg (by decide), if_neg (by decide), if_pos rfl, e1, zbd_some]
        · have h4 : s 104 = σ 104 := hs 104 (by unfold pD; decide)
          obtain ⟨s3, g1, g2, g3, g4⟩ := s9_due (k := k) (p := a.toInt.toNat) (σ := s) hk (by rw [h4]; exact h.2.1.1) (by rw [h4]; exact h.2.1.2.2) hg
          rw [← han, h4] at g1
          refine ⟨s3, ?_, g2, g3⟩
          rw [f9_personIs, h.ip9 h4, zbd_some, if_pos c1, if_neg (by decide), s9_in, zbd_some, t_0, t_3, if_pos c2, if_neg (by decide), c3, if_pos (by decide), g1, zbd_some]
      · have hb3 : b.toInt ≤ 2 := by
          have : b.toInt ≠ 3 := fun q => c3 (i_eq (by rw [q, t_3]))
          omega
        refine ⟨σ 104 (46 + 3 * a.toInt.toNat + b.toInt.toNat), σ, σ, ?_, ?_, h.up⟩
        · have sp := sh_p hg
          have hb : b.toInt = 0 ∨ b.toInt = 1 ∨ b.toInt = 2 := by omega
          rw [f8_personIs, h.pe8, zbd_some, if_pos c1, if_neg hap]
          rcases hb with hb | hb | hb
          · have e : b = 0 := i_eq (by rw [hb, t_0])
            rw [e, if_pos rfl, if_pos sp, h.1.2.2.1 _ hg 0 (by decide)]; rfl
          · have e : b = 1 := i_eq (by rw [hb, t_1])
            rw [e, if_neg (by decide), if_pos rfl, if_pos sp, h.1.2.2.1 _ hg 1 (by decide)]; rfl
          · have e : b = 2 := i_eq (by rw [hb, t_2])
            rw [e, if_neg (by decide), if_neg (by decide), if_pos rfl, if_pos sp, h.1.2.2.1 _ hg 2 (by decide)]; rfl
        · rw [f9_personIs, h.ip9 rfl, zbd_some, if_pos c1, if_neg (by decide), s9_in, zbd_some, t_0, t_3, if_pos c2, if_neg (by decide), if_neg (by rw [Int32.le_iff_toInt_le, t_3]; omega), s9_about (by omega) (by omega), zbd_some]
    · refine opk_e1 h ?_ fun s hs => ?_
      · rw [f8_personIs, h.pe8, zbd_some, if_pos c1, if_neg hap, if_neg (fun q => c2 (by rw [q, t_0]; omega)), if_neg (fun q => c2 (by rw [q, t_1]; omega)), if_neg (fun q => c2 (by rw [q, t_2]; omega)), if_neg (fun q => c2 (by rw [q, t_3]; omega)), e8_1]; rfl
      · rw [f9_personIs, h.ip9 (hs _ (by decide)), zbd_some, if_pos c1, if_neg (by decide), s9_in, zbd_some, t_0, t_3, if_neg c2, if_pos rfl, e9_1]; rfl
  · refine opk_e1 h ?_ fun s hs => ?_
    · rw [f8_personIs, h.pe8, zbd_some, if_neg c1, if_pos rfl, e8_1]; rfl
    · rw [f9_personIs, h.ip9 (hs _ (by decide)), zbd_some, if_neg c1, if_pos rfl, e9_1]; rfl
theorem op_at (hk : 300 ≤ k) (h : Rel m σ) (c w x : Int32) : opk m (f8_at k c w x) (f9_at k c w x) σ := by
  by_cases c1 : 0 ≤ c.toInt ∧ c.toInt ≤ 63
  · by_cases c2 : 0 ≤ w.toInt ∧ w.toInt ≤ 3
    · by_cases c3 : 0 ≤ x.toInt
      · obtain ⟨σ1, e1, e2, e3⟩ := s1_follow (k := k) (t := 2) (R := σ 104) (c := c) (w := w) (by omega) (Or.inl rfl) h.2.1.1 h.1 h.2.1.2.2 c1 (W4.of c2)
        have len := cls_len (lk (σ 104) 256 c w).1
        have len2 := lk_len (R := σ 104) 256 c w
        have hx : x = nI x.toInt.toNat := i_nat c3
        have hAl : (c :: cls (lk (σ 104) 256 c w).1).length ≤ 257 := by show (cls _).length + 1 ≤ 257; omega
        have d9 : ∀ s : ZS, s 104 = σ 104 → ∃ s3, f9_looks k c w s = some ((), s3) ∧ (∀ o, pK o → s3 o = s o) ∧ (∀ i, pKm i → s3 103 i = s 103 i) ∧ L9f (σ 104) s3 (c :: cls (lk (σ 104) 256 c w).1) (mets (lk (σ 104) 256 c w).1) (lk (σ 104) 256 c w).2 := by
          intro s hs
          obtain ⟨s1, g1, g2, g3, g4⟩ := s9_looks (k := k) (σ := s) (c := c) (w := w) (by omega) (by rw [hs]; exact h.2.1.1) (by rw [hs]; exact h.2.1.2.2) c1 (W4.of c2)
          rw [hs] at g4
          exact ⟨s1, g1, g2, g3, g4⟩
        generalize (c :: cls (lk (σ 104) 256 c w).1) = A at e3 hAl d9
        have hAx : (nI A.length).toInt = A.length := nI_toInt (by omega)
        by_cases c4 : (A.length : Int) ≤ x.toInt
        · refine opk_l2 h (σ1 := σ1) ?_ (fun o ho => e2 o ho.1 ho.2.1 ho.2.2.1) fun s hs => ?_
          · rw [f8_at, s8_isNoCell, zbd_some, if_pos c1, if_pos rfl, s8_isNoWay, zbd_some, if_pos c2, if_pos rfl, if_pos (by rw [Int32.le_iff_toInt_le, t_0]; omega), e1, zbd_some, e3.1, if_pos (by rw [Int32.le_iff_toInt_le, hAx]; omega), e8_2]; rfl
          · obtain ⟨s3, g1, g2, g3, g4⟩ := d9 s (hs 104 (by unfold pD; decide) (by decide))
            refine ⟨s3, ?_, g2, g3⟩
            rw [f9_at, s9_isCell, zbd_some, if_pos c1, if_neg (by decide), s9_isFour, zbd_some, if_pos c2, if_neg (by decide), if_pos (by rw [Int32.le_iff_toInt_le, t_0]; omega), g1, zbd_some, g4.1, if_pos (by rw [Int32.le_iff_toInt_le, hAx]; omega), e9_2]; rfl
        · refine opk_lk h (r := A.getD x.toInt.toNat 0) (σ1 := σ1) ?_ (fun o ho => e2 o ho.1 ho.2.1 ho.2.2.1) fun s hs => ?_
          · rw [f8_at, s8_isNoCell, zbd_some, if_pos c1, if_pos rfl, s8_isNoWay, zbd_some, if_pos c2, if_pos rfl, if_pos (by rw [Int32.le_iff_toInt_le, t_0]; omega), e1, zbd_some, e3.1, if_neg (by rw [Int32.le_iff_toInt_le, hAx]; omega), f1_cellAt, if_neg (by rw [Int32.lt_iff_toInt_lt, t_0]; omega), e3.1, if_neg (by rw [Int32.le_iff_toInt_le, hAx]; omega), if_pos (by rw [Int32.lt_iff_toInt_lt, t_257]; omega), if_pos (by rw [zin]; omega), i_cl, e3.2.2.2.1 _ (by omega), zbd_some]
          · obtain ⟨s3, g1, g2, g3, g4⟩ := d9 s (hs 104 (by unfold pD; decide))
            refine ⟨s3, ?_, g2, g3⟩
            rw [f9_at, s9_isCell, zbd_some, if_pos c1, if_neg (by decide), s9_isFour, zbd_some, if_pos c2, if_neg (by decide), if_pos (by rw [Int32.le_iff_toInt_le, t_0]; omega), g1, zbd_some, g4.1, if_neg (by rw [Int32.le_iff_toInt_le, hAx]; omega), if_pos (by rw [zin]; omega), i_cl, g4.2.2.1 _ (by omega)]
      · refine opk_e1 h ?_ fun s hs => ?_
        · rw [f8_at, s8_isNoCell, zbd_some, if_pos c1, if_pos rfl, s8_isNoWay, zbd_some, if_pos c2, if_pos rfl, if_neg (by rw [Int32.le_iff_toInt_le, t_0]; omega), e8_1]; rfl
        · rw [f9_at, s9_isCell, zbd_some, if_pos c1, if_neg (by decide), s9_isFour, zbd_some, if_pos c2, if_neg (by decide), if_neg (by rw [Int32.le_iff_toInt_le, t_0]; omega), e9_1]; rfl
    · refine opk_e1 h ?_ fun s hs => ?_
      · rw [f8_at, s8_isNoCell, zbd_some, if_pos c1, if_pos rfl, s8_isNoWay, zbd_some, if_neg c2, if_neg (by decide), e8_1]; rfl
      · rw [f9_at, s9_isCell, zbd_some, if_pos c1, if_neg (by decide), s9_isFour, zbd_some, if_neg c2, if_pos rfl, e9_1]; rfl
  · refine opk_e1 h ?_ fun s hs => ?_
    · rw [f8_at, s8_isNoCell, zbd_some, if_neg c1, if_neg (by decide), e8_1]; rfl
    · rw [f9_at, s9_isCell, zbd_some, if_neg c1, if_pos rfl, e9_1]; rfl
/-- is a cell on the way -/
def seen : List Int32 → Int32 → Int32
  | [], _ => 0
  | a :: A, x => if a = x then 1 else seen A x
theorem s1_sees {A M : List Int32} {b : Bool} {x : Int32} (hk : 300 ≤ k) (hL : L8 σ A M b) (hA : A.length ≤ 257) : f1_seesCell k x σ = some (seen A x, σ) := by
  have key : ∀ (Q P : List Int32) (n : Nat), A = P ++ Q → Q.length < n → f1_seesCell_2 k n x (nI P.length) σ = some (seen Q x, σ) := by
    intro Q
    induction Q with
    | nil =>
      intro P n hP hn
      obtain ⟨n, rfl⟩ : ∃ q, n = q + 1 := ⟨n - 1, by omega⟩
      have hAP : A.length = P.length := by rw [hP, List.append_nil]
      show b1_seesCell_2 k _ x (nI P.length) σ = _
      unfold b1_seesCell_2
      rw [hL.1, if_pos (by rw [Int32.le_iff_toInt_le, nI_toInt (by omega), nI_toInt (by omega)]; omega)]
      rfl
    | cons g Q ih =>
      intro P n hP hn
      obtain ⟨n, rfl⟩ : ∃ q, n = q + 1 := ⟨n - 1, by omega⟩
      have hAP : A.length = P.length + (Q.length + 1) := by rw [hP, List.length_append]; rfl
      show b1_seesCell_2 k (f1_seesCell_2 k n) x (nI P.length) σ = _
      unfold b1_seesCell_2
      have hg : σ 84 P.length = g := hol_at (Q := Q) (by rw [← hP]; exact hL.2.2.2.1)
      rw [hL.1, if_neg (by rw [Int32.le_iff_toInt_le, nI_toInt (by omega), nI_toInt (by omega)]; omega), if_neg (by rw [Int32.le_iff_toInt_le, nI_toInt (by omega), t_257]; omega), if_pos (nI_z (by omega) (by decide)), nI_nat (by omega), hg, seen, nI_1]
      by_cases c : g = x
      · rw [if_pos c, if_pos c]
      · rw [if_neg c, if_neg c]
        have := ih (P ++ [g]) n (by rw [hP, List.append_assoc]; rfl) (by have : (g :: Q).length = Q.length + 1 := rfl; omega)
        rw [List.length_append] at this
        exact this
  exact key A [] k rfl (by omega)
theorem s9_sees {R : Nat → Int32} {A M : List Int32} {b : Bool} {x : Int32} (hk : 300 ≤ k) (hL : L9f R σ A M b) (hA : A.length ≤ 257) : f9_isSeen k x σ = some (seen A x, σ) := by
  have key : ∀ (Q P : List Int32) (n : Nat), A = P ++ Q → Q.length < n → f9_isSeen_2 k n x (nI P.length) σ = some (seen Q x, σ) := by
    intro Q
    induction Q with
    | nil =>
      intro P n hP hn
      obtain ⟨n, rfl⟩ : ∃ q, n = q + 1 := ⟨n - 1, by omega⟩
      have hAP : A.length = P.length := by rw [hP, List.append_nil]
      show b9_isSeen_2 k _ x (nI P.length) σ = _
      unfold b9_isSeen_2
      rw [hL.1, if_pos (by rw [Int32.le_iff_toInt_le, nI_toInt (by omega), nI_toInt (by omega)]; omega)]
      rfl
    | cons g Q ih =>
      intro P n hP hn
      obtain ⟨n, rfl⟩ : ∃ q, n = q + 1 := ⟨n - 1, by omega⟩
      have hAP : A.length = P.length + (Q.length + 1) := by rw [hP, List.length_append]; rfl
      show b9_isSeen_2 k (f9_isSeen_2 k n) x (nI P.length) σ = _
      unfold b9_isSeen_2
      have hg : σ 111 P.length = g := hol_at (Q := Q) (by rw [← hP]; exact hL.2.2.1)
      rw [hL.1, if_neg (by rw [Int32.le_iff_toInt_le, nI_toInt (by omega), nI_toInt (by omega)]; omega), if_pos (nI_z (by omega) (by decide)), nI_nat (by omega), hg, seen, nI_1]
      by_cases c : g = x
      · rw [if_pos c, if_pos c]
      · rw [if_neg c, if_neg c]
        have := ih (P ++ [g]) n (by rw [hP, List.append_assoc]; rfl) (by have : (g :: Q).length = Q.length + 1 := rfl; omega)
        rw [List.length_append] at this
        exact this
  exact key A [] k rfl (by omega)
end
