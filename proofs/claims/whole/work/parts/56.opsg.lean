/-! images, thoughts, what waits -/
section
variable {m k : Nat} {σ : ZS}
theorem op_image (hk : 400 ≤ k) (hm : m ≤ 100000) (h : Rel m σ) : opk m (f8_image k) (f9_image k) σ := by
  obtain ⟨σ1, e1, e2, e3⟩ := s5_copy (k := k) (t := 29) (u := 2) (by omega) (Or.inr (Or.inl rfl)) (Or.inl rfl) (by decide) h.2.1 h.1
  obtain ⟨i1, i2, i3, i4⟩ := h.2.2.1
  have ex : (σ 103 3 + 1).toInt = (σ 103 3).toInt + 1 := by rw [i_add (by rw [t_1]; omega), t_1]
  have hne : ¬ σ 103 3 + 1 = 0 := fun q => by rw [q, t_0] at ex; omega
  obtain ⟨s2, hs2⟩ : ∃ s2, s2 = zu (zu σ1 1 9 1) 1 10 (σ 103 3 + 1) := ⟨_, rfl⟩
  have f2 : ∀ o, o ≠ 1 → s2 o = σ1 o := fun o ho => by rw [hs2, zu_o ho, zu_o ho]
  obtain ⟨s3, g1, g2, g3⟩ := s9_copy (k := k) (a := 104) (b := 105) (σ := s2) hk ⟨rfl, rfl⟩ ⟨rfl, rfl⟩ (by decide)
  have e103 : s3 103 = σ 103 := by rw [g3 103 (by decide), f2 103 (by decide), e3 103 (by decide)]
  have fr : ∀ o, (o < 29 ∨ 56 ≤ o) → o ≠ 1 → o ≠ 105 → s3 o = σ o := fun o h1 h2 h3 => by rw [g3 o h3, f2 o h2, e3 o (by omega)]
  have r104 : s2 104 = σ 104 := by rw [f2 104 (by decide), e3 104 (by decide)]
  obtain ⟨s4, hs4⟩ : ∃ s4, s4 = zu s3 103 3 (σ 103 3 + 1) := ⟨_, rfl⟩
  have f4 : ∀ o, o ≠ 103 → s4 o = s3 o := fun o ho => by rw [hs4, zu_o ho]
  have r3 : s4 103 3 = σ 103 3 + 1 := by rw [hs4, zu_at]
  have r25 : s4 103 25 = σ 103 25 := by rw [hs4, zu_k (by decide), e103]
  refine ⟨σ 103 3 + 1, s2, s4, ?_, ?_, ?_⟩
  · rw [f8_image, e1, zbd_some, zput_eq, zput_eq, zu_at, zu_k (show (10 : Nat) ≠ 9 by decide), e3 1 (by decide), i1, hs2]
  · rw [f9_image, g1, zbd_some, e103, zput_eq, zu_at, hs4]
  · have hrows : ∀ i, i < 390 → s4 105 i = σ 104 i := fun i hi => by rw [f4 105 (by decide), g2 i hi, r104]
    refine ⟨?_, ?_, ⟨?_, ?_, ?_, fun _ => ?_⟩, fun i q1 q2 => ?_, fun s hs => ?_, ?_⟩
    · rw [f4 104 (by decide), fr 104 (by decide) (by decide) (by decide)]
      exact h.1.congr h.2.1.2.2 fun o q1 q2 => by rw [f4 o (by omega), fr o (by omega) (by omega) (by omega)]
    · rw [f4 104 (by decide), fr 104 (by decide) (by decide) (by decide)]; exact h.2.1
    · rw [r3, f4 1 (by decide), g3 1 (by decide), hs2, zu_at]
    · rw [r3, ex]; omega
    · rw [r3, if_neg hne, f4 1 (by decide), g3 1 (by decide), hs2, zu_k (by decide), zu_at]
    · refine ⟨RS.rows ?_ h.2.1 hrows, h.2.1.rows hrows⟩
      exact e2.congr h.2.1.2.2 fun o q1 q2 => by rw [f4 o (by omega), g3 o (by omega), f2 o (by omega)]
    · rw [f4 94 (by decide), f4 107 (by decide), fr 94 (by decide) (by decide) (by decide), fr 107 (by decide) (by decide) (by decide)]; exact h.2.2.2.1 i q1 q2
    · rw [f4 108 (by decide), f4 109 (by decide), f4 110 (by decide), f4 (95 + 2 * s) (by omega), f4 (96 + 2 * s) (by omega), fr 108 (by decide) (by decide) (by decide), fr 109 (by decide) (by decide) (by decide), fr 110 (by decide) (by decide) (by decide), fr (95 + 2 * s) (by omega) (by omega) (by omega), fr (96 + 2 * s) (by omega) (by omega) (by omega)]
      exact h.2.2.2.2.1 s hs
    · unfold Vo
      rw [f4 90 (by decide), f4 91 (by decide), r25, f4 118 (by decide), fr 90 (by decide) (by decide) (by decide), fr 91 (by decide) (by decide) (by decide), fr 118 (by decide) (by decide) (by decide)]
      exact h.2.2.2.2.2
theorem op_restore (hk : 400 ≤ k) (h : Rel m σ) : opk m (f8_restore k) (f9_restore k) σ := by
  obtain ⟨i1, i2, i3, i4⟩ := h.2.2.1
  by_cases c : σ 103 3 = 0
  · rw [if_pos c] at i3
    refine opk_e2 h ?_ fun s hs => ?_
    · rw [f8_restore, if_pos i3, e8_2]; rfl
    · rw [f9_restore, hs 103 (by decide), if_pos c, e9_2]; rfl
  · rw [if_neg c] at i3
    obtain ⟨q1, q2⟩ := i4 c
    obtain ⟨σ1, e1, e2, e3⟩ := s5_copy (k := k) (t := 2) (u := 29) (by omega) (Or.inl rfl) (Or.inr (Or.inl rfl)) (by decide) q2 q1
    obtain ⟨s3, g1, g2, g3⟩ := s9_copy (k := k) (a := 105) (b := 104) (σ := σ1) hk ⟨rfl, rfl⟩ ⟨rfl, rfl⟩ (by decide)
    have e105 : σ1 105 = σ 105 := e3 105 (by decide)
    have hrows : ∀ i, i < 390 → s3 104 i = σ 105 i := fun i hi => by rw [g2 i hi, e105]
    refine ⟨σ 105 0, σ1, s3, ?_, ?_, h.strt (RS.rows (e2.congr q2.2.2 fun o p1 p2 => g3 o (by omega)) q2 hrows) (q2.rows hrows) (fun o ho => by rw [g3 o (by omega), e3 o (by omega)]) (by rw [g3 103 (by decide), e3 103 (by decide)]) (by rw [g3 103 (by decide), e3 103 (by decide)])⟩
    · rw [f8_restore, if_neg (by rw [i3]; decide), e1, zbd_some, e2.1.2.2.2.2.1]
    · rw [f9_restore, e3 103 (by decide), if_neg c, g1, zbd_some, hrows 0 (by decide)]
theorem op_then (hk : 400 ≤ k) (h : Rel m σ) (a b : Int32) : opk m (f8_then k a b) (f9_then k a b) σ := by
  have hn := h.2.1.1.np
  by_cases c1 : 0 ≤ a.toInt ∧ a.toInt < (σ 104 3).toInt
  · have hg : a.toInt.toNat < 6 := by omega
    have han : a = nI a.toInt.toNat := i_nat c1.1
    by_cases c2 : 0 ≤ b.toInt ∧ b.toInt ≤ 48
    · obtain ⟨N, hN, rfl⟩ : ∃ N : Nat, N ≤ 48 ∧ b = nI N := ⟨b.toInt.toNat, by omega, i_nat (by omega)⟩
      have hNx : (nI N).toInt = N := nI_toInt (by omega)
      have T56 : Tt 56 := Or.inr (Or.inr rfl)
      obtain ⟨σ0, e1, e2, e3⟩ := s5_copy (k := k) (t := 56) (u := 2) (by omega) T56 (Or.inl rfl) (by decide) h.2.1 h.1
      have h3 : ∀ (d : Nat) (hb : Int) (R : Nat → Int32), WF hb R → hb + d ≤ 20000 → hrs R d 3 = R 3 := by
        intro d
        induction d with
        | zero => intro hb R _ _; rfl
        | succ d ih =>
          intro hb R hW hh
          rw [hrs, ih (hb + 1) (hourR R) (hourR_WF (by omega) hW).1 (by omega)]
          have : ∀ (d p : Nat) (R : Nat → Int32), WF hb R → p + d ≤ 6 → hgo R d p 3 = R 3 := by
            intro d
            induction d with
            | zero => intro p R _ _; exact upd_ne (by decide)
            | succ d ih => intro p R hW hp; rw [hgo, ih (p + 1) (pst R p) (pst_WF hW (by omega)) (by omega), pst_ne hW (by omega) (by decide)]
          exact this _ 0 R hW (by have := hW.1.np; omega)
      have key8 : ∀ (d i n : Nat) (hb : Int) (R : Nat → Int32) (s : ZS), i + d = N → d < n → hb + d ≤ 20000 → WF hb R → R 3 = σ 104 3 → RS s 56 R → (∀ o, pH 56 o → s o = σ o) → ∃ σ', f8_then_40 k n a (nI N) (nI i) s = some (hrs R d (46 + 3 * a.toInt.toNat + 2), σ') ∧ ∀ o, pH 56 o → σ' o = σ o := by
        intro d
        induction d with
        | zero =>
          intro i n hb R s hi hn hb2 hW hR3 hR hs
          obtain ⟨n, rfl⟩ : ∃ q, n = q + 1 := ⟨n - 1, by omega⟩
          show ∃ σ', b8_then_40 k _ a (nI N) (nI i) s = _ ∧ _
          unfold b8_then_40
          rw [if_pos (by rw [Int32.le_iff_toInt_le, nI_toInt (by omega), nI_toInt (by omega)]; omega), s5_personOf' T56 hR hW.1, zbd_some, hR3, if_pos c1, if_neg (by omega), if_pos (T56.s3 hg), hR.2.2.1 _ hg 2 (by decide)]
          exact ⟨s, rfl, hs⟩
        | succ d ih =>
          intro i n hb R s hi hn hb2 hW hR3 hR hs
          obtain ⟨n, rfl⟩ : ∃ q, n = q + 1 := ⟨n - 1, by omega⟩
          show ∃ σ', b8_then_40 k (f8_then_40 k n) a (nI N) (nI i) s = _ ∧ _
          unfold b8_then_40
          obtain ⟨s1, q1, q2, q3⟩ := s5_hour (k := k) (by omega) T56 hW hR
          rw [if_neg (by rw [Int32.le_iff_toInt_le, nI_toInt (by omega), nI_toInt (by omega)]; omega), q1, zbd_some, nI_1]
          exact ih (i + 1) n (hb + 1) (hourR R) s1 (by omega) (by omega) (by omega) (hourR_WF (by omega) hW).1 (by rw [← hR3]; exact h3 1 hb R hW (by omega)) q2 (fun o ho => by rw [q3 o ho, hs o ho])
      have key9 : ∀ (d i n : Nat) (hb : Int) (s0 s : ZS), i + d = N → d < n → hb + d ≤ 20000 → WF hb (s 104) → (∀ o, pK o → o ≠ 104 → s o = s0 o) → (∀ i, pKm i → s 103 i = s0 103 i) → ∃ σ', f9_then_31 k n a (nI N) (nI i) s = some (hrs (s 104) d (46 + 3 * a.toInt.toNat + 2), σ') ∧ (∀ i, i < 390 → σ' 104 i = s0 106 i) ∧ (∀ o, pK o → o ≠ 104 → σ' o = s0 o) ∧ (∀ i, pKm i → σ' 103 i = s0 103 i) := by
        intro d
        induction d with
        | zero =>
          intro i n hb s0 s hi hn hb2 hW hs hs2
          obtain ⟨n, rfl⟩ : ∃ q, n = q + 1 := ⟨n - 1, by omega⟩
          show ∃ σ', b9_then_31 k _ a (nI N) (nI i) s = _ ∧ _
          unfold b9_then_31
          obtain ⟨s3, g1, g2, g3⟩ := s9_copy (k := k) (a := 106) (b := 104) (σ := s) hk ⟨rfl, rfl⟩ ⟨rfl, rfl⟩ (by decide)
          rw [if_pos (by rw [Int32.le_iff_toInt_le, nI_toInt (by omega), nI_toInt (by omega)]; omega), s9_about (by omega) (by rw [t_2]; omega), zbd_some, f9_putsBack, g1, zbd_some, zbd_some]
          exact ⟨s3, rfl, fun i hi => by rw [g2 i hi, hs 106 (by unfold pK; decide) (by decide)], fun o ho h4 => by rw [g3 o h4, hs o ho h4], fun i hi => by rw [g3 103 (by decide), hs2 i hi]⟩
        | succ d ih =>
          intro i n hb s0 s hi hn hb2 hW hs hs2
          obtain ⟨n, rfl⟩ : ∃ q, n = q + 1 := ⟨n - 1, by omega⟩
          show ∃ σ', b9_then_31 k (f9_then_31 k n) a (nI N) (nI i) s = _ ∧ _
          unfold b9_then_31
          obtain ⟨s1, q1, q2, q3, q4⟩ := s9_hour (k := k) (by omega) hW
          rw [if_neg (by rw [Int32.le_iff_toInt_le, nI_toInt (by omega), nI_toInt (by omega)]; omega), q1, zbd_some, nI_1]
          have := ih (i + 1) n (hb + 1) s0 s1 (by omega) (by omega) (by omega) (by rw [q2]; exact (hourR_WF (by omega) hW).1) (fun o ho h4 => by rw [q3 o ho h4, hs o ho h4]) (fun i hi => by rw [q4 i hi, hs2 i hi])
          rw [q2] at this
          exact this
      obtain ⟨σ1, f1, f3⟩ := key8 N 0 k 9999 (σ 104) σ0 (by omega) (by omega) (by omega) h.2.1 rfl e2 (fun o ho => e3 o (by unfold pH at ho; omega))
      have e104 : σ1 104 = σ 104 := f3 104 (by unfold pH; decide)
      obtain ⟨s2, g1, g2, g3⟩ := s9_copy (k := k) (a := 104) (b := 106) (σ := σ1) hk ⟨rfl, rfl⟩ ⟨rfl, rfl⟩ (by decide)
      have e104' : s2 104 = σ 104 := by rw [g3 104 (by decide), e104]
      obtain ⟨σ2, k1, k2, k3, k4⟩ := key9 N 0 k 9999 s2 s2 (by omega) (by omega) (by omega) (by rw [e104']; exact h.2.1) (fun _ _ _ => rfl) (fun _ _ => rfl)
      rw [e104'] at k1
      have hrows : ∀ i, i < 390 → σ2 104 i = σ 104 i := fun i hi => by rw [k2 i hi, g2 i hi, e104]
      have fr : ∀ o, pK o → pH 56 o → o ≠ 104 → o ≠ 106 → σ2 o = σ o := fun o q1 q2 q3 q4 => by rw [k3 o q1 q3, g3 o q4, f3 o q2]
      refine ⟨hrs (σ 104) N (46 + 3 * a.toInt.toNat + 2), σ1, σ2, ?_, ?_, h.strt (RS.rows (h.1.congr h.2.1.2.2 fun o p1 p2 => fr o (by unfold pK; omega) (by unfold pH; omega) (by omega) (by omega)) h.2.1 hrows) (h.2.1.rows hrows) (fun o ho => fr o (by unfold pK; omega) (by unfold pH; omega) (by omega) (by omega)) ?_ ?_⟩
      · rw [f8_then, h.pe8, zbd_some, if_pos c1, if_neg (by omega), if_neg (by rw [Int32.lt_iff_toInt_lt, t_0]; omega), if_pos (by rw [Int32.le_iff_toInt_le, t_48]; omega), e1, zbd_some]
        exact f1
      · rw [f9_then, h.ip9 e104, zbd_some, if_pos c1, if_neg (by decide), s9_in, zbd_some, t_0, t_48, if_pos c2, if_neg (by decide), f9_thinks, g1, zbd_some, zbd_some]
        exact k1
      · rw [k4 3 (by unfold pKm; decide), g3 103 (by decide), f3 103 (by unfold pH; decide)]
      · rw [k4 25 (by unfold pKm; decide), g3 103 (by decide), f3 103 (by unfold pH; decide)]
    · refine opk_e1 h ?_ fun s hs => ?_
      · rw [f8_then, h.pe8, zbd_some, if_pos c1, if_neg (by omega)]
        by_cases c3 : b < 0
        · rw [if_pos c3, e8_1]; rfl
        · rw [if_neg c3, if_neg (by rw [Int32.lt_iff_toInt_lt, t_0] at c3; rw [Int32.le_iff_toInt_le, t_48]; omega), e8_1]; rfl
      · rw [f9_then, h.ip9 (hs _ (by decide)), zbd_some, if_pos c1, if_neg (by decide), s9_in, zbd_some, t_0, t_48, if_neg c2, if_pos rfl, e9_1]; rfl
  · refine opk_e1 h ?_ fun s hs => ?_
    · rw [f8_then, h.pe8, zbd_some, if_neg c1, if_pos rfl, e8_1]; rfl
    · rw [f9_then, h.ip9 (hs _ (by decide)), zbd_some, if_neg c1, if_pos rfl, e9_1]; rfl
end
