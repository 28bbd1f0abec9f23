/-! kinds, what waits -/
section
variable {m k : Nat} {σ : ZS}
def W7 (w : Int32) : Prop := w = 0 ∨ w = 1 ∨ w = 2 ∨ w = 3 ∨ w = 4 ∨ w = 5 ∨ w = 6
theorem W7.of {w : Int32} (h : 0 ≤ w.toInt ∧ w.toInt ≤ 6) : W7 w := by
  have : w.toInt = 0 ∨ w.toInt = 1 ∨ w.toInt = 2 ∨ w.toInt = 3 ∨ w.toInt = 4 ∨ w.toInt = 5 ∨ w.toInt = 6 := by omega
  rcases this with h | h | h | h | h | h | h
  · exact Or.inl (i_eq h)
  · exact Or.inr (Or.inl (i_eq h))
  · exact Or.inr (Or.inr (Or.inl (i_eq h)))
  · exact Or.inr (Or.inr (Or.inr (Or.inl (i_eq h))))
  · exact Or.inr (Or.inr (Or.inr (Or.inr (Or.inl (i_eq h)))))
  · exact Or.inr (Or.inr (Or.inr (Or.inr (Or.inr (Or.inl (i_eq h))))))
  · exact Or.inr (Or.inr (Or.inr (Or.inr (Or.inr (Or.inr (i_eq h))))))
def so (kd b : Int32) : Int32 := if b = 0 then 1 else if b = kd then 1 else if b = 1 then (if kd = 4 then 1 else 0) else if b = 2 then (if kd = 5 then 1 else 0) else 0
theorem s0_isOne7 {t n : Nat} {kd b : Int32} (hk : W7 kd) (hb : W7 b) : f0_isOne_7 k t (n + 8) b kd 0 σ = some (so kd b, σ) := by
  rcases hk with rfl | rfl | rfl | rfl | rfl | rfl | rfl <;> rcases hb with rfl | rfl | rfl | rfl | rfl | rfl | rfl
  all_goals rfl
theorem op_as (hk : 8 ≤ k) (h : Rel m σ) (a b : Int32) : opk m (f8_as k a b) (f9_as k a b) σ := by
  have hn := h.2.1.1.ng
  by_cases c1 : 0 ≤ a.toInt ∧ a.toInt < (σ 104 2).toInt
  · have hg : a.toInt.toNat < 8 := by omega
    have han : a = nI a.toInt.toNat := i_nat c1.1
    by_cases c2 : 0 ≤ b.toInt ∧ b.toInt ≤ 6
    · have k0 := (h.2.1.1.gl hg).1
      have e0 := h.1.2.1 _ hg 0 (by decide)
      have e1 := h.1.2.1 _ hg 1 (by decide)
      obtain ⟨q, rfl⟩ : ∃ q, k = q + 8 := ⟨k - 8, by omega⟩
      have d8 : f0_isOne (q + 8) (2 + 7 + a.toInt.toNat) b σ = some (so (σ 104 (6 + 5 * a.toInt.toNat + 0)) b, σ) := by
        rw [f0_isOne, if_pos (sh_g hg), e0, s0_isOne7 (W7.of k0) (W7.of c2)]
      -- the model's choice, from a state with the same row
      have yes : ∀ s : ZS, s 104 = σ 104 → b9_as_61 (q + 8) a s = some (σ 104 (6 + 5 * a.toInt.toNat + 1), s) := by
        intro s hs
        rw [b9_as_61, if_neg (by decide), han, s9_of' hg (j := 1) t_1 (by decide), zbd_some, hs]
        rw [← han]
      have no : ∀ s : ZS, ¬ (b = 2 ∧ σ 104 (6 + 5 * a.toInt.toNat + 0) = 5) → b9_as_51 (q + 8) a b (σ 104 (6 + 5 * a.toInt.toNat + 0)) s = some (-1000000005, zu s 107 5 (s 107 5 + 1)) := by
        intro s hq
        rw [b9_as_51]
        by_cases c : b = 2
        · rw [if_pos c, if_neg (fun q => hq ⟨c, q⟩), if_pos rfl, e9_5]; rfl
        · rw [if_neg c, if_pos rfl, e9_5]; rfl
      have d9 : ∀ s : ZS, s 104 = σ 104 → f9_as (q + 8) a b s = if so (σ 104 (6 + 5 * a.toInt.toNat + 0)) b = 0 then some (-1000000005, zu s 107 5 (s 107 5 + 1)) else some (σ 104 (6 + 5 * a.toInt.toNat + 1), s) := by
        intro s hs
        have hof : f9_of (q + 8) a 0 s = some (σ 104 (6 + 5 * a.toInt.toNat + 0), s) := by
          have := s9_of' (k := q + 8) (σ := s) hg (j := 0) t_0 (by decide)
          rw [← han, hs] at this
          exact this
        rw [f9_as, h.ig9 hs, zbd_some, if_pos c1, if_neg (by decide), s9_in, zbd_some, t_0, t_6, if_pos c2, if_neg (by decide), hof, zbd_some, so]
        by_cases q1 : b = 0
        · rw [if_pos q1, if_pos q1, if_neg (by decide)]; exact yes s hs
        · rw [if_neg q1, if_neg q1]
          by_cases q2 : b = σ 104 (6 + 5 * a.toInt.toNat + 0)
          · rw [if_pos q2, if_pos q2, if_neg (by decide)]; exact yes s hs
          · rw [if_neg q2, if_neg q2]
            by_cases q3 : b = 1
            · rw [if_pos q3, if_pos q3]
              by_cases q4 : σ 104 (6 + 5 * a.toInt.toNat + 0) = 4
              · rw [if_pos q4, if_pos q4, if_neg (by decide)]; exact yes s hs
              · rw [if_neg q4, if_neg q4, if_pos rfl]; exact no s fun z => by rw [q3] at z; exact absurd z.1 (by decide)
            · rw [if_neg q3, if_neg q3]
              by_cases q4 : b = 2
              · rw [if_pos q4]
                by_cases q5 : σ 104 (6 + 5 * a.toInt.toNat + 0) = 5
                · rw [if_pos q5, if_neg (by decide), b9_as_51, if_pos q4, if_pos q5]; exact yes s hs
                · rw [if_neg q5, if_pos rfl]; exact no s fun z => q5 z.2
              · rw [if_neg q4, if_pos rfl]; exact no s fun z => q4 z.1
      by_cases c : so (σ 104 (6 + 5 * a.toInt.toNat + 0)) b = 0
      · refine opk_e5 h ?_ fun s hs => ?_
        · rw [f8_as, h.gl8, zbd_some, if_pos c1, if_neg (by omega), if_neg (by rw [Int32.lt_iff_toInt_lt, t_0]; omega), if_pos (by rw [Int32.le_iff_toInt_le, t_6]; omega), if_pos (sh_g hg), d8, zbd_some, if_pos c, e8_5]; rfl
        · rw [d9 s (hs 104 (by decide)), if_pos c]
      · refine ⟨σ 104 (6 + 5 * a.toInt.toNat + 1), σ, σ, ?_, ?_, h.up⟩
        · rw [f8_as, h.gl8, zbd_some, if_pos c1, if_neg (by omega), if_neg (by rw [Int32.lt_iff_toInt_lt, t_0]; omega), if_pos (by rw [Int32.le_iff_toInt_le, t_6]; omega), if_pos (sh_g hg), d8, zbd_some, if_neg c, e1]
        · rw [d9 σ rfl, if_neg c]
    · refine opk_e1 h ?_ fun s hs => ?_
      · rw [f8_as, h.gl8, zbd_some, if_pos c1, if_neg (by omega)]
        by_cases c3 : b < 0
        · rw [if_pos c3, e8_1]; rfl
        · rw [if_neg c3, if_neg (by rw [Int32.lt_iff_toInt_lt, t_0] at c3; rw [Int32.le_iff_toInt_le, t_6]; omega), e8_1]; rfl
      · rw [f9_as, h.ig9 (hs _ (by decide)), zbd_some, if_pos c1, if_neg (by decide), s9_in, zbd_some, t_0, t_6, if_neg c2, if_pos rfl, e9_1]; rfl
  · refine opk_e1 h ?_ fun s hs => ?_
    · rw [f8_as, h.gl8, zbd_some, if_neg c1, if_pos rfl, e8_1]; rfl
    · rw [f9_as, h.ig9 (hs _ (by decide)), zbd_some, if_neg c1, if_pos rfl, e9_1]; rfl
theorem op_tell (h : Rel m σ) (a : Int32) : opk m (f8_tell k a) (f9_tell k a) σ := by
  have hn := h.2.1.1.nw
  have e9 := h.1.1.2.2.2.1
  by_cases c1 : (σ 104 5).toInt < 24
  · obtain ⟨n, hn1⟩ : ∃ n : Nat, (σ 104 5).toInt = n := ⟨(σ 104 5).toInt.toNat, by omega⟩
    have hnn : σ 104 5 = nI n := i_eq (by rw [hn1, nI_toInt (by omega)])
    have hni : (nI n).toInt = n := nI_toInt (by omega)
    have hn2 : (nI (n + 1)).toInt = n + 1 := by rw [nI_toInt (by omega)]; rfl
    have hR1 := h.1.row h.2.1.2.2 h.2.1.1.ng.2 (b := false) (i := n) (by simp; omega) a
    simp only [if_false, Bool.false_eq_true] at hR1
    have hbl : bl (124 + n) = -2147483648 ∧ bh 9999 (124 + n) = 2147483647 := by
      unfold bl bh
      rw [if_pos (by omega), if_neg (by omega), if_neg (by omega), if_neg (by omega), if_neg (by omega), if_neg (by omega), if_neg (by omega), if_neg (by omega), if_neg (by omega), if_neg (by omega)]
      exact ⟨rfl, rfl⟩
    have hW1 := h.2.1.upd0 (j := 124 + n) (w := a) (by omega) (by rw [hbl.1, hbl.2]; exact i_rng a) (by omega) (fun g hg => by omega)
    have hR2 := hR1.fld hW1.2.2 hW1.1.ng.2 (i := 9) (j := 5) (by decide) (nI (n + 1))
    have hW2 := hW1.upd0 (j := 5) (w := nI (n + 1)) (by decide) (by rw [hn2]; exact ⟨by show (0 : Int) ≤ _; omega, by show _ ≤ (24 : Int); omega⟩) (by decide) (fun g hg => by omega)
    have ad : (124 : Int32) + nI n = nI (124 + n) := by
      refine i_eq ?_
      rw [i_add (by rw [t_124, hni]; omega), t_124, hni, nI_toInt (by omega)]
      omega
    refine ⟨nI (n + 1), zu (zu σ (2 + 6) n a) 2 9 (nI (n + 1)), zu (zu (zu (zu σ (2 + 6) n a) 2 9 (nI (n + 1))) 104 (124 + n) a) 104 5 (nI (n + 1)), ?_, ?_, h.fin hR2 hW2 ?_ ?_ ?_⟩
    · rw [f8_tell, e9, hnn, if_pos (by rw [Int32.lt_iff_toInt_lt, hni, t_24]; omega), f5_addWaiting, if_pos (show zsh 2 = 6 from rfl), e9, hnn, if_neg (by rw [Int32.lt_iff_toInt_lt, hni, t_0]; omega), if_neg (by rw [Int32.le_iff_toInt_le, hni, t_24]; omega), if_pos (nI_z (by omega) (by decide)), zput_eq, zput_eq, nI_nat (by omega), zu_o (by decide), e9, hnn, nI_1, zbd_some, zu_at]
    · have e104 : zu (zu σ (2 + 6) n a) 2 9 (nI (n + 1)) 104 = σ 104 := by rw [zu_o (by decide), zu_o (by decide)]
      rw [f9_tell, e104, hnn, if_neg (by rw [← Int32.toInt_inj, hni, t_24]; omega), ad, if_pos (nI_z (by omega) (by decide)), zput_eq, zput_eq, nI_nat (by omega), zu_k (show (5 : Nat) ≠ 124 + n by omega), e104, hnn, nI_1, zu_at]
    · rw [zu_self, zu_self, zu_o (by decide), zu_o (by decide)]
    · intro o ho; unfold pR at ho; rw [zu_o (by omega), zu_o (by omega)]
    · intro o ho; rw [zu_o ho, zu_o ho]
  · have h24 : σ 104 5 = 24 := i_eq (by rw [t_24]; omega)
    refine opk_e4 h ?_ fun s hs => ?_
    · rw [f8_tell, e9, h24, if_neg (by decide), e8_4]; rfl
    · rw [f9_tell, hs 104 (by decide), if_pos h24, e9_4]; rfl
def chk (R : Nat → Int32) : Nat → Nat → Int32
  | 0, _ => 0
  | d + 1, i => if (i : Int) < (R 3).toInt then (if R (46 + 3 * i + 2) = R (124 + i) then chk R d (i + 1) else 1 + nI i) else 1 + nI i
theorem op_check (hk : 30 ≤ k) (h : Rel m σ) : opk m (f8_check k) (f9_check k) σ := by
  have hn := h.2.1.1.nw
  have hn3 := h.2.1.1.np
  have e9 := h.1.1.2.2.2.1
  have hR := h.1.fld h.2.1.2.2 h.2.1.1.ng.2 (i := 9) (j := 5) (by decide) 0
  have hW := h.2.1.upd0 (j := 5) (w := 0) (by decide) (by decide) (by decide) (fun g hg => by omega)
  obtain ⟨N, hN⟩ : ∃ n : Nat, (σ 104 5).toInt = n := ⟨(σ 104 5).toInt.toNat, by omega⟩
  have hNN : σ 104 5 = nI N := i_eq (by rw [hN, nI_toInt (by omega)])
  have hR3 : upd (σ 104) 5 0 3 = σ 104 3 := upd_ne (by decide)
  have key8 : ∀ (d i n : Nat), i + d = N → d < n → f8_check_18 k n (nI N) (nI i) (zu σ 2 9 0) = some (chk (σ 104) d i, zu σ 2 9 0) := by
    intro d
    induction d with
    | zero =>
      intro i n hi hn'
      obtain ⟨n, rfl⟩ : ∃ q, n = q + 1 := ⟨n - 1, by omega⟩
      show b8_check_18 k _ (nI N) (nI i) _ = _
      unfold b8_check_18
      rw [if_pos (by rw [Int32.le_iff_toInt_le, nI_toInt (by omega), nI_toInt (by omega)]; omega)]
      rfl
    | succ d ih =>
      intro i n hi hn'
      obtain ⟨n, rfl⟩ : ∃ q, n = q + 1 := ⟨n - 1, by omega⟩
      have hix : (nI i).toInt = i := nI_toInt (by omega)
      have hin : (i : Int).toNat = i := by omega
      show b8_check_18 k (f8_check_18 k n) (nI N) (nI i) _ = _
      unfold b8_check_18
      rw [if_neg (by rw [Int32.le_iff_toInt_le, nI_toInt (by omega), nI_toInt (by omega)]; omega), s5_personOf' (Or.inl rfl) hR hW.1, zbd_some, hix, hR3, chk]
      by_cases c : (i : Int) < (σ 104 3).toInt
      · have hi6 : i < 6 := by omega
        rw [if_pos (show (0 : Int) ≤ i ∧ (i : Int) < (σ 104 3).toInt by omega), hin, if_neg (by omega), if_pos (sh_p hi6), f5_waitingAt, if_pos (show zsh 2 = 6 from rfl), if_neg (by rw [Int32.lt_iff_toInt_lt, hix, t_0]; omega), if_pos (by rw [Int32.lt_iff_toInt_lt, hix, t_24]; omega), if_pos (nI_z (by omega) (by decide)), zbd_some, nI_nat (by omega), zu_o (by omega), zu_o (by decide), h.1.2.2.1 i hi6 2 (by decide), h.1.2.2.2.2.1 i (by omega), if_pos c, nI_1]
        by_cases c2 : σ 104 (46 + 3 * i + 2) = σ 104 (124 + i)
        · rw [if_pos c2, if_pos c2]; exact ih (i + 1) n (by omega) (by omega)
        · rw [if_neg c2, if_neg c2]
      · rw [if_neg (show ¬ ((0 : Int) ≤ i ∧ (i : Int) < (σ 104 3).toInt) by omega), if_pos rfl, if_neg c]
  have key9 : ∀ (d i n : Nat) (s : ZS), s 104 = upd (σ 104) 5 0 → i + d = N → d < n → f9_check_16 k n (nI N) (nI i) s = some (chk (σ 104) d i, s) := by
    intro d
    induction d with
    | zero =>
      intro i n s hs hi hn'
      obtain ⟨n, rfl⟩ : ∃ q, n = q + 1 := ⟨n - 1, by omega⟩
      show b9_check_16 k _ (nI N) (nI i) _ = _
      unfold b9_check_16
      rw [if_pos (by rw [Int32.le_iff_toInt_le, nI_toInt (by omega), nI_toInt (by omega)]; omega)]
      rfl
    | succ d ih =>
      intro i n s hs hi hn'
      obtain ⟨n, rfl⟩ : ∃ q, n = q + 1 := ⟨n - 1, by omega⟩
      have hix : (nI i).toInt = i := nI_toInt (by omega)
      have hs3 : s 104 3 = σ 104 3 := by rw [hs]; exact hR3
      have ad : (124 : Int32) + nI i = nI (124 + i) := by
        refine i_eq ?_
        rw [i_add (by rw [t_124, hix]; omega), t_124, hix, nI_toInt (by omega)]
        omega
      show b9_check_16 k (f9_check_16 k n) (nI N) (nI i) _ = _
      unfold b9_check_16
      rw [if_neg (by rw [Int32.le_iff_toInt_le, nI_toInt (by omega), nI_toInt (by omega)]; omega), s9_isPerson (by rw [hs3]; exact hn3.1), zbd_some, hs3, hix, chk]
      by_cases c : (i : Int) < (σ 104 3).toInt
      · have hi6 : i < 6 := by omega
        rw [if_pos (show (0 : Int) ≤ i ∧ (i : Int) < (σ 104 3).toInt by omega), if_neg (by decide), ad, if_pos (nI_z (by omega) (by decide)), s9_about' hi6 (j := 2) t_2 (by decide), zbd_some, nI_nat (by omega), hs, upd_ne (show 124 + i ≠ 5 by omega), upd_ne (show 46 + 3 * i + 2 ≠ 5 by omega), if_pos c, nI_1]
        by_cases c2 : σ 104 (46 + 3 * i + 2) = σ 104 (124 + i)
        · rw [if_pos c2.symm, if_pos c2]; exact ih (i + 1) n s hs (by omega) (by omega)
        · rw [if_neg (fun q => c2 q.symm), if_neg c2]
      · rw [if_neg (show ¬ ((0 : Int) ≤ i ∧ (i : Int) < (σ 104 3).toInt) by omega), if_pos rfl, if_neg c]
  have e104 : zu σ 2 9 0 104 = σ 104 := zu_o (by decide)
  refine ⟨chk (σ 104) N 0, zu σ 2 9 0, zu (zu σ 2 9 0) 104 5 0, ?_, ?_, h.two (by decide) hR hW⟩
  · rw [f8_check, zput_eq, e9, hNN]
    exact key8 N 0 k (by omega) (by omega)
  · rw [f9_check, zput_eq, e104, hNN]
    exact key9 N 0 k _ (by rw [zu_self, e104]) (by omega) (by omega)
theorem op_untell (h : Rel m σ) (a : Int32) : opk m (f8_untell k a) (f9_untell k a) σ := by
  by_cases c1 : 0 ≤ a.toInt ∧ a.toInt ≤ 1
  · obtain ⟨u, hu, rfl⟩ : ∃ n : Nat, n < 2 ∧ a = nI n := ⟨a.toInt.toNat, by omega, i_nat c1.1⟩
    have hu2 : u = 0 ∨ u = 1 := by omega
    obtain ⟨hT, hV⟩ := TRVT hu h.1 h.2.1.2.2
    have hpl : (148 : Int32) + (121 : Int32) * nI u = nI (148 + 121 * u) := by
      rcases hu2 with rfl | rfl
      all_goals rfl
    have hW : WF 9999 (upd (σ 104) (148 + 121 * u) 0) := by
      refine ⟨h.2.1.1.upd fun hj => absurd hj (by omega), fun g g' h3 h4 h5 => ?_, ?_⟩
      · have hn := h.2.1.1.ng
        rw [upd_ne (by omega)] at h3 h4
        rw [upd_ne (by omega), upd_ne (by omega)] at h5
        exact h.2.1.2.1 g g' h3 h4 h5
      · rcases hu2 with rfl | rfl
        · exact ⟨Or.inl upd_at, h.2.1.2.2.2.congr fun i q1 q2 => upd_ne (by omega)⟩
        · exact ⟨h.2.1.2.2.1.congr fun i q1 q2 => upd_ne (by omega), Or.inl upd_at⟩
    have hR : RS (zu σ (2 + 21 + 3 * u) 3 0) 2 (upd (σ 104) (148 + 121 * u) 0) := by
      have hv := h.2.1.2.2
      have hn := h.2.1.1.ng
      obtain ⟨⟨a1, a2, a3, a4, a5, a6⟩, b, c, d, f, i, j1, j2⟩ := h.1
      have e : ∀ o, o ≠ 2 + 21 + 3 * u → zu σ (2 + 21 + 3 * u) 3 0 o = σ o := fun o ho => zu_o ho
      have uu : ∀ j, j ≠ 148 + 121 * u → upd (σ 104) (148 + 121 * u) 0 j = σ 104 j := fun j hj => upd_ne hj
      refine ⟨?_, fun g hg k hk => ?_, fun p hp k hk => ?_, fun j hj => ?_, fun j hj => ?_, fun c hc => ?_, ?_⟩
      · rw [e 2 (by omega), uu 0 (by omega), uu 1 (by omega), uu 2 (by omega), uu 3 (by omega), uu 4 (by omega), uu 5 (by omega)]
        exact ⟨a1, a2, a3, a4, a5, a6⟩
      · rw [e _ (by omega), uu _ (by omega)]; exact b g hg k hk
      · rw [e _ (by omega), uu _ (by omega)]; exact c p hp k hk
      · rw [e _ (by omega), uu _ (by omega)]; exact d j hj
      · rw [e _ (by omega), uu _ (by omega)]; exact f j hj
      · rw [e _ (by omega), i c hc]
        exact (gat_congr (uu 2 (by omega)) (fun j hj => uu _ (by omega)) _).symm
      · rcases hu2 with rfl | rfl
        · exact ⟨Or.inl ⟨upd_at, zu_at⟩, j2.congr (e _ (by decide)) (e _ (by decide)) (fun i q1 q2 => uu i (by omega)) hv.2.len.2⟩
        · exact ⟨j1.congr (e _ (by decide)) (e _ (by decide)) (fun i q1 q2 => uu i (by omega)) hv.1.len.2, Or.inl ⟨upd_at, zu_at⟩⟩
    have e104 : zu σ (2 + 21 + 3 * u) 3 0 104 = σ 104 := zu_o (by omega)
    have d9 : f9_untell k (nI u) (zu σ (2 + 21 + 3 * u) 3 0) = (if σ 104 (148 + 121 * u) ≤ 0 then some (0, zu (zu σ (2 + 21 + 3 * u) 3 0) 104 (148 + 121 * u) 0) else some (1, zu (zu σ (2 + 21 + 3 * u) 3 0) 104 (148 + 121 * u) 0)) := by
      have hx : (nI (148 + 121 * u)).toInt = (148 + 121 * u : Nat) := nI_toInt (by omega)
      rw [f9_untell, s9_in, zbd_some, t_0, t_1, if_pos c1, if_neg (by decide), hpl, s9_becomes (by rw [hx]; omega), zbd_some, hx, show ((148 + 121 * u : Nat) : Int).toNat = 148 + 121 * u by omega, e104]
    have hne : 2 + 21 + 3 * u ≠ 0 := by omega
    rcases hT with ⟨q1, q2⟩ | ⟨q1, q2, -⟩
    · refine ⟨0, zu σ (2 + 21 + 3 * u) 3 0, zu (zu σ (2 + 21 + 3 * u) 3 0) 104 (148 + 121 * u) 0, ?_, ?_, h.two (by omega) hR hW⟩
      · rw [f8_untell, s5_textOf (Or.inl rfl) hu, zbd_some, if_neg hne, if_pos ((show Tt 2 from Or.inl rfl).s7 hu), if_pos q2, zput_eq]
      · rw [d9, if_pos (by rw [q1]; decide)]
    · refine ⟨1, zu σ (2 + 21 + 3 * u) 3 0, zu (zu σ (2 + 21 + 3 * u) 3 0) 104 (148 + 121 * u) 0, ?_, ?_, h.two (by omega) hR hW⟩
      · rw [f8_untell, s5_textOf (Or.inl rfl) hu, zbd_some, if_neg hne, if_pos ((show Tt 2 from Or.inl rfl).s7 hu), if_neg (by rw [q2]; decide), zput_eq]
      · rw [d9, if_neg (by rw [Int32.le_iff_toInt_le, t_0]; omega)]
  · refine opk_e1 h ?_ fun s hs => ?_
    · have : f5_textOf k 2 a σ = some (0, σ) := by
        rw [f5_textOf, if_pos (show zsh 2 = 6 from rfl)]
        by_cases c2 : a < 0
        · rw [if_pos c2]
        · rw [if_neg c2, if_neg (by (simp only [Int32.lt_iff_toInt_lt, Int32.le_iff_toInt_le, ← Int32.toInt_inj, t_m1000000006, t_m1000000005, t_m1000000004, t_m1000000003, t_m1000000002, t_m1000000001, t_m1000000000, t_m33, t_m10, t_m3, t_m2, t_m1, t_0, t_1, t_2, t_3, t_4, t_5, t_6, t_7, t_8, t_9, t_10, t_11, t_12, t_13, t_14, t_15, t_16, t_17, t_18, t_19, t_20, t_21, t_22, t_23, t_24, t_25, t_26, t_27, t_28, t_29, t_30, t_31, t_32, t_33, t_34, t_35, t_36, t_37, t_38, t_39, t_40, t_41, t_42, t_43, t_44, t_45, t_46, t_47, t_48, t_49, t_50, t_51, t_52, t_53, t_54, t_55, t_56, t_57, t_58, t_59, t_60, t_61, t_62, t_63, t_64, t_69, t_70, t_71, t_99, t_104, t_105, t_106, t_107, t_108, t_109, t_110, t_111, t_112, t_113, t_114, t_115, t_116, t_121, t_124, t_148, t_255, t_256, t_257, t_390, t_999, t_9999, t_12345, t_99999, t_1103515245] at *; omega))]
      rw [f8_untell, this, zbd_some, if_pos rfl, e8_1]; rfl
    · rw [f9_untell, s9_in, zbd_some, t_0, t_1, if_neg c1, if_pos rfl, e9_1]; rfl
end
