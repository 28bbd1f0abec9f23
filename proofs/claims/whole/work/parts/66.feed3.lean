/-! feed, whole -/
section
variable {m k : Nat} {σ : ZS}
theorem fed (x : Int64) : ∀ (d j n1 n2 : Nat) (s1 : ZS) (R : Nat → Int32), RS s1 2 R → WF 9999 R → (R 4).toInt + d ≤ 60 → j + d ≤ 8 → d < n1 → d < n2 → ∃ (R' : Nat → Int32) (z1 : ZS), f8_feed_40 k n1 x (nI (j + d)) (nI j) s1 = some (R' 4, z1) ∧ RS z1 2 R' ∧ WF 9999 R' ∧ (∀ o, o ≠ 2 → o ≠ 7 → z1 o = s1 o) ∧ ∀ s2 : ZS, s2 104 = R → ∃ z2, f9_feed_40 k n2 x (nI (j + d)) (nI j) s2 = some (R' 4, z2) ∧ z2 104 = R' ∧ ∀ o, o ≠ 104 → z2 o = s2 o := by
  intro d
  induction d with
  | zero =>
    intro j n1 n2 s1 R hR hW h60 h8 h1 h2
    obtain ⟨n1, rfl⟩ : ∃ q, n1 = q + 1 := ⟨n1 - 1, by omega⟩
    obtain ⟨n2, rfl⟩ : ∃ q, n2 = q + 1 := ⟨n2 - 1, by omega⟩
    refine ⟨R, s1, ?_, hR, hW, fun _ _ _ => rfl, fun s2 hs => ⟨s2, ?_, hs, fun _ _ => rfl⟩⟩
    · show b8_feed_40 k _ x _ _ s1 = _
      rw [b8_feed_40, if_pos (by rw [Int32.le_iff_toInt_le]; exact Int.le_refl _), hR.1.2.2.1]
    · show b9_feed_40 k _ x _ _ s2 = _
      rw [b9_feed_40, if_pos (by rw [Int32.le_iff_toInt_le]; exact Int.le_refl _), hs]
  | succ d ih =>
    intro j n1 n2 s1 R hR hW h60 h8 h1 h2
    obtain ⟨n1, rfl⟩ : ∃ q, n1 = q + 1 := ⟨n1 - 1, by omega⟩
    obtain ⟨n2, rfl⟩ : ∃ q, n2 = q + 1 := ⟨n2 - 1, by omega⟩
    have ht := hW.1.nt
    have hT : (R 4).toInt.toNat < 60 := by omega
    have hjn : (nI j).toInt = j := nI_toInt (by omega)
    have hdn : (nI (j + (d + 1))).toInt = (j + (d + 1) : Nat) := nI_toInt (by omega)
    have hlt : ¬ nI (j + (d + 1)) ≤ nI j := by rw [Int32.le_iff_toInt_le, hjn, hdn]; omega
    have e4 : (R 4 + 1).toInt = (R 4).toInt + 1 := by rw [i_add (by rw [t_1]; omega), t_1]
    have hb := byte_eq x (j := j) (by omega)
    obtain ⟨v, hv, hr⟩ : ∃ v : Int32, v = (x.toUInt64 >>> (((8 : Int32) * nI j).toInt64.toUInt64 &&& Int64.toUInt64 63)).toInt64.toInt32 &&& (255 : Int32) ∧ 0 ≤ v.toInt ∧ v.toInt ≤ 255 := ⟨_, rfl, byte_rng _⟩
    rw [← hv] at hb
    have hR1 : RS (zu s1 (2 + 5) (R 4).toInt.toNat v) 2 (upd R (64 + (R 4).toInt.toNat) v) := hR.row (b := true) hW.2.2 hW.1.ng.2 hT v
    have hW1 : WF 9999 (upd R (64 + (R 4).toInt.toNat) v) := hW.upd0 (by omega) (by unfold bl bh; rw [if_neg (by omega), if_neg (by omega), if_neg (by omega), if_neg (by omega), if_neg (by omega), if_neg (by omega), if_neg (by omega), if_neg (by omega), if_neg (by omega), if_pos (by omega)]; exact hr) (by omega) (fun g hg => by omega)
    have hR2 := hR1.fld hW1.2.2 hW1.1.ng.2 (i := 8) (j := 4) (by decide) (R 4 + 1)
    have hW2 : WF 9999 (upd (upd R (64 + (R 4).toInt.toNat) v) 4 (R 4 + 1)) := hW1.upd0 (by omega) (by rw [e4]; show (0 : Int) ≤ _ ∧ _ ≤ (60 : Int); omega) (by omega) (fun g hg => by omega)
    obtain ⟨R', z1, a1, a2, a3, a4, a5⟩ := ih (j + 1) n1 n2 _ _ hR2 hW2 (by rw [upd_at, e4]; omega) (by omega) (by omega) (by omega)
    rw [show j + 1 + d = j + (d + 1) by omega] at a1 a5
    refine ⟨R', z1, ?_, a2, a3, fun o o2 o7 => by rw [a4 o o2 o7, zu_o o2, zu_o (by omega)], fun s2 hs => ?_⟩
    · show b8_feed_40 k _ x _ _ s1 = _
      rw [b8_feed_40, if_neg hlt, f5_addByte, if_pos (show zsh 2 = 6 from rfl), hR.1.2.2.1, if_neg (by rw [Int32.lt_iff_toInt_lt, t_0]; omega), if_neg (by rw [Int32.le_iff_toInt_le, t_60]; omega), if_pos (by rw [zin]; omega), zput_eq, zput_eq, zbd_some, nI_1, i_cl, ← hv, zu_o (a := 2) (by decide), hR.1.2.2.1]
      exact a1
    · have ix : ((64 : Int32) + R 4).toInt = 64 + (R 4).toInt := by rw [i_add (by rw [t_64]; omega), t_64]
      have ixn : ((64 : Int32) + R 4).toInt.toNat = 64 + (R 4).toInt.toNat := by rw [ix]; omega
      obtain ⟨z2, b1, b2, b3⟩ := a5 (zu (zu s2 104 (64 + (R 4).toInt.toNat) v) 104 4 (R 4 + 1)) (by rw [zu_self, zu_self, hs])
      refine ⟨z2, ?_, b2, fun o ho => by rw [b3 o ho, zu_o ho, zu_o ho]⟩
      show b9_feed_40 k _ x _ _ s2 = _
      rw [b9_feed_40, if_neg hlt, hs, if_pos (by rw [zin, ix]; omega), zput_eq, zput_eq, nI_1, i_cl, ixn, ← hb, zu_k (by omega), hs]
      exact b1
theorem op_feed (hk : 30 ≤ k) (h : Rel m σ) (x : Int64) (n : Int32) : opk m (f8_feed k x n) (f9_feed k x n) σ := by
  have ht := h.2.1.1.nt
  have e8 := h.1.1.2.2.1
  by_cases c1 : 1 ≤ n.toInt ∧ n.toInt ≤ 8
  · have es : (σ 104 4 + n).toInt = (σ 104 4).toInt + n.toInt := i_add (by omega)
    by_cases c2 : (σ 104 4).toInt + n.toInt ≤ 60
    · obtain ⟨R', z1, a1, a2, a3, a4, a5⟩ := fed (k := k) x n.toInt.toNat 0 k k σ _ h.1 h.2.1 (by omega) (by omega) (by omega) (by omega)
      obtain ⟨z2, b1, b2, b3⟩ := a5 z1 (a4 104 (by decide) (by decide))
      rw [Nat.zero_add, ← i_nat (by omega)] at a1 b1
      refine ⟨R' 4, z1, z2, ?_, ?_, h.fin a2 a3 b2 (fun o ho => a4 o (by unfold pR at ho; omega) (by unfold pR at ho; omega)) b3⟩
      · rw [f8_feed, if_neg (by rw [Int32.lt_iff_toInt_lt, t_1]; omega), if_pos (by rw [Int32.le_iff_toInt_le, t_8]; omega), e8, if_pos (by rw [Int32.le_iff_toInt_le, es, t_60]; omega)]
        exact a1
      · rw [f9_feed, s9_in, zbd_some, t_1, t_8, if_pos c1, if_neg (by decide), a4 104 (by decide) (by decide), if_pos (by rw [Int32.le_iff_toInt_le, es, t_60]; omega)]
        exact b1
    · refine opk_e4 h ?_ fun s hs => ?_
      · rw [f8_feed, if_neg (by rw [Int32.lt_iff_toInt_lt, t_1]; omega), if_pos (by rw [Int32.le_iff_toInt_le, t_8]; omega), e8, if_neg (by rw [Int32.le_iff_toInt_le, es, t_60]; omega), e8_4]; rfl
      · rw [f9_feed, s9_in, zbd_some, t_1, t_8, if_pos c1, if_neg (by decide), hs 104 (by decide), if_neg (by rw [Int32.le_iff_toInt_le, es, t_60]; omega), e9_4]; rfl
  · refine opk_e1 h ?_ fun s hs => ?_
    · unfold f8_feed
      by_cases c3 : n < 1
      · rw [if_pos c3, e8_1]; rfl
      · rw [Int32.lt_iff_toInt_lt, t_1] at c3
        rw [if_neg (by rw [Int32.lt_iff_toInt_lt, t_1]; exact c3), if_neg (by rw [Int32.le_iff_toInt_le, t_8]; omega), e8_1]; rfl
    · rw [f9_feed, s9_in, zbd_some, t_1, t_8, if_neg c1, if_pos rfl, e9_1]; rfl
end
