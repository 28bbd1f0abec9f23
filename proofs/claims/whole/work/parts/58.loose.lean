/-! loose hours -/
def drw (x : Int32) : Int32 := (x.toUInt32 >>> ((8 : Int32).toUInt32 &&& Int32.toUInt32 31)).toInt32
theorem drw_rng (x : Int32) : 0 ≤ (drw x).toInt ∧ (drw x).toInt < 16777216 := by
  have h8 : ((8 : Int32).toUInt32 &&& Int32.toUInt32 31) = 8 := rfl
  have h1 : (x.toUInt32 >>> (8 : UInt32)).toNat < 16777216 := by
    rw [UInt32.toNat_shiftRight]
    have := x.toUInt32.toNat_lt
    rw [show (8 : UInt32).toNat % 32 = 8 from rfl, Nat.shiftRight_eq_div_pow]
    omega
  have h2 : (drw x).toInt = (x.toUInt32 >>> (8 : UInt32)).toNat := by
    unfold drw
    rw [h8]
    show (x.toUInt32 >>> (8 : UInt32)).toBitVec.toInt = _
    rw [BitVec.toInt_eq_toNat_of_lt (by show 2 * (x.toUInt32 >>> (8 : UInt32)).toNat < _; omega)]
    rfl
  omega
def nxs (x : Int32) : Int32 := x * 1103515245 + 12345
def drp (R : Nat → Int32) : Nat := (drw (nxs (R 1)) % R 3).toInt.toNat
def drR (R : Nat → Int32) : Nat → Int32 := upd (upd (upd (upd R 1 (nxs (R 1))) 1 (nxs (nxs (R 1)))) (46 + 3 * drp R + 0) (drw (nxs (nxs (R 1))) % 256 / 4)) (46 + 3 * drp R + 1) (drw (nxs (nxs (R 1))) % 256 % 4)
def drawR (R : Nat → Int32) : Nat → Int32 := if R 3 ≤ 0 then R else drR R
theorem drp_lt {hb : Int} {R : Nat → Int32} (hW : WF hb R) (h : ¬ R 3 ≤ 0) : (drw (nxs (R 1)) % R 3).toInt = drp R ∧ (drp R : Int) < (R 3).toInt ∧ drp R < 6 := by
  have hn := hW.1.np
  rw [Int32.le_iff_toInt_le, t_0] at h
  have h1 := drw_rng (nxs (R 1))
  have e : (drw (nxs (R 1)) % R 3).toInt = (drw (nxs (R 1))).toInt % (R 3).toInt := i_mod h1.1
  have h2 := Int.emod_nonneg (drw (nxs (R 1))).toInt (show (R 3).toInt ≠ 0 by omega)
  have h3 := Int.emod_lt_of_pos (drw (nxs (R 1))).toInt (show 0 < (R 3).toInt by omega)
  unfold drp
  omega
theorem drv_rng (x : Int32) : (0 ≤ (drw x % 256 / 4).toInt ∧ (drw x % 256 / 4).toInt ≤ 63) ∧ (0 ≤ (drw x % 256 % 4).toInt ∧ (drw x % 256 % 4).toInt ≤ 3) := by
  have h1 := drw_rng x
  have e1 : (drw x % 256).toInt = (drw x).toInt % 256 := by rw [i_mod h1.1, t_256]
  have e2 : (drw x % 256 / 4).toInt = (drw x).toInt % 256 / 4 := by rw [i_div (by omega) (by decide), e1, t_4]
  have e3 : (drw x % 256 % 4).toInt = (drw x).toInt % 256 % 4 := by rw [i_mod (by omega), e1, t_4]
  omega
theorem bl1 (hb : Int) : bl 1 = -2147483648 ∧ bh hb 1 = 2147483647 := ⟨rfl, rfl⟩
theorem put_R {hb : Int} {R : Nat → Int32} {p : Nat} {s1 s2 c w : Int32} (hW : WF hb R) (hp : p < 6) (hc : 0 ≤ c.toInt ∧ c.toInt ≤ 63) (hw : 0 ≤ w.toInt ∧ w.toInt ≤ 3) : WF hb (upd (upd (upd (upd R 1 s1) 1 s2) (46 + 3 * p + 0) c) (46 + 3 * p + 1) w) ∧ ∀ σ : ZS, RS σ 2 R → RS (zu (zu (zu (zu σ 2 11 s1) 2 11 s2) (2 + 15 + p) 0 c) (2 + 15 + p) 1 w) 2 (upd (upd (upd (upd R 1 s1) 1 s2) (46 + 3 * p + 0) c) (46 + 3 * p + 1) w) := by
  have b := bP hb hp
  have hW1 := hW.upd0 (j := 1) (w := s1) (by decide) (by rw [(bl1 hb).1, (bl1 hb).2]; exact i_rng _) (by decide) (fun g hg => by omega)
  have hW2 := hW1.upd0 (j := 1) (w := s2) (by decide) (by rw [(bl1 hb).1, (bl1 hb).2]; exact i_rng _) (by decide) (fun g hg => by omega)
  have hW3 := hW2.upd0 (j := 46 + 3 * p + 0) (w := c) (by omega) (by rw [b.1.1, b.1.2]; exact hc) (by omega) (fun g hg => by omega)
  have hW4 := hW3.upd0 (j := 46 + 3 * p + 1) (w := w) (by omega) (by rw [b.2.1.1, b.2.1.2]; exact hw) (by omega) (fun g hg => by omega)
  refine ⟨hW4, fun σ hR => ?_⟩
  have hR1 := hR.fld hW.2.2 hW.1.ng.2 (i := 11) (j := 1) (by decide) s1
  have hR2 := hR1.fld hW1.2.2 hW1.1.ng.2 (i := 11) (j := 1) (by decide) s2
  have hR3 := hR2.person hW2.2.2 hW2.1.ng.2 hp (k := 0) (by decide) c
  exact hR3.person hW3.2.2 hW3.1.ng.2 hp (k := 1) (by decide) w
theorem drR_WF {hb : Int} {R : Nat → Int32} (hW : WF hb R) (h : ¬ R 3 ≤ 0) : WF hb (drR R) := by
  obtain ⟨-, -, h6⟩ := drp_lt hW h
  obtain ⟨v1, v2⟩ := drv_rng (nxs (nxs (R 1)))
  exact (put_R hW h6 v1 v2).1
theorem drawR_WF {hb : Int} {R : Nat → Int32} (hW : WF hb R) : WF hb (drawR R) ∧ drawR R 0 = R 0 := by
  unfold drawR
  by_cases h : R 3 ≤ 0
  · rw [if_pos h]; exact ⟨hW, rfl⟩
  · rw [if_neg h]
    refine ⟨drR_WF hW h, ?_⟩
    unfold drR
    rw [upd_ne (by omega), upd_ne (by omega), upd_ne (by decide), upd_ne (by decide)]
theorem s5_draws {k : Nat} {hb : Int} {R : Nat → Int32} {σ : ZS} (hW : WF hb R) (hR : RS σ 2 R) : ∃ σ', f5_standByDraws k 2 σ = some ((), σ') ∧ RS σ' 2 (drawR R) ∧ ∀ o, pH 2 o → σ' o = σ o := by
  have T2 : Tt 2 := Or.inl rfl
  unfold drawR
  by_cases h : R 3 ≤ 0
  · rw [if_pos h, f5_standByDraws, if_pos T2.s6, hR.1.2.1, if_neg (by rw [Int32.le_iff_toInt_le, t_0] at h; rw [Int32.lt_iff_toInt_lt, t_0]; omega)]
    exact ⟨σ, rfl, hR, fun _ _ => rfl⟩
  · obtain ⟨q1, q2, q3⟩ := drp_lt hW h
    have h0 : ¬ R 3 = 0 := fun q => h (by rw [q]; decide)
    have e11 := hR.1.2.2.2.2.2
    have hR1 := hR.fld hW.2.2 hW.1.ng.2 (i := 11) (j := 1) (by decide) (nxs (R 1))
    have hW1 := hW.upd0 (j := 1) (w := nxs (R 1)) (by decide) (by rw [(bl1 hb).1, (bl1 hb).2]; exact i_rng _) (by decide) (fun g hg => by omega)
    obtain ⟨v1, v2⟩ := drv_rng (nxs (nxs (R 1)))
    have hR4 := (put_R (s1 := nxs (R 1)) (s2 := nxs (nxs (R 1))) hW q3 v1 v2).2 σ hR
    have d1 : ∀ s : ZS, f5_draw k 2 s = some (drw (nxs (s 2 11)), zu s 2 11 (nxs (s 2 11))) := fun s => by
      rw [f5_draw, if_pos (show zsh 2 = 6 from rfl), zput_eq, zu_at]; rfl
    have hR13 : upd R 1 (nxs (R 1)) 3 = R 3 := upd_ne (by decide)
    rw [if_neg h, f5_standByDraws, if_pos T2.s6, hR.1.2.1, if_pos (by rw [Int32.le_iff_toInt_le, t_0] at h; rw [Int32.lt_iff_toInt_lt, t_0]; omega), d1, zbd_some, e11, zu_k (show (7 : Nat) ≠ 11 by decide), hR.1.2.1, if_pos h0, s5_personOf' T2 hR1 hW1.1, zbd_some, q1, hR13, if_pos (show (0 : Int) ≤ (drp R : Int) ∧ (drp R : Int) < (R 3).toInt by omega), show ((drp R : Int).toNat) = drp R by omega, d1, zbd_some, zu_at, if_neg (by omega), if_pos (T2.s3 q3), zput_eq, zput_eq]
    exact ⟨_, rfl, hR4, fun o ho => by unfold pH at ho; rw [zu_o (by omega), zu_o (by omega), zu_o (by omega), zu_o (by omega)]⟩
theorem s9_draws {k : Nat} {hb : Int} {σ : ZS} (hW : WF hb (σ 104)) (h : ¬ σ 104 3 ≤ 0) : ∃ σ', f9_drawn k σ = some ((), σ') ∧ σ' 104 = drR (σ 104) ∧ ∀ o, o ≠ 104 → σ' o = σ o := by
  obtain ⟨q1, q2, q3⟩ := drp_lt hW h
  have h0 : ¬ σ 104 3 = 0 := fun q => h (by rw [q]; decide)
  have d1 : ∀ s : ZS, f9_draw k s = some (drw (nxs (s 104 1)), zu s 104 1 (nxs (s 104 1))) := fun s => by
    rw [f9_draw, zput_eq, zu_at]; rfl
  have hpp : drw (nxs (σ 104 1)) % σ 104 3 = nI (drp (σ 104)) := i_eq (by rw [q1, nI_toInt (by omega)])
  have hpx : (nI (drp (σ 104))).toInt = drp (σ 104) := nI_toInt (by omega)
  have g0 : ((46 : Int32) + (3 : Int32) * nI (drp (σ 104))).toInt = 46 + 3 * drp (σ 104) := by rw [i_p0 (by omega), hpx]
  have g1 : ((46 : Int32) + (3 : Int32) * nI (drp (σ 104)) + 1).toInt = 46 + 3 * drp (σ 104) + 1 := by rw [i_px (w := 1) (by omega) (by rw [t_1]; omega), hpx, t_1]
  have k0 : ((46 : Int32) + (3 : Int32) * nI (drp (σ 104))).toNatClampNeg = 46 + 3 * drp (σ 104) + 0 := by rw [i_cl, g0]; omega
  have k1 : ((46 : Int32) + (3 : Int32) * nI (drp (σ 104)) + 1).toNatClampNeg = 46 + 3 * drp (σ 104) + 1 := by rw [i_cl, g1]; omega
  rw [f9_drawn, d1, zbd_some, zu_k (show (3 : Nat) ≠ 1 by decide), if_pos h0, d1, zbd_some, zu_at, hpp, if_pos (by rw [zin, g0]; omega), zput_eq, if_pos (by rw [zin, g1]; omega), zput_eq, k0, k1]
  exact ⟨_, rfl, by rw [zu_self, zu_self, zu_self, zu_self]; rfl, fun o ho => by rw [zu_o ho, zu_o ho, zu_o ho, zu_o ho]⟩
def lrs (R : Nat → Int32) : Nat → (Nat → Int32)
  | 0 => R
  | n + 1 => lrs (hourR (drawR R)) n
theorem lr1_WF {hb : Int} (hb2 : hb ≤ 20000) {R : Nat → Int32} (hW : WF hb R) : WF (hb + 1) (hourR (drawR R)) ∧ (hourR (drawR R) 0).toInt = (R 0).toInt + 1 := by
  obtain ⟨h1, h2⟩ := drawR_WF hW
  obtain ⟨h3, h4⟩ := hourR_WF hb2 h1
  exact ⟨h3, by rw [h4, h2]⟩
theorem lrs_WF : ∀ (d : Nat) (hb : Int) (R : Nat → Int32), WF hb R → hb + d ≤ 20000 → WF (hb + d) (lrs R d) ∧ (lrs R d 0).toInt = (R 0).toInt + d
  | 0, hb, R, hW, h => ⟨by rw [show hb + ((0 : Nat) : Int) = hb by omega]; exact hW, by rw [lrs]; omega⟩
  | d + 1, hb, R, hW, h => by
    obtain ⟨h1, h2⟩ := lr1_WF (by omega) hW
    obtain ⟨h3, h4⟩ := lrs_WF d (hb + 1) (hourR (drawR R)) h1 (by omega)
    rw [show hb + ((d + 1 : Nat) : Int) = hb + 1 + d by omega]
    exact ⟨h3, by rw [lrs, h4, h2]; omega⟩
section
variable {m k : Nat} {σ : ZS}
theorem op_loose (hk : 300 ≤ k) (h : Rel m σ) (a : Int32) : opk m (f8_loose k a) (f9_loose k a) σ := by
  have h0 := h.2.1.1.hr
  have e10 := h.1.1.2.2.2.2.1
  by_cases c1 : 1 ≤ a.toInt ∧ a.toInt ≤ 24
  · have ea : (σ 104 0 + a).toInt = (σ 104 0).toInt + a.toInt := i_add (by omega)
    by_cases c2 : (σ 104 0).toInt + a.toInt ≤ 9999
    · obtain ⟨N, hN, rfl⟩ : ∃ N : Nat, N ≤ 24 ∧ a = nI N := ⟨a.toInt.toNat, by omega, i_nat (by omega)⟩
      have hNx : (nI N).toInt = N := nI_toInt (by omega)
      have key8 : ∀ (d i n : Nat) (hb : Int) (R : Nat → Int32) (s : ZS), i + d = N → d < n → hb + d ≤ 20000 → WF hb R → RS s 2 R → (∀ o, pH 2 o → s o = σ o) → ∃ σ', f8_loose_40 k n (nI N) (nI i) s = some (lrs R d 0, σ') ∧ RS σ' 2 (lrs R d) ∧ ∀ o, pH 2 o → σ' o = σ o := by
        intro d
        induction d with
        | zero =>
          intro i n hb R s hi hn hb2 hW hR hs
          obtain ⟨n, rfl⟩ : ∃ q, n = q + 1 := ⟨n - 1, by omega⟩
          show ∃ σ', b8_loose_40 k _ (nI N) (nI i) s = _ ∧ _
          unfold b8_loose_40
          rw [if_pos (by rw [Int32.le_iff_toInt_le, nI_toInt (by omega), nI_toInt (by omega)]; omega), hR.1.2.2.2.2.1]
          exact ⟨s, rfl, hR, hs⟩
        | succ d ih =>
          intro i n hb R s hi hn hb2 hW hR hs
          obtain ⟨n, rfl⟩ : ∃ q, n = q + 1 := ⟨n - 1, by omega⟩
          show ∃ σ', b8_loose_40 k (f8_loose_40 k n) (nI N) (nI i) s = _ ∧ _
          unfold b8_loose_40
          obtain ⟨s0, p1, p2, p3⟩ := s5_draws (k := k) hW hR
          obtain ⟨s1, q1, q2, q3⟩ := s5_hour (k := k) hk (Or.inl rfl) (drawR_WF hW).1 p2
          rw [if_neg (by rw [Int32.le_iff_toInt_le, nI_toInt (by omega), nI_toInt (by omega)]; omega), p1, zbd_some, q1, zbd_some, nI_1]
          exact ih (i + 1) n (hb + 1) (hourR (drawR R)) s1 (by omega) (by omega) (by omega) (lr1_WF (by omega) hW).1 q2 (fun o ho => by rw [q3 o ho, p3 o ho, hs o ho])
      have key9 : ∀ (d i n : Nat) (hb : Int) (s0 s : ZS), i + d = N → d < n → hb + d ≤ 20000 → WF hb (s 104) → (∀ o, pK o → o ≠ 104 → s o = s0 o) → (∀ i, pKm i → s 103 i = s0 103 i) → ∃ σ', f9_loose_40 k n (nI N) (nI i) s = some (lrs (s 104) d 0, σ') ∧ σ' 104 = lrs (s 104) d ∧ (∀ o, pK o → o ≠ 104 → σ' o = s0 o) ∧ (∀ i, pKm i → σ' 103 i = s0 103 i) := by
        intro d
        induction d with
        | zero =>
          intro i n hb s0 s hi hn hb2 hW hs hs2
          obtain ⟨n, rfl⟩ : ∃ q, n = q + 1 := ⟨n - 1, by omega⟩
          show ∃ σ', b9_loose_40 k _ (nI N) (nI i) s = _ ∧ _
          unfold b9_loose_40
          rw [if_pos (by rw [Int32.le_iff_toInt_le, nI_toInt (by omega), nI_toInt (by omega)]; omega)]
          exact ⟨s, rfl, rfl, hs, hs2⟩
        | succ d ih =>
          intro i n hb s0 s hi hn hb2 hW hs hs2
          obtain ⟨n, rfl⟩ : ∃ q, n = q + 1 := ⟨n - 1, by omega⟩
          show ∃ σ', b9_loose_40 k (f9_loose_40 k n) (nI N) (nI i) s = _ ∧ _
          unfold b9_loose_40
          rw [if_neg (by rw [Int32.le_iff_toInt_le, nI_toInt (by omega), nI_toInt (by omega)]; omega)]
          by_cases c : s 104 3 ≤ 0
          · have hd : drawR (s 104) = s 104 := by rw [drawR, if_pos c]
            obtain ⟨s1, q1, q2, q3, q4⟩ := s9_hour (k := k) hk hW
            rw [if_pos c, q1, zbd_some, nI_1]
            have := ih (i + 1) n (hb + 1) s0 s1 (by omega) (by omega) (by omega) (by rw [q2]; exact (hourR_WF (by omega) hW).1) (fun o ho h4 => by rw [q3 o ho h4, hs o ho h4]) (fun i hi => by rw [q4 i hi, hs2 i hi])
            rw [q2] at this
            rw [lrs, hd]
            exact this
          · have hd : drawR (s 104) = drR (s 104) := by rw [drawR, if_neg c]
            obtain ⟨s2, p1, p2, p3⟩ := s9_draws (k := k) hW c
            have hW2 : WF hb (s2 104) := by rw [p2]; exact drR_WF hW c
            obtain ⟨s1, q1, q2, q3, q4⟩ := s9_hour (k := k) hk hW2
            rw [if_neg c, p1, zbd_some, q1, zbd_some, nI_1]
            have := ih (i + 1) n (hb + 1) s0 s1 (by omega) (by omega) (by omega) (by rw [q2]; exact (hourR_WF (by omega) hW2).1) (fun o ho h4 => by rw [q3 o ho h4, p3 o h4, hs o ho h4]) (fun i hi => by rw [q4 i hi, p3 103 (by decide), hs2 i hi])
            rw [q2, p2] at this
            rw [lrs, hd]
            exact this
      obtain ⟨σ1, f1, f2, f3⟩ := key8 N 0 k 9999 (σ 104) σ (by omega) (by omega) (by omega) h.2.1 h.1 (fun _ _ => rfl)
      have e104 : σ1 104 = σ 104 := f3 104 (by unfold pH; decide)
      obtain ⟨σ2, g1, g2, g3, g4⟩ := key9 N 0 k 9999 σ1 σ1 (by omega) (by omega) (by omega) (by rw [e104]; exact h.2.1) (fun _ _ _ => rfl) (fun _ _ => rfl)
      rw [e104] at g1 g2
      obtain ⟨w1, w2⟩ := lrs_WF N 9999 (σ 104) h.2.1 (by omega)
      have hW : WF 9999 (lrs (σ 104) N) := w1.tight (by omega)
      refine ⟨lrs (σ 104) N 0, σ1, σ2, ?_, ?_, h.strt ?_ ?_ ?_ ?_ ?_⟩
      · rw [f8_loose, if_neg (by rw [Int32.lt_iff_toInt_lt, t_1]; omega), if_pos (by rw [Int32.le_iff_toInt_le, t_24]; omega), e10, if_pos (by rw [Int32.le_iff_toInt_le, t_9999, ea]; omega)]
        exact f1
      · rw [f9_loose, s9_in, zbd_some, t_1, t_24, if_pos c1, if_neg (by decide), e104, if_pos (by rw [Int32.le_iff_toInt_le, t_9999, ea]; omega)]
        exact g1
      · rw [g2]; exact f2.congr hW.2.2 fun o q1 q2 => g3 o (by unfold pK; omega) (by omega)
      · rw [g2]; exact hW
      · intro o ho; rw [g3 o (by unfold pK; omega) (by omega), f3 o (by unfold pH; omega)]
      · rw [g4 3 (by unfold pKm; decide), f3 103 (by unfold pH; decide)]
      · rw [g4 25 (by unfold pKm; decide), f3 103 (by unfold pH; decide)]
    · refine opk_e3 h ?_ fun s hs => ?_
      · rw [f8_loose, if_neg (by rw [Int32.lt_iff_toInt_lt, t_1]; omega), if_pos (by rw [Int32.le_iff_toInt_le, t_24]; omega), e10, if_neg (by rw [Int32.le_iff_toInt_le, t_9999, ea]; omega), e8_3]; rfl
      · rw [f9_loose, s9_in, zbd_some, t_1, t_24, if_pos c1, if_neg (by decide), hs 104 (by decide), if_neg (by rw [Int32.le_iff_toInt_le, t_9999, ea]; omega), e9_3]; rfl
  · refine opk_e1 h ?_ fun s hs => ?_
    · unfold f8_loose
      by_cases c3 : a < 1
      · rw [if_pos c3, e8_1]; rfl
      · rw [if_neg c3, if_neg (by rw [Int32.lt_iff_toInt_lt, t_1] at c3; rw [Int32.le_iff_toInt_le, t_24]; omega), e8_1]; rfl
    · rw [f9_loose, s9_in, zbd_some, t_1, t_24, if_neg c1, if_pos rfl, e9_1]; rfl
end
