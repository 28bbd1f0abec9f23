/-! copies of a street -/
theorem cpy_lt {f g : Nat → Int32} {n : Int32} {k : Nat} (h : (k : Int) < n.toInt) : va_cpy f g (0 : Int32).toNatClampNeg (0 : Int32).toNatClampNeg n.toNatClampNeg k = f k := by
  have h0 : (0 : Int32).toNatClampNeg = 0 := rfl
  have hn : n.toNatClampNeg = n.toInt.toNat := rfl
  unfold va_cpy
  rw [h0, hn, if_pos (by omega), Nat.zero_add, Nat.sub_zero]
theorem zr_o {σ : ZS} {o a : Nat} {f : Nat → Int32} (h : a ≠ o) : zurow σ o f a = σ a := zu_ne h
/-- how far a copy is done -/
def Cpd (σ0 s : ZS) (t u : Nat) (g p j : Nat) : Prop :=
  (∀ o, (o < t ∨ t + 27 ≤ o) → s o = σ0 o) ∧
  (∀ a, a < g → ∀ k, k < 5 → s (t + 7 + a) k = σ0 (u + 7 + a) k) ∧
  (∀ a, a < p → ∀ k, k < 3 → s (t + 15 + a) k = σ0 (u + 15 + a) k) ∧
  (∀ a, a < j → (s (t + 21 + 3 * a) 2 = σ0 (u + 21 + 3 * a) 2 ∧ s (t + 21 + 3 * a) 3 = σ0 (u + 21 + 3 * a) 3) ∧ ∀ i, i < 60 → s (t + 22 + 3 * a) i = σ0 (u + 22 + 3 * a) i)
theorem s5_copy {k t u : Nat} {hb : Int} {R : Nat → Int32} {σ : ZS} (hk : 300 ≤ k) (ht : Tt t) (hu : Tt u) (hut : u + 27 ≤ t ∨ t + 27 ≤ u) (hW : WF hb R) (hR : RS σ u R) : ∃ σ', f5_copyFrom k t u σ = some ((), σ') ∧ RS σ' t R ∧ ∀ o, (o < t ∨ t + 27 ≤ o) → σ' o = σ o := by
  have htl := ht.le
  have hul := hu.le
  have hth : ∀ j, j < 2 → zbo (σ (u + 21 + 3 * j) 3) := by
    intro j hj
    rcases (TRVT hj hR hW.2.2).1 with ⟨-, q⟩ | ⟨-, q, -⟩
    · rw [q]; exact Or.inl rfl
    · rw [q]; exact Or.inr rfl
  have k66 : ∀ (d j n : Nat) (s : ZS), j + d = 2 → d < n → Cpd σ s t u 8 6 j → ∃ σ', f5_copyFrom_66 k t n u (nI j) s = some ((), σ') ∧ RS σ' t R ∧ ∀ o, (o < t ∨ t + 27 ≤ o) → σ' o = σ o := by
    intro d
    induction d with
    | zero =>
      intro j n s hj hn hC
      obtain ⟨n, rfl⟩ : ∃ q, n = q + 1 := ⟨n - 1, by omega⟩
      have : j = 2 := by omega
      subst this
      show ∃ σ', b5_copyFrom_66 k t _ u 2 s = _ ∧ _
      unfold b5_copyFrom_66
      rw [if_pos (by decide), if_pos hu.s6, zput_eq, zput_eq, zput_eq, zput_eq, zput_eq, zput_eq, zput_eq, zput_eq, zput_eq]
      -- the rows
      obtain ⟨s1, hs1⟩ : ∃ s1, s1 = zurow s (t + 4) (va_cpy (s (u + 4)) (s (t + 4)) (0 : Int32).toNatClampNeg (0 : Int32).toNatClampNeg (64 : Int32).toNatClampNeg) := ⟨_, rfl⟩
      rw [← hs1]
      obtain ⟨s2, hs2⟩ : ∃ s2, s2 = zurow s1 (t + 5) (va_cpy (s1 (u + 5)) (s1 (t + 5)) (0 : Int32).toNatClampNeg (0 : Int32).toNatClampNeg (60 : Int32).toNatClampNeg) := ⟨_, rfl⟩
      rw [← hs2]
      obtain ⟨s3, hs3⟩ : ∃ s3, s3 = zurow s2 (t + 6) (va_cpy (s2 (u + 6)) (s2 (t + 6)) (0 : Int32).toNatClampNeg (0 : Int32).toNatClampNeg (24 : Int32).toNatClampNeg) := ⟨_, rfl⟩
      rw [← hs3]
      have e1 : ∀ o, o ≠ t + 4 → s1 o = s o := fun o h => by rw [hs1, zr_o h]
      have e2 : ∀ o, o ≠ t + 5 → s2 o = s1 o := fun o h => by rw [hs2, zr_o h]
      have e3 : ∀ o, o ≠ t + 6 → s3 o = s2 o := fun o h => by rw [hs3, zr_o h]
      have e123 : ∀ o, o ≠ t + 4 → o ≠ t + 5 → o ≠ t + 6 → s3 o = s o := fun o h1 h2 h3 => by rw [e3 o h3, e2 o h2, e1 o h1]
      have hu4 : s (u + 4) = σ (u + 4) := hC.1 _ (by omega)
      have hu5 : s1 (u + 5) = σ (u + 5) := by rw [e1 _ (by omega)]; exact hC.1 _ (by omega)
      have hu6 : s2 (u + 6) = σ (u + 6) := by rw [e2 _ (by omega), e1 _ (by omega)]; exact hC.1 _ (by omega)
      have hsu : s3 u = σ u := by rw [e123 _ (by omega) (by omega) (by omega)]; exact hC.1 _ (by omega)
      have zo : ∀ (z : ZS) (i : Nat) (v : Int32), zu z t i v u = z u := fun z i v => zu_o (by omega)
      simp only [zo, hsu]
      obtain ⟨s9, hs9⟩ : ∃ s9, s9 = zu (zu (zu (zu (zu (zu s3 t 6 (σ u 6)) t 7 (σ u 7)) t 8 (σ u 8)) t 9 (σ u 9)) t 10 (σ u 10)) t 11 (σ u 11) := ⟨_, rfl⟩
      rw [← hs9]
      have e9 : ∀ o, o ≠ t → s9 o = s3 o := fun o h => by rw [hs9, zu_o h, zu_o h, zu_o h, zu_o h, zu_o h, zu_o h]
      obtain ⟨⟨a1, a2, a3, a4, a5, a6⟩, b, c, d, f, i, j1, j2⟩ := hR
      have hx : ∀ o, o ≠ t → o ≠ t + 4 → o ≠ t + 5 → o ≠ t + 6 → s9 o = s o := fun o h0 h1 h2 h3 => by rw [e9 o h0, e123 o h1 h2 h3]
      have trc : ∀ jj, jj < 2 → TR σ (u + 21 + 3 * jj) R (148 + 121 * jj) → VT1 R (148 + 121 * jj) → TR s9 (t + 21 + 3 * jj) R (148 + 121 * jj) := by
        intro jj hj hT hV
        obtain ⟨⟨q1, q2⟩, q3⟩ := hC.2.2.2 jj hj
        rcases hT with ⟨p1, p2⟩ | ⟨p1, p2, p3, p4⟩
        · exact Or.inl ⟨p1, by rw [hx _ (by omega) (by omega) (by omega) (by omega), q2]; exact p2⟩
        · refine Or.inr ⟨p1, by rw [hx _ (by omega) (by omega) (by omega) (by omega), q2]; exact p2, by rw [hx _ (by omega) (by omega) (by omega) (by omega), q1]; exact p3, fun i hi => ?_⟩
          have := hV.len
          rw [hx _ (by omega) (by omega) (by omega) (by omega), show t + 21 + 3 * jj + 1 = t + 22 + 3 * jj by omega, q3 i (by omega), show u + 22 + 3 * jj = u + 21 + 3 * jj + 1 by omega]
          exact p4 i hi
      refine ⟨s9, rfl, ⟨?_, fun g hg k hk => ?_, fun p hp k hk => ?_, fun j hj => ?_, fun j hj => ?_, fun c' hc => ?_, trc 0 (by decide) j1 hW.2.2.1, trc 1 (by decide) j2 hW.2.2.2⟩, fun o ho => ?_⟩
      · refine ⟨?_, ?_, ?_, ?_, ?_, ?_⟩
        · rw [hs9, zu_k (by decide), zu_k (by decide), zu_k (by decide), zu_k (by decide), zu_k (by decide), zu_at]; exact a1
        · rw [hs9, zu_k (by decide), zu_k (by decide), zu_k (by decide), zu_k (by decide), zu_at]; exact a2
        · rw [hs9, zu_k (by decide), zu_k (by decide), zu_k (by decide), zu_at]; exact a3
        · rw [hs9, zu_k (by decide), zu_k (by decide), zu_at]; exact a4
        · rw [hs9, zu_k (by decide), zu_at]; exact a5
        · rw [hs9, zu_at]; exact a6
      · rw [hx _ (by omega) (by omega) (by omega) (by omega), hC.2.1 g hg k hk]; exact b g hg k hk
      · rw [hx _ (by omega) (by omega) (by omega) (by omega), hC.2.2.1 p hp k hk]; exact c p hp k hk
      · rw [e9 _ (by omega), e3 _ (by omega), hs2, zu_row, cpy_lt (by rw [t_60]; omega), hu5]; exact d j hj
      · rw [e9 _ (by omega), hs3, zu_row, cpy_lt (by rw [t_24]; omega), hu6]; exact f j hj
      · rw [e9 _ (by omega), e3 _ (by omega), e2 _ (by omega), hs1, zu_row, cpy_lt (by rw [t_64]; omega), hu4]; exact i c' hc
      · rw [hx o (by omega) (by omega) (by omega) (by omega)]; exact hC.1 o ho
    | succ d ih =>
      intro j n s hj hn hC
      obtain ⟨n, rfl⟩ : ∃ q, n = q + 1 := ⟨n - 1, by omega⟩
      have hj2 : j < 2 := by omega
      have hz : zin (nI j) 2 := nI_z hj2 (by decide)
      show ∃ σ', b5_copyFrom_66 k t (f5_copyFrom_66 k t n) u (nI j) s = _ ∧ _
      unfold b5_copyFrom_66
      have hsu1 : s (u + 21 + 3 * j) = σ (u + 21 + 3 * j) := hC.1 _ (by omega)
      have hsu2 : s (u + 21 + 3 * j + 1) = σ (u + 21 + 3 * j + 1) := hC.1 _ (by omega)
      rw [if_neg (by rw [Int32.le_iff_toInt_le, nI_toInt (by omega), t_2]; omega), if_pos hz, if_pos hu.s6, if_pos hz, nI_nat (n := j) (by omega), f6_copyFrom, if_pos (ht.s7 hj2), if_pos (hu.s7 hj2), zput_eq, zput_eq]
      obtain ⟨s1, hs1⟩ : ∃ s1, s1 = zurow s (t + 21 + 3 * j + 1) (va_cpy (s (u + 21 + 3 * j + 1)) (s (t + 21 + 3 * j + 1)) (0 : Int32).toNatClampNeg (0 : Int32).toNatClampNeg (60 : Int32).toNatClampNeg) := ⟨_, rfl⟩
      rw [← hs1]
      have e1 : ∀ o, o ≠ t + 21 + 3 * j + 1 → s1 o = s o := fun o h => by rw [hs1, zr_o h]
      have hs1u : s1 (u + 21 + 3 * j) = σ (u + 21 + 3 * j) := by rw [e1 _ (by omega)]; exact hsu1
      rw [hs1u, zu_o (a := u + 21 + 3 * j) (by omega), hs1u, if_pos (hth j hj2), zput_eq, zbd_some, nI_1]
      obtain ⟨s3, hs3⟩ : ∃ s3, s3 = zu (zu s1 (t + 21 + 3 * j) 2 (σ (u + 21 + 3 * j) 2)) (t + 21 + 3 * j) 3 (σ (u + 21 + 3 * j) 3) := ⟨_, rfl⟩
      rw [← hs3]
      have e3 : ∀ o, o ≠ t + 21 + 3 * j → o ≠ t + 21 + 3 * j + 1 → s3 o = s o := fun o h1 h2 => by rw [hs3, zu_o h1, zu_o h1, e1 o h2]
      refine ih (j + 1) n s3 (by omega) (by omega) ⟨fun o ho => by rw [e3 o (by omega) (by omega)]; exact hC.1 o ho, fun a ha k hk => by rw [e3 _ (by omega) (by omega)]; exact hC.2.1 a ha k hk, fun a ha k hk => by rw [e3 _ (by omega) (by omega)]; exact hC.2.2.1 a ha k hk, fun a ha => ?_⟩
      by_cases haj : a = j
      · subst haj
        refine ⟨⟨by rw [hs3, zu_k (by decide), zu_at], by rw [hs3, zu_at]⟩, fun i hi => ?_⟩
        rw [hs3, zu_o (by omega), zu_o (by omega), hs1, show t + 22 + 3 * a = t + 21 + 3 * a + 1 by omega, zu_row, cpy_lt (by rw [t_60]; omega), hsu2, show u + 22 + 3 * a = u + 21 + 3 * a + 1 by omega]
      · rw [e3 _ (by omega) (by omega), e3 _ (by omega) (by omega)]
        exact hC.2.2.2 a (by omega)
  have k34 : ∀ (d j n : Nat) (s : ZS), j + d = 6 → d < n → Cpd σ s t u 8 j 0 → ∃ σ', f5_copyFrom_34 k t n u (nI j) s = some ((), σ') ∧ RS σ' t R ∧ ∀ o, (o < t ∨ t + 27 ≤ o) → σ' o = σ o := by
    intro d
    induction d with
    | zero =>
      intro j n s hj hn hC
      obtain ⟨n, rfl⟩ : ∃ q, n = q + 1 := ⟨n - 1, by omega⟩
      have : j = 6 := by omega
      subst this
      show ∃ σ', b5_copyFrom_34 k t _ u 6 s = _ ∧ _
      unfold b5_copyFrom_34
      rw [if_pos (by decide)]
      exact k66 2 0 k s rfl (by omega) hC
    | succ d ih =>
      intro j n s hj hn hC
      obtain ⟨n, rfl⟩ : ∃ q, n = q + 1 := ⟨n - 1, by omega⟩
      have hj2 : j < 6 := by omega
      have hz : zin (nI j) 6 := nI_z hj2 (by decide)
      show ∃ σ', b5_copyFrom_34 k t (f5_copyFrom_34 k t n) u (nI j) s = _ ∧ _
      unfold b5_copyFrom_34
      have hsu : s (u + 15 + j) = σ (u + 15 + j) := hC.1 _ (by omega)
      have zo : ∀ (z : ZS) (i : Nat) (v : Int32), zu z (t + 15 + j) i v (u + 15 + j) = z (u + 15 + j) := fun z i v => zu_o (by omega)
      rw [if_neg (by rw [Int32.le_iff_toInt_le, nI_toInt (by omega), t_6]; omega), if_pos hz, if_pos hu.s6, if_pos hz, nI_nat (n := j) (by omega), f2_copyFrom, if_pos (ht.s3 hj2), if_pos (hu.s3 hj2), zput_eq, zput_eq, zput_eq, zbd_some, nI_1]
      simp only [zo, hsu]
      obtain ⟨s3, hs3⟩ : ∃ s3, s3 = zu (zu (zu s (t + 15 + j) 0 (σ (u + 15 + j) 0)) (t + 15 + j) 1 (σ (u + 15 + j) 1)) (t + 15 + j) 2 (σ (u + 15 + j) 2) := ⟨_, rfl⟩
      rw [← hs3]
      have e3 : ∀ o, o ≠ t + 15 + j → s3 o = s o := fun o h1 => by rw [hs3, zu_o h1, zu_o h1, zu_o h1]
      refine ih (j + 1) n s3 (by omega) (by omega) ⟨fun o ho => by rw [e3 o (by omega)]; exact hC.1 o ho, fun a ha k hk => by rw [e3 _ (by omega)]; exact hC.2.1 a ha k hk, fun a ha k hk => ?_, fun a ha => absurd ha (by omega)⟩
      by_cases haj : a = j
      · subst haj
        have : k = 0 ∨ k = 1 ∨ k = 2 := by omega
        rcases this with rfl | rfl | rfl
        · rw [hs3, zu_k (by decide), zu_k (by decide), zu_at]
        · rw [hs3, zu_k (by decide), zu_at]
        · rw [hs3, zu_at]
      · rw [e3 _ (by omega)]
        exact hC.2.2.1 a (by omega) k hk
  have k2 : ∀ (d j n : Nat) (s : ZS), j + d = 8 → d < n → Cpd σ s t u j 0 0 → ∃ σ', f5_copyFrom_2 k t n u (nI j) s = some ((), σ') ∧ RS σ' t R ∧ ∀ o, (o < t ∨ t + 27 ≤ o) → σ' o = σ o := by
    intro d
    induction d with
    | zero =>
      intro j n s hj hn hC
      obtain ⟨n, rfl⟩ : ∃ q, n = q + 1 := ⟨n - 1, by omega⟩
      have : j = 8 := by omega
      subst this
      show ∃ σ', b5_copyFrom_2 k t _ u 8 s = _ ∧ _
      unfold b5_copyFrom_2
      rw [if_pos (by decide)]
      exact k34 6 0 k s rfl (by omega) hC
    | succ d ih =>
      intro j n s hj hn hC
      obtain ⟨n, rfl⟩ : ∃ q, n = q + 1 := ⟨n - 1, by omega⟩
      have hj2 : j < 8 := by omega
      have hz : zin (nI j) 8 := nI_z hj2 (by decide)
      show ∃ σ', b5_copyFrom_2 k t (f5_copyFrom_2 k t n) u (nI j) s = _ ∧ _
      unfold b5_copyFrom_2
      have hsu : s (u + 7 + j) = σ (u + 7 + j) := hC.1 _ (by omega)
      have zo : ∀ (z : ZS) (i : Nat) (v : Int32), zu z (t + 7 + j) i v (u + 7 + j) = z (u + 7 + j) := fun z i v => zu_o (by omega)
      rw [if_neg (by rw [Int32.le_iff_toInt_le, nI_toInt (by omega), t_8]; omega), if_pos hz, if_pos hu.s6, if_pos hz, nI_nat (n := j) (by omega), f0_copyFrom, if_pos (ht.s1 hj2), if_pos (hu.s1 hj2), zput_eq, zput_eq, zput_eq, zput_eq, zput_eq, zbd_some, nI_1]
      simp only [zo, hsu]
      obtain ⟨s3, hs3⟩ : ∃ s3, s3 = zu (zu (zu (zu (zu s (t + 7 + j) 0 (σ (u + 7 + j) 0)) (t + 7 + j) 1 (σ (u + 7 + j) 1)) (t + 7 + j) 2 (σ (u + 7 + j) 2)) (t + 7 + j) 3 (σ (u + 7 + j) 3)) (t + 7 + j) 4 (σ (u + 7 + j) 4) := ⟨_, rfl⟩
      rw [← hs3]
      have e3 : ∀ o, o ≠ t + 7 + j → s3 o = s o := fun o h1 => by rw [hs3, zu_o h1, zu_o h1, zu_o h1, zu_o h1, zu_o h1]
      refine ih (j + 1) n s3 (by omega) (by omega) ⟨fun o ho => by rw [e3 o (by omega)]; exact hC.1 o ho, fun a ha k hk => ?_, fun a ha => absurd ha (by omega), fun a ha => absurd ha (by omega)⟩
      by_cases haj : a = j
      · subst haj
        have : k = 0 ∨ k = 1 ∨ k = 2 ∨ k = 3 ∨ k = 4 := by omega
        rcases this with rfl | rfl | rfl | rfl | rfl
        · rw [hs3, zu_k (by decide), zu_k (by decide), zu_k (by decide), zu_k (by decide), zu_at]
        · rw [hs3, zu_k (by decide), zu_k (by decide), zu_k (by decide), zu_at]
        · rw [hs3, zu_k (by decide), zu_k (by decide), zu_at]
        · rw [hs3, zu_k (by decide), zu_at]
        · rw [hs3, zu_at]
      · rw [e3 _ (by omega)]
        exact hC.2.1 a (by omega) k hk
  rw [f5_copyFrom, if_pos ht.s6]
  exact k2 8 0 k σ rfl (by omega) ⟨fun _ _ => rfl, fun a ha => absurd ha (by omega), fun a ha => absurd ha (by omega), fun a ha => absurd ha (by omega)⟩
theorem s9_copy {k a b : Nat} {σ : ZS} (hk : 400 ≤ k) (ha : zsh a = 15 ∧ zln a = 390) (hb : zsh b = 15 ∧ zln b = 390) (hab : a ≠ b) : ∃ σ', f9_copyAll k a b σ = some ((), σ') ∧ (∀ i, i < 390 → σ' b i = σ a i) ∧ ∀ o, o ≠ b → σ' o = σ o := by
  have key : ∀ (d j n : Nat) (s : ZS), j + d = 390 → d < n → (∀ i, i < j → s b i = σ a i) → (∀ o, o ≠ b → s o = σ o) → ∃ σ', f9_copyAll_2 k n a b (nI j) s = some ((), σ') ∧ (∀ i, i < 390 → σ' b i = σ a i) ∧ ∀ o, o ≠ b → σ' o = σ o := by
    intro d
    induction d with
    | zero =>
      intro j n s hj hn h1 h2
      obtain ⟨n, rfl⟩ : ∃ q, n = q + 1 := ⟨n - 1, by omega⟩
      have : j = 390 := by omega
      subst this
      show ∃ σ', b9_copyAll_2 k _ a b 390 s = _ ∧ _
      unfold b9_copyAll_2
      rw [if_pos (by decide)]
      exact ⟨s, rfl, h1, h2⟩
    | succ d ih =>
      intro j n s hj hn h1 h2
      obtain ⟨n, rfl⟩ : ∃ q, n = q + 1 := ⟨n - 1, by omega⟩
      show ∃ σ', b9_copyAll_2 k (f9_copyAll_2 k n) a b (nI j) s = _ ∧ _
      unfold b9_copyAll_2
      rw [if_neg (by rw [Int32.le_iff_toInt_le, nI_toInt (by omega), t_390]; omega), if_pos ha.1, if_pos (by rw [ha.2]; exact nI_z (by omega) (by decide)), if_pos hb.1, if_pos (by rw [hb.2]; exact nI_z (by omega) (by decide)), zput_eq, nI_nat (by omega), nI_1]
      refine ih (j + 1) n _ (by omega) (by omega) (fun i hi => ?_) (fun o ho => by rw [zu_o ho]; exact h2 o ho)
      by_cases hij : i = j
      · subst hij; rw [zu_at, h2 a hab]
      · rw [zu_k hij]; exact h1 i (by omega)
  exact key 390 0 k σ rfl (by omega) (fun i hi => absurd hi (by omega)) (fun _ _ => rfl)
/-- rows that are alike where a street reads them -/
theorem RS.rows {σ : ZS} {t : Nat} {R R' : Nat → Int32} {hb : Int} (h : RS σ t R) (hW : WF hb R) (e : ∀ i, i < 390 → R' i = R i) : RS σ t R' := by
  obtain ⟨⟨a1, a2, a3, a4, a5, a6⟩, b, c, d, f, i, j1, j2⟩ := h
  have hn := hW.1.ng
  refine ⟨?_, fun g hg k hk => ?_, fun p hp k hk => ?_, fun j hj => ?_, fun j hj => ?_, fun c hc => ?_, j1.congr rfl rfl (fun i h1 h2 => e i (by omega)) hW.2.2.1.len.2, j2.congr rfl rfl (fun i h1 h2 => e i (by omega)) hW.2.2.2.len.2⟩
  · rw [e 0 (by omega), e 1 (by omega), e 2 (by omega), e 3 (by omega), e 4 (by omega), e 5 (by omega)]
    exact ⟨a1, a2, a3, a4, a5, a6⟩
  · rw [e _ (by omega)]; exact b g hg k hk
  · rw [e _ (by omega)]; exact c p hp k hk
  · rw [e _ (by omega)]; exact d j hj
  · rw [e _ (by omega)]; exact f j hj
  · rw [i c hc]
    exact (gat_congr (e 2 (by omega)) (fun j hj => e _ (by omega)) _).symm
theorem WF.rows {R R' : Nat → Int32} {hb : Int} (hW : WF hb R) (e : ∀ i, i < 390 → R' i = R i) : WF hb R' := by
  have hn := hW.1.ng
  refine ⟨fun i hi => by rw [e i (by omega)]; exact hW.1 i hi, fun g g' h1 h2 h3 => ?_, hW.2.2.congr fun i h1 h2 => e i h2⟩
  rw [e 2 (by omega)] at h1 h2
  rw [e _ (by omega), e _ (by omega)] at h3
  exact hW.2.1 g g' h1 h2 h3
