/-! voice -/
theorem tf_len (K J : Int32) : (tf K J).length ≤ 8 := by
  have := ti_len K K
  unfold tf
  split
  · show (ti K K).length + 1 + 1 ≤ 8; omega
  · split
    · show (ti K K).length + 1 + 1 ≤ 8; omega
    · show (ti K K).length + 1 ≤ 8; omega
theorem tp_len (K a mm : Int32) : (tp K a mm).length ≤ 8 := by
  have := ti_len K K
  have h2 : (if mm - a = 0 then ([] : List Int32) else ti K K).length ≤ 6 := by
    split
    · exact Nat.zero_le _
    · exact this
  unfold tp
  split
  · show (if mm - a = 0 then ([] : List Int32) else ti K K).length + 1 + 1 ≤ 8; omega
  · split
    · show (if mm - a = 0 then ([] : List Int32) else ti K K).length + 1 + 1 ≤ 8; omega
    · exact by decide
section
variable {m k : Nat} {σ : ZS}
theorem Rel.voi {m' : Nat} {σ' : ZS} (h : Rel m σ) (hm : m ≤ m') (e : ∀ o, (o ≤ 55 ∨ o = 92 ∨ (94 ≤ o ∧ o ≤ 102) ∨ o = 104 ∨ o = 105 ∨ (107 ≤ o ∧ o ≤ 110)) → σ' o = σ o) (e3 : σ' 103 3 = σ 103 3) (hV : Vo σ') : Rel m' σ' := by
  obtain ⟨h1, h2, ⟨i1, i2, i3, i4⟩, h4, h5, h6⟩ := h
  refine ⟨?_, ?_, ⟨?_, ?_, ?_, fun hn => ?_⟩, fun i q1 q2 => ?_, fun s hs => ?_, hV⟩
  · rw [e 104 (by omega)]
    exact h1.congr h2.2.2 fun o q1 q2 => e o (by omega)
  · rw [e 104 (by omega)]; exact h2
  · rw [e 1 (by omega), e3]; exact i1
  · rw [e3]; omega
  · rw [e 1 (by omega), e3]; exact i3
  · rw [e3] at hn
    obtain ⟨q1, q2⟩ := i4 hn
    rw [e 105 (by omega)]
    exact ⟨q1.congr q2.2.2 fun o q1 q2 => e o (by omega), q2⟩
  · rw [e 94 (by omega), e 107 (by omega)]; exact h4 i q1 q2
  · rw [e 108 (by omega), e 109 (by omega), e 110 (by omega), e (95 + 2 * s) (by omega), e (96 + 2 * s) (by omega)]
    exact h5 s hs
theorem voi_fin (h : Rel m σ) {F8 F9 : ZS → Option (Int32 × ZS)} {P : Prop} {K a mm v : Int32} {tr : List Int32} (htr : tr.length ≤ 30)
  (h8 : ∃ r s', F8 σ = (if s' 90 2 = 0 then some (r, s') else zbd (f8_error k 6 s') fun r s => some (r, s)) ∧ VF σ s' ∧ ((P ∧ PS (σ 91) tr s') ∨ (¬ P ∧ r = v ∧ VS K a mm (σ 91) tr s')))
  (h9 : ∀ z : ZS, (∀ o, o ≠ 90 → o ≠ 91 → o ≠ 94 → z o = σ o) → ∃ r s', F9 z = (if s' 103 26 = 0 then some (r, s') else zbd (f9_error k (-1000000006) s') fun r s => some (r, s)) ∧ MF z s' ∧ ((P ∧ PM (σ 104) (σ 118) tr s') ∨ (¬ P ∧ r = v ∧ VM (σ 104) (σ 118) tr s'))) : opk m F8 F9 σ := by
  obtain ⟨r, s1, e1, e2, e3⟩ := h8
  have vo : ∀ s2 : ZS, s2 90 1 = nI tr.length → s2 91 = trw (σ 91) tr → s2 103 25 = nI tr.length → s2 118 = trw (σ 118) tr → Vo s2 := by
    intro s2 q1 q2 q3 q4
    unfold Vo
    rw [q1, q2, q3, q4, nI_toInt (by omega)]
    refine ⟨rfl, by omega, fun i hi => ?_⟩
    unfold trw
    by_cases c : i < tr.length
    · rw [if_pos c, if_pos c]
    · rw [if_neg c, if_neg c]; exact h.2.2.2.2.2.2.2 i hi
  rcases e3 with ⟨c, g1, g2, g3⟩ | ⟨c, hr, g1, g2, g3, -⟩
  · obtain ⟨r2, s2, f1, f2, f3⟩ := h9 (zu s1 94 6 (s1 94 6 + 1)) fun o q1 q2 q3 => by rw [zu_o q3]; exact e2 o q1 q2
    rcases f3 with ⟨-, k0, k1, k2, k3⟩ | ⟨c', -⟩
    · refine ⟨-1000000006, zu s1 94 6 (s1 94 6 + 1), zu s2 107 6 (s2 107 6 + 1), by rw [e1, g3, if_neg (by decide), e8_6]; rfl, by rw [f1, k3, if_neg (by decide), e9_6]; rfl, (h.err (e := 6) (by decide)).voi (Nat.le_refl _) (fun o ho => ?_) ?_ (vo _ ?_ ?_ ?_ ?_)⟩
      · by_cases ho7 : o = 107
        · subst ho7
          rw [zu_self, zu_self, f2.1 107 (by decide) (by decide), zu_o (by decide), e2 107 (by decide) (by decide), zu_o (by decide)]
        · rw [zu_o ho7, zu_o ho7, f2.1 o (by omega) (by omega)]
          by_cases ho4 : o = 94
          · subst ho4
            rw [zu_self, zu_self, e2 94 (by decide) (by decide)]
          · rw [zu_o ho4, zu_o ho4, e2 o (by omega) (by omega)]
      · rw [zu_o (by decide), f2.2 3 (by decide) (by decide), zu_o (by decide), e2 103 (by decide) (by decide), zu_o (by decide), zu_o (by decide)]
      · rw [zu_o (by decide), f2.1 90 (by decide) (by decide), zu_o (by decide)]; exact g1
      · rw [zu_o (by decide), f2.1 91 (by decide) (by decide), zu_o (by decide)]; exact g2
      · rw [zu_o (by decide)]; exact k1
      · rw [zu_o (by decide)]; exact k2
    · exact absurd c c'
  · obtain ⟨r2, s2, f1, f2, f3⟩ := h9 s1 fun o q1 q2 q3 => e2 o q1 q2
    rcases f3 with ⟨c', -⟩ | ⟨-, hr2, k0, k1, k2, k3⟩
    · exact absurd c' c
    · refine ⟨v, s1, s2, by rw [e1, g3, if_pos rfl, hr], by rw [f1, k3, if_pos rfl, hr2], h.voi (by omega) (fun o ho => by rw [f2.1 o (by omega) (by omega), e2 o (by omega) (by omega)]) (by rw [f2.2 3 (by decide) (by decide), e2 103 (by decide) (by decide)]) (vo _ ?_ ?_ k1 k2)⟩
      · rw [f2.1 90 (by decide) (by decide)]; exact g1
      · rw [f2.1 91 (by decide) (by decide)]; exact g2
theorem op_voice (hk : 30 ≤ k) (h : Rel m σ) (a w x : Int32) : opk m (f8_voice k a w x) (f9_voice k a w x) σ := by
  have hn := h.2.1.1.ng
  by_cases c1 : 0 ≤ a.toInt ∧ a.toInt < (σ 104 2).toInt
  · have hg : a.toInt.toNat < 8 := by omega
    have hgl := h.2.1.1.gl hg
    by_cases c2 : 0 ≤ w.toInt ∧ w.toInt ≤ 3
    · obtain ⟨K, eK⟩ : ∃ K, σ 104 (6 + 5 * a.toInt.toNat + 0) = K := ⟨_, rfl⟩
      obtain ⟨mm, eM⟩ : ∃ mm, σ 104 (6 + 5 * a.toInt.toNat + 1) = mm := ⟨_, rfl⟩
      have hK : W7 K := W7.of (by rw [← eK]; exact hgl.1)
      have ha8 : 0 ≤ a.toInt ∧ a.toInt < 8 := by omega
      obtain ⟨s6, hs6⟩ : ∃ s6, s6 = zu (zu (zu (zu (zu σ 90 3 K) 90 4 a) 90 5 mm) 90 1 0) 90 2 0 := ⟨_, rfl⟩
      have hVF : VF σ s6 := fun o q1 q2 => by rw [hs6, zu_o q1, zu_o q1, zu_o q1, zu_o q1, zu_o q1]
      have hVS : VS K a mm (σ 91) [] s6 := by
        refine ⟨?_, ?_, ?_, ?_, ?_, ?_⟩
        · rw [hs6, zu_k (by decide), zu_at]; rfl
        · rw [trw_nil, hs6, zu_o (by decide), zu_o (by decide), zu_o (by decide), zu_o (by decide), zu_o (by decide)]
        · rw [hs6, zu_at]
        · rw [hs6, zu_k (by decide), zu_k (by decide), zu_k (by decide), zu_k (by decide), zu_at]
        · rw [hs6, zu_k (by decide), zu_k (by decide), zu_k (by decide), zu_at]
        · rw [hs6, zu_k (by decide), zu_k (by decide), zu_at]
      have r8 : ∀ r s', fVO k 60 0 [K, w, x, nI 0] s6 = some (r, s') → f8_voice k a w x σ = (if s' 90 2 = 0 then some (r, s') else zbd (f8_error k 6 s') fun r s => some (r, s)) := by
        intro r s' hr
        have hr' : f7_sayx k K w x 0 s6 = some (r, s') := hr
        rw [f8_voice, h.gl8, zbd_some, if_pos c1, if_neg (by omega), if_neg (by rw [Int32.lt_iff_toInt_lt, t_0]; omega), if_pos (by rw [Int32.lt_iff_toInt_lt, t_4]; omega), f7_answer, if_pos (sh_g hg), zput_eq, zput_eq, zput_eq, zput_eq, zput_eq, zu_o (a := 2 + 7 + a.toInt.toNat) (by omega), zu_o (a := 2 + 7 + a.toInt.toNat) (by omega), h.1.2.1 _ hg 0 (by decide), h.1.2.1 _ hg 1 (by decide), eK, eM, ← hs6, hVS.2.2.2.1, hr', zbd_some, zbd_some]
      have hz9 : ∀ z : ZS, (∀ o, o ≠ 90 → o ≠ 91 → o ≠ 94 → z o = σ o) → VM (σ 104) (σ 118) [] (zu (zu z 103 25 0) 103 26 0) ∧ MF z (zu (zu z 103 25 0) 103 26 0) := by
        intro z hz
        refine ⟨⟨?_, ?_, ?_, ?_⟩, fun o q1 q2 => by rw [zu_o q1, zu_o q1], fun i q1 q2 => by rw [zu_k q2, zu_k q1]⟩
        · rw [zu_o (by decide), zu_o (by decide)]; exact hz 104 (by decide) (by decide) (by decide)
        · rw [zu_k (by decide), zu_at]; rfl
        · rw [trw_nil, zu_o (by decide), zu_o (by decide)]; exact hz 118 (by decide) (by decide) (by decide)
        · rw [zu_at]
      have good : ∀ (v : Int32) (tr : List Int32) (F : ZS → Option (Int32 × ZS)), tr.length ≤ 30 → Sd k K a mm (σ 91) [] s6 60 0 K w x v tr → (∀ z, VM (σ 104) (σ 118) [] z → Md F (σ 104) (σ 118) [] z v tr) → (∀ z : ZS, z 104 = σ 104 → f9_voice k a w x z = zbd (F (zu (zu z 103 25 0) 103 26 0)) fun r s => if s 103 26 = 0 then some (r, s) else zbd (f9_error k (-1000000006) s) fun r s => some (r, s)) → opk m (f8_voice k a w x) (f9_voice k a w x) σ := by
        intro v tr F htr hS hM hF
        refine voi_fin (k := k) (P := False) (K := K) (a := a) (mm := mm) (v := v) h htr ?_ fun z hz => ?_
        · obtain ⟨s', q1, q2, q3⟩ := hS
          exact ⟨v, s', r8 v s' q1, fun o p1 p2 => by rw [q3 o p1 p2, hVF o p1 p2], Or.inr ⟨id, rfl, q2⟩⟩
        · obtain ⟨y1, y2⟩ := hz9 z hz
          obtain ⟨s', q1, q2, q3⟩ := hM _ y1
          exact ⟨v, s', by rw [hF z (hz 104 (by decide) (by decide) (by decide)), q1, zbd_some], y2.tr q3, Or.inr ⟨id, rfl, q2⟩⟩
      have r9 : ∀ z : ZS, z 104 = σ 104 → ∀ y, (zput (zu z 103 25 (0 : Int32)) fun s7 => zput (zu s7 103 26 (0 : Int32)) fun s8 => if w = 0 then (zbd (f9_gleams k a x s8) fun r s => if s 103 26 = 0 then some (r, s) else zbd (f9_error k (-1000000006) s) fun r s => some (r, s)) else if w = 1 then (zbd (f9_glints k a x s8) fun r s => if s 103 26 = 0 then some (r, s) else zbd (f9_error k (-1000000006) s) fun r s => some (r, s)) else if w = 2 then (zbd (f9_fades k a x s8) fun r s => if s 103 26 = 0 then some (r, s) else zbd (f9_error k (-1000000006) s) fun r s => some (r, s)) else (zbd (f9_parts k a x s8) fun r s => if s 103 26 = 0 then some (r, s) else zbd (f9_error k (-1000000006) s) fun r s => some (r, s))) = y → f9_voice k a w x z = y := by
        intro z hz y hy
        rw [← hy, f9_voice, h.ig9 hz, zbd_some, if_pos c1, if_neg (by decide), s9_in, zbd_some, t_0, t_3, if_pos c2, if_neg (by decide)]
      have hw : W4 w := W4.of c2
      rcases hw with rfl | rfl | rfl | rfl
      · exact good (vg K a x) (tg K) (f9_gleams k a x) (by have := tg_len K; omega) (gle8 (by omega) hK (by omega) (by omega) (Nat.zero_le _) hVS) (fun z hz => gle9 ha8 eK hK (by decide) hz) fun z hz => r9 z hz _ (by rw [zput_eq, zput_eq, if_pos rfl])
      · exact good (vi K K a mm x) (ti K K) (f9_glints k a x) (by have := ti_len K K; omega) (gli8 (by omega) hK hK (by omega) (by omega) (Nat.zero_le _) hVS) (fun z hz => gli9 ha8 eK eM hK (by decide) hz) fun z hz => r9 z hz _ (by rw [zput_eq, zput_eq, if_neg (by decide), if_pos rfl])
      · exact good (vf K K a mm x) (tf K K) (f9_fades k a x) (by have := tf_len K K; omega) (fad8 (by omega) hK hK (by omega) (by omega) (Nat.zero_le _) hVS) (fun z hz => fad9 ha8 eK eM hK (by decide) hz) fun z hz => r9 z hz _ (by rw [zput_eq, zput_eq, if_neg (by decide), if_neg (by decide), if_pos rfl])
      · refine voi_fin (k := k) (P := mm - a = 0) (K := K) (a := a) (mm := mm) (v := vp K a mm x) (tr := tp K a mm) h (by have := tp_len K a mm; omega) ?_ fun z hz => ?_
        · obtain ⟨r, s', q1, q2, q3⟩ := par8 (k := k) (x := x) (D := 60) (d := 0) (by omega) hK (by omega) (by omega) (Nat.zero_le _) hVS
          exact ⟨r, s', r8 r s' q1, fun o p1 p2 => by rw [q2 o p1 p2, hVF o p1 p2], q3⟩
        · obtain ⟨y1, y2⟩ := hz9 z hz
          obtain ⟨r, s', q1, q2, q3⟩ := par9 (k := k) (x := x) ha8 eK eM hK (by decide) y1
          exact ⟨r, s', r9 z (hz 104 (by decide) (by decide) (by decide)) _ (by rw [zput_eq, zput_eq, if_neg (by decide), if_neg (by decide), if_neg (by decide), q1, zbd_some]), y2.tr q2, q3⟩
    · refine opk_e1 h ?_ fun s hs => ?_
      · rw [f8_voice, h.gl8, zbd_some, if_pos c1, if_neg (by omega)]
        by_cases c3 : w < 0
        · rw [if_pos c3, e8_1]; rfl
        · rw [if_neg c3, if_neg (by rw [Int32.lt_iff_toInt_lt, t_0] at c3; rw [Int32.lt_iff_toInt_lt, t_4]; omega), e8_1]; rfl
      · rw [f9_voice, h.ig9 (hs _ (by decide)), zbd_some, if_pos c1, if_neg (by decide), s9_in, zbd_some, t_0, t_3, if_neg c2, if_pos rfl, e9_1]; rfl
  · refine opk_e1 h ?_ fun s hs => ?_
    · rw [f8_voice, h.gl8, zbd_some, if_neg c1, if_pos rfl, e8_1]; rfl
    · rw [f9_voice, h.ig9 (hs _ (by decide)), zbd_some, if_neg c1, if_pos rfl, e9_1]; rfl
end
