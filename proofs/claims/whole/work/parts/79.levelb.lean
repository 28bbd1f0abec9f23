/-! texts read: the levels -/
section
variable {k n u dep : Nat} {B R : Nat → Int32}
theorem lv_gen (hk : 100 ≤ k) (hn : n ≤ 60) (hR4 : R 4 = nI n) (hRB : ∀ j, j < n → R (64 + j) = B j) {l D : Nat} (hl : l < 5) (hl2 : l ≠ 2) {rcM : ZS → Option (Int32 × ZS)} (hP : BO n u B R (fRD k D 0 [nI (l + 1), nI dep]) rcM dep) {lp : Nat → ZS → Option (Unit × ZS)}
  (hb : ∀ q s, ¬ s 103 21 = 0 → lp (q + 1) s = some ((), s))
  (hs0 : ∀ q s c, s 103 21 = 0 → f9_byteHere k s = some (c, s) → ¬ lev c = nI l → lp (q + 1) s = some ((), s))
  (hs1 : ∀ q s c, s 103 21 = 0 → f9_byteHere k s = some (c, s) → lev c = nI l → lp (q + 1) s = zbd (rcM (zu s 103 19 (s 103 19 + 1))) fun _ s3 => zbd (f9_step k c 0 s3) fun _ s4 => lp q s4) :
  BO n u B R (fRD k (D + 2) 0 [nI l, nI dep]) (fun s => zbd (zbd (rcM s) fun _ s1 => lp k s1) fun _ s => some ((0 : Int32), s)) dep := by
  intro i L hi hL
  obtain ⟨j1, o1, C1, M1, G1, G2⟩ := hP i L hi hL
  have c8 : ∀ s y, (zbd (zbd (fRD k D 0 [nI (l + 1), nI dep] s) fun r1 s1 => if r1 = 0 then some ((0 : Int32), s1) else f3_readLevel_15 k (fRD k D) k (nI l) (nI dep) (nI 0) s1) fun r2 s2 => if zbo r2 then some (r2, s2) else none) = y → fRD k (D + 2) 0 [nI l, nI dep] s = y := by
    intro s y hy
    show f3_readPart k (fRD k (D + 1)) (nI l) (nI dep) s = _
    rw [f3_readPart, if_pos (by rw [Int32.lt_iff_toInt_lt, nI_toInt (by omega), t_5]; omega)]
    show zbd (f3_readLevel k (fRD k D) (nI l) (nI dep) s) _ = _
    rw [f3_readLevel, nI_1]
    exact hy
  cases o1 with
  | none =>
    refine ⟨j1, none, fun s hs => ?_, fun s hs => ?_, G1, fun N hN => absurd hN (by simp)⟩
    · obtain ⟨s', e1, e2⟩ := C1 s hs
      rcases e2 with ⟨-, e3, e4⟩ | ⟨N, e3, -⟩
      · exact ⟨s', e1, Or.inl ⟨rfl, c8 s _ (by rw [e3, zbd_some, if_pos rfl, zbd_some, if_pos (Or.inl rfl)]), e4⟩⟩
      · exact absurd e3 (by simp)
    · obtain ⟨r, s', e1, e2, e3⟩ := M1 s hs
      rcases e3 with ⟨-, e4⟩ | ⟨N, e3, -⟩
      · obtain ⟨k, rfl⟩ : ∃ q, k = q + 1 := ⟨k - 1, by omega⟩
        refine ⟨0, s', ?_, e2, Or.inl ⟨rfl, e4⟩⟩
        show zbd (zbd (rcM s) _) _ = _
        rw [e1, zbd_some, hb k s' (by rw [e4.2.2.1]; decide), zbd_some]
      · exact absurd e3 (by simp)
  | some N1 =>
    obtain ⟨g1, g2, g3⟩ := G2 N1 rfl
    have hl1 : (L ++ N1).length ≤ j1 := by rw [List.length_append]; omega
    obtain ⟨j, o, C2, M2, G3, G4⟩ := lv_loop (k := k) hn hR4 hRB hl hl2 hP hb hs0 hs1 (n - j1) j1 0 k k (L ++ N1) (by omega) G1 hl1 (by omega) (by omega) (by omega)
    have as : ∀ N2 : List (Int32 × Int32), L ++ N1 ++ N2 = L ++ (N1 ++ N2) := fun N2 => List.append_assoc _ _ _
    refine ⟨j, o.map (fun N2 => N1 ++ N2), fun s hs => ?_, fun s hs => ?_, G3, fun N hN => ?_⟩
    · obtain ⟨s', e1, e2⟩ := C1 s hs
      rcases e2 with ⟨e3, -⟩ | ⟨N, e3, e4, e5⟩
      · exact absurd e3 (by simp)
      · obtain rfl : N1 = N := by simpa using e3
        obtain ⟨s10, h1, h2⟩ := C2 s' e5
        refine ⟨s10, e1.tr h1, ?_⟩
        rcases h2 with ⟨h3, h4, h5⟩ | ⟨N2, h3, h4, h5⟩
        · exact Or.inl ⟨by rw [h3]; rfl, c8 s _ (by rw [e4, zbd_some, if_neg (by decide), h4, zbd_some, if_pos (Or.inl rfl)]), h5⟩
        · exact Or.inr ⟨N1 ++ N2, by rw [h3]; rfl, c8 s _ (by rw [e4, zbd_some, if_neg (by decide), h4, zbd_some, if_pos (Or.inr rfl)]), by rw [← as]; exact h5⟩
    · obtain ⟨r, s', e1, e2, e3⟩ := M1 s hs
      rcases e3 with ⟨e4, -⟩ | ⟨N, e4, e5⟩
      · exact absurd e4 (by simp)
      · obtain rfl : N1 = N := by simpa using e4
        obtain ⟨r2, s5, h1, h2, h3⟩ := M2 s' e5
        refine ⟨0, s5, ?_, e2.tr h2, ?_⟩
        · show zbd (zbd (rcM s) _) _ = _
          rw [e1, zbd_some, h1, zbd_some]
        · rcases h3 with ⟨h4, h5⟩ | ⟨N2, h4, h5⟩
          · exact Or.inl ⟨by rw [h4]; rfl, h5⟩
          · exact Or.inr ⟨N1 ++ N2, by rw [h4]; rfl, by rw [← as]; exact h5⟩
    · cases o with
      | none => exact absurd hN (by simp)
      | some N2 =>
        obtain rfl : N1 ++ N2 = N := by simpa using hN
        obtain ⟨y1, y2, y3⟩ := G4 N2 rfl
        exact ⟨by omega, by rw [List.length_append]; omega, fun h => vl_app N1 _ _ _ _ (g3 h) (y3 h)⟩
theorem lv_4 (hk : 100 ≤ k) (hn : n ≤ 60) (hR4 : R 4 = nI n) (hRB : ∀ j, j < n → R (64 + j) = B j) {D E : Nat} (hP : BO n u B R (fRD k D 0 [5, nI dep]) (fPA k E 1 []) dep) : BO n u B R (fRD k (D + 2) 0 [4, nI dep]) (fPA k (E + 1) 2 []) dep := by
  refine lv_gen (l := 4) (rcM := fPA k E 1 []) (lp := f9_times_4 k (fPA k E)) hk hn hR4 hRB (by decide) (by decide) hP (fun q s h => ?_) (fun q s c h hc hS => ?_) (fun q s c h hc hS => ?_)
  · show b9_times_4 k _ _ s = _
    rw [b9_times_4, if_neg h]
  · show b9_times_4 k _ _ s = _
    rw [b9_times_4, if_pos h, hc, zbd_some, if_neg (fun q => hS (by rw [q]; rfl)), hc, zbd_some, if_neg (fun q => hS (by rw [q]; rfl)), hc, zbd_some, if_neg (fun q => hS (by rw [q]; rfl))]
  · show b9_times_4 k _ _ s = _
    rw [b9_times_4, if_pos h, hc, zbd_some]
    rcases lev_4 hS with rfl | rfl | rfl
    · rw [if_neg (by decide), hc, zbd_some, if_neg (by decide), hc, zbd_some, if_pos rfl, b9_times_38, hc, zbd_some, zput_eq]
    · rw [if_pos rfl, b9_times_38, hc, zbd_some, zput_eq]
    · rw [if_neg (by decide), hc, zbd_some, if_pos rfl, b9_times_38, hc, zbd_some, zput_eq]
theorem lv_3 (hk : 100 ≤ k) (hn : n ≤ 60) (hR4 : R 4 = nI n) (hRB : ∀ j, j < n → R (64 + j) = B j) {D E : Nat} (hP : BO n u B R (fRD k D 0 [4, nI dep]) (fPA k E 2 []) dep) : BO n u B R (fRD k (D + 2) 0 [3, nI dep]) (fPA k (E + 1) 3 []) dep := by
  refine lv_gen (l := 3) (rcM := fPA k E 2 []) (lp := f9_sum_4 k (fPA k E)) hk hn hR4 hRB (by decide) (by decide) hP (fun q s h => ?_) (fun q s c h hc hS => ?_) (fun q s c h hc hS => ?_)
  · show b9_sum_4 k _ _ s = _
    rw [b9_sum_4, if_neg h]
  · show b9_sum_4 k _ _ s = _
    rw [b9_sum_4, if_pos h, hc, zbd_some, if_neg (fun q => hS (by rw [q]; rfl)), hc, zbd_some, if_neg (fun q => hS (by rw [q]; rfl))]
  · show b9_sum_4 k _ _ s = _
    rw [b9_sum_4, if_pos h, hc, zbd_some]
    rcases lev_3 hS with rfl | rfl
    · rw [if_pos rfl, b9_sum_29, hc, zbd_some, zput_eq]
    · rw [if_neg (by decide), hc, zbd_some, if_pos rfl, b9_sum_29, hc, zbd_some, zput_eq]
theorem lv_1 (hk : 100 ≤ k) (hn : n ≤ 60) (hR4 : R 4 = nI n) (hRB : ∀ j, j < n → R (64 + j) = B j) {D E : Nat} (hP : BO n u B R (fRD k D 0 [2, nI dep]) (fPA k E 4 []) dep) : BO n u B R (fRD k (D + 2) 0 [1, nI dep]) (fPA k (E + 1) 5 []) dep := by
  refine lv_gen (l := 1) (rcM := fPA k E 4 []) (lp := f9_all_4 k (fPA k E)) hk hn hR4 hRB (by decide) (by decide) hP (fun q s h => ?_) (fun q s c h hc hS => ?_) (fun q s c h hc hS => ?_)
  · show b9_all_4 k _ _ s = _
    rw [b9_all_4, if_neg h]
  · show b9_all_4 k _ _ s = _
    rw [b9_all_4, if_pos h, hc, zbd_some, if_neg (fun q => hS (by rw [q]; rfl))]
  · show b9_all_4 k _ _ s = _
    rw [b9_all_4, if_pos h, hc, zbd_some]
    obtain rfl := lev_1 hS
    rw [if_pos rfl, zput_eq]
theorem lv_0 (hk : 100 ≤ k) (hn : n ≤ 60) (hR4 : R 4 = nI n) (hRB : ∀ j, j < n → R (64 + j) = B j) {D E : Nat} (hP : BO n u B R (fRD k D 0 [1, nI dep]) (fPA k E 5 []) dep) : BO n u B R (fRD k (D + 2) 0 [0, nI dep]) (fPA k (E + 1) 6 []) dep := by
  refine lv_gen (l := 0) (rcM := fPA k E 5 []) (lp := f9_any_4 k (fPA k E)) hk hn hR4 hRB (by decide) (by decide) hP (fun q s h => ?_) (fun q s c h hc hS => ?_) (fun q s c h hc hS => ?_)
  · show b9_any_4 k _ _ s = _
    rw [b9_any_4, if_neg h]
  · show b9_any_4 k _ _ s = _
    rw [b9_any_4, if_pos h, hc, zbd_some, if_neg (fun q => hS (by rw [q]; rfl))]
  · show b9_any_4 k _ _ s = _
    rw [b9_any_4, if_pos h, hc, zbd_some]
    obtain rfl := lev_0 hS
    rw [if_pos rfl, zput_eq]
/-- the level that compares once -/
theorem lv_2 (hk : 100 ≤ k) (hn : n ≤ 60) (hR4 : R 4 = nI n) (hRB : ∀ j, j < n → R (64 + j) = B j) {D E : Nat} (hP : BO n u B R (fRD k D 0 [3, nI dep]) (fPA k E 3 []) dep) : BO n u B R (fRD k (D + 2) 0 [2, nI dep]) (fPA k (E + 1) 4 []) dep := by
  intro i L hi hL
  obtain ⟨j1, o1, C1, M1, G1, G2⟩ := hP i L hi hL
  have c8 : ∀ s y, (zbd (zbd (fRD k D 0 [3, nI dep] s) fun r1 s1 => if r1 = 0 then some ((0 : Int32), s1) else f3_readLevel_15 k (fRD k D) k 2 (nI dep) 0 s1) fun r2 s2 => if zbo r2 then some (r2, s2) else none) = y → fRD k (D + 2) 0 [2, nI dep] s = y := by
    intro s y hy
    show f3_readPart k (fRD k (D + 1)) 2 (nI dep) s = _
    rw [f3_readPart, if_pos (by decide)]
    show zbd (f3_readLevel k (fRD k D) 2 (nI dep) s) _ = _
    rw [f3_readLevel]
    exact hy
  have c9 : ∀ s y, (zbd (f9_compares k (fPA k E) s) fun _ s => some ((0 : Int32), s)) = y → fPA k (E + 1) 4 [] s = y := fun s y hy => hy
  have lp8 : ∀ s, CI n u B j1 (L ++ (o1.getD [])) s → ∀ y, (if lev (hr B n j1) = 2 then (zbd (fRD k D 0 [3, nI dep] (zu s 86 3 (s 86 3 + 1))) fun r7 s7 => if r7 = 0 then some ((0 : Int32), s7) else zbd (f6_add k 87 (-hr B n j1) s7) fun _ s9 => some ((1 : Int32), s9)) else some ((1 : Int32), s)) = y → f3_readLevel_15 k (fRD k D) k 2 (nI dep) 0 s = y := by
    intro s hs y hy
    obtain ⟨k, rfl⟩ : ∃ q, k = q + 1 := ⟨k - 1, by omega⟩
    show b3_readLevel_15 (k + 1) _ _ _ _ _ s = _
    rw [b3_readLevel_15, if_neg (by decide), sgn8 hn G1 hs, zbd_some, s3_lev, zbd_some, ← hy]
    by_cases c : lev (hr B n j1) = 2
    · rw [if_pos c, if_pos c, sgn8 hn G1 hs, zbd_some, zput_eq]
      rfl
    · rw [if_neg c, if_neg c]
  cases o1 with
  | none =>
    refine ⟨j1, none, fun s hs => ?_, fun s hs => ?_, G1, fun N hN => absurd hN (by simp)⟩
    · obtain ⟨s', e1, e2⟩ := C1 s hs
      rcases e2 with ⟨-, e3, e4⟩ | ⟨N, e3, -⟩
      · exact ⟨s', e1, Or.inl ⟨rfl, c8 s _ (by rw [e3, zbd_some, if_pos rfl, zbd_some, if_pos (Or.inl rfl)]), e4⟩⟩
      · exact absurd e3 (by simp)
    · obtain ⟨r, s', e1, e2, e3⟩ := M1 s hs
      rcases e3 with ⟨-, e4⟩ | ⟨N, e3, -⟩
      · refine ⟨0, s', c9 s _ ?_, e2, Or.inl ⟨rfl, e4⟩⟩
        rw [f9_compares, e1, zbd_some, byt9 hn hR4 hRB G1 e4.1 e4.2.1, zbd_some, if_neg (by rw [e4.2.2.1]; decide), zbd_some]
      · exact absurd e3 (by simp)
  | some N1 =>
    obtain ⟨g1, g2, g3⟩ := G2 N1 rfl
    have hl1 : (L ++ N1).length ≤ j1 := by rw [List.length_append]; omega
    have lp8' : ∀ s, CI n u B j1 (L ++ N1) s → ∀ y, _ = y → f3_readLevel_15 k (fRD k D) k 2 (nI dep) 0 s = y := lp8
    by_cases hS : lev (hr B n j1) = 2
    · have hin := hr_end (l := 2) (by decide) hS
      have hsg := lev_sgn (l := 2) (by decide) hS
      obtain ⟨c, hc⟩ : ∃ c, c = hr B n j1 := ⟨_, rfl⟩
      rw [← hc] at hS hsg lp8'
      have r9 : ∀ s1, MI u R dep j1 (L ++ N1) s1 → ∀ s, fPA k E 3 [] s = some (0, s1) ∨ (∃ r, fPA k E 3 [] s = some (r, s1)) → f9_compares k (fPA k E) s = zbd (fPA k E 3 [] (zu s1 103 19 (s1 103 19 + 1))) fun _ s6 => zbd (f9_step k c 0 s6) fun _ s7 => some ((), s7) := by
        intro s1 h1 s hr
        obtain ⟨r, hr⟩ : ∃ r, fPA k E 3 [] s = some (r, s1) := by
          rcases hr with h | h
          · exact ⟨0, h⟩
          · exact h
        rw [f9_compares, hr, zbd_some, byt9 hn hR4 hRB G1 h1.1 h1.2.1, zbd_some, if_pos h1.2.2.2.2.1, ← hc]
        rcases lev_2 hS with rfl | rfl | rfl
        · rw [if_pos rfl, zput_eq]
        · rw [if_neg (by decide), if_pos rfl, zput_eq]
        · rw [if_neg (by decide), if_neg (by decide), if_pos rfl, zput_eq]
      obtain ⟨j2, o2, C2, M2, G3, G4⟩ := hP (j1 + 1) (L ++ N1) (by omega) (by omega)
      refine ⟨j2, o2.map (fun N2 => N1 ++ (N2 ++ [(c, 0)])), fun s hs => ?_, fun s hs => ?_, G3, fun N hN => ?_⟩
      · obtain ⟨s', e1, e2⟩ := C1 s hs
        rcases e2 with ⟨e3, -⟩ | ⟨N, e3, e4, e5⟩
        · exact absurd e3 (by simp)
        · obtain rfl : N1 = N := by simpa using e3
          obtain ⟨a1, a2⟩ := adv8 e5
          obtain ⟨s7, f1, f2⟩ := C2 _ a1
          rcases f2 with ⟨f3, f4, f5⟩ | ⟨N2, f3, f4, f5⟩
          · refine ⟨s7, e1.tr (a2.tr f1), Or.inl ⟨by rw [f3]; rfl, c8 s _ ?_, f5⟩⟩
            rw [e4, zbd_some, if_neg (by decide), lp8' s' e5 _ (by rw [if_pos hS, f4, zbd_some, if_pos rfl]), zbd_some, if_pos (Or.inl rfl)]
          · obtain ⟨y1, y2, y3⟩ := G4 N2 f3
            obtain ⟨s9, h1, h2, h3⟩ := add8 (k := k) (by rw [List.length_append]; omega) f5 (c, 0)
            rw [enc_sgn hsg] at h1
            refine ⟨s9, e1.tr (a2.tr (f1.tr h3)), Or.inr ⟨N1 ++ (N2 ++ [(c, 0)]), by rw [f3]; rfl, c8 s _ ?_, ?_⟩⟩
            · rw [e4, zbd_some, if_neg (by decide), lp8' s' e5 _ (by rw [if_pos hS, f4, zbd_some, if_neg (by decide), h1, zbd_some]), zbd_some, if_pos (Or.inr rfl)]
            · rw [show L ++ (N1 ++ (N2 ++ [(c, 0)])) = L ++ N1 ++ N2 ++ [(c, 0)] by rw [List.append_assoc, List.append_assoc]]
              exact h2
      · obtain ⟨r, s', e1, e2, e3⟩ := M1 s hs
        rcases e3 with ⟨e4, -⟩ | ⟨N, e4, e5⟩
        · exact absurd e4 (by simp)
        · obtain rfl : N1 = N := by simpa using e4
          obtain ⟨a1, a2⟩ := adv9 e5
          obtain ⟨r2, s6, f1, f2, f3⟩ := M2 _ a1
          have h9 := r9 s' e5 s (Or.inr ⟨r, e1⟩)
          rcases f3 with ⟨f4, f5⟩ | ⟨N2, f4, f5⟩
          · obtain ⟨s4, h1, h2, h3⟩ := stp_any (k := k) c 0 f5
            refine ⟨0, s4, c9 s _ ?_, e2.tr (a2.tr (f2.tr h3)), Or.inl ⟨by rw [f4]; rfl, h2⟩⟩
            rw [h9, f1, zbd_some, h1, zbd_some, zbd_some]
          · obtain ⟨y1, y2, y3⟩ := G4 N2 f4
            obtain ⟨s4, h1, h2, h3⟩ := stp9 (k := k) (by rw [List.length_append]; omega) f5 (c, 0)
            have h1' : f9_step k c 0 s6 = some ((), s4) := h1
            refine ⟨0, s4, c9 s _ ?_, e2.tr (a2.tr (f2.tr h3)), Or.inr ⟨N1 ++ (N2 ++ [(c, 0)]), by rw [f4]; rfl, ?_⟩⟩
            · rw [h9, f1, zbd_some, h1', zbd_some, zbd_some]
            · rw [show L ++ (N1 ++ (N2 ++ [(c, 0)])) = L ++ N1 ++ N2 ++ [(c, 0)] by rw [List.append_assoc, List.append_assoc]]
              exact h2
      · cases o2 with
        | none => exact absurd hN (by simp)
        | some N2 =>
          obtain rfl : N1 ++ (N2 ++ [(c, 0)]) = N := by simpa using hN
          obtain ⟨y1, y2, y3⟩ := G4 N2 rfl
          refine ⟨by omega, by rw [List.length_append, ln2]; omega, fun h => ?_⟩
          exact vl_app N1 _ _ _ _ (g3 h) (vl_app N2 _ _ _ _ (y3 (h + 1)) (Or.inr (Or.inr (Or.inr ⟨hsg, by omega, rfl⟩))))
    · have nS : ¬ hr B n j1 = 60 ∧ ¬ hr B n j1 = 61 ∧ ¬ hr B n j1 = 62 := ⟨fun q => hS (by rw [q]; rfl), fun q => hS (by rw [q]; rfl), fun q => hS (by rw [q]; rfl)⟩
      refine ⟨j1, some N1, fun s hs => ?_, fun s hs => ?_, G1, fun N hN => ?_⟩
      · obtain ⟨s', e1, e2⟩ := C1 s hs
        rcases e2 with ⟨e3, -⟩ | ⟨N, e3, e4, e5⟩
        · exact absurd e3 (by simp)
        · obtain rfl : N1 = N := by simpa using e3
          refine ⟨s', e1, Or.inr ⟨N1, rfl, c8 s _ ?_, e5⟩⟩
          rw [e4, zbd_some, if_neg (by decide), lp8' s' e5 _ (by rw [if_neg hS]), zbd_some, if_pos (Or.inr rfl)]
      · obtain ⟨r, s', e1, e2, e3⟩ := M1 s hs
        rcases e3 with ⟨e4, -⟩ | ⟨N, e4, e5⟩
        · exact absurd e4 (by simp)
        · obtain rfl : N1 = N := by simpa using e4
          refine ⟨0, s', c9 s _ ?_, e2, Or.inr ⟨N1, rfl, e5⟩⟩
          rw [f9_compares, e1, zbd_some, byt9 hn hR4 hRB G1 e5.1 e5.2.1, zbd_some, if_pos e5.2.2.2.2.1, if_neg nS.1, if_neg nS.2.1, if_neg nS.2.2, zbd_some]
      · obtain rfl : N1 = N := by simpa using hN
        exact ⟨g1, g2, g3⟩
end
