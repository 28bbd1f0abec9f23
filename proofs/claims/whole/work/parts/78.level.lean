/-! texts read: signs and levels -/
def lev (c : Int32) : Int32 := if c = 37 then 4 else if c = 38 then 1 else if c = 42 then 4 else if c = 43 then 3 else if c = 45 then 3 else if c = 47 then 4 else if c = 60 then 2 else if c = 61 then 2 else if c = 62 then 2 else if c = 124 then 0 else -1
theorem s3_lev {k : Nat} {c : Int32} {s : ZS} : f3_levelOf k c s = some (lev c, s) := by
  unfold f3_levelOf lev
  by_cases c37 : c = 37
  · rw [if_pos c37, if_pos c37]
  rw [if_neg c37, if_neg c37]
  by_cases c38 : c = 38
  · rw [if_pos c38, if_pos c38]
  rw [if_neg c38, if_neg c38]
  by_cases c42 : c = 42
  · rw [if_pos c42, if_pos c42]
  rw [if_neg c42, if_neg c42]
  by_cases c43 : c = 43
  · rw [if_pos c43, if_pos c43]
  rw [if_neg c43, if_neg c43]
  by_cases c45 : c = 45
  · rw [if_pos c45, if_pos c45]
  rw [if_neg c45, if_neg c45]
  by_cases c47 : c = 47
  · rw [if_pos c47, if_pos c47]
  rw [if_neg c47, if_neg c47]
  by_cases c60 : c = 60
  · rw [if_pos c60, if_pos c60]
  rw [if_neg c60, if_neg c60]
  by_cases c61 : c = 61
  · rw [if_pos c61, if_pos c61]
  rw [if_neg c61, if_neg c61]
  by_cases c62 : c = 62
  · rw [if_pos c62, if_pos c62]
  rw [if_neg c62, if_neg c62]
  by_cases c124 : c = 124
  · rw [if_pos c124, if_pos c124]
  rw [if_neg c124, if_neg c124]
theorem lev_cs (c : Int32) : sgn c ∨ lev c = -1 := by
  by_cases c37 : c = 37
  · exact Or.inl (Or.inl c37)
  by_cases c38 : c = 38
  · exact Or.inl (Or.inr (Or.inl c38))
  by_cases c42 : c = 42
  · exact Or.inl (Or.inr (Or.inr (Or.inl c42)))
  by_cases c43 : c = 43
  · exact Or.inl (Or.inr (Or.inr (Or.inr (Or.inl c43))))
  by_cases c45 : c = 45
  · exact Or.inl (Or.inr (Or.inr (Or.inr (Or.inr (Or.inl c45)))))
  by_cases c47 : c = 47
  · exact Or.inl (Or.inr (Or.inr (Or.inr (Or.inr (Or.inr (Or.inl c47))))))
  by_cases c60 : c = 60
  · exact Or.inl (Or.inr (Or.inr (Or.inr (Or.inr (Or.inr (Or.inr (Or.inl c60)))))))
  by_cases c61 : c = 61
  · exact Or.inl (Or.inr (Or.inr (Or.inr (Or.inr (Or.inr (Or.inr (Or.inr (Or.inl c61))))))))
  by_cases c62 : c = 62
  · exact Or.inl (Or.inr (Or.inr (Or.inr (Or.inr (Or.inr (Or.inr (Or.inr (Or.inr (Or.inl c62)))))))))
  by_cases c124 : c = 124
  · exact Or.inl (Or.inr (Or.inr (Or.inr (Or.inr (Or.inr (Or.inr (Or.inr (Or.inr (Or.inr (c124))))))))))
  exact Or.inr (by rw [lev, if_neg c37, if_neg c38, if_neg c42, if_neg c43, if_neg c45, if_neg c47, if_neg c60, if_neg c61, if_neg c62, if_neg c124])
theorem lev_0 {c : Int32} (h : lev c = 0) : c = 124 := by
  rcases lev_cs c with q | q
  · rcases q with rfl | rfl | rfl | rfl | rfl | rfl | rfl | rfl | rfl | rfl
    · exact absurd h (by decide)
    · exact absurd h (by decide)
    · exact absurd h (by decide)
    · exact absurd h (by decide)
    · exact absurd h (by decide)
    · exact absurd h (by decide)
    · exact absurd h (by decide)
    · exact absurd h (by decide)
    · exact absurd h (by decide)
    · exact rfl
  · rw [q] at h; exact absurd h (by decide)
theorem lev_1 {c : Int32} (h : lev c = 1) : c = 38 := by
  rcases lev_cs c with q | q
  · rcases q with rfl | rfl | rfl | rfl | rfl | rfl | rfl | rfl | rfl | rfl
    · exact absurd h (by decide)
    · exact rfl
    · exact absurd h (by decide)
    · exact absurd h (by decide)
    · exact absurd h (by decide)
    · exact absurd h (by decide)
    · exact absurd h (by decide)
    · exact absurd h (by decide)
    · exact absurd h (by decide)
    · exact absurd h (by decide)
  · rw [q] at h; exact absurd h (by decide)
theorem lev_2 {c : Int32} (h : lev c = 2) : c = 60 ∨ c = 61 ∨ c = 62 := by
  rcases lev_cs c with q | q
  · rcases q with rfl | rfl | rfl | rfl | rfl | rfl | rfl | rfl | rfl | rfl
    · exact absurd h (by decide)
    · exact absurd h (by decide)
    · exact absurd h (by decide)
    · exact absurd h (by decide)
    · exact absurd h (by decide)
    · exact absurd h (by decide)
    · exact Or.inl rfl
    · exact Or.inr (Or.inl rfl)
    · exact Or.inr (Or.inr (rfl))
    · exact absurd h (by decide)
  · rw [q] at h; exact absurd h (by decide)
theorem lev_3 {c : Int32} (h : lev c = 3) : c = 43 ∨ c = 45 := by
  rcases lev_cs c with q | q
  · rcases q with rfl | rfl | rfl | rfl | rfl | rfl | rfl | rfl | rfl | rfl
    · exact absurd h (by decide)
    · exact absurd h (by decide)
    · exact absurd h (by decide)
    · exact Or.inl rfl
    · exact Or.inr (rfl)
    · exact absurd h (by decide)
    · exact absurd h (by decide)
    · exact absurd h (by decide)
    · exact absurd h (by decide)
    · exact absurd h (by decide)
  · rw [q] at h; exact absurd h (by decide)
theorem lev_4 {c : Int32} (h : lev c = 4) : c = 37 ∨ c = 42 ∨ c = 47 := by
  rcases lev_cs c with q | q
  · rcases q with rfl | rfl | rfl | rfl | rfl | rfl | rfl | rfl | rfl | rfl
    · exact Or.inl rfl
    · exact absurd h (by decide)
    · exact Or.inr (Or.inl rfl)
    · exact absurd h (by decide)
    · exact absurd h (by decide)
    · exact Or.inr (Or.inr (rfl))
    · exact absurd h (by decide)
    · exact absurd h (by decide)
    · exact absurd h (by decide)
    · exact absurd h (by decide)
  · rw [q] at h; exact absurd h (by decide)
theorem lev_sgn {c : Int32} {l : Nat} (hl : l < 5) (h : lev c = nI l) : sgn c := by
  rcases lev_cs c with q | q
  · exact q
  · rw [q] at h
    have := congrArg Int32.toInt h
    rw [t_m1, nI_toInt (by omega)] at this
    omega
theorem enc_sgn {c : Int32} (h : sgn c) : ec (c, 0) = -c := by
  rcases h with rfl | rfl | rfl | rfl | rfl | rfl | rfl | rfl | rfl | rfl
  all_goals rfl
section
variable {k n u : Nat} {B R : Nat → Int32}
def CO (n u : Nat) (B : Nat → Int32) (F : ZS → Option (Int32 × ZS)) (i : Nat) (L : List (Int32 × Int32)) (j : Nat) (o : Option (List (Int32 × Int32))) : Prop := ∀ s, CI n u B i L s → ∃ s', CF s s' ∧ ((o = none ∧ F s = some (0, s') ∧ CX n j s') ∨ ∃ N, o = some N ∧ F s = some (1, s') ∧ CI n u B j (L ++ N) s')
def MO {α : Type} (u : Nat) (R : Nat → Int32) (F : ZS → Option (α × ZS)) (dep i : Nat) (L : List (Int32 × Int32)) (j : Nat) (o : Option (List (Int32 × Int32))) : Prop := ∀ s, MI u R dep i L s → ∃ a s', F s = some (a, s') ∧ MG s s' ∧ ((o = none ∧ MX R j s') ∨ ∃ N, o = some N ∧ MI u R dep j (L ++ N) s')
def GO (n i j : Nat) (o : Option (List (Int32 × Int32))) (a b : Nat) : Prop := j ≤ n ∧ ∀ N, o = some N → i + a ≤ j ∧ N.length + i ≤ j ∧ ∀ h, vl N (h + b) (h + 1)
def BO {α : Type} (n u : Nat) (B R : Nat → Int32) (FC : ZS → Option (Int32 × ZS)) (FM : ZS → Option (α × ZS)) (dep : Nat) : Prop := ∀ (i : Nat) (L : List (Int32 × Int32)), i ≤ n → L.length ≤ i → ∃ j o, CO n u B FC i L j o ∧ MO u R FM dep i L j o ∧ GO n i j o 1 0
theorem hr_end {i l : Nat} (hl : l < 5) (h : lev (hr B n i) = nI l) : i < n := by
  by_cases c : i < n
  · exact c
  · have e : hr B n i = -1 := by rw [hr, if_neg c]
    rw [e, show lev (-1) = -1 from rfl] at h
    have := congrArg Int32.toInt h
    rw [t_m1, nI_toInt (by omega)] at this
    omega
/-- a sign and what comes behind it, again and again -/
theorem lv_loop {α : Type} (hn : n ≤ 60) (hR4 : R 4 = nI n) (hRB : ∀ j, j < n → R (64 + j) = B j) {l dep : Nat} (hl : l < 5) (hl2 : l ≠ 2) {rcC : Nat → List Int32 → ZS → Option (Int32 × ZS)} {rcM : ZS → Option (α × ZS)} (hP : BO n u B R (rcC 0 [nI (l + 1), nI dep]) rcM dep) {lp : Nat → ZS → Option (Unit × ZS)}
  (hb : ∀ q s, ¬ s 103 21 = 0 → lp (q + 1) s = some ((), s))
  (hs0 : ∀ q s c, s 103 21 = 0 → f9_byteHere k s = some (c, s) → ¬ lev c = nI l → lp (q + 1) s = some ((), s))
  (hs1 : ∀ q s c, s 103 21 = 0 → f9_byteHere k s = some (c, s) → lev c = nI l → lp (q + 1) s = zbd (rcM (zu s 103 19 (s 103 19 + 1))) fun _ s3 => zbd (f9_step k c 0 s3) fun _ s4 => lp q s4) :
  ∀ (d i x qc qm : Nat) (L : List (Int32 × Int32)), n ≤ i + d → i ≤ n → L.length ≤ i → x < i → d < qc → d + 1 < qm → ∃ j o, CO n u B (f3_readLevel_15 k rcC qc (nI l) (nI dep) (nI x)) i L j o ∧ MO u R (lp qm) dep i L j o ∧ GO n i j o 0 1 := by
  intro d
  induction d with
  | zero =>
    intro i x qc qm L hd hi hL hx hqc hqm
    obtain ⟨qc, rfl⟩ : ∃ w, qc = w + 1 := ⟨qc - 1, by omega⟩
    obtain ⟨qm, rfl⟩ : ∃ w, qm = w + 1 := ⟨qm - 1, by omega⟩
    have hS : ¬ lev (hr B n i) = nI l := fun q => by have := hr_end hl q; omega
    refine ⟨i, some [], fun s hs => ⟨s, CF.rf, Or.inr ⟨[], rfl, ?_, by rw [List.append_nil]; exact hs⟩⟩, fun s hs => ⟨(), s, ?_, MG.rf, Or.inr ⟨[], rfl, by rw [List.append_nil]; exact hs⟩⟩, hi, fun N hN => ?_⟩
    · show b3_readLevel_15 k _ _ _ _ _ s = _
      rw [b3_readLevel_15, if_neg (by rw [Int32.le_iff_toInt_le, nI_toInt (by omega), t_60]; omega), sgn8 hn hi hs, zbd_some, s3_lev, zbd_some, if_neg hS]
    · exact hs0 qm s _ hs.2.2.2.2.1 (byt9 hn hR4 hRB hi hs.1 hs.2.1) hS
    · obtain rfl : [] = N := by simpa using hN
      exact ⟨by omega, by show 0 + i ≤ i; omega, fun h => rfl⟩
  | succ d ih =>
    intro i x qc qm L hd hi hL hx hqc hqm
    obtain ⟨qc, rfl⟩ : ∃ w, qc = w + 1 := ⟨qc - 1, by omega⟩
    obtain ⟨qm, rfl⟩ : ∃ w, qm = w + 1 := ⟨qm - 1, by omega⟩
    by_cases hS : lev (hr B n i) = nI l
    · have hin := hr_end hl hS
      have hsg := lev_sgn hl hS
      obtain ⟨c, hc⟩ : ∃ c, c = hr B n i := ⟨_, rfl⟩
      rw [← hc] at hS hsg
      obtain ⟨j1, o1, C1, M1, G1, G2⟩ := hP (i + 1) L (by omega) (by omega)
      have c8 : ∀ s, CI n u B i L s → ∀ y, (zbd (rcC 0 [nI (l + 1), nI dep] (zu s 86 3 (s 86 3 + 1))) fun r7 s7 => if r7 = 0 then some ((0 : Int32), s7) else zbd (f6_add k 87 (ec (c, 0)) s7) fun _ s9 => f3_readLevel_15 k rcC qc (nI l) (nI dep) (nI (x + 1)) s9) = y → f3_readLevel_15 k rcC (qc + 1) (nI l) (nI dep) (nI x) s = y := by
        intro s hs y hy
        show b3_readLevel_15 k _ _ _ _ _ s = _
        have hl2' : ¬ nI l = 2 := fun q => hl2 (nI_inj (by omega) (by decide) q)
        rw [b3_readLevel_15, if_neg (by rw [Int32.le_iff_toInt_le, nI_toInt (by omega), t_60]; omega), sgn8 hn hi hs, zbd_some, s3_lev, zbd_some, ← hc, if_pos hS, sgn8 hn hi hs, zbd_some, ← hc, zput_eq, nI_1, nI_1, ← enc_sgn hsg]
        simp only [if_neg hl2']
        exact hy
      have c9 : ∀ s, MI u R dep i L s → lp (qm + 1) s = zbd (rcM (zu s 103 19 (s 103 19 + 1))) fun _ s3 => zbd (f9_step k c 0 s3) fun _ s4 => lp qm s4 := fun s hs => hs1 qm s c hs.2.2.2.2.1 (by rw [hc]; exact byt9 hn hR4 hRB hi hs.1 hs.2.1) hS
      cases o1 with
      | none =>
        refine ⟨j1, none, fun s hs => ?_, fun s hs => ?_, G1, fun N hN => absurd hN (by simp)⟩
        · obtain ⟨a1, a2⟩ := adv8 hs
          obtain ⟨s', e1, e2⟩ := C1 _ a1
          rcases e2 with ⟨-, e3, e4⟩ | ⟨N, e3, -⟩
          · exact ⟨s', a2.tr e1, Or.inl ⟨rfl, c8 s hs _ (by rw [e3, zbd_some, if_pos rfl]), e4⟩⟩
          · exact absurd e3 (by simp)
        · obtain ⟨a1, a2⟩ := adv9 hs
          obtain ⟨r, s', e1, e2, e3⟩ := M1 _ a1
          rcases e3 with ⟨-, e4⟩ | ⟨N, e3, -⟩
          · obtain ⟨s4, f1, f2, f3⟩ := stp_any (k := k) c 0 e4
            obtain ⟨qm, rfl⟩ : ∃ w, qm = w + 1 := ⟨qm - 1, by omega⟩
            exact ⟨(), s4, by rw [c9 s hs, e1, zbd_some, f1, zbd_some, hb qm s4 (by rw [f2.2.2.1]; decide)], a2.tr (e2.tr f3), Or.inl ⟨rfl, f2⟩⟩
          · exact absurd e3 (by simp)
      | some N1 =>
        obtain ⟨g1, g2, g3⟩ := G2 N1 rfl
        have hl1 : (L ++ N1).length < j1 := by rw [List.length_append]; omega
        obtain ⟨j, o, C2, M2, G3, G4⟩ := ih j1 (x + 1) qc qm (L ++ N1 ++ [(c, 0)]) (by omega) G1 (by rw [ln2]; omega) (by omega) (by omega) (by omega)
        have as : ∀ N2 : List (Int32 × Int32), L ++ N1 ++ [(c, 0)] ++ N2 = L ++ (N1 ++ (c, 0) :: N2) := fun N2 => by rw [List.append_assoc, List.append_assoc]; rfl
        refine ⟨j, o.map (fun N2 => N1 ++ (c, 0) :: N2), fun s hs => ?_, fun s hs => ?_, G3, fun N hN => ?_⟩
        · obtain ⟨a1, a2⟩ := adv8 hs
          obtain ⟨s', e1, e2⟩ := C1 _ a1
          rcases e2 with ⟨e3, -⟩ | ⟨N, e3, e4, e5⟩
          · exact absurd e3 (by simp)
          · obtain rfl : N1 = N := by simpa using e3
            obtain ⟨s9, f1, f2, f3⟩ := add8 (k := k) (by omega) e5 (c, 0)
            obtain ⟨s10, h1, h2⟩ := C2 _ f2
            have run : ∀ y, f3_readLevel_15 k rcC qc (nI l) (nI dep) (nI (x + 1)) s9 = y → f3_readLevel_15 k rcC (qc + 1) (nI l) (nI dep) (nI x) s = y := fun y hy => c8 s hs y (by rw [e4, zbd_some, if_neg (by decide), f1, zbd_some]; exact hy)
            refine ⟨s10, a2.tr (e1.tr (f3.tr h1)), ?_⟩
            rcases h2 with ⟨h3, h4, h5⟩ | ⟨N2, h3, h4, h5⟩
            · exact Or.inl ⟨by rw [h3]; rfl, run _ h4, h5⟩
            · exact Or.inr ⟨N1 ++ (c, 0) :: N2, by rw [h3]; rfl, run _ h4, by rw [← as]; exact h5⟩
        · obtain ⟨a1, a2⟩ := adv9 hs
          obtain ⟨r, s', e1, e2, e3⟩ := M1 _ a1
          rcases e3 with ⟨e4, -⟩ | ⟨N, e4, e5⟩
          · exact absurd e4 (by simp)
          · obtain rfl : N1 = N := by simpa using e4
            obtain ⟨s4, f1, f2, f3⟩ := stp9 (k := k) (by omega) e5 (c, 0)
            obtain ⟨r2, s5, h1, h2, h3⟩ := M2 _ f2
            have f1' : f9_step k c 0 s' = some ((), s4) := f1
            refine ⟨r2, s5, by rw [c9 s hs, e1, zbd_some, f1', zbd_some]; exact h1, a2.tr (e2.tr (f3.tr h2)), ?_⟩
            rcases h3 with ⟨h4, h5⟩ | ⟨N2, h4, h5⟩
            · exact Or.inl ⟨by rw [h4]; rfl, h5⟩
            · exact Or.inr ⟨N1 ++ (c, 0) :: N2, by rw [h4]; rfl, by rw [← as]; exact h5⟩
        · cases o with
          | none => exact absurd hN (by simp)
          | some N2 =>
            obtain rfl : N1 ++ (c, 0) :: N2 = N := by simpa using hN
            obtain ⟨y1, y2, y3⟩ := G4 N2 rfl
            refine ⟨by omega, by rw [List.length_append]; show N1.length + (N2.length + 1) + i ≤ j; omega, fun h => ?_⟩
            exact vl_app N1 _ _ _ _ (g3 (h + 1)) (Or.inr (Or.inr (Or.inr ⟨hsg, by omega, y3 h⟩)))
    · refine ⟨i, some [], fun s hs => ⟨s, CF.rf, Or.inr ⟨[], rfl, ?_, by rw [List.append_nil]; exact hs⟩⟩, fun s hs => ⟨(), s, ?_, MG.rf, Or.inr ⟨[], rfl, by rw [List.append_nil]; exact hs⟩⟩, hi, fun N hN => ?_⟩
      · show b3_readLevel_15 k _ _ _ _ _ s = _
        rw [b3_readLevel_15, if_neg (by rw [Int32.le_iff_toInt_le, nI_toInt (by omega), t_60]; omega), sgn8 hn hi hs, zbd_some, s3_lev, zbd_some, if_neg hS]
      · exact hs0 qm s _ hs.2.2.2.2.1 (byt9 hn hR4 hRB hi hs.1 hs.2.1) hS
      · obtain rfl : [] = N := by simpa using hN
        exact ⟨by omega, by show 0 + i ≤ i; omega, fun h => rfl⟩
end
