/-! texts read: units, and all of it -/
section
variable {k n u dep : Nat} {B R : Nat → Int32}
theorem ch_big (u t : Nat) : 104 ≤ (ch u t).toInt := by
  unfold ch
  split
  · split
    · decide
    · split <;> decide
  · split
    · decide
    · split <;> decide
theorem nm_small {c : Int32} (h : c.toInt < 104) : nm u c = -1 := by
  rcases nm_cs u c with ⟨t, -, h2, -⟩ | h2
  · have := ch_big u t
    rw [h2] at h; omega
  · exact h2.1
theorem un_hit {t q : Nat} {c : Int32} {rc : Nat → List Int32 → ZS → Option (Int32 × ZS)} {s : ZS} (hu : u = 0 ∨ u = 1) (h : s 86 4 = nI u) (ht : t < 3) (hc : c = ch u t) (hn : ∀ t', t' < t → ¬ ch u t' = c) : f3_readUnit_54 k rc (q + 4) c 0 s = (zbd (f6_add k 87 (ec (2, nI t)) s) fun _ s7 => some ((1 : Int32), zu s7 86 3 (s7 86 3 + 1))) := by
  have e0 := ust (k := k) (t := 0) (q := q + 3) (c := c) (rc := rc) hu (by decide) h
  have e1 := ust (k := k) (t := 1) (q := q + 2) (c := c) (rc := rc) hu (by decide) h
  have e2 := ust (k := k) (t := 2) (q := q + 1) (c := c) (rc := rc) hu (by decide) h
  have : t = 0 ∨ t = 1 ∨ t = 2 := by omega
  refine Eq.trans e0 ?_
  rcases this with rfl | rfl | rfl
  · rw [if_pos hc.symm]
  · rw [if_neg (hn 0 (by decide))]
    refine Eq.trans e1 ?_
    rw [if_pos hc.symm]
  · rw [if_neg (hn 0 (by decide))]
    refine Eq.trans e1 ?_
    rw [if_neg (hn 1 (by decide))]
    refine Eq.trans e2 ?_
    rw [if_pos hc.symm]
theorem un_miss {q : Nat} {c : Int32} {rc : Nat → List Int32 → ZS → Option (Int32 × ZS)} {s : ZS} (hu : u = 0 ∨ u = 1) (h : s 86 4 = nI u) (hn : ∀ t, t < 3 → ¬ ch u t = c) : f3_readUnit_54 k rc (q + 4) c 0 s = some (0, s) := by
  refine Eq.trans (ust (k := k) (t := 0) (q := q + 3) hu (by decide) h) ?_
  rw [if_neg (hn 0 (by decide))]
  refine Eq.trans (ust (k := k) (t := 1) (q := q + 2) hu (by decide) h) ?_
  rw [if_neg (hn 1 (by decide))]
  refine Eq.trans (ust (k := k) (t := 2) (q := q + 1) hu (by decide) h) ?_
  rw [if_neg (hn 2 (by decide))]
  exact uend
theorem MI.mx {i : Nat} {L : List (Int32 × Int32)} {s : ZS} (h : MI u R dep i L s) (hL : L.length ≤ 60) : MX R i (zu s 103 21 1) ∧ MG s (zu s 103 21 1) := by
  obtain ⟨h0, h1, h2, h3, h4, h5, h6, h7⟩ := h
  refine ⟨⟨?_, ?_, ?_, ?_⟩, fun o q1 q2 q3 => zu_o q1, fun i q1 q2 q3 q4 => zu_k q4⟩
  · rw [zu_o (by decide)]; exact h0
  · rw [zu_k (by decide)]; exact h1
  · rw [zu_at]
  · rw [zu_k (by decide), h2, nI_toInt (by omega)]; omega
theorem rd_one (hk : 100 ≤ k) (hn : n ≤ 60) (hR4 : R 4 = nI n) (hRB : ∀ j, j < n → R (64 + j) = B j) (hu : u = 0 ∨ u = 1) (hd : dep ≤ 5) {D E : Nat} (hO : dep < 5 → BO n u B R (fRD k D 2 [nI (dep + 1)]) (fPA k E 1 []) (dep + 1) ∧ BO n u B R (fRD k D 0 [0, nI (dep + 1)]) (fPA k E 6 []) (dep + 1)) : BO n u B R (fRD k (D + 2) 2 [nI dep]) (fPA k (E + 2) 1 []) dep := by
  intro i L hi hL
  obtain ⟨c, hc⟩ : ∃ c, c = hr B n i := ⟨_, rfl⟩
  have hin : ¬ c = -1 → i < n := by
    intro q
    by_cases g : i < n
    · exact g
    · exact absurd (by rw [hc, hr, if_neg g]) q
  have r8 : ∀ s, CI n u B i L s → ∀ y, (if 48 ≤ c.toInt ∧ c.toInt ≤ 57 then (zbd (f3_readNumber k s) fun _ s6 => some ((1 : Int32), s6)) else if c = 33 then b3_readUnit_30 k (fRD k (D + 1)) (nI dep) c s else if c = 40 then b3_readUnit_30 k (fRD k (D + 1)) (nI dep) c s else f3_readUnit_54 k (fRD k (D + 1)) k c 0 s) = y → fRD k (D + 2) 2 [nI dep] s = y := by
    intro s hs y hy
    rw [← hy]
    show f3_readUnit k (fRD k (D + 1)) (nI dep) s = _
    rw [f3_readUnit, sgn8 hn hi hs, zbd_some, s3_dig, zbd_some, ← hc]
    by_cases g : 48 ≤ c.toInt ∧ c.toInt ≤ 57
    · rw [if_pos g, if_pos g, if_neg (by decide)]
    · rw [if_neg g, if_neg g, if_pos rfl]
  have r9 : ∀ s, MI u R dep i L s → ∀ y, (zbd (if nm u c < 0 then (if c = 33 then (zbd (fPA k (E + 1) 0 [c] s) fun _ s5 => some ((), s5)) else if c = 40 then (zbd (fPA k (E + 1) 0 [c] s) fun _ s7 => some ((), s7)) else zbd (f9_number k s) fun _ s8 => some ((), s8)) else (zbd (f9_step k 2 (nm u c) (zu s 103 19 (s 103 19 + 1))) fun _ s10 => some ((), s10))) fun _ s => some ((0 : Int32), s)) = y → fPA k (E + 2) 1 [] s = y := by
    intro s hs y hy
    rw [← hy]
    show (zbd (f9_one k (fPA k (E + 1)) s) fun _ s => some ((0 : Int32), s)) = _
    rw [f9_one, byt9 hn hR4 hRB hi hs.1 hs.2.1, zbd_some, ← hc, s9_name hu hs.2.2.2.2.2.1, zbd_some, zput_eq]
  by_cases dg : 48 ≤ c.toInt ∧ c.toInt ≤ 57
  · obtain ⟨j, w, h1, h2, h3, h4, h5, h6, h7⟩ := rd_num (k := k) (dep := dep) (u := u) hn hR4 hRB 4 0 0 i k k L rfl (by decide) hi hL (by omega) (by omega) (Or.inr ⟨rfl, by rw [← hc]; exact dg⟩)
    refine ⟨j, some [(1, nI w)], fun s hs => ?_, fun s hs => ?_, h3, fun N hN => ?_⟩
    · obtain ⟨s', e1, e2, e3⟩ := h6 s hs
      refine ⟨s', e3, Or.inr ⟨_, rfl, r8 s hs _ ?_, e2⟩⟩
      have e1' : f3_readNumber k s = some ((), s') := e1
      rw [if_pos dg, e1', zbd_some]
    · obtain ⟨s', e1, e2, e3⟩ := h7 s hs
      refine ⟨0, s', r9 s hs _ ?_, e3, Or.inr ⟨_, rfl, e2⟩⟩
      have e1' : f9_number k s = some ((), s') := e1
      rw [nm_small (by omega), if_pos (by decide), if_neg (fun q => by rw [q, t_33] at dg; omega), if_neg (fun q => by rw [q, t_40] at dg; omega), e1', zbd_some, zbd_some]
    · obtain rfl : [(1, nI w)] = N := by simpa using hN
      have := h4 rfl
      exact ⟨by omega, by show 1 + i ≤ j; omega, fun h => Or.inl ⟨rfl, by show 0 ≤ (nI w).toInt; rw [nI_toInt (by omega)]; omega, by show (nI w).toInt ≤ 9999; rw [nI_toInt (by omega)]; omega, rfl⟩⟩
  · by_cases c33 : c = 33 ∨ c = 40
    · have nm1 : nm u c = -1 := by
        rcases c33 with rfl | rfl
        · exact nm_small (by decide)
        · exact nm_small (by decide)
      have hi2 : i < n := hin (by rcases c33 with rfl | rfl <;> decide)
      have u8 : ∀ s, CI n u B i L s → ∀ y, b3_readUnit_30 k (fRD k (D + 1)) (nI dep) c s = y → fRD k (D + 2) 2 [nI dep] s = y := by
        intro s hs y hy
        refine r8 s hs y ?_
        rw [if_neg dg]
        by_cases g : c = 33
        · rw [if_pos g]; exact hy
        · rw [if_neg g, if_pos (c33.resolve_left g)]; exact hy
      have u9 : ∀ s, MI u R dep i L s → ∀ s', f9_opens k (fPA k E) c s = some ((), s') → fPA k (E + 2) 1 [] s = some (0, s') := by
        intro s hs s' hy
        have hy' : fPA k (E + 1) 0 [c] s = some (0, s') := by
          show (zbd (f9_opens k (fPA k E) c s) fun _ s => some ((0 : Int32), s)) = _
          rw [hy, zbd_some]
        refine r9 s hs _ ?_
        rw [nm1, if_pos (by decide), hy']
        by_cases g : c = 33
        · rw [if_pos g, zbd_some, zbd_some]
        · rw [if_neg g, if_pos (c33.resolve_left g), zbd_some, zbd_some]
      by_cases hd5 : dep = 5
      · subst hd5
        refine ⟨i, none, fun s hs => ⟨s, CF.rf, Or.inl ⟨rfl, u8 s hs _ ?_, hs.1.2.2.1, hs.1.2.1⟩⟩, fun s hs => ?_, hi, fun N hN => absurd hN (by simp)⟩
        · rw [b3_readUnit_30, if_pos (by decide)]
        · obtain ⟨a1, a2⟩ := hs.mx (by omega)
          refine ⟨0, zu s 103 21 1, u9 s hs _ ?_, a2, Or.inl ⟨rfl, a1⟩⟩
          rw [f9_opens, if_pos (show s 103 20 = 5 from hs.2.2.2.1), zput_eq]
      · have hd4 : dep < 5 := by omega
        have e5 : ¬ (5 : Int32) ≤ nI dep := by rw [Int32.le_iff_toInt_le, nI_toInt (by omega), t_5]; omega
        have e5' : ¬ nI dep = 5 := fun q => hd5 (nI_inj (by omega) (by decide) q)
        obtain ⟨BU, BA⟩ := hO hd4
        have v8 : ∀ s, CI n u B i L s → ∀ r s', f3_readOpen k (fRD k D) c (nI (dep + 1)) s = some (r, s') → r = 0 ∨ r = 1 → fRD k (D + 2) 2 [nI dep] s = some (r, s') := by
          intro s hs r s' hy hr
          refine u8 s hs _ ?_
          have hy' : fRD k (D + 1) 3 [c, nI (dep + 1)] s = some (r, s') := hy
          rw [b3_readUnit_30, if_neg e5, nI_1, hy', zbd_some]
          rcases hr with rfl | rfl
          · rw [if_pos rfl]
          · rw [if_neg (by decide)]
        have v9 : ∀ s, MI u R dep i L s → ∃ s4, MI u R (dep + 1) (i + 1) L s4 ∧ MG s s4 ∧ f9_opens k (fPA k E) c s = (if c = 33 then (zbd (fPA k E 1 [] s4) fun _ s6 => zbd (f9_step k 3 0 s6) fun _ s7 => some ((), zu s7 103 20 (s7 103 20 - 1))) else (zbd (fPA k E 6 [] s4) fun _ s9 => if s9 103 21 = 0 then (zbd (f9_byteHere k s9) fun r11 s11 => if r11 = 41 then b9_opens_79 k (fPA k E) 103 0 s11 else b9_opens_79 k (fPA k E) 103 1 s11) else b9_opens_79 k (fPA k E) 103 1 s9)) := by
          intro s hs
          obtain ⟨a1, a2⟩ := hs.dp (d' := dep + 1) (v := s 103 20 + 1) (by rw [hs.2.2.2.1, nI_1])
          obtain ⟨b1, b2⟩ := adv9 a1
          refine ⟨_, b1, a2.tr b2, ?_⟩
          rw [f9_opens, if_neg (by rw [hs.2.2.2.1]; exact e5'), zput_eq, zput_eq]
          rfl
        have o79 : ∀ s j, MX R j s → ∃ s', b9_opens_79 k (fPA k E) 103 1 s = some ((), s') ∧ MX R j s' ∧ MG s s' := by
          intro s j hs
          obtain ⟨h0, h1, h2, h3⟩ := hs
          refine ⟨zu (zu (zu s 103 21 1) 103 19 (s 103 19 + 0)) 103 20 (s 103 20 - 1), ?_, ⟨?_, ?_, ?_, ?_⟩, fun o q1 q2 q3 => by rw [zu_o q1, zu_o q1, zu_o q1], fun i q1 q2 q3 q4 => by rw [zu_k q3, zu_k q2, zu_k q4]⟩
          · rw [b9_opens_79, if_pos (show zsh 103 = 10 from rfl), if_pos (show zbo 1 from Or.inr rfl), zput_eq, zu_at, if_neg (by decide), zput_eq, zput_eq, zu_k (show (19 : Nat) ≠ 21 by decide), zu_k (show (20 : Nat) ≠ 19 by decide), zu_k (show (20 : Nat) ≠ 21 by decide)]
          · rw [zu_o (by decide), zu_o (by decide), zu_o (by decide)]; exact h0
          · rw [zu_k (by decide), zu_at, h1, Int32.add_zero]
          · rw [zu_k (by decide), zu_k (by decide), zu_at]
          · rw [zu_k (by decide), zu_k (by decide), zu_k (by decide)]; exact h3
        by_cases g : c = 33
        · obtain ⟨j1, o1, C1, M1, G1, G2⟩ := BU (i + 1) L (by omega) (by omega)
          refine ⟨j1, o1.map (fun N => N ++ [(3, 0)]), fun s hs => ?_, fun s hs => ?_, G1, fun N hN => ?_⟩
          · obtain ⟨a1, a2⟩ := adv8 hs
            obtain ⟨s3, e1, e2⟩ := C1 _ a1
            have op : ∀ r s4, fRD k D 2 [nI (dep + 1)] (zu s 86 3 (s 86 3 + 1)) = some (r, s3) → f6_add k 87 (ec (3, 0)) s3 = some ((), s4) → zbo r → f3_readOpen k (fRD k D) c (nI (dep + 1)) s = some (r, s4) := by
              intro r s4 p1 p2 p3
              have p2' : f6_add k 87 (-c) s3 = some ((), s4) := by rw [g]; exact p2
              rw [f3_readOpen, zput_eq, if_pos g, p1, zbd_some, p2', zbd_some, if_pos p3]
            rcases e2 with ⟨e3, e4, e5⟩ | ⟨N, e3, e4, e5⟩
            · obtain ⟨s4, f1, f2, f3⟩ := add_any (k := k) (ec (3, 0)) s3
              exact ⟨s4, a2.tr (e1.tr f3), Or.inl ⟨by rw [e3]; rfl, v8 s hs _ _ (op 0 s4 e4 f1 (Or.inl rfl)) (Or.inl rfl), by rw [f2]; exact e5.1, by rw [f2]; exact e5.2⟩⟩
            · obtain ⟨y1, y2, y3⟩ := G2 N e3
              obtain ⟨s4, f1, f2, f3⟩ := add8 (k := k) (by rw [List.length_append]; omega) e5 (3, 0)
              exact ⟨s4, a2.tr (e1.tr f3), Or.inr ⟨N ++ [(3, 0)], by rw [e3]; rfl, v8 s hs _ _ (op 1 s4 e4 f1 (Or.inr rfl)) (Or.inr rfl), by rw [← List.append_assoc]; exact f2⟩⟩
          · obtain ⟨s4, a1, a2, a3⟩ := v9 s hs
            rw [if_pos g] at a3
            obtain ⟨r, s6, e1, e2, e3⟩ := M1 s4 a1
            rcases e3 with ⟨e4, e5⟩ | ⟨N, e4, e5⟩
            · obtain ⟨s7, f1, f2, f3⟩ := stp_any (k := k) 3 0 e5
              obtain ⟨d1, d2⟩ := f2.dp (s7 103 20 - 1)
              exact ⟨0, _, u9 s hs _ (by rw [a3, e1, zbd_some, f1, zbd_some]), a2.tr (e2.tr (f3.tr d2)), Or.inl ⟨by rw [e4]; rfl, d1⟩⟩
            · obtain ⟨y1, y2, y3⟩ := G2 N e4
              obtain ⟨s7, f1, f2, f3⟩ := stp9 (k := k) (by rw [List.length_append]; omega) e5 (3, 0)
              have f1' : f9_step k 3 0 s6 = some ((), s7) := f1
              obtain ⟨d1, d2⟩ := f2.dp (d' := dep) (v := s7 103 20 - 1) (by rw [f2.2.2.2.1, nI_sub (by omega) (by omega)]; rfl)
              exact ⟨0, _, u9 s hs _ (by rw [a3, e1, zbd_some, f1', zbd_some]), a2.tr (e2.tr (f3.tr d2)), Or.inr ⟨N ++ [(3, 0)], by rw [e4]; rfl, by rw [← List.append_assoc]; exact d1⟩⟩
          · cases o1 with
            | none => exact absurd hN (by simp)
            | some N1 =>
              obtain rfl : N1 ++ [(3, 0)] = N := by simpa using hN
              obtain ⟨y1, y2, y3⟩ := G2 N1 rfl
              exact ⟨by omega, by rw [ln2]; omega, fun h => vl_app N1 _ _ _ _ (y3 h) (Or.inr (Or.inr (Or.inl ⟨rfl, by omega, rfl⟩)))⟩
        · obtain ⟨j1, o1, C1, M1, G1, G2⟩ := BA (i + 1) L (by omega) (by omega)
          have op : ∀ s, CI n u B i L s → ∀ y, (zbd (fRD k D 0 [0, nI (dep + 1)] (zu s 86 3 (s 86 3 + 1))) fun r6 s6 => if r6 = 0 then some ((0 : Int32), s6) else zbd (f3_signHere k s6) fun r8 s8 => if r8 = 41 then some ((1 : Int32), zu s8 86 3 (s8 86 3 + 1)) else some ((0 : Int32), s8)) = y → f3_readOpen k (fRD k D) c (nI (dep + 1)) s = y := by
            intro s hs y hy
            rw [f3_readOpen, zput_eq, if_neg g]
            exact hy
          cases o1 with
          | none =>
            refine ⟨j1, none, fun s hs => ?_, fun s hs => ?_, G1, fun N hN => absurd hN (by simp)⟩
            · obtain ⟨a1, a2⟩ := adv8 hs
              obtain ⟨s6, e1, e2⟩ := C1 _ a1
              rcases e2 with ⟨e3, e4, e5⟩ | ⟨N, e3, -⟩
              · exact ⟨s6, a2.tr e1, Or.inl ⟨rfl, v8 s hs _ _ (op s hs _ (by rw [e4, zbd_some, if_pos rfl])) (Or.inl rfl), e5⟩⟩
              · exact absurd e3 (by simp)
            · obtain ⟨s4, a1, a2, a3⟩ := v9 s hs
              rw [if_neg g] at a3
              obtain ⟨r, s9, e1, e2, e3⟩ := M1 s4 a1
              rcases e3 with ⟨-, e5⟩ | ⟨N, e4, -⟩
              · obtain ⟨s', f1, f2, f3⟩ := o79 s9 j1 e5
                exact ⟨0, s', u9 s hs _ (by rw [a3, e1, zbd_some, if_neg (by rw [e5.2.2.1]; decide), f1]), a2.tr (e2.tr f3), Or.inl ⟨rfl, f2⟩⟩
              · exact absurd e4 (by simp)
          | some N1 =>
            obtain ⟨y1, y2, y3⟩ := G2 N1 rfl
            have hl1 : (L ++ N1).length ≤ j1 := by rw [List.length_append]; omega
            by_cases hp : hr B n j1 = 41
            · have hjn : j1 < n := by
                by_cases q : j1 < n
                · exact q
                · rw [hr, if_neg q] at hp; exact absurd hp (by decide)
              refine ⟨j1 + 1, some N1, fun s hs => ?_, fun s hs => ?_, by omega, fun N hN => ?_⟩
              · obtain ⟨a1, a2⟩ := adv8 hs
                obtain ⟨s6, e1, e2⟩ := C1 _ a1
                rcases e2 with ⟨e3, -⟩ | ⟨N, e3, e4, e5⟩
                · exact absurd e3 (by simp)
                · obtain rfl : N1 = N := by simpa using e3
                  obtain ⟨f1, f2⟩ := adv8 e5
                  exact ⟨_, a2.tr (e1.tr f2), Or.inr ⟨N1, rfl, v8 s hs _ _ (op s hs _ (by rw [e4, zbd_some, if_neg (by decide), sgn8 hn G1 e5, zbd_some, if_pos hp])) (Or.inr rfl), f1⟩⟩
              · obtain ⟨s4, a1, a2, a3⟩ := v9 s hs
                rw [if_neg g] at a3
                obtain ⟨r, s9, e1, e2, e3⟩ := M1 s4 a1
                rcases e3 with ⟨e4, -⟩ | ⟨N, e4, e5⟩
                · exact absurd e4 (by simp)
                · obtain rfl : N1 = N := by simpa using e4
                  obtain ⟨z1, z2⟩ := e5.z21
                  obtain ⟨f1, f2⟩ := adv9 z1
                  obtain ⟨d1, d2⟩ := f1.dp (d' := dep) (v := (zu (zu s9 103 21 0) 103 19 ((zu s9 103 21 0) 103 19 + 1)) 103 20 - 1) (by rw [f1.2.2.2.1, nI_sub (by omega) (by omega)]; rfl)
                  refine ⟨0, _, u9 s hs _ ?_, a2.tr (e2.tr (z2.tr (f2.tr d2))), Or.inr ⟨N1, rfl, d1⟩⟩
                  rw [a3, e1, zbd_some, if_pos e5.2.2.2.2.1, byt9 hn hR4 hRB G1 e5.1 e5.2.1, zbd_some, if_pos hp, b9_opens_79, if_pos (show zsh 103 = 10 from rfl), if_pos (show zbo 0 from Or.inl rfl), zput_eq, if_pos (show zu s9 103 21 0 103 21 = 0 from zu_at), zput_eq, zput_eq]
              · obtain rfl : N1 = N := by simpa using hN
                exact ⟨by omega, by omega, y3⟩
            · refine ⟨j1, none, fun s hs => ?_, fun s hs => ?_, G1, fun N hN => absurd hN (by simp)⟩
              · obtain ⟨a1, a2⟩ := adv8 hs
                obtain ⟨s6, e1, e2⟩ := C1 _ a1
                rcases e2 with ⟨e3, -⟩ | ⟨N, e3, e4, e5⟩
                · exact absurd e3 (by simp)
                · exact ⟨s6, a2.tr e1, Or.inl ⟨rfl, v8 s hs _ _ (op s hs _ (by rw [e4, zbd_some, if_neg (by decide), sgn8 hn G1 e5, zbd_some, if_neg hp])) (Or.inl rfl), e5.1.2.2.1, e5.1.2.1⟩⟩
              · obtain ⟨s4, a1, a2, a3⟩ := v9 s hs
                rw [if_neg g] at a3
                obtain ⟨r, s9, e1, e2, e3⟩ := M1 s4 a1
                rcases e3 with ⟨e4, -⟩ | ⟨N, e4, e5⟩
                · exact absurd e4 (by simp)
                · obtain rfl : N1 = N := by simpa using e4
                  refine ⟨0, zu (zu (zu s9 103 21 1) 103 19 (s9 103 19 + 0)) 103 20 (s9 103 20 - 1), u9 s hs _ ?_, a2.tr (e2.tr ⟨fun o q1 q2 q3 => by rw [zu_o q1, zu_o q1, zu_o q1], fun i q1 q2 q3 q4 => by rw [zu_k q3, zu_k q2, zu_k q4]⟩), Or.inl ⟨rfl, ?_, ?_, ?_, ?_⟩⟩
                  · rw [a3, e1, zbd_some, if_pos e5.2.2.2.2.1, byt9 hn hR4 hRB G1 e5.1 e5.2.1, zbd_some, if_neg hp, b9_opens_79, if_pos (show zsh 103 = 10 from rfl), if_pos (show zbo 1 from Or.inr rfl), zput_eq, zu_at, if_neg (by decide), zput_eq, zput_eq, zu_k (show (19 : Nat) ≠ 21 by decide), zu_k (show (20 : Nat) ≠ 19 by decide), zu_k (show (20 : Nat) ≠ 21 by decide)]
                  · rw [zu_o (by decide), zu_o (by decide), zu_o (by decide)]; exact e5.1
                  · rw [zu_k (by decide), zu_at, e5.2.1, Int32.add_zero]
                  · rw [zu_k (by decide), zu_k (by decide), zu_at]
                  · rw [zu_k (by decide), zu_k (by decide), zu_k (by decide), e5.2.2.1, nI_toInt (by omega)]; omega
    · have n33 : ¬ c = 33 := fun q => c33 (Or.inl q)
      have n40 : ¬ c = 40 := fun q => c33 (Or.inr q)
      obtain ⟨k4, hk4⟩ : ∃ q, k = q + 4 := ⟨k - 4, by omega⟩
      rcases nm_cs u c with ⟨t, t1, t2, t3, t4⟩ | ⟨t1, t2⟩
      · have hi2 : i < n := hin (fun q => by have := ch_big u t; rw [← t2, q, t_m1] at this; omega)
        refine ⟨i + 1, some [(2, nI t)], fun s hs => ?_, fun s hs => ?_, by omega, fun N hN => ?_⟩
        · obtain ⟨s7, e1, e2, e3⟩ := add8 (k := k) (by omega) hs (2, nI t)
          obtain ⟨a1, a2⟩ := adv8 e2
          refine ⟨_, e3.tr a2, Or.inr ⟨_, rfl, r8 s hs _ ?_, a1⟩⟩
          have hh := un_hit (k := k) (q := k4) (rc := fRD k (D + 1)) hu hs.1.2.2.2 t1 t2 t4
          rw [← hk4] at hh
          rw [if_neg dg, if_neg n33, if_neg n40, hh, e1, zbd_some]
        · obtain ⟨a1, a2⟩ := adv9 hs
          obtain ⟨s7, e1, e2, e3⟩ := stp9 (k := k) (by omega) a1 (2, nI t)
          have e1' : f9_step k 2 (nI t) (zu s 103 19 (s 103 19 + 1)) = some ((), s7) := e1
          refine ⟨0, s7, r9 s hs _ ?_, a2.tr e3, Or.inr ⟨_, rfl, e2⟩⟩
          rw [t3, if_neg (by rw [Int32.lt_iff_toInt_lt, nI_toInt (by omega), t_0]; omega), e1', zbd_some, zbd_some]
        · obtain rfl : [(2, nI t)] = N := by simpa using hN
          exact ⟨by omega, by show 1 + i ≤ i + 1; omega, fun h => Or.inr (Or.inl ⟨rfl, by show 0 ≤ (nI t).toInt; rw [nI_toInt (by omega)]; omega, by show (nI t).toInt ≤ 2; rw [nI_toInt (by omega)]; omega, rfl⟩)⟩
      · refine ⟨i, none, fun s hs => ⟨s, CF.rf, Or.inl ⟨rfl, r8 s hs _ ?_, hs.1.2.2.1, hs.1.2.1⟩⟩, fun s hs => ?_, hi, fun N hN => absurd hN (by simp)⟩
        · have hh := un_miss (k := k) (q := k4) (rc := fRD k (D + 1)) hu hs.1.2.2.2 t2
          rw [← hk4] at hh
          rw [if_neg dg, if_neg n33, if_neg n40, hh]
        · obtain ⟨a1, a2⟩ := hs.mx (by omega)
          obtain ⟨s3, e1, e2, e3⟩ := stp_any (k := k) 1 0 a1
          refine ⟨0, s3, r9 s hs _ ?_, a2.tr e3, Or.inl ⟨rfl, e2⟩⟩
          have hnum : f9_number k s = some ((), s3) := by
            obtain ⟨k1, hk1⟩ : ∃ q, k = q + 1 := ⟨k - 1, by omega⟩
            have : f9_number k s = b9_number_4 k (f9_number_4 k k1) 0 0 s := by
              rw [f9_number]
              conv => lhs; rw [hk1]
              rw [hk1]
              rfl
            rw [this, b9_number_4, if_neg (by decide), byt9 hn hR4 hRB hi hs.1 hs.2.1, zbd_some, s9_in, zbd_some, ← hc, t_48, t_57, if_neg dg, if_pos rfl, b9_number_52, if_pos rfl, zput_eq, e1, zbd_some]
          rw [t1, if_pos (by decide), if_neg n33, if_neg n40, hnum, zbd_some, zbd_some]
end
