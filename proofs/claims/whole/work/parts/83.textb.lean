/-! text -/
theorem ec_at : ∀ (N : List (Int32 × Int32)) (j : Nat), j < N.length → (N.map ec).getD j 0 = enc ((N.map Prod.fst).getD j 0) ((N.map Prod.snd).getD j 0)
  | [], j, h => absurd h (by simp)
  | p :: N, 0, h => rfl
  | p :: N, j + 1, h => ec_at N j (Nat.lt_of_succ_lt_succ h)
section
variable {m k : Nat} {σ : ZS}
theorem WF.txt {R R' : Nat → Int32} {u : Nat} {N : List (Int32 × Int32)} (hW : WF 9999 R) (hu : u = 0 ∨ u = 1) (hN : N.length ≤ 60) (hv : vl N 0 1) (r4 : R' 4 = 0) (ra : R' (148 + 121 * u) = nI N.length) (rw : ∀ j, j < N.length → R' (148 + 121 * u + 1 + j) = (N.map Prod.fst).getD j 0 ∧ R' (148 + 121 * u + 61 + j) = (N.map Prod.snd).getD j 0) (rz : ∀ z, z ≠ 4 → (z < 148 + 121 * u ∨ 148 + 121 * u + 121 ≤ z) → R' z = R z) : WF 9999 R' := by
  have hn := hW.1.ng
  have hpos : 0 < N.length := by
    cases N with
    | nil => exact absurd (show (0 : Nat) = 1 from hv) (by decide)
    | cons p N => exact Nat.succ_pos _
  have hlen : (nI N.length).toInt = N.length := nI_toInt (by omega)
  have new : VT1 R' (148 + 121 * u) := by
    refine Or.inr ⟨by rw [ra, hlen]; omega, by rw [ra, hlen]; omega, ?_⟩
    rw [ra, hlen, show (N.length : Int).toNat = N.length by omega]
    refine vl_vok N 0 0 (fun j hj => ?_) hv
    rw [Nat.zero_add]
    exact rw j hj
  refine ⟨fun i hi => ?_, fun g g' h3 h4 h5 => ?_, ?_⟩
  · by_cases c : i = 4
    · subst c
      rw [r4]
      decide
    · rw [rz i c (by omega)]; exact hW.1 i hi
  · rw [rz 2 (by decide) (by omega)] at h3 h4
    rw [rz _ (by omega) (by omega), rz _ (by omega) (by omega)] at h5
    exact hW.2.1 g g' h3 h4 h5
  · rcases hu with rfl | rfl
    · exact ⟨new, hW.2.2.2.congr fun i h1 h2 => rz i (by omega) (by omega)⟩
    · exact ⟨hW.2.2.1.congr fun i h1 h2 => rz i (by omega) (by omega), new⟩
theorem RS.txt {σ' : ZS} {R R' : Nat → Int32} {u : Nat} {N : List (Int32 × Int32)} (h : RS σ 2 R) (hW : WF 9999 R) (hu : u = 0 ∨ u = 1) (hN : 0 < N.length ∧ N.length ≤ 60)
  (e : ∀ o, 2 < o → o < 29 → o ≠ 23 + 3 * u → o ≠ 24 + 3 * u → σ' o = σ o) (e2 : ∀ i, i ≠ 8 → σ' 2 i = σ 2 i) (e8 : σ' 2 8 = 0)
  (t2 : σ' (23 + 3 * u) 2 = nI N.length) (t3 : σ' (23 + 3 * u) 3 = 1) (ts : hol (σ' (24 + 3 * u)) (N.map ec))
  (r4 : R' 4 = 0) (ra : R' (148 + 121 * u) = nI N.length) (rw : ∀ j, j < N.length → R' (148 + 121 * u + 1 + j) = (N.map Prod.fst).getD j 0 ∧ R' (148 + 121 * u + 61 + j) = (N.map Prod.snd).getD j 0) (rz : ∀ z, z ≠ 4 → (z < 148 + 121 * u ∨ 148 + 121 * u + 121 ≤ z) → R' z = R z) : RS σ' 2 R' := by
  have hn := hW.1.ng
  have hlen : (nI N.length).toInt = N.length := nI_toInt (by omega)
  obtain ⟨⟨a1, a2, a3, a4, a5, a6⟩, b, c, d, f, q, j1, j2⟩ := h
  have new : TR σ' (23 + 3 * u) R' (148 + 121 * u) := by
    refine Or.inr ⟨by rw [ra, hlen]; omega, t3, by rw [t2, ra], fun i hi => ?_⟩
    rw [ra, hlen] at hi
    have hi' : i < N.length := by omega
    rw [show 23 + 3 * u + 1 = 24 + 3 * u by omega, ts i (by rw [List.length_map]; exact hi'), ec_at N i hi', (rw i hi').1, (rw i hi').2]
  refine ⟨?_, fun g' hg' k' hk' => ?_, fun p' hp' k' hk' => ?_, fun z hz => ?_, fun z hz => ?_, fun c' hc => ?_, ?_⟩
  · rw [e2 6 (by decide), e2 7 (by decide), e8, e2 9 (by decide), e2 10 (by decide), e2 11 (by decide), rz 2 (by decide) (by omega), rz 3 (by decide) (by omega), r4, rz 5 (by decide) (by omega), rz 0 (by decide) (by omega), rz 1 (by decide) (by omega)]
    exact ⟨a1, a2, rfl, a4, a5, a6⟩
  · rw [e _ (by omega) (by omega) (by omega) (by omega), rz _ (by omega) (by omega)]; exact b g' hg' k' hk'
  · rw [e _ (by omega) (by omega) (by omega) (by omega), rz _ (by omega) (by omega)]; exact c p' hp' k' hk'
  · rw [e _ (by omega) (by omega) (by omega) (by omega), rz _ (by omega) (by omega)]; exact d z hz
  · rw [e _ (by omega) (by omega) (by omega) (by omega), rz _ (by omega) (by omega)]; exact f z hz
  · rw [e _ (by omega) (by omega) (by omega) (by omega), q c' hc]
    exact (gat_congr (rz 2 (by decide) (by omega)) (fun z hz => rz _ (by omega) (by omega)) _).symm
  · rcases hu with rfl | rfl
    · exact ⟨new, j2.congr (e _ (by decide) (by decide) (by decide) (by decide)) (e _ (by decide) (by decide) (by decide) (by decide)) (fun i h1 h2 => rz i (by omega) (by omega)) hW.2.2.2.len.2⟩
    · exact ⟨j1.congr (e _ (by decide) (by decide) (by decide) (by decide)) (e _ (by decide) (by decide) (by decide) (by decide)) (fun i h1 h2 => rz i (by omega) (by omega)) hW.2.2.1.len.2, new⟩
theorem op_text (hk : 400 ≤ k) (h : Rel m σ) (x : Int32) : opk m (f8_text k x) (f9_text k x) σ := by
  have ht := h.2.1.1.nt
  by_cases c1 : 0 ≤ x.toInt ∧ x.toInt ≤ 1
  · obtain ⟨u, hu2, rfl⟩ : ∃ n : Nat, n < 2 ∧ x = nI n := ⟨x.toInt.toNat, by omega, i_nat c1.1⟩
    have hu : u = 0 ∨ u = 1 := by omega
    obtain ⟨n, hn, hR4⟩ : ∃ n : Nat, n ≤ 60 ∧ σ 104 4 = nI n := ⟨(σ 104 4).toInt.toNat, by omega, i_nat ht.1⟩
    have hnx : (nI n).toInt = n := nI_toInt (by omega)
    obtain ⟨j, o, C, M, G1, G2⟩ := rd_text (k := k) (n := n) (u := u) (B := σ 7) (R := σ 104) (by omega) hn hR4 (fun i hi => (h.1.2.2.2.1 i (by omega)).symm) hu 0 [] (Nat.zero_le _) (Nat.le_refl _)
    have hjx : (nI j).toInt = j := nI_toInt (by omega)
    have nj10 : ∀ z : Int32, z = nI j → (-10 : Int32) - z = -10 - nI j := fun z hz => by rw [hz]
    obtain ⟨s7, hs7⟩ : ∃ s7, s7 = zu (zu (zu (zu (zu (zu σ 86 1 (nI 7)) 86 2 (nI n)) 86 3 0) 86 4 (nI u)) 87 2 0) 87 3 1 := ⟨_, rfl⟩
    have f7 : ∀ o, o ≠ 86 → o ≠ 87 → s7 o = σ o := fun o q1 q2 => by rw [hs7, zu_o q2, zu_o q2, zu_o q1, zu_o q1, zu_o q1, zu_o q1]
    have I7 : CI n u (σ 7) 0 [] s7 := by
      refine ⟨⟨?_, ?_, ?_, ?_⟩, fun i hi => by rw [f7 7 (by decide) (by decide)], ?_, fun i hi => absurd hi (by simp)⟩
      · rw [hs7, zu_o (by decide), zu_o (by decide), zu_k (by decide), zu_k (by decide), zu_k (by decide), zu_at]; rfl
      · rw [hs7, zu_o (by decide), zu_o (by decide), zu_k (by decide), zu_k (by decide), zu_at]
      · rw [hs7, zu_o (by decide), zu_o (by decide), zu_k (by decide), zu_at]; rfl
      · rw [hs7, zu_o (by decide), zu_o (by decide), zu_at]
      · rw [hs7, zu_k (by decide), zu_at]; rfl
    have k7 : s7 87 3 = 1 := by rw [hs7, zu_at]
    obtain ⟨s8, e1, e2⟩ := C s7 I7
    have fr8 : ∀ o, o ≠ 86 → o ≠ 87 → o ≠ 88 → s8 o = σ o := fun o q1 q2 q3 => by rw [e1.1 o q1 q2 q3, f7 o q1 q2]
    have k8 : s8 87 3 = 1 := by rw [e1.2, k7]
    have r8 : ∀ r y, fRD k 120 0 [0, 0] s7 = some (r, s8) → (∀ z : Int32, z = (if r = 0 then s8 86 3 else if s8 86 3 < s8 86 2 then s8 86 3 else -1) → (if z < 0 then (zbd (f6_copyFrom k (23 + 3 * u) 87 (zu s8 2 8 0)) fun _ s7 => some ((1 : Int32), s7)) else some ((-10 : Int32) - z, zu s8 2 8 0)) = y) → f8_text k (nI u) σ = y := by
      intro r y hr hy
      have hr' : f3_readPartx k 0 0 s7 = some (r, s8) := hr
      have ft : f3_fault k 7 (σ 2 8) (nI u) σ = some (if r = 0 then s8 86 3 else if s8 86 3 < s8 86 2 then s8 86 3 else -1, s8) := by
        rw [f3_fault, if_pos (show zsh 7 = 15 from rfl), h.1.1.2.2.1, hR4, zput_eq, zput_eq, zput_eq, zput_eq, zput_eq, zput_eq, ← hs7, hr', zbd_some]
        by_cases q1 : r = 0
        · rw [if_pos q1, if_pos q1]
        · rw [if_neg q1, if_neg q1]
          by_cases q2 : s8 86 3 < s8 86 2
          · rw [if_pos q2, if_pos q2]
          · rw [if_neg q2, if_neg q2]
      rw [f8_text, s5_textOf (Or.inl rfl) hu2, zbd_some, if_neg (by omega), ft, zbd_some, zput_eq]
      have := hy _ rfl
      rw [show 2 + 21 + 3 * u = 23 + 3 * u by omega]
      rw [← this]
      have sh : zsh (23 + 3 * u) = 7 := by rcases hu with rfl | rfl <;> rfl
      rw [if_pos sh]
    have m9 : ∀ z : ZS, z 104 = σ 104 → ∃ z8, MI u (σ 104) 0 0 [] z8 ∧ (∀ o, o ≠ 103 → z8 o = z o) ∧ (∀ i, i < 18 ∨ 23 ≤ i → z8 103 i = z 103 i) ∧ ∀ r z9, fPA k 80 6 [] z8 = some (r, z9) → f9_text k (nI u) z = (if z9 103 21 = 0 then (if z9 104 4 ≤ z9 103 19 then b9_text_71 k (nI u) 103 0 z9 else b9_text_71 k (nI u) 103 1 z9) else b9_text_71 k (nI u) 103 1 z9) := by
      intro z hz
      refine ⟨zu (zu (zu (zu (zu z 103 22 (nI u)) 103 18 0) 103 19 0) 103 20 0) 103 21 0, ⟨?_, ?_, ?_, ?_, ?_, ?_, fun i hi => absurd hi (by simp), fun i hi => absurd hi (by simp)⟩, fun o ho => by rw [zu_o ho, zu_o ho, zu_o ho, zu_o ho, zu_o ho], fun i hi => by rw [zu_k (by omega), zu_k (by omega), zu_k (by omega), zu_k (by omega), zu_k (by omega)], fun r z9 hr => ?_⟩
      · rw [zu_o (by decide), zu_o (by decide), zu_o (by decide), zu_o (by decide), zu_o (by decide)]; exact hz
      · rw [zu_k (by decide), zu_k (by decide), zu_at]; rfl
      · rw [zu_k (by decide), zu_k (by decide), zu_k (by decide), zu_at]; rfl
      · rw [zu_k (by decide), zu_at]; rfl
      · rw [zu_at]
      · rw [zu_k (by decide), zu_k (by decide), zu_k (by decide), zu_k (by decide), zu_at]
      · rw [f9_text, s9_in, zbd_some, t_0, t_1, if_pos c1, if_neg (by decide), zput_eq, zput_eq, zput_eq, zput_eq, zput_eq, f9_anyx, hr, zbd_some, zbd_some]
    -- where it is wrong
    have bad : ∀ s1 : ZS, f8_text k (nI u) σ = some (-10 - nI j, s1) → s1 = zu s8 2 8 0 → (∀ z, z 104 = σ 104 → ∃ r z9, fPA k 80 6 [] z = some (r, z9) → True) → (∀ z8, MI u (σ 104) 0 0 [] z8 → ∃ r z9, fPA k 80 6 [] z8 = some (r, z9) ∧ MG z8 z9 ∧ z9 104 = σ 104 ∧ z9 103 19 = nI j ∧ (z9 103 21 = 0 → j < n)) → opk m (f8_text k (nI u)) (f9_text k (nI u)) σ := by
      intro s1 h8 hs1 _ hm
      have f1 : ∀ o, o ≠ 2 → o ≠ 86 → o ≠ 87 → o ≠ 88 → s1 o = σ o := fun o q1 q2 q3 q4 => by rw [hs1, zu_o q1, fr8 o q2 q3 q4]
      obtain ⟨z8, n1, n2, n3, n4⟩ := m9 s1 (f1 104 (by decide) (by decide) (by decide) (by decide))
      obtain ⟨r, z9, p1, p2, p3, p4, p5⟩ := hm z8 n1
      have p6 : f9_text k (nI u) s1 = b9_text_71 k (nI u) 103 1 z9 := by
        rw [n4 r z9 p1]
        by_cases q : z9 103 21 = 0
        · rw [if_pos q, p3, p4, hR4, if_neg (by rw [Int32.le_iff_toInt_le, hnx, hjx]; have := p5 q; omega)]
        · rw [if_neg q]
      have hR : RS σ 2 (σ 104) := h.1
      have hRn := h.1.fld h.2.1.2.2 h.2.1.1.ng.2 (i := 8) (j := 4) (by decide) 0
      have hWn : WF 9999 (upd (σ 104) 4 0) := h.2.1.upd0 (by decide) (by decide) (by decide) (fun g hg => by omega)
      have f2 : ∀ o, o ≠ 103 → o ≠ 104 → o ≠ 113 → o ≠ 114 → zu (zu z9 103 21 1) 104 4 0 o = s1 o := fun o q1 q2 q3 q4 => by rw [zu_o q2, zu_o q1, p2.1 o q1 q3 q4, n2 o q1]
      have f3 : ∀ i, i < 18 ∨ 23 ≤ i → zu (zu z9 103 21 1) 104 4 0 103 i = σ 103 i := fun i hi => by rw [zu_o (by decide), zu_k (by omega), p2.2 i (by omega) (by omega) (by omega) (by omega), n3 i hi, f1 103 (by decide) (by decide) (by decide) (by decide)]
      have e104 : zu (zu z9 103 21 1) 104 4 0 104 = upd (σ 104) 4 0 := by rw [zu_self, zu_o (by decide), p3]
      refine ⟨-10 - nI j, s1, zu (zu z9 103 21 1) 104 4 0, h8, ?_, h.strt ?_ ?_ (fun o ho => ?_) (f3 3 (by decide)) (f3 25 (by decide))⟩
      · rw [p6, b9_text_71, if_pos (show zsh 103 = 10 from rfl), if_pos (show zbo 1 from Or.inr rfl), zput_eq, zput_eq, if_neg (by rw [zu_o (by decide), zu_at]; decide), zu_o (by decide), zu_k (by decide), p4]
      · rw [e104]
        refine hRn.congr hWn.2.2 fun o q1 q2 => ?_
        rw [f2 o (by omega) (by omega) (by omega) (by omega), hs1]
        by_cases q : o = 2
        · subst q; rw [zu_self, zu_self, fr8 2 (by decide) (by decide) (by decide)]
        · rw [zu_o q, zu_o q, fr8 o (by omega) (by omega) (by omega)]
      · rw [e104]; exact hWn
      · rw [f2 o (by omega) (by omega) (by omega) (by omega), f1 o (by omega) (by omega) (by omega) (by omega)]
    rcases e2 with ⟨q1, q2, q3, q4⟩ | ⟨N, q1, q2, q3⟩
    · refine bad _ (r8 0 _ q2 fun z hz => ?_) rfl (fun z _ => ⟨0, z, fun _ => trivial⟩) fun z8 hz8 => ?_
      · rw [if_pos rfl, q3] at hz
        rw [hz, if_neg (by rw [Int32.lt_iff_toInt_lt, hjx, t_0]; omega)]
      · obtain ⟨r, z9, p1, p2, p3⟩ := M z8 hz8
        rcases p3 with ⟨-, p4⟩ | ⟨N, p3, -⟩
        · exact ⟨r, z9, p1, p2, p4.1, p4.2.1, fun q => by rw [p4.2.2.1] at q; exact absurd q (by decide)⟩
        · rw [q1] at p3; exact absurd p3 (by simp)
    · obtain ⟨g1, g2, g3⟩ := G2 N q1
      have M' : ∀ z8, MI u (σ 104) 0 0 [] z8 → ∃ r z9, fPA k 80 6 [] z8 = some (r, z9) ∧ MG z8 z9 ∧ MI u (σ 104) 0 j N z9 := by
        intro z8 hz8
        obtain ⟨r, z9, p1, p2, p3⟩ := M z8 hz8
        rcases p3 with ⟨p3, -⟩ | ⟨N', p3, p4⟩
        · rw [q1] at p3; exact absurd p3 (by simp)
        · rw [q1] at p3
          obtain rfl : N = N' := by simpa using p3
          exact ⟨r, z9, p1, p2, p4⟩
      have q3' : CI n u (σ 7) j N s8 := q3
      by_cases hj : j < n
      · refine bad _ (r8 1 _ q2 fun z hz => ?_) rfl (fun z _ => ⟨0, z, fun _ => trivial⟩) fun z8 hz8 => ?_
        · rw [if_neg (by decide), q3'.1.2.2.1, q3'.1.2.1, if_pos (by rw [Int32.lt_iff_toInt_lt, hjx, hnx]; omega)] at hz
          rw [hz, if_neg (by rw [Int32.lt_iff_toInt_lt, hjx, t_0]; omega)]
        · obtain ⟨r, z9, p1, p2, p3⟩ := M' z8 hz8
          exact ⟨r, z9, p1, p2, p3.1, p3.2.1, fun _ => hj⟩
      · have hN60 : N.length ≤ 60 := by omega
        have hv : vl N 0 1 := g3 0
        have hpos : 0 < N.length := by
          cases N with
          | nil => exact absurd (show (0 : Nat) = 1 from hv) (by decide)
          | cons p N => exact Nat.succ_pos _
        have hNx : (nI N.length).toInt = N.length := nI_toInt (by omega)
        have sh : zsh (23 + 3 * u) = 7 := by rcases hu with rfl | rfl <;> rfl
        obtain ⟨sa, hsa⟩ : ∃ sa, sa = zurow (zu s8 2 8 0) (23 + 3 * u + 1) (va_cpy (s8 88) (s8 (23 + 3 * u + 1)) (0 : Int32).toNatClampNeg (0 : Int32).toNatClampNeg (60 : Int32).toNatClampNeg) := ⟨_, rfl⟩
        obtain ⟨s1, hs1⟩ : ∃ s1, s1 = zu (zu sa (23 + 3 * u) 2 (nI N.length)) (23 + 3 * u) 3 1 := ⟨_, rfl⟩
        have h8 : f8_text k (nI u) σ = some (1, s1) := by
          refine r8 1 _ q2 fun z hz => ?_
          rw [if_neg (by decide), q3'.1.2.2.1, q3'.1.2.1, if_neg (by rw [Int32.lt_iff_toInt_lt, hjx, hnx]; omega)] at hz
          have a2 : sa 87 2 = nI N.length := by rw [hsa, zr_o (by omega), zu_o (by decide)]; exact q3'.2.2.1
          have a3 : zu sa (23 + 3 * u) 2 (nI N.length) 87 3 = 1 := by rw [zu_o (by omega), hsa, zr_o (by omega), zu_o (by decide)]; exact k8
          rw [hz, if_pos (by decide), f6_copyFrom, if_pos sh, if_pos (show zsh 87 = 7 from rfl), zput_eq, show (87 + 1 : Nat) = 88 from rfl, zu_o (a := 88) (by decide), zu_o (a := 23 + 3 * u + 1) (by omega), ← hsa, zput_eq, a2, a3, if_pos (show zbo 1 from Or.inr rfl), zput_eq, zbd_some, hs1]
        have f1 : ∀ o, o ≠ 2 → o ≠ 23 + 3 * u → o ≠ 24 + 3 * u → o ≠ 86 → o ≠ 87 → o ≠ 88 → s1 o = σ o := fun o p1 p2 p3 p4 p5 p6 => by rw [hs1, zu_o p2, zu_o p2, hsa, zr_o (by omega), zu_o p1, fr8 o p4 p5 p6]
        obtain ⟨z8, n1, n2, n3, n4⟩ := m9 s1 (f1 104 (by decide) (by omega) (by omega) (by decide) (by decide) (by decide))
        obtain ⟨r, z9, p1, p2, p3⟩ := M' z8 n1
        obtain ⟨zb, hzb⟩ : ∃ zb, zb = zu (zu (zu z9 103 21 0) 104 4 0) 104 (148 + 121 * u) (nI N.length) := ⟨_, rfl⟩
        have b18 : zb 103 18 = nI N.length := by rw [hzb, zu_o (by decide), zu_o (by decide), zu_k (by decide)]; exact p3.2.2.1
        obtain ⟨s2, w1, w2, w3, w4⟩ := s9_117 (k := k) (a := 148 + 121 * u) (len := N.length) (by omega) hN60 N.length 0 k zb (by omega) (by omega) b18
        have ea : (148 : Int32) + (121 : Int32) * nI u = nI (148 + 121 * u) := by rcases hu with rfl | rfl <;> rfl
        have h9 : f9_text k (nI u) s1 = some (1, s2) := by
          rw [n4 r z9 p1, if_pos p3.2.2.2.2.1, p3.1, p3.2.1, hR4, if_pos (by rw [Int32.le_iff_toInt_le, hnx, hjx]; omega), b9_text_71, if_pos (show zsh 103 = 10 from rfl), if_pos (show zbo 0 from Or.inl rfl), zput_eq, zput_eq, if_pos (by rw [zu_o (by decide), zu_at]), ea, if_pos (nI_z (by omega) (by decide)), zput_eq, nI_nat (by omega), show zu (zu z9 103 21 0) 104 4 0 103 18 = nI N.length by rw [zu_o (by decide), zu_k (by decide)]; exact p3.2.2.1, ← hzb]
          exact w1
        have b104 : zb 104 = upd (upd (σ 104) 4 0) (148 + 121 * u) (nI N.length) := by rw [hzb, zu_self, zu_self, zu_o (by decide), p3.1]
        have R4 : s2 104 4 = 0 := by rw [w4 4 (fun i _ hi => by omega), b104, upd_ne (by omega), upd_at]
        have Ra : s2 104 (148 + 121 * u) = nI N.length := by rw [w4 _ (fun i _ hi => by omega), b104, upd_at]
        have b113 : ∀ o, o ≠ 103 → o ≠ 104 → zb o = z9 o := fun o y1 y2 => by rw [hzb, zu_o y2, zu_o y2, zu_o y1]
        have Rw : ∀ i, i < N.length → s2 104 (148 + 121 * u + 1 + i) = (N.map Prod.fst).getD i 0 ∧ s2 104 (148 + 121 * u + 61 + i) = (N.map Prod.snd).getD i 0 := by
          intro i hi
          obtain ⟨y1, y2⟩ := w3 i (Nat.zero_le _) hi
          rw [y1, y2, b113 113 (by decide) (by decide), b113 114 (by decide) (by decide)]
          exact ⟨p3.2.2.2.2.2.2.1 i (by rw [List.length_map]; exact hi), p3.2.2.2.2.2.2.2 i (by rw [List.length_map]; exact hi)⟩
        have Rz : ∀ z, z ≠ 4 → (z < 148 + 121 * u ∨ 148 + 121 * u + 121 ≤ z) → s2 104 z = σ 104 z := fun z y1 y2 => by rw [w4 z (fun i _ hi => by omega), b104, upd_ne (by omega), upd_ne y1]
        have fr2 : ∀ o, o ≠ 103 → o ≠ 104 → o ≠ 113 → o ≠ 114 → s2 o = s1 o := fun o y1 y2 y3 y4 => by rw [w2 o y2, b113 o y1 y2, p2.1 o y1 y3 y4, n2 o y1]
        have fm : ∀ i, i < 18 ∨ 23 ≤ i → s2 103 i = σ 103 i := fun i hi => by rw [w2 103 (by decide), hzb, zu_o (by decide), zu_o (by decide), zu_k (by omega), p2.2 i (by omega) (by omega) (by omega) (by omega), n3 i hi, f1 103 (by decide) (by omega) (by omega) (by decide) (by decide) (by decide)]
        refine ⟨1, s1, s2, h8, h9, h.strt (h.1.txt h.2.1 hu ⟨hpos, hN60⟩ (fun o y1 y2 y3 y4 => ?_) (fun i hi => ?_) ?_ ?_ ?_ (fun i hi => ?_) R4 Ra Rw Rz) (h.2.1.txt hu hN60 hv R4 Ra Rw Rz) (fun o ho => ?_) (fm 3 (by decide)) (fm 25 (by decide))⟩
        · rw [fr2 o (by omega) (by omega) (by omega) (by omega), f1 o (by omega) y3 y4 (by omega) (by omega) (by omega)]
        · rw [fr2 2 (by decide) (by decide) (by decide) (by decide), hs1, zu_o (by omega), zu_o (by omega), hsa, zr_o (by omega), zu_k hi, fr8 2 (by decide) (by decide) (by decide)]
        · rw [fr2 2 (by decide) (by decide) (by decide) (by decide), hs1, zu_o (by omega), zu_o (by omega), hsa, zr_o (by omega), zu_at]
        · rw [fr2 _ (by omega) (by omega) (by omega) (by omega), hs1, zu_k (by decide), zu_at]
        · rw [fr2 _ (by omega) (by omega) (by omega) (by omega), hs1, zu_at]
        · rw [List.length_map] at hi
          rw [fr2 _ (by omega) (by omega) (by omega) (by omega), hs1, zu_o (by omega), zu_o (by omega), hsa, show 24 + 3 * u = 23 + 3 * u + 1 by omega]
          have : zurow (zu s8 2 8 0) (23 + 3 * u + 1) (va_cpy (s8 88) (s8 (23 + 3 * u + 1)) (0 : Int32).toNatClampNeg (0 : Int32).toNatClampNeg (60 : Int32).toNatClampNeg) (23 + 3 * u + 1) i = va_cpy (s8 88) (s8 (23 + 3 * u + 1)) (0 : Int32).toNatClampNeg (0 : Int32).toNatClampNeg (60 : Int32).toNatClampNeg i := by
            unfold zurow
            rw [if_pos rfl]
          rw [this, cpy_lt (by rw [t_60]; omega)]
          exact q3'.2.2.2 i (by rw [List.length_map]; exact hi)
        · rw [fr2 o (by omega) (by omega) (by omega) (by omega), f1 o (by omega) (by omega) (by omega) (by omega) (by omega) (by omega)]
  · refine opk_e1 h ?_ fun s hs => ?_
    · have : f5_textOf k 2 x σ = some (0, σ) := by
        rw [f5_textOf, if_pos (show zsh 2 = 6 from rfl)]
        by_cases c2 : x < 0
        · rw [if_pos c2]
        · rw [if_neg c2, if_neg (by rw [Int32.lt_iff_toInt_lt, t_0] at c2; rw [Int32.lt_iff_toInt_lt, t_2]; omega)]
      rw [f8_text, this, zbd_some, if_pos rfl, e8_1]; rfl
    · rw [f9_text, s9_in, zbd_some, t_0, t_1, if_neg c1, if_pos rfl, e9_1]; rfl
end
