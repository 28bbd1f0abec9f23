/-! calls that go over all starts -/
def ct (P : Nat → Bool) : Nat → Nat
  | 0 => 0
  | n + 1 => ct P n + (if P n then 1 else 0)
def ls (P : Nat → Bool) : Nat → Int32
  | 0 => -1
  | n + 1 => if 0 ≤ ls P n then ls P n else if P n then nI n else -1
def ld (P : Nat → Bool) : Nat → Nat → Int32
  | 0, _ => -1
  | d + 1, i => if P i then nI i else ld P d (i + 1)
theorem nI_nn {i : Nat} (h : i < 2 ^ 31) : (0 : Int32) ≤ nI i := by
  rw [Int32.le_iff_toInt_le, nI_toInt h, t_0]; omega
theorem ls_ld (P : Nat → Bool) : ∀ (d i : Nat), i + d < 1000 → ls P (i + d) = if 0 ≤ ls P i then ls P i else ld P d i := by
  intro d
  induction d with
  | zero =>
    intro i hi
    by_cases c : 0 ≤ ls P i
    · rw [if_pos c]; rfl
    · rw [if_neg c]
      show ls P i = -1
      cases i with
      | zero => rfl
      | succ i =>
        rw [ls] at c ⊢
        by_cases c1 : 0 ≤ ls P i
        · rw [if_pos c1] at c; exact absurd c1 c
        · rw [if_neg c1] at c ⊢
          by_cases c2 : P i = true
          · rw [if_pos c2] at c; exact absurd (nI_nn (by omega)) c
          · rw [if_neg c2]
  | succ d ih =>
    intro i hi
    rw [show i + (d + 1) = i + 1 + d by omega, ih (i + 1) (by omega), ls]
    by_cases c1 : 0 ≤ ls P i
    · rw [if_pos c1, if_pos c1, if_pos c1]
    · rw [if_neg c1, if_neg c1, ld]
      by_cases c2 : P i = true
      · rw [if_pos c2, if_pos c2, if_pos (nI_nn (by omega))]
      · rw [if_neg c2, if_neg c2, if_neg (by decide)]
theorem ct_le (P : Nat → Bool) : ∀ n, ct P n ≤ n
  | 0 => Nat.le_refl _
  | n + 1 => by
    have := ct_le P n
    rw [ct]
    by_cases c : P n = true
    · rw [if_pos c]; omega
    · rw [if_neg c]; omega
theorem ct_mono (P : Nat → Bool) : ∀ d n, ct P n ≤ ct P (n + d)
  | 0, n => Nat.le_refl _
  | d + 1, n => Nat.le_trans (ct_mono P d n) (by show ct P (n + d) ≤ ct P (n + d) + _; omega)
theorem nI_d4 {i : Nat} (h : i < 256) : (0 ≤ (nI i / 4).toInt ∧ (nI i / 4).toInt ≤ 63) ∧ W4 (nI i % 4) := by
  have hx : (nI i).toInt = i := nI_toInt (by omega)
  have e1 : (nI i / 4).toInt = i / 4 := by rw [i_div (by omega) (by decide), hx, t_4]
  have e2 : (nI i % 4).toInt = i % 4 := by rw [i_mod (by omega), hx, t_4]
  exact ⟨by omega, W4.of (by omega)⟩
section
variable {m k : Nat} {σ : ZS}
/-- the look from start i -/
def lkA (R : Nat → Int32) (i : Nat) : List Int32 := (nI i / 4) :: cls (lk R 256 (nI i / 4) (nI i % 4)).1
theorem lkA_len {R : Nat → Int32} {i : Nat} : 1 ≤ (lkA R i).length ∧ (lkA R i).length ≤ 257 := by
  have h1 := cls_len (lk R 256 (nI i / 4) (nI i % 4)).1
  have h2 := lk_len (R := R) 256 (nI i / 4) (nI i % 4)
  show 1 ≤ (cls _).length + 1 ∧ (cls _).length + 1 ≤ 257
  omega
theorem st8 (hk : 300 ≤ k) (h : Rel m σ) {s : ZS} (hs : ∀ o, pD 2 o → s o = σ o) {i : Nat} (hi : i < 256) : ∃ s', f1_follow k 2 (nI i / 4) (nI i % 4) s = some ((), s') ∧ (∀ o, pD 2 o → s' o = σ o) ∧ L8 s' (lkA (σ 104) i) (mets (lk (σ 104) 256 (nI i / 4) (nI i % 4)).1) (lk (σ 104) 256 (nI i / 4) (nI i % 4)).2 := by
  obtain ⟨q1, q2⟩ := nI_d4 hi
  obtain ⟨s', e1, e2, e3⟩ := s1_follow (k := k) (t := 2) (R := σ 104) (σ := s) (by omega) (Or.inl rfl) h.2.1.1 (h.1.congr2 h.2.1.2.2 fun o p1 p2 p3 p4 => hs o (by unfold pD; omega)) h.2.1.2.2 q1 q2
  exact ⟨s', e1, fun o ho => by rw [e2 o ho.1 ho.2.1 ho.2.2.1, hs o ho], e3⟩
theorem st9 (hk : 300 ≤ k) (h : Rel m σ) {s : ZS} (hs : s 104 = σ 104) {i : Nat} (hi : i < 256) : ∃ s', f9_looks k (nI i / 4) (nI i % 4) s = some ((), s') ∧ (∀ o, pK o → s' o = s o) ∧ (∀ i, pKm i → s' 103 i = s 103 i) ∧ L9f (σ 104) s' (lkA (σ 104) i) (mets (lk (σ 104) 256 (nI i / 4) (nI i % 4)).1) (lk (σ 104) 256 (nI i / 4) (nI i % 4)).2 := by
  obtain ⟨q1, q2⟩ := nI_d4 hi
  obtain ⟨s', e1, e2, e3, e4⟩ := s9_looks (k := k) (σ := s) (by omega) (by rw [hs]; exact h.2.1.1) (by rw [hs]; exact h.2.1.2.2) q1 q2
  rw [hs] at e4
  exact ⟨s', e1, e2, e3, e4⟩
/-- people that stand on the way -/
def sv (A : List Int32) (R : Nat → Int32) : Nat → Nat → Int32 → Int32
  | 0, _, a => a
  | d + 1, p, a => sv A R d (p + 1) (if seen A (R (46 + 3 * p + 0)) = 0 then a else a ||| ((1 : Int32) <<< (nI p &&& 31)))
theorem op_sees (hk : 300 ≤ k) (h : Rel m σ) (a : Int32) : opk m (f8_sees k a) (f9_sees k a) σ := by
  have hn := h.2.1.1.np
  by_cases c1 : 0 ≤ a.toInt ∧ a.toInt < (σ 104 3).toInt
  · have hg : a.toInt.toNat < 6 := by omega
    have han : a = nI a.toInt.toNat := i_nat c1.1
    have hpe := h.2.1.1.pe hg
    obtain ⟨σ1, e1, e2, e3⟩ := s1_follow (k := k) (t := 2) (R := σ 104) (σ := σ) (c := σ 104 (46 + 3 * a.toInt.toNat + 0)) (w := σ 104 (46 + 3 * a.toInt.toNat + 1)) (by omega) (Or.inl rfl) h.2.1.1 h.1 h.2.1.2.2 hpe.1 (W4.of hpe.2.1)
    have d9 : ∀ s : ZS, s 104 = σ 104 → _ := fun s hs => s9_looksOf (k := k) (p := a.toInt.toNat) (σ := s) hk (by rw [hs]; exact h.2.1.1) (by rw [hs]; exact h.2.1.2.2) hg
    have len := cls_len (lk (σ 104) 256 (σ 104 (46 + 3 * a.toInt.toNat + 0)) (σ 104 (46 + 3 * a.toInt.toNat + 1))).1
    have len2 := lk_len (R := σ 104) 256 (σ 104 (46 + 3 * a.toInt.toNat + 0)) (σ 104 (46 + 3 * a.toInt.toNat + 1))
    have hAl : (σ 104 (46 + 3 * a.toInt.toNat + 0) :: cls (lk (σ 104) 256 (σ 104 (46 + 3 * a.toInt.toNat + 0)) (σ 104 (46 + 3 * a.toInt.toNat + 1))).1).length ≤ 257 := by show (cls _).length + 1 ≤ 257; omega
    have hR1 : RS σ1 2 (σ 104) := h.1.congr h.2.1.2.2 fun o q1 q2 => e2 o (by omega) (by omega) (by omega)
    have key8 : ∀ (d p n : Nat) (v : Int32), (p : Int) + d = (σ 104 3).toInt → d < n → f8_sees_43 k n v (nI p) σ1 = some (sv (σ 104 (46 + 3 * a.toInt.toNat + 0) :: cls (lk (σ 104) 256 (σ 104 (46 + 3 * a.toInt.toNat + 0)) (σ 104 (46 + 3 * a.toInt.toNat + 1))).1) (σ 104) d p v, σ1) := by
      intro d
      induction d with
      | zero =>
        intro p n v hp hn
        obtain ⟨n, rfl⟩ : ∃ q, n = q + 1 := ⟨n - 1, by omega⟩
        show b8_sees_43 k _ v (nI p) σ1 = _
        unfold b8_sees_43
        rw [hR1.1.2.1, if_pos (by rw [Int32.le_iff_toInt_le, nI_toInt (by omega)]; omega)]
        rfl
      | succ d ih =>
        intro p n v hp hn
        obtain ⟨n, rfl⟩ : ∃ q, n = q + 1 := ⟨n - 1, by omega⟩
        have hp6 : p < 6 := by omega
        have hpx : (nI p).toInt = p := nI_toInt (by omega)
        have hpn : (p : Int).toNat = p := by omega
        show b8_sees_43 k (f8_sees_43 k n) v (nI p) σ1 = _
        unfold b8_sees_43
        rw [hR1.1.2.1, if_neg (by rw [Int32.le_iff_toInt_le, hpx]; omega), s5_personOf' (Or.inl rfl) hR1 h.2.1.1, zbd_some, hpx, if_pos (show (0 : Int) ≤ p ∧ (p : Int) < (σ 104 3).toInt by omega), hpn, if_neg (by omega), if_pos (sh_p hp6), hR1.2.2.1 p hp6 0 (by decide), s1_sees hk e3 hAl, zbd_some, nI_1, sv]
        by_cases c : seen (σ 104 (46 + 3 * a.toInt.toNat + 0) :: cls (lk (σ 104) 256 (σ 104 (46 + 3 * a.toInt.toNat + 0)) (σ 104 (46 + 3 * a.toInt.toNat + 1))).1) (σ 104 (46 + 3 * p + 0)) = 0
        · rw [if_pos c, if_pos c]; exact ih (p + 1) n v (by omega) (by omega)
        · rw [if_neg c, if_neg c]; exact ih (p + 1) n _ (by omega) (by omega)
    refine opk_lk h (r := sv (σ 104 (46 + 3 * a.toInt.toNat + 0) :: cls (lk (σ 104) 256 (σ 104 (46 + 3 * a.toInt.toNat + 0)) (σ 104 (46 + 3 * a.toInt.toNat + 1))).1) (σ 104) (σ 104 3).toInt.toNat 0 0) (σ1 := σ1) ?_ (fun o ho => e2 o ho.1 ho.2.1 ho.2.2.1) fun s hs => ?_
    · rw [f8_sees, h.pe8, zbd_some, if_pos c1, if_neg (by omega), if_pos (sh_p hg), h.1.2.2.1 _ hg 0 (by decide), h.1.2.2.1 _ hg 1 (by decide), e1, zbd_some]
      exact key8 _ 0 k 0 (by omega) (by omega)
    · have h4 : s 104 = σ 104 := hs 104 (by unfold pD; decide)
      obtain ⟨s3, g1, g2, g3, g4⟩ := d9 s h4
      rw [← han] at g1
      rw [h4] at g4
      refine ⟨s3, ?_, g2, g3⟩
      have h43 : s3 104 = σ 104 := by rw [g2 104 (by unfold pK; decide), h4]
      have key9 : ∀ (d p n : Nat) (v : Int32), (p : Int) + d = (σ 104 3).toInt → d < n → f9_sees_24 k n v (nI p) s3 = some (sv (σ 104 (46 + 3 * a.toInt.toNat + 0) :: cls (lk (σ 104) 256 (σ 104 (46 + 3 * a.toInt.toNat + 0)) (σ 104 (46 + 3 * a.toInt.toNat + 1))).1) (σ 104) d p v, s3) := by
        intro d
        induction d with
        | zero =>
          intro p n v hp hn
          obtain ⟨n, rfl⟩ : ∃ q, n = q + 1 := ⟨n - 1, by omega⟩
          show b9_sees_24 k _ v (nI p) s3 = _
          unfold b9_sees_24
          rw [h43, if_pos (by rw [Int32.le_iff_toInt_le, nI_toInt (by omega)]; omega)]
          rfl
        | succ d ih =>
          intro p n v hp hn
          obtain ⟨n, rfl⟩ : ∃ q, n = q + 1 := ⟨n - 1, by omega⟩
          have hp6 : p < 6 := by omega
          have hpx : (nI p).toInt = p := nI_toInt (by omega)
          show b9_sees_24 k (f9_sees_24 k n) v (nI p) s3 = _
          unfold b9_sees_24
          rw [h43, if_neg (by rw [Int32.le_iff_toInt_le, hpx]; omega), s9_about' hp6 (j := 0) t_0 (by decide), zbd_some, h43, s9_sees hk g4 hAl, zbd_some, nI_1, sv]
          by_cases c : seen (σ 104 (46 + 3 * a.toInt.toNat + 0) :: cls (lk (σ 104) 256 (σ 104 (46 + 3 * a.toInt.toNat + 0)) (σ 104 (46 + 3 * a.toInt.toNat + 1))).1) (σ 104 (46 + 3 * p + 0)) = 0
          · rw [if_pos c, if_pos c, Int32.or_zero]; exact ih (p + 1) n v (by omega) (by omega)
          · rw [if_neg c, if_neg c]; exact ih (p + 1) n _ (by omega) (by omega)
      rw [f9_sees, h.ip9 h4, zbd_some, if_pos c1, if_neg (by decide), g1, zbd_some]
      exact key9 _ 0 k 0 (by omega) (by omega)
  · refine opk_e1 h ?_ fun s hs => ?_
    · rw [f8_sees, h.pe8, zbd_some, if_neg c1, if_pos rfl, e8_1]; rfl
    · rw [f9_sees, h.ip9 (hs _ (by decide)), zbd_some, if_neg c1, if_pos rfl, e9_1]; rfl
/-- a part over a power of two, made small -/
def od (x1 : Int32) : Nat → Int32 → Int32
  | 0, x2 => if x1 = 0 then x2 else 1
  | d + 1, x2 => if x2 % 2 = 0 then od x1 d (x2 / 2) else (if x1 = 0 then x2 else nI (2 ^ (d + 1)))
theorem half {d : Nat} (h : d < 8) : nI (2 ^ (d + 1)) / 2 = nI (2 ^ d) ∧ ¬ nI (2 ^ (d + 1)) ≤ 1 := by
  match d, h with
  | 0, _ => exact ⟨rfl, by decide⟩
  | 1, _ => exact ⟨rfl, by decide⟩
  | 2, _ => exact ⟨rfl, by decide⟩
  | 3, _ => exact ⟨rfl, by decide⟩
  | 4, _ => exact ⟨rfl, by decide⟩
  | 5, _ => exact ⟨rfl, by decide⟩
  | 6, _ => exact ⟨rfl, by decide⟩
  | 7, _ => exact ⟨rfl, by decide⟩
  | d + 8, h => exact absurd h (by omega)
theorem s8_od {x1 : Int32} : ∀ (d n z : Nat) (x2 : Int32), z + d = 8 → d < n → f8_odds_74 k n x1 x2 (nI (2 ^ d)) (nI z) σ = some (od x1 d x2, σ)
  | 0, n, z, x2, hz, hn => by
    obtain ⟨n, rfl⟩ : ∃ q, n = q + 1 := ⟨n - 1, by omega⟩
    show b8_odds_74 k _ x1 x2 (nI 1) (nI z) σ = _
    unfold b8_odds_74
    rw [if_pos (by rw [Int32.le_iff_toInt_le, nI_toInt (by omega), t_8]; omega), od]
    by_cases c : x1 = 0
    · rw [if_pos c, if_pos c]
    · rw [if_neg c, if_neg c]; rfl
  | d + 1, n, z, x2, hz, hn => by
    obtain ⟨n, rfl⟩ : ∃ q, n = q + 1 := ⟨n - 1, by omega⟩
    show b8_odds_74 k (f8_odds_74 k n) x1 x2 (nI (2 ^ (d + 1))) (nI z) σ = _
    unfold b8_odds_74
    rw [if_neg (by rw [Int32.le_iff_toInt_le, nI_toInt (by omega), t_8]; omega), (half (d := d) (by omega)).1, nI_1, od]
    by_cases c : x2 % 2 = 0
    · rw [if_pos c, if_pos c]; exact s8_od d n (z + 1) _ (by omega) (by omega)
    · rw [if_neg c, if_neg c]
      by_cases c : x1 = 0
      · rw [if_pos c, if_pos c]
      · rw [if_neg c, if_neg c]
theorem s9_od {x1 : Int32} : ∀ (d n : Nat) (x2 : Int32), d ≤ 8 → d < n → f9_odds_62 k n x1 x2 (nI (2 ^ d)) σ = some (od x1 d x2, σ)
  | 0, n, x2, hz, hn => by
    obtain ⟨n, rfl⟩ : ∃ q, n = q + 1 := ⟨n - 1, by omega⟩
    show b9_odds_62 k _ x1 x2 (nI 1) σ = _
    unfold b9_odds_62
    rw [od]
    by_cases c : x2 % 2 = 0
    · rw [if_pos c, if_pos (by decide)]
      by_cases c : x1 = 0
      · rw [if_pos c, if_pos c]
      · rw [if_neg c, if_neg c]; rfl
    · rw [if_neg c]
      by_cases c : x1 = 0
      · rw [if_pos c, if_pos c]
      · rw [if_neg c, if_neg c]; rfl
  | d + 1, n, x2, hz, hn => by
    obtain ⟨n, rfl⟩ : ∃ q, n = q + 1 := ⟨n - 1, by omega⟩
    show b9_odds_62 k (f9_odds_62 k n) x1 x2 (nI (2 ^ (d + 1))) σ = _
    unfold b9_odds_62
    obtain ⟨h1, h2⟩ := half (d := d) (by omega)
    rw [h1, od]
    by_cases c : x2 % 2 = 0
    · rw [if_pos c, if_pos c, if_neg h2]; exact s9_od d n _ (by omega) (by omega)
    · rw [if_neg c, if_neg c]
      by_cases c : x1 = 0
      · rw [if_pos c, if_pos c]
      · rw [if_neg c, if_neg c]
def evP (R : Nat → Int32) (i : Nat) : Bool := (lk R 256 (nI i / 4) (nI i % 4)).2
theorem op_odds (hk : 300 ≤ k) (h : Rel m σ) (a : Int32) : opk m (f8_odds k a) (f9_odds k a) σ := by
  by_cases c1 : 0 ≤ a.toInt ∧ a.toInt ≤ 1
  · have key8 : ∀ (d i n : Nat) (s : ZS), i + d = 256 → d < n → (∀ o, pD 2 o → s o = σ o) → ∃ s', f8_odds_19 k n a (nI (ct (evP (σ 104)) i)) (nI i) s = some (od a 8 (nI (ct (evP (σ 104)) 256)), s') ∧ (∀ o, pD 2 o → s' o = σ o) := by
      intro d
      induction d with
      | zero =>
        intro i n s hi hn hs
        obtain ⟨n, rfl⟩ : ∃ q, n = q + 1 := ⟨n - 1, by omega⟩
        have : i = 256 := by omega
        subst this
        show ∃ s', b8_odds_19 k _ a (nI (ct (evP (σ 104)) 256)) 256 s = _ ∧ _
        unfold b8_odds_19
        rw [if_pos (by decide)]
        exact ⟨s, s8_od 8 k 0 _ rfl (by omega), hs⟩
      | succ d ih =>
        intro i n s hi hn hs
        obtain ⟨n, rfl⟩ : ∃ q, n = q + 1 := ⟨n - 1, by omega⟩
        show ∃ s', b8_odds_19 k (f8_odds_19 k n) a (nI (ct (evP (σ 104)) i)) (nI i) s = _ ∧ _
        unfold b8_odds_19
        obtain ⟨s1, e1, e2, e3⟩ := st8 hk h hs (i := i) (by omega)
        rw [if_neg (by rw [Int32.le_iff_toInt_le, nI_toInt (by omega), t_256]; omega), e1, zbd_some, e3.2.2.1, nI_1, nI_1]
        have hc : ct (evP (σ 104)) (i + 1) = ct (evP (σ 104)) i + (if evP (σ 104) i then 1 else 0) := rfl
        have hP : (lk (σ 104) 256 (nI i / 4) (nI i % 4)).2 = evP (σ 104) i := rfl
        have := ih (i + 1) n s1 (by omega) (by omega) e2
        rw [hP]
        rw [hc] at this
        cases hq : evP (σ 104) i with
        | true =>
          rw [hq] at this
          rw [if_neg (by decide)]; exact this
        | false =>
          rw [hq] at this
          rw [if_pos (show (if false = true then (1 : Int32) else 0) = 0 from rfl), Int32.add_zero]; exact this
    have key9 : ∀ (d i n : Nat) (s0 s : ZS), i + d = 256 → d < n → s0 104 = σ 104 → (∀ o, pK o → s o = s0 o) → (∀ i, pKm i → s 103 i = s0 103 i) → ∃ s', f9_odds_20 k n a (nI (ct (evP (σ 104)) i)) (nI i) s = some (od a 8 (nI (ct (evP (σ 104)) 256)), s') ∧ (∀ o, pK o → s' o = s0 o) ∧ (∀ i, pKm i → s' 103 i = s0 103 i) := by
      intro d
      induction d with
      | zero =>
        intro i n s0 s hi hn h4 hs hs2
        obtain ⟨n, rfl⟩ : ∃ q, n = q + 1 := ⟨n - 1, by omega⟩
        have : i = 256 := by omega
        subst this
        show ∃ s', b9_odds_20 k _ a (nI (ct (evP (σ 104)) 256)) 256 s = _ ∧ _
        unfold b9_odds_20
        rw [if_pos (by decide)]
        exact ⟨s, s9_od 8 k _ (by decide) (by omega), hs, hs2⟩
      | succ d ih =>
        intro i n s0 s hi hn h4 hs hs2
        obtain ⟨n, rfl⟩ : ∃ q, n = q + 1 := ⟨n - 1, by omega⟩
        show ∃ s', b9_odds_20 k (f9_odds_20 k n) a (nI (ct (evP (σ 104)) i)) (nI i) s = _ ∧ _
        unfold b9_odds_20
        obtain ⟨s1, e1, e2, e3, e4⟩ := st9 hk h (s := s) (by rw [hs 104 (by unfold pK; decide), h4]) (i := i) (by omega)
        rw [if_neg (by rw [Int32.le_iff_toInt_le, nI_toInt (by omega), t_256]; omega), e1, zbd_some, e4.2.2.2.2.2, nI_1, nI_1]
        have hc : ct (evP (σ 104)) (i + 1) = ct (evP (σ 104)) i + (if evP (σ 104) i then 1 else 0) := rfl
        have hP : (lk (σ 104) 256 (nI i / 4) (nI i % 4)).2 = evP (σ 104) i := rfl
        have := ih (i + 1) n s0 s1 (by omega) (by omega) h4 (fun o ho => by rw [e2 o ho, hs o ho]) (fun j hj => by rw [e3 j hj, hs2 j hj])
        rw [hP]
        rw [hc] at this
        cases hq : evP (σ 104) i with
        | true =>
          rw [hq] at this
          rw [if_neg (by decide)]; exact this
        | false =>
          rw [hq] at this
          rw [if_pos (show (if false = true then (1 : Int32) else 0) = 0 from rfl), Int32.add_zero]; exact this
    obtain ⟨σ1, e1, e2⟩ := key8 256 0 k σ rfl (by omega) (fun _ _ => rfl)
    refine opk_lk h (r := od a 8 (nI (ct (evP (σ 104)) 256))) (σ1 := σ1) ?_ e2 fun s hs => ?_
    · rw [f8_odds, if_neg (by rw [Int32.lt_iff_toInt_lt, t_0]; omega), if_pos (by rw [Int32.le_iff_toInt_le, t_1]; omega)]
      exact e1
    · obtain ⟨s3, g1, g2, g3⟩ := key9 256 0 k s s rfl (by omega) (hs 104 (by unfold pD; decide)) (fun _ _ => rfl) (fun _ _ => rfl)
      refine ⟨s3, ?_, g2, g3⟩
      rw [f9_odds, s9_in, zbd_some, t_0, t_1, if_pos c1, if_neg (by decide)]
      exact g1
  · refine opk_e1 h ?_ fun s hs => ?_
    · unfold f8_odds
      by_cases c3 : a < 0
      · rw [if_pos c3, e8_1]; rfl
      · rw [if_neg c3, if_neg (by rw [Int32.lt_iff_toInt_lt, t_0] at c3; rw [Int32.le_iff_toInt_le, t_1]; omega), e8_1]; rfl
    · rw [f9_odds, s9_in, zbd_some, t_0, t_1, if_neg c1, if_pos rfl, e9_1]; rfl
end
