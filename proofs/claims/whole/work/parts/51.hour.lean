/-! an hour passes -/
def mn9 (x : Int32) : Int32 := if x < 99999 then x else 99999
def cm : (Nat → Int32) → List Int32 → (Nat → Int32)
  | R, [] => R
  | R, g :: M => cm (upd R (6 + 5 * g.toInt.toNat + 4) (mn9 (R (6 + 5 * g.toInt.toNat + 4) + 1))) M
def gl9 (R : Nat → Int32) (M : List Int32) : Prop := ∀ g ∈ M, ∃ j : Nat, (j : Int) < (R 2).toInt ∧ g = nI j
theorem mn9_int {x : Int32} : (mn9 x).toInt = min x.toInt 99999 := by
  unfold mn9
  by_cases c : x < 99999
  · rw [if_pos c]; rw [Int32.lt_iff_toInt_lt, t_99999] at c; omega
  · rw [if_neg c]; rw [Int32.lt_iff_toInt_lt, t_99999] at c; rw [t_99999]; omega
theorem cm_ne {R : Nat → Int32} : ∀ (M : List Int32) (R : Nat → Int32) (i : Nat), gl9 R M → (R 2).toInt ≤ 8 → (∀ g, g < 8 → i ≠ 6 + 5 * g + 4) → cm R M i = R i
  | [], R, i, _, _, _ => rfl
  | g :: M, R, i, h, hn, hi => by
    obtain ⟨j, hj, rfl⟩ := h g List.mem_cons_self
    have hjx : (nI j).toInt = j := nI_toInt (by omega)
    have hjn : (j : Int).toNat = j := by omega
    have h2 : upd R (6 + 5 * j + 4) (mn9 (R (6 + 5 * j + 4) + 1)) 2 = R 2 := upd_ne (by omega)
    rw [cm, hjx, hjn, cm_ne (R := R) M _ i (fun g' hg' => by rw [h2]; exact h g' (List.mem_cons_of_mem _ hg')) (by rw [h2]; exact hn) hi, upd_ne (hi j (by omega))]
theorem WF.seen {hb : Int} {R : Nat → Int32} (h : WF hb R) {j : Nat} (hj : j < 8) {v : Int32} (hv : 0 ≤ v.toInt ∧ v.toInt ≤ 99999) : WF hb (upd R (6 + 5 * j + 4) v) :=
  h.upd0 (by omega) (by rw [(bG hb hj).2.2.2.2.1, (bG hb hj).2.2.2.2.2]; exact hv) (by omega) (fun g hg => by omega)
theorem cm_at {hb : Int} : ∀ (M : List Int32) (R : Nat → Int32) (g : Nat), gl9 R M → WF hb R → M.length < 300 → g < 8 → (cm R M (6 + 5 * g + 4)).toInt = min ((R (6 + 5 * g + 4)).toInt + M.count (nI g)) 99999
  | [], R, g, _, hW, _, hg => by
    have := (hW.1.gl hg).2.2.2.2
    rw [cm, List.count_nil]; omega
  | x :: M, R, g, h, hW, hl, hg => by
    obtain ⟨j, hj, rfl⟩ := h x List.mem_cons_self
    have hn := hW.1.ng
    have hj8 : j < 8 := by omega
    have hjx : (nI j).toInt = j := nI_toInt (by omega)
    have hjn : (j : Int).toNat = j := by omega
    have h2 : upd R (6 + 5 * j + 4) (mn9 (R (6 + 5 * j + 4) + 1)) 2 = R 2 := upd_ne (by omega)
    have hb' := (hW.1.gl hj8).2.2.2.2
    have ha : (R (6 + 5 * j + 4) + 1).toInt = (R (6 + 5 * j + 4)).toInt + 1 := by rw [i_add (by rw [t_1]; omega), t_1]
    have hl' : M.length < 300 := by have : (nI j :: M).length = M.length + 1 := rfl; omega
    rw [cm, hjx, hjn, cm_at M _ g (fun g' hg' => by rw [h2]; exact h g' (List.mem_cons_of_mem _ hg')) (hW.seen hj8 (by rw [mn9_int]; omega)) hl' hg]
    by_cases hgj : g = j
    · subst hgj
      rw [upd_at, List.count_cons_self, mn9_int, ha]
      omega
    · rw [upd_ne (by omega), List.count_cons_of_ne (fun q => hgj (nI_inj (by omega) (by omega) q.symm))]
theorem cm_WF {hb : Int} : ∀ (M : List Int32) (R : Nat → Int32), gl9 R M → WF hb R → WF hb (cm R M)
  | [], R, _, hW => hW
  | x :: M, R, h, hW => by
    obtain ⟨j, hj, rfl⟩ := h x List.mem_cons_self
    have hn := hW.1.ng
    have hj8 : j < 8 := by omega
    have hjx : (nI j).toInt = j := nI_toInt (by omega)
    have hjn : (j : Int).toNat = j := by omega
    have h2 : upd R (6 + 5 * j + 4) (mn9 (R (6 + 5 * j + 4) + 1)) 2 = R 2 := upd_ne (by omega)
    have hb' := (hW.1.gl hj8).2.2.2.2
    have ha : (R (6 + 5 * j + 4) + 1).toInt = (R (6 + 5 * j + 4)).toInt + 1 := by rw [i_add (by rw [t_1]; omega), t_1]
    rw [cm, hjx, hjn]
    exact cm_WF M _ (fun g' hg' => by rw [h2]; exact h g' (List.mem_cons_of_mem _ hg')) (hW.seen hj8 (by rw [mn9_int]; omega))
theorem s5_cm {k t : Nat} {hb : Int} {R : Nat → Int32} {A M : List Int32} {b : Bool} {σ : ZS} (hk : 300 ≤ k) (ht : Tt t) (hW : WF hb R) (hR : RS σ t R) (hL : L8 σ A M b) (hM : M.length ≤ 256) (hin : gl9 R M) : ∃ σ', f5_countMeetings k t σ = some ((), σ') ∧ RS σ' t (if b then R else cm R M) ∧ ∀ o, (o < t + 7 ∨ t + 15 ≤ o) → σ' o = σ o := by
  have htl := ht.le
  rw [f5_countMeetings, if_pos ht.s6]
  cases b with
  | true =>
    refine ⟨σ, ?_, hR, fun _ _ => rfl⟩
    obtain ⟨k, rfl⟩ : ∃ q, k = q + 1 := ⟨k - 1, by omega⟩
    show b5_countMeetings_2 (k + 1) t _ 0 σ = _
    unfold b5_countMeetings_2
    rw [hL.2.2.1]
    by_cases c : σ 83 3 ≤ 0
    · rw [if_pos c]
    · rw [if_neg c, if_neg (by decide)]
  | false =>
    have key : ∀ (Q P : List Int32) (n : Nat) (R : Nat → Int32) (s : ZS), M = P ++ Q → gl9 R Q → WF hb R → RS s t R → (∀ o, (o < t + 7 ∨ t + 15 ≤ o) → s o = σ o) → Q.length < n → ∃ σ', f5_countMeetings_2 k t n (nI P.length) s = some ((), σ') ∧ RS σ' t (cm R Q) ∧ ∀ o, (o < t + 7 ∨ t + 15 ≤ o) → σ' o = σ o := by
      intro Q
      induction Q with
      | nil =>
        intro P n R s hPQ hin hW hR hs hn
        obtain ⟨n, rfl⟩ : ∃ q, n = q + 1 := ⟨n - 1, by omega⟩
        have hMP : M.length = P.length := by rw [hPQ, List.append_nil]
        show ∃ σ', b5_countMeetings_2 k t _ (nI P.length) s = _ ∧ _
        unfold b5_countMeetings_2
        rw [hs 83 (by omega), hL.2.1, if_pos (by rw [Int32.le_iff_toInt_le, nI_toInt (by omega), nI_toInt (by omega)]; omega)]
        exact ⟨s, rfl, hR, hs⟩
      | cons g Q ih =>
        intro P n R s hPQ hin hW hR hs hn
        obtain ⟨n, rfl⟩ : ∃ q, n = q + 1 := ⟨n - 1, by omega⟩
        have hMP : M.length = P.length + (Q.length + 1) := by rw [hPQ, List.length_append]; rfl
        obtain ⟨j, hj, rfl⟩ := hin g List.mem_cons_self
        have hn8 := hW.1.ng
        have hj8 : j < 8 := by omega
        have hjx : (nI j).toInt = j := nI_toInt (by omega)
        have hjn : (j : Int).toNat = j := by omega
        have hLs : L8 s A (P ++ nI j :: Q) false := by
          rw [← hPQ]
          unfold L8
          rw [hs 83 (by omega), hs 84 (by omega), hs 85 (by omega)]
          exact hL
        show ∃ σ', b5_countMeetings_2 k t (f5_countMeetings_2 k t n) (nI P.length) s = _ ∧ _
        unfold b5_countMeetings_2
        have h834 : σ 83 4 = 0 := hL.2.2.1
        have hb' := (hW.1.gl hj8).2.2.2.2
        have ha : (R (6 + 5 * j + 4) + 1).toInt = (R (6 + 5 * j + 4)).toInt + 1 := by rw [i_add (by rw [t_1]; omega), t_1]
        rw [hs 83 (by omega), hL.2.1, if_neg (by rw [Int32.le_iff_toInt_le, nI_toInt (by omega), nI_toInt (by omega)]; omega), if_pos h834, s1_metAt hLs (by omega) (by rw [← hPQ]; omega), zbd_some, s5_glassOf' ht hR hW.1, zbd_some, hjx, if_pos (show (0 : Int) ≤ j ∧ (j : Int) < (R 2).toInt by omega), hjn, if_neg (by omega), if_pos (ht.s1 hj8), hR.2.1 j hj8 4 (by decide), zput_eq, nI_1]
        have h2 : upd R (6 + 5 * j + 4) (mn9 (R (6 + 5 * j + 4) + 1)) 2 = R 2 := upd_ne (by omega)
        obtain ⟨σ', e1, e2, e3⟩ := ih (P ++ [nI j]) n (upd R (6 + 5 * j + 4) (mn9 (R (6 + 5 * j + 4) + 1))) (zu s (t + 7 + j) 4 (mn9 (R (6 + 5 * j + 4) + 1))) (by rw [hPQ, List.append_assoc]; rfl) (fun g' hg' => by rw [h2]; exact hin g' (List.mem_cons_of_mem _ hg')) (hW.seen hj8 (by rw [mn9_int]; omega)) (hR.glass hW.2.2 hj8 (by decide) (by decide) _) (fun o ho => by rw [zu_o (by omega)]; exact hs o ho) (by have : (nI j :: Q).length = Q.length + 1 := rfl; omega)
        rw [List.length_append] at e1
        refine ⟨σ', e1, ?_, e3⟩
        rw [cm, hjx, hjn]
        exact e2
    exact key M [] k R σ rfl hin hW hR (fun _ _ => rfl) (by omega)
def mix (R C : Nat → Int32) (g : Nat) : Nat → Int32 := fun i => if (i < 46 ∧ 6 ≤ i ∧ (i - 6) % 5 = 4 ∧ (i - 6) / 5 < g) then C i else R i
theorem s9_cm {k : Nat} {hb : Int} {R : Nat → Int32} {A M : List Int32} {b : Bool} {R0 : Nat → Int32} (hk : 300 ≤ k) (hW : WF hb R) (hM : M.length ≤ 256) (hin : gl9 R M) (q2 : Int32 → ZS → Option (Unit × ZS)) (p : Int32) {σ : ZS} (h104 : σ 104 = R) (hL : L9f R0 σ A M b) : ∃ σ', f9_goes_45 k q2 k p 0 σ = q2 (p + 1) σ' ∧ σ' 104 = (if b then R else cm R M) ∧ ∀ o, o ≠ 104 → σ' o = σ o := by
  have hn8 := hW.1.ng
  cases b with
  | true =>
    refine ⟨σ, ?_, h104, fun _ _ => rfl⟩
    obtain ⟨k, rfl⟩ : ∃ q, k = q + 1 := ⟨k - 1, by omega⟩
    show b9_goes_45 (k + 1) q2 _ p 0 σ = _
    unfold b9_goes_45
    rw [hL.2.2.2.2.2]
    by_cases c : σ 104 2 ≤ 0
    · rw [if_pos c]
    · rw [if_neg c, if_neg (by decide)]
  | false =>
    have hz : σ 103 13 = 0 := hL.2.2.2.2.2
    have key : ∀ (d g n : Nat) (s : ZS), (g : Int) + d = (R 2).toInt → d < n → s 104 = mix R (cm R M) g → (∀ o, o ≠ 104 → s o = σ o) → ∃ σ', f9_goes_45 k q2 n p (nI g) s = q2 (p + 1) σ' ∧ σ' 104 = cm R M ∧ ∀ o, o ≠ 104 → σ' o = σ o := by
      intro d
      induction d with
      | zero =>
        intro g n s hg hn h4 hs
        obtain ⟨n, rfl⟩ : ∃ q, n = q + 1 := ⟨n - 1, by omega⟩
        have hgx : (nI g).toInt = g := nI_toInt (by omega)
        have hs2 : s 104 2 = R 2 := by rw [h4]; exact if_neg (by omega)
        show ∃ σ', b9_goes_45 k q2 _ p (nI g) s = _ ∧ _
        unfold b9_goes_45
        rw [if_pos (by rw [hs2, Int32.le_iff_toInt_le, hgx]; omega)]
        refine ⟨s, rfl, ?_, hs⟩
        rw [h4]
        funext i
        show (if _ then cm R M i else R i) = cm R M i
        by_cases c : i < 46 ∧ 6 ≤ i ∧ (i - 6) % 5 = 4 ∧ (i - 6) / 5 < g
        · rw [if_pos c]
        · rw [if_neg c]
          by_cases c2 : i < 46 ∧ 6 ≤ i ∧ (i - 6) % 5 = 4
          · obtain ⟨g', hg', hi⟩ : ∃ g', g' < 8 ∧ i = 6 + 5 * g' + 4 := ⟨(i - 6) / 5, by omega, by omega⟩
            subst hi
            have hgg : g ≤ g' := by omega
            refine i_eq ?_
            rw [cm_at M R g' hin hW (by omega) hg']
            have h0 : M.count (nI g') = 0 := List.count_eq_zero.mpr fun hm => by
              obtain ⟨j, hj, hje⟩ := hin _ hm
              have := nI_inj (by omega) (by omega) hje
              omega
            have := (hW.1.gl hg').2.2.2.2
            rw [h0]; omega
          · exact (cm_ne (R := R) M R i hin hn8.2 (fun g' hg' q => c2 (by omega))).symm
      | succ d ih =>
        intro g n s hg hn h4 hs
        obtain ⟨n, rfl⟩ : ∃ q, n = q + 1 := ⟨n - 1, by omega⟩
        have hg8 : g < 8 := by omega
        have hgx : (nI g).toInt = g := nI_toInt (by omega)
        have hs2 : s 104 2 = R 2 := by rw [h4]; exact if_neg (by omega)
        have hsg : s 104 (6 + 5 * g + 4) = R (6 + 5 * g + 4) := by rw [h4]; exact if_neg (by omega)
        have hx4 : ((6 : Int32) + (5 : Int32) * nI g + 4).toInt = 6 + 5 * g + 4 := by rw [i_gx (w := 4) (by omega) (by rw [t_4]; omega), hgx, t_4]
        have hk4 : ((6 : Int32) + (5 : Int32) * nI g + 4).toNatClampNeg = 6 + 5 * g + 4 := by rw [i_cl, hx4]; omega
        show ∃ σ', b9_goes_45 k q2 (f9_goes_45 k q2 n) p (nI g) s = _ ∧ _
        unfold b9_goes_45
        have hc := hL.2.2.2.1 g hg8
        have hcl : M.count (nI g) ≤ M.length := List.count_le_length
        have hb' := (hW.1.gl hg8).2.2.2.2
        have hcx : (nI (M.count (nI g))).toInt = M.count (nI g) := nI_toInt (by omega)
        have ha : (R (6 + 5 * g + 4) + nI (M.count (nI g))).toInt = (R (6 + 5 * g + 4)).toInt + M.count (nI g) := by rw [i_add (by rw [hcx]; omega), hcx]
        have hv : clp 0 99999 (R (6 + 5 * g + 4) + nI (M.count (nI g))) = cm R M (6 + 5 * g + 4) := by
          refine i_eq ?_
          rw [clp_int (by decide), cm_at M R g hin hW (by omega) hg8, ha, t_0, t_99999]; omega
        rw [if_neg (by rw [hs2, Int32.le_iff_toInt_le, hgx]; omega), hs 103 (by decide), if_pos hz, s9_of' hg8 (j := 4) t_4 (by decide), zbd_some, if_pos (nI_z hg8 (by decide)), nI_nat (by omega), hs 112 (by decide), hc, hsg, s9_clp, zbd_some, hv, if_pos (by rw [zin, hx4]; omega), zput_eq, hk4, nI_1]
        refine ih (g + 1) n (zu s 104 (6 + 5 * g + 4) (cm R M (6 + 5 * g + 4))) (by omega) (by omega) ?_ (fun o ho => by rw [zu_o ho]; exact hs o ho)
        rw [zu_self, h4]
        funext i
        by_cases c : i = 6 + 5 * g + 4
        · subst c
          rw [upd_at]
          exact (if_pos (by omega)).symm
        · rw [upd_ne c]
          show (if _ then _ else _) = (if _ then _ else _)
          by_cases c2 : i < 46 ∧ 6 ≤ i ∧ (i - 6) % 5 = 4 ∧ (i - 6) / 5 < g
          · rw [if_pos c2, if_pos (by omega)]
          · rw [if_neg c2, if_neg (by omega)]
    refine key (R 2).toInt.toNat 0 k σ (by omega) (by omega) ?_ (fun _ _ => rfl)
    rw [h104]
    funext i
    exact (if_neg (by omega)).symm
/-- one person pays for a look, and every glass met has been seen once more -/
def pst (R : Nat → Int32) (p : Nat) : Nat → Int32 :=
  if (lk R 256 (R (46 + 3 * p + 0)) (R (46 + 3 * p + 1))).2 then upd R (46 + 3 * p + 2) (clp 0 99999 (R (46 + 3 * p + 2) + due R p)) else cm (upd R (46 + 3 * p + 2) (clp 0 99999 (R (46 + 3 * p + 2) + due R p))) (mets (lk R 256 (R (46 + 3 * p + 0)) (R (46 + 3 * p + 1))).1)
def hgo (R : Nat → Int32) : Nat → Nat → (Nat → Int32)
  | 0, _ => upd R 0 (R 0 + 1)
  | d + 1, p => hgo (pst R p) d (p + 1)
def hourR (R : Nat → Int32) : Nat → Int32 := hgo R (R 3).toInt.toNat 0
theorem due_rng {R : Nat → Int32} {p : Nat} : 0 ≤ (due R p).toInt ∧ (due R p).toInt ≤ 999 := by
  have := gv_rng (R := R) (u := 1) (a := txo R (R (46 + 3 * p + 0)) (R (46 + 3 * p + 1))) (b := R 0 % 24) (c := nI p)
  rw [if_neg (by decide)] at this
  exact this
theorem pst1_WF {hb : Int} {R : Nat → Int32} (hW : WF hb R) {p : Nat} (hp : p < 6) : WF hb (upd R (46 + 3 * p + 2) (clp 0 99999 (R (46 + 3 * p + 2) + due R p))) :=
  hW.upd0 (by omega) (by rw [(bP hb hp).2.2.1, (bP hb hp).2.2.2, clp_int (by decide), t_0, t_99999]; omega) (by omega) (fun g hg => by omega)
theorem pst_gl {R : Nat → Int32} {p : Nat} : gl9 (upd R (46 + 3 * p + 2) (clp 0 99999 (R (46 + 3 * p + 2) + due R p))) (mets (lk R 256 (R (46 + 3 * p + 0)) (R (46 + 3 * p + 1))).1) := fun g hg => by
  obtain ⟨j, h1, h2⟩ := mets_in _ _ _ g hg
  exact ⟨j, by rw [upd_ne (by omega)]; exact h1, h2⟩
theorem pst_WF {hb : Int} {R : Nat → Int32} (hW : WF hb R) {p : Nat} (hp : p < 6) : WF hb (pst R p) := by
  unfold pst
  by_cases c : (lk R 256 (R (46 + 3 * p + 0)) (R (46 + 3 * p + 1))).2 = true
  · rw [if_pos c]; exact pst1_WF hW hp
  · rw [if_neg c]; exact cm_WF _ _ pst_gl (pst1_WF hW hp)
theorem pst_ne {hb : Int} {R : Nat → Int32} (hW : WF hb R) {p i : Nat} (hp : p < 6) (hi : i < 6) : pst R p i = R i := by
  unfold pst
  by_cases c : (lk R 256 (R (46 + 3 * p + 0)) (R (46 + 3 * p + 1))).2 = true
  · rw [if_pos c, upd_ne (by omega)]
  · rw [if_neg c, cm_ne (R := R) _ _ i pst_gl (by rw [upd_ne (by omega)]; exact hW.1.ng.2) (fun g hg => by omega), upd_ne (by omega)]
theorem WF.hour {hb : Int} {R : Nat → Int32} (hW : WF hb R) (hb2 : hb ≤ 20000) : WF (hb + 1) (upd R 0 (R 0 + 1)) := by
  have h0 := hW.1.hr
  have e : (R 0 + 1).toInt = (R 0).toInt + 1 := by rw [i_add (by rw [t_1]; omega), t_1]
  have hB : BD (hb + 1) R := fun i hi => by
    have := hW.1 i hi
    unfold bh at this ⊢
    by_cases c : i = 0
    · rw [if_pos c] at this ⊢; omega
    · rw [if_neg c] at this ⊢; exact this
  exact WF.upd0 ⟨hB, hW.2⟩ (by decide) (by rw [e]; exact ⟨by show (0 : Int) ≤ _; omega, by show _ ≤ hb + 1; omega⟩) (by decide) (fun g hg => by omega)
theorem hgo_WF {hb : Int} (hb2 : hb ≤ 20000) : ∀ (d p : Nat) (R : Nat → Int32), WF hb R → p + d ≤ 6 → WF (hb + 1) (hgo R d p)
  | 0, p, R, h, _ => h.hour hb2
  | d + 1, p, R, h, hp => hgo_WF hb2 d (p + 1) (pst R p) (pst_WF h (by omega)) (by omega)
theorem hgo_hr {hb : Int} : ∀ (d p : Nat) (R : Nat → Int32), WF hb R → p + d ≤ 6 → hgo R d p 0 = R 0 + 1
  | 0, p, R, h, _ => upd_at
  | d + 1, p, R, h, hp => by
    rw [hgo, hgo_hr d (p + 1) (pst R p) (pst_WF h (by omega)) (by omega), pst_ne h (by omega) (by decide)]
/-- places that an hour of a street leaves -/
def pH (t o : Nat) : Prop := (o < t ∨ t + 27 ≤ o) ∧ o ≠ 83 ∧ o ≠ 84 ∧ o ≠ 85
theorem s5_hour {k t : Nat} {hb : Int} {R : Nat → Int32} {σ : ZS} (hk : 300 ≤ k) (ht : Tt t) (hW : WF hb R) (hR : RS σ t R) : ∃ σ', f5_passHour k t σ = some ((), σ') ∧ RS σ' t (hourR R) ∧ ∀ o, pH t o → σ' o = σ o := by
  have htl := ht.le
  have hn0 := hW.1.np
  have key : ∀ (d p n : Nat) (R : Nat → Int32) (s : ZS), (p : Int) + d = (R 3).toInt → d < n → WF hb R → RS s t R → (∀ o, pH t o → s o = σ o) → ∃ σ', f5_passHour_2 k t n (nI p) s = some ((), σ') ∧ RS σ' t (hgo R d p) ∧ ∀ o, pH t o → σ' o = σ o := by
    intro d
    induction d with
    | zero =>
      intro p n R s hp hn hW hR hs
      obtain ⟨n, rfl⟩ : ∃ q, n = q + 1 := ⟨n - 1, by omega⟩
      have hn := hW.1.np
      have hpx : (nI p).toInt = p := nI_toInt (by omega)
      show ∃ σ', b5_passHour_2 k t _ (nI p) s = _ ∧ _
      unfold b5_passHour_2
      rw [hR.1.2.1, if_pos (by rw [Int32.le_iff_toInt_le, hpx]; omega), zput_eq, hR.1.2.2.2.2.1]
      exact ⟨_, rfl, hR.fld hW.2.2 hW.1.ng.2 (i := 10) (j := 0) (by decide) _, fun o ho => by unfold pH at ho; rw [zu_o (by omega)]; exact hs o ho⟩
    | succ d ih =>
      intro p n R s hp hn hW hR hs
      obtain ⟨n, rfl⟩ : ∃ q, n = q + 1 := ⟨n - 1, by omega⟩
      have hn := hW.1.np
      have hp6 : p < 6 := by omega
      have hpx : (nI p).toInt = p := nI_toInt (by omega)
      have hpn : (p : Int).toNat = p := by omega
      show ∃ σ', b5_passHour_2 k t (f5_passHour_2 k t n) (nI p) s = _ ∧ _
      unfold b5_passHour_2
      obtain ⟨s1, e1, e2, e3⟩ := s5_due (k := k) (p := p) hk ht hW.1 hR hW.2.2 (by omega)
      have hR1 : RS s1 t R := hR.congr2 hW.2.2 fun o q1 q2 q3 q4 => e2 o (by unfold pD; omega)
      have hd := due_rng (R := R) (p := p)
      have ho := (hW.1.pe hp6).2.2
      have ha : (R (46 + 3 * p + 2) + due R p).toInt = (R (46 + 3 * p + 2)).toInt + (due R p).toInt := i_add (by omega)
      have hv : (if R (46 + 3 * p + 2) + due R p < 99999 then R (46 + 3 * p + 2) + due R p else 99999) = clp 0 99999 (R (46 + 3 * p + 2) + due R p) := by
        refine i_eq ?_
        rw [clp_int (by decide), t_0, t_99999]
        by_cases c : R (46 + 3 * p + 2) + due R p < 99999
        · rw [if_pos c]; rw [Int32.lt_iff_toInt_lt, t_99999] at c; omega
        · rw [if_neg c]; rw [Int32.lt_iff_toInt_lt, t_99999] at c; rw [t_99999]; omega
      rw [hR.1.2.1, if_neg (by rw [Int32.le_iff_toInt_le, hpx]; omega), s5_personOf' ht hR hW.1, zbd_some, hpx, if_pos (show (0 : Int) ≤ p ∧ (p : Int) < (R 3).toInt by omega), hpn, if_neg (by omega), if_pos (ht.s3 hp6), e1, zbd_some, zput_eq, hR.2.2.1 p hp6 2 (by decide), hv]
      have hR2 := hR1.person hW.2.2 hW.1.ng.2 hp6 (k := 2) (by decide) (clp 0 99999 (R (46 + 3 * p + 2) + due R p))
      have hL2 : L8 (zu s1 (t + 15 + p) 2 (clp 0 99999 (R (46 + 3 * p + 2) + due R p))) (R (46 + 3 * p + 0) :: cls (lk R 256 (R (46 + 3 * p + 0)) (R (46 + 3 * p + 1))).1) (mets (lk R 256 (R (46 + 3 * p + 0)) (R (46 + 3 * p + 1))).1) (lk R 256 (R (46 + 3 * p + 0)) (R (46 + 3 * p + 1))).2 := by
        unfold L8
        rw [zu_o (by omega), zu_o (by omega), zu_o (by omega)]
        exact e3
      obtain ⟨s2, f1, f2, f3⟩ := s5_cm (k := k) hk ht (pst1_WF hW hp6) hR2 hL2 mets_256 pst_gl
      rw [f1, zbd_some, nI_1]
      have h3 : pst R p 3 = R 3 := pst_ne hW hp6 (by decide)
      exact ih (p + 1) n (pst R p) s2 (by rw [h3]; omega) (by omega) (pst_WF hW hp6) f2 (fun o ho => by
        have ho' := ho
        unfold pH at ho'
        rw [f3 o (by omega), zu_o (by omega), e2 o (by unfold pD; omega), hs o ho])
  rw [f5_passHour, if_pos ht.s6]
  exact key (R 3).toInt.toNat 0 k R σ (by omega) (by omega) hW hR (fun _ _ => rfl)
theorem s9_hour {k : Nat} {hb : Int} {σ : ZS} (hk : 300 ≤ k) (hW : WF hb (σ 104)) : ∃ σ', f9_goes k σ = some ((), σ') ∧ σ' 104 = hourR (σ 104) ∧ (∀ o, pK o → o ≠ 104 → σ' o = σ o) ∧ (∀ i, pKm i → σ' 103 i = σ 103 i) := by
  have hn0 := hW.1.np
  have key : ∀ (d p n : Nat) (s : ZS), (p : Int) + d = (s 104 3).toInt → d < n → WF hb (s 104) → (∀ o, pK o → o ≠ 104 → s o = σ o) → (∀ i, pKm i → s 103 i = σ 103 i) → ∃ σ', f9_goes_2 k n (nI p) s = some ((), σ') ∧ σ' 104 = hgo (s 104) d p ∧ (∀ o, pK o → o ≠ 104 → σ' o = σ o) ∧ (∀ i, pKm i → σ' 103 i = σ 103 i) := by
    intro d
    induction d with
    | zero =>
      intro p n s hp hn hW hs hs2
      obtain ⟨n, rfl⟩ : ∃ q, n = q + 1 := ⟨n - 1, by omega⟩
      have hn := hW.1.np
      have hpx : (nI p).toInt = p := nI_toInt (by omega)
      show ∃ σ', b9_goes_2 k _ (nI p) s = _ ∧ _
      unfold b9_goes_2
      rw [if_pos (by rw [Int32.le_iff_toInt_le, hpx]; omega), zput_eq]
      exact ⟨_, rfl, zu_self, fun o ho h4 => by rw [zu_o h4]; exact hs o ho h4, fun i hi => by rw [zu_o (by decide)]; exact hs2 i hi⟩
    | succ d ih =>
      intro p n s hp hn hW hs hs2
      obtain ⟨n, rfl⟩ : ∃ q, n = q + 1 := ⟨n - 1, by omega⟩
      have hn := hW.1.np
      have hp6 : p < 6 := by omega
      have hpx : (nI p).toInt = p := nI_toInt (by omega)
      have hpn : (p : Int).toNat = p := by omega
      show ∃ σ', b9_goes_2 k (f9_goes_2 k n) (nI p) s = _ ∧ _
      unfold b9_goes_2
      obtain ⟨s1, e1, e2, e3, e4⟩ := s9_due (k := k) (p := p) hk hW.1 hW.2.2 hp6
      have e104 : s1 104 = s 104 := e2 104 (by unfold pK; decide)
      have hx2 : ((46 : Int32) + (3 : Int32) * nI p + 2).toInt = 46 + 3 * p + 2 := by rw [i_px (w := 2) (by omega) (by rw [t_2]; omega), hpx, t_2]
      have hk2 : ((46 : Int32) + (3 : Int32) * nI p + 2).toNatClampNeg = 46 + 3 * p + 2 := by rw [i_cl, hx2]; omega
      rw [if_neg (by rw [Int32.le_iff_toInt_le, hpx]; omega), s9_about' hp6 (j := 2) t_2 (by decide), zbd_some, e1, zbd_some, s9_clp, zbd_some, if_pos (by rw [zin, hx2]; omega), zput_eq, hk2]
      have h4 : zu s1 104 (46 + 3 * p + 2) (clp 0 99999 (s 104 (46 + 3 * p + 2) + due (s 104) p)) 104 = upd (s 104) (46 + 3 * p + 2) (clp 0 99999 (s 104 (46 + 3 * p + 2) + due (s 104) p)) := by rw [zu_self, e104]
      have hL4 : L9f (s 104) (zu s1 104 (46 + 3 * p + 2) (clp 0 99999 (s 104 (46 + 3 * p + 2) + due (s 104) p))) (s 104 (46 + 3 * p + 0) :: cls (lk (s 104) 256 (s 104 (46 + 3 * p + 0)) (s 104 (46 + 3 * p + 1))).1) (mets (lk (s 104) 256 (s 104 (46 + 3 * p + 0)) (s 104 (46 + 3 * p + 1))).1) (lk (s 104) 256 (s 104 (46 + 3 * p + 0)) (s 104 (46 + 3 * p + 1))).2 := by
        unfold L9f
        rw [zu_o (by decide), zu_o (by decide), zu_o (by decide)]
        exact e4
      obtain ⟨s2, f1, f2, f3⟩ := s9_cm (k := k) hk (pst1_WF hW hp6) mets_256 pst_gl (f9_goes_2 k n) (nI p) h4 hL4
      have f2' : s2 104 = pst (s 104) p := f2
      rw [f1, nI_1]
      have h3 : pst (s 104) p 3 = s 104 3 := pst_ne hW hp6 (by decide)
      have := ih (p + 1) n s2 (by rw [f2', h3]; omega) (by omega) (by rw [f2']; exact pst_WF hW hp6) (fun o ho h4 => by rw [f3 o h4, zu_o h4, e2 o ho, hs o ho h4]) (fun i hi => by rw [f3 103 (by decide), zu_o (by decide), e3 i hi, hs2 i hi])
      rw [f2'] at this
      exact this
  exact key (σ 104 3).toInt.toNat 0 k σ (by omega) (by omega) hW (fun _ _ _ => rfl) (fun _ _ => rfl)
