/-! the simple calls -/
theorem RS.glass {σ : ZS} {t : Nat} {R : Nat → Int32} (h : RS σ t R) (hv : VT R) {g k : Nat} (hg : g < 8) (hk : k < 5) (hk2 : k ≠ 2) (v : Int32) : RS (zu σ (t + 7 + g) k v) t (upd R (6 + 5 * g + k) v) := by
  obtain ⟨⟨a1, a2, a3, a4, a5, a6⟩, b, c, d, f, i, j1, j2⟩ := h
  have e : ∀ o, o ≠ t + 7 + g → zu σ (t + 7 + g) k v o = σ o := fun o ho => zu_o ho
  have u : ∀ j, j ≠ 6 + 5 * g + k → upd R (6 + 5 * g + k) v j = R j := fun j hj => upd_ne hj
  refine ⟨?_, fun g' hg' k' hk' => ?_, fun p hp k' hk' => ?_, fun j hj => ?_, fun j hj => ?_, fun c' hc => ?_, j1.congr (e _ (by omega)) (e _ (by omega)) (fun i h1 h2 => u i (by omega)) hv.1.len.2, j2.congr (e _ (by omega)) (e _ (by omega)) (fun i h1 h2 => u i (by omega)) hv.2.len.2⟩
  · rw [e t (by omega), u 0 (by omega), u 1 (by omega), u 2 (by omega), u 3 (by omega), u 4 (by omega), u 5 (by omega)]
    exact ⟨a1, a2, a3, a4, a5, a6⟩
  · by_cases hgg : g' = g
    · subst hgg
      by_cases hkk : k' = k
      · subst hkk
        rw [zu_at, upd_at]
      · rw [zu_k hkk, u _ (by omega)]
        exact b g' hg' k' hk'
    · rw [e _ (by omega), u _ (by omega)]
      exact b g' hg' k' hk'
  · rw [e _ (by omega), u _ (by omega)]; exact c p hp k' hk'
  · rw [e _ (by omega), u _ (by omega)]; exact d j hj
  · rw [e _ (by omega), u _ (by omega)]; exact f j hj
  · rw [e _ (by omega), i c' hc]
    exact (gat_congr (u 2 (by omega)) (fun j _ => u _ (by omega)) _).symm
theorem RS.person {σ : ZS} {t : Nat} {R : Nat → Int32} (h : RS σ t R) (hv : VT R) (hn : (R 2).toInt ≤ 8) {p k : Nat} (hp : p < 6) (hk : k < 3) (v : Int32) : RS (zu σ (t + 15 + p) k v) t (upd R (46 + 3 * p + k) v) := by
  obtain ⟨⟨a1, a2, a3, a4, a5, a6⟩, b, c, d, f, i, j1, j2⟩ := h
  have e : ∀ o, o ≠ t + 15 + p → zu σ (t + 15 + p) k v o = σ o := fun o ho => zu_o ho
  have u : ∀ j, j ≠ 46 + 3 * p + k → upd R (46 + 3 * p + k) v j = R j := fun j hj => upd_ne hj
  refine ⟨?_, fun g' hg' k' hk' => ?_, fun p' hp' k' hk' => ?_, fun j hj => ?_, fun j hj => ?_, fun c' hc => ?_, j1.congr (e _ (by omega)) (e _ (by omega)) (fun i h1 h2 => u i (by omega)) hv.1.len.2, j2.congr (e _ (by omega)) (e _ (by omega)) (fun i h1 h2 => u i (by omega)) hv.2.len.2⟩
  · rw [e t (by omega), u 0 (by omega), u 1 (by omega), u 2 (by omega), u 3 (by omega), u 4 (by omega), u 5 (by omega)]
    exact ⟨a1, a2, a3, a4, a5, a6⟩
  · rw [e _ (by omega), u _ (by omega)]; exact b g' hg' k' hk'
  · by_cases hgg : p' = p
    · subst hgg
      by_cases hkk : k' = k
      · subst hkk
        rw [zu_at, upd_at]
      · rw [zu_k hkk, u _ (by omega)]
        exact c p' hp' k' hk'
    · rw [e _ (by omega), u _ (by omega)]
      exact c p' hp' k' hk'
  · rw [e _ (by omega), u _ (by omega)]; exact d j hj
  · rw [e _ (by omega), u _ (by omega)]; exact f j hj
  · rw [e _ (by omega), i c' hc]
    exact (gat_congr (u 2 (by omega)) (fun j hj => u _ (by omega)) _).symm
/-- a number of the street itself (not how many glasses) -/
theorem RS.fld {σ : ZS} {t : Nat} {R : Nat → Int32} (h : RS σ t R) (hv : VT R) (hn : (R 2).toInt ≤ 8) {i j : Nat} (hij : (i = 7 ∧ j = 3) ∨ (i = 8 ∧ j = 4) ∨ (i = 9 ∧ j = 5) ∨ (i = 10 ∧ j = 0) ∨ (i = 11 ∧ j = 1)) (v : Int32) : RS (zu σ t i v) t (upd R j v) := by
  obtain ⟨⟨a1, a2, a3, a4, a5, a6⟩, b, c, d, f, q, j1, j2⟩ := h
  have e : ∀ o, o ≠ t → zu σ t i v o = σ o := fun o ho => zu_o ho
  have u : ∀ z, z ≠ j → upd R j v z = R z := fun z hz => upd_ne hz
  refine ⟨?_, fun g' hg' k' hk' => ?_, fun p' hp' k' hk' => ?_, fun z hz => ?_, fun z hz => ?_, fun c' hc => ?_, j1.congr (e _ (by omega)) (e _ (by omega)) (fun i h1 h2 => u i (by omega)) hv.1.len.2, j2.congr (e _ (by omega)) (e _ (by omega)) (fun i h1 h2 => u i (by omega)) hv.2.len.2⟩
  · rcases hij with ⟨rfl, rfl⟩ | ⟨rfl, rfl⟩ | ⟨rfl, rfl⟩ | ⟨rfl, rfl⟩ | ⟨rfl, rfl⟩
    · exact ⟨by rw [zu_k (by decide), u 2 (by decide)]; exact a1, by rw [zu_at, upd_at], by rw [zu_k (by decide), u 4 (by decide)]; exact a3, by rw [zu_k (by decide), u 5 (by decide)]; exact a4, by rw [zu_k (by decide), u 0 (by decide)]; exact a5, by rw [zu_k (by decide), u 1 (by decide)]; exact a6⟩
    · exact ⟨by rw [zu_k (by decide), u 2 (by decide)]; exact a1, by rw [zu_k (by decide), u 3 (by decide)]; exact a2, by rw [zu_at, upd_at], by rw [zu_k (by decide), u 5 (by decide)]; exact a4, by rw [zu_k (by decide), u 0 (by decide)]; exact a5, by rw [zu_k (by decide), u 1 (by decide)]; exact a6⟩
    · exact ⟨by rw [zu_k (by decide), u 2 (by decide)]; exact a1, by rw [zu_k (by decide), u 3 (by decide)]; exact a2, by rw [zu_k (by decide), u 4 (by decide)]; exact a3, by rw [zu_at, upd_at], by rw [zu_k (by decide), u 0 (by decide)]; exact a5, by rw [zu_k (by decide), u 1 (by decide)]; exact a6⟩
    · exact ⟨by rw [zu_k (by decide), u 2 (by decide)]; exact a1, by rw [zu_k (by decide), u 3 (by decide)]; exact a2, by rw [zu_k (by decide), u 4 (by decide)]; exact a3, by rw [zu_k (by decide), u 5 (by decide)]; exact a4, by rw [zu_at, upd_at], by rw [zu_k (by decide), u 1 (by decide)]; exact a6⟩
    · exact ⟨by rw [zu_k (by decide), u 2 (by decide)]; exact a1, by rw [zu_k (by decide), u 3 (by decide)]; exact a2, by rw [zu_k (by decide), u 4 (by decide)]; exact a3, by rw [zu_k (by decide), u 5 (by decide)]; exact a4, by rw [zu_k (by decide), u 0 (by decide)]; exact a5, by rw [zu_at, upd_at]⟩
  · rw [e _ (by omega), u _ (by omega)]; exact b g' hg' k' hk'
  · rw [e _ (by omega), u _ (by omega)]; exact c p' hp' k' hk'
  · rw [e _ (by omega), u _ (by omega)]; exact d z hz
  · rw [e _ (by omega), u _ (by omega)]; exact f z hz
  · rw [e _ (by omega), q c' hc]
    exact (gat_congr (u 2 (by omega)) (fun z hz => u _ (by omega)) _).symm
/-- a byte of the tape, a number that waits -/
theorem RS.row {σ : ZS} {t : Nat} {R : Nat → Int32} (h : RS σ t R) (hv : VT R) (hn : (R 2).toInt ≤ 8) {b : Bool} {i : Nat} (hi : i < (if b then 60 else 24)) (v : Int32) : RS (zu σ (if b then t + 5 else t + 6) i v) t (upd R ((if b then 64 else 124) + i) v) := by
  obtain ⟨⟨a1, a2, a3, a4, a5, a6⟩, bb, c, d, f, q, j1, j2⟩ := h
  cases b with
  | true =>
    simp only [if_true] at hi ⊢
    have e : ∀ o, o ≠ t + 5 → zu σ (t + 5) i v o = σ o := fun o ho => zu_o ho
    have u : ∀ z, z ≠ 64 + i → upd R (64 + i) v z = R z := fun z hz => upd_ne hz
    refine ⟨?_, fun g' hg' k' hk' => ?_, fun p' hp' k' hk' => ?_, fun z hz => ?_, fun z hz => ?_, fun c' hc => ?_, j1.congr (e _ (by omega)) (e _ (by omega)) (fun i h1 h2 => u i (by omega)) hv.1.len.2, j2.congr (e _ (by omega)) (e _ (by omega)) (fun i h1 h2 => u i (by omega)) hv.2.len.2⟩
    · rw [e t (by omega), u 0 (by omega), u 1 (by omega), u 2 (by omega), u 3 (by omega), u 4 (by omega), u 5 (by omega)]
      exact ⟨a1, a2, a3, a4, a5, a6⟩
    · rw [e _ (by omega), u _ (by omega)]; exact bb g' hg' k' hk'
    · rw [e _ (by omega), u _ (by omega)]; exact c p' hp' k' hk'
    · by_cases hz2 : z = i
      · subst hz2; rw [zu_at, upd_at]
      · rw [zu_k hz2, u _ (by omega)]; exact d z hz
    · rw [e _ (by omega), u _ (by omega)]; exact f z hz
    · rw [e _ (by omega), q c' hc]
      exact (gat_congr (u 2 (by omega)) (fun z hz => u _ (by omega)) _).symm
  | false =>
    simp only [if_false, Bool.false_eq_true] at hi ⊢
    have e : ∀ o, o ≠ t + 6 → zu σ (t + 6) i v o = σ o := fun o ho => zu_o ho
    have u : ∀ z, z ≠ 124 + i → upd R (124 + i) v z = R z := fun z hz => upd_ne hz
    refine ⟨?_, fun g' hg' k' hk' => ?_, fun p' hp' k' hk' => ?_, fun z hz => ?_, fun z hz => ?_, fun c' hc => ?_, j1.congr (e _ (by omega)) (e _ (by omega)) (fun i h1 h2 => u i (by omega)) hv.1.len.2, j2.congr (e _ (by omega)) (e _ (by omega)) (fun i h1 h2 => u i (by omega)) hv.2.len.2⟩
    · rw [e t (by omega), u 0 (by omega), u 1 (by omega), u 2 (by omega), u 3 (by omega), u 4 (by omega), u 5 (by omega)]
      exact ⟨a1, a2, a3, a4, a5, a6⟩
    · rw [e _ (by omega), u _ (by omega)]; exact bb g' hg' k' hk'
    · rw [e _ (by omega), u _ (by omega)]; exact c p' hp' k' hk'
    · rw [e _ (by omega), u _ (by omega)]; exact d z hz
    · by_cases hz2 : z = i
      · subst hz2; rw [zu_at, upd_at]
      · rw [zu_k hz2, u _ (by omega)]; exact f z hz
    · rw [e _ (by omega), q c' hc]
      exact (gat_congr (u 2 (by omega)) (fun z hz => u _ (by omega)) _).symm
theorem Rel.street {m : Nat} {σ σ' : ZS} (h : Rel m σ) (hR : RS σ' 2 (σ' 104)) (hW : WF 9999 (σ' 104)) (e : ∀ o, (o = 1 ∨ (29 ≤ o ∧ o ≤ 55) ∨ (90 ≤ o ∧ o ≤ 92) ∨ (94 ≤ o ∧ o ≤ 103) ∨ o = 105 ∨ (107 ≤ o ∧ o ≤ 110) ∨ o = 118) → σ' o = σ o) : Rel (m + 1) σ' := by
  obtain ⟨h1, h2, ⟨i1, i2, i3, i4⟩, h4, h5, h6⟩ := h
  refine ⟨hR, hW, ⟨?_, ?_, ?_, fun hn => ?_⟩, fun i q1 q2 => ?_, fun s hs => ?_, ?_⟩
  · rw [e 1 (by omega), e 103 (by omega)]; exact i1
  · rw [e 103 (by omega)]; omega
  · rw [e 1 (by omega), e 103 (by omega)]; exact i3
  · rw [e 103 (by omega)] at hn
    obtain ⟨q1, q2⟩ := i4 hn
    rw [e 105 (by omega)]
    exact ⟨q1.congr q2.2.2 fun o q1 q2 => e o (by omega), q2⟩
  · rw [e 94 (by omega), e 107 (by omega)]; exact h4 i q1 q2
  · rw [e 108 (by omega), e 109 (by omega), e 110 (by omega), e (95 + 2 * s) (by omega), e (96 + 2 * s) (by omega)]
    exact h5 s hs
  · unfold Vo
    rw [e 90 (by omega), e 91 (by omega), e 103 (by omega), e 118 (by omega)]
    exact h6
theorem Rel.up {m : Nat} {σ : ZS} (h : Rel m σ) : Rel (m + 1) σ := h.congr (by omega) (fun _ _ => rfl) rfl rfl
/-- both sides' row after a store into each -/
theorem Rel.two {m : Nat} {σ : ZS} {o i j : Nat} {v w : Int32} (h : Rel m σ) (ho : 2 ≤ o ∧ o ≤ 28) (hR : RS (zu σ o i v) 2 (upd (σ 104) j w)) (hW : WF 9999 (upd (σ 104) j w)) : Rel (m + 1) (zu (zu σ o i v) 104 j w) := by
  have e : zu (zu σ o i v) 104 j w 104 = upd (σ 104) j w := by
    rw [zu_self, zu_o (by omega)]
  refine h.street (by rw [e]; exact hR.congr hW.2.2 fun a h1 h2 => zu_o (by omega)) (by rw [e]; exact hW) fun a ha => ?_
  rw [zu_o (by omega), zu_o (by omega)]
theorem WF.upd0 {hb : Int} {R : Nat → Int32} (h : WF hb R) {j : Nat} {w : Int32} (hj : j < 148) (hv : bl j ≤ w.toInt ∧ w.toInt ≤ bh hb j) (h2 : j ≠ 2) (hc : ∀ g, g < 8 → j ≠ 6 + 5 * g + 2) : WF hb (upd R j w) := by
  refine ⟨h.1.upd fun _ => hv, fun g g' h3 h4 h5 => ?_, h.2.2.congr fun i h3 h4 => upd_ne (by omega)⟩
  have hn := h.1.ng
  rw [upd_ne (by omega)] at h3 h4
  rw [upd_ne (Ne.symm (hc g (by omega))), upd_ne (Ne.symm (hc g' (by omega)))] at h5
  exact h.2.1 g g' h3 h4 h5
section
variable {m k : Nat} {σ : ZS}
theorem op_hour (h : Rel m σ) (v : Int32) : opk m (f8_hour k v) (f9_hour k v) σ := by
  by_cases c1 : 0 ≤ v.toInt ∧ v.toInt ≤ 9999
  · refine ⟨σ 104 0, zu σ 2 10 v, zu (zu σ 2 10 v) 104 0 v, ?_, ?_, h.two (by decide) (h.1.fld h.2.1.2.2 h.2.1.1.ng.2 (by decide) v) (h.2.1.upd0 (by decide) c1 (by decide) (fun g hg => by omega))⟩
    · unfold f8_hour
      rw [if_neg (by (simp only [Int32.lt_iff_toInt_lt, Int32.le_iff_toInt_le, ← Int32.toInt_inj, t_m1000000006, t_m1000000005, t_m1000000004, t_m1000000003, t_m1000000002, t_m1000000001, t_m1000000000, t_m33, t_m10, t_m3, t_m2, t_m1, t_0, t_1, t_2, t_3, t_4, t_5, t_6, t_7, t_8, t_9, t_10, t_11, t_12, t_13, t_14, t_15, t_16, t_17, t_18, t_19, t_20, t_21, t_22, t_23, t_24, t_25, t_26, t_27, t_28, t_29, t_30, t_31, t_32, t_33, t_34, t_35, t_36, t_37, t_38, t_39, t_40, t_41, t_42, t_43, t_44, t_45, t_46, t_47, t_48, t_49, t_50, t_51, t_52, t_53, t_54, t_55, t_56, t_57, t_58, t_59, t_60, t_61, t_62, t_63, t_64, t_69, t_70, t_71, t_99, t_104, t_105, t_106, t_107, t_108, t_109, t_110, t_111, t_112, t_113, t_114, t_115, t_116, t_121, t_124, t_148, t_255, t_256, t_257, t_390, t_999, t_9999, t_12345, t_99999, t_1103515245] at *; omega)), if_pos (by (simp only [Int32.lt_iff_toInt_lt, Int32.le_iff_toInt_le, ← Int32.toInt_inj, t_m1000000006, t_m1000000005, t_m1000000004, t_m1000000003, t_m1000000002, t_m1000000001, t_m1000000000, t_m33, t_m10, t_m3, t_m2, t_m1, t_0, t_1, t_2, t_3, t_4, t_5, t_6, t_7, t_8, t_9, t_10, t_11, t_12, t_13, t_14, t_15, t_16, t_17, t_18, t_19, t_20, t_21, t_22, t_23, t_24, t_25, t_26, t_27, t_28, t_29, t_30, t_31, t_32, t_33, t_34, t_35, t_36, t_37, t_38, t_39, t_40, t_41, t_42, t_43, t_44, t_45, t_46, t_47, t_48, t_49, t_50, t_51, t_52, t_53, t_54, t_55, t_56, t_57, t_58, t_59, t_60, t_61, t_62, t_63, t_64, t_69, t_70, t_71, t_99, t_104, t_105, t_106, t_107, t_108, t_109, t_110, t_111, t_112, t_113, t_114, t_115, t_116, t_121, t_124, t_148, t_255, t_256, t_257, t_390, t_999, t_9999, t_12345, t_99999, t_1103515245] at *; omega)), zput_eq, h.1.1.2.2.2.2.1]
    · unfold f9_hour
      rw [s9_in, zbd_some, t_0, t_9999, if_pos c1, if_neg (by decide), s9_becomes (by decide), zbd_some]
      rfl
  · refine opk_e1 h ?_ fun s hs => ?_
    · unfold f8_hour
      by_cases c2 : v < 0
      · rw [if_pos c2, e8_1]; rfl
      · rw [if_neg c2, if_neg (by (simp only [Int32.lt_iff_toInt_lt, Int32.le_iff_toInt_le, ← Int32.toInt_inj, t_m1000000006, t_m1000000005, t_m1000000004, t_m1000000003, t_m1000000002, t_m1000000001, t_m1000000000, t_m33, t_m10, t_m3, t_m2, t_m1, t_0, t_1, t_2, t_3, t_4, t_5, t_6, t_7, t_8, t_9, t_10, t_11, t_12, t_13, t_14, t_15, t_16, t_17, t_18, t_19, t_20, t_21, t_22, t_23, t_24, t_25, t_26, t_27, t_28, t_29, t_30, t_31, t_32, t_33, t_34, t_35, t_36, t_37, t_38, t_39, t_40, t_41, t_42, t_43, t_44, t_45, t_46, t_47, t_48, t_49, t_50, t_51, t_52, t_53, t_54, t_55, t_56, t_57, t_58, t_59, t_60, t_61, t_62, t_63, t_64, t_69, t_70, t_71, t_99, t_104, t_105, t_106, t_107, t_108, t_109, t_110, t_111, t_112, t_113, t_114, t_115, t_116, t_121, t_124, t_148, t_255, t_256, t_257, t_390, t_999, t_9999, t_12345, t_99999, t_1103515245] at *; omega)), e8_1]; rfl
    · unfold f9_hour
      rw [s9_in, zbd_some, t_0, t_9999, if_neg c1, if_pos rfl, e9_1]; rfl
theorem op_seed (h : Rel m σ) (v : Int32) : opk m (f8_seed k v) (f9_seed k v) σ := by
  refine ⟨σ 104 1, zu σ 2 11 v, zu (zu σ 2 11 v) 104 1 v, ?_, ?_, h.two (by decide) (h.1.fld h.2.1.2.2 h.2.1.1.ng.2 (by decide) v) (h.2.1.upd0 (by decide) ⟨(i_rng v).1, (i_rng v).2⟩ (by decide) (fun g hg => by omega))⟩
  · unfold f8_seed
    rw [zput_eq, h.1.1.2.2.2.2.2]
  · unfold f9_seed
    rw [s9_becomes (by decide), zbd_some]
    rfl
theorem op_count (h : Rel m σ) (a : Int32) : opk m (f8_count k a) (f9_count k a) σ := by
  obtain ⟨a1, a2, a3, a4, a5, a6⟩ := h.1.1
  unfold opk
  by_cases c0 : a = 0
  · exact ⟨_, σ, σ, by rw [f8_count, if_pos c0], by rw [f9_count, if_pos c0, a1], h.up⟩
  by_cases c1 : a = 1
  · exact ⟨_, σ, σ, by rw [f8_count, if_neg c0, if_pos c1], by rw [f9_count, if_neg c0, if_pos c1, a2], h.up⟩
  by_cases c2 : a = 2
  · exact ⟨_, σ, σ, by rw [f8_count, if_neg c0, if_neg c1, if_pos c2], by rw [f9_count, if_neg c0, if_neg c1, if_pos c2, a5], h.up⟩
  by_cases c3 : a = 3
  · exact ⟨_, σ, σ, by rw [f8_count, if_neg c0, if_neg c1, if_neg c2, if_pos c3], by rw [f9_count, if_neg c0, if_neg c1, if_neg c2, if_pos c3, a3], h.up⟩
  by_cases c4 : a = 4
  · exact ⟨_, σ, σ, by rw [f8_count, if_neg c0, if_neg c1, if_neg c2, if_neg c3, if_pos c4], by rw [f9_count, if_neg c0, if_neg c1, if_neg c2, if_neg c3, if_pos c4, a4], h.up⟩
  by_cases c5 : a = 5
  · exact ⟨_, σ, σ, by rw [f8_count, if_neg c0, if_neg c1, if_neg c2, if_neg c3, if_neg c4, if_pos c5], by rw [f9_count, if_neg c0, if_neg c1, if_neg c2, if_neg c3, if_neg c4, if_pos c5, h.2.2.2.2.2.1], h.up⟩
  by_cases c6 : a = 6
  · exact ⟨_, σ, σ, by rw [f8_count, if_neg c0, if_neg c1, if_neg c2, if_neg c3, if_neg c4, if_neg c5, if_pos c6], by rw [f9_count, if_neg c0, if_neg c1, if_neg c2, if_neg c3, if_neg c4, if_neg c5, if_pos c6, a6], h.up⟩
  refine opk_e1 h ?_ fun s hs => ?_
  · rw [f8_count, if_neg c0, if_neg c1, if_neg c2, if_neg c3, if_neg c4, if_neg c5, if_neg c6, e8_1]; rfl
  · rw [f9_count, if_neg c0, if_neg c1, if_neg c2, if_neg c3, if_neg c4, if_neg c5, if_neg c6, e9_1]; rfl
theorem op_told (h : Rel m σ) (a : Int32) : opk m (f8_told k a) (f9_told k a) σ := by
  by_cases c1 : 1 ≤ a.toInt ∧ a.toInt ≤ 6
  · refine ⟨σ 94 a.toInt.toNat, σ, σ, ?_, ?_, h.up⟩
    · rw [f8_told, if_neg (by (simp only [Int32.lt_iff_toInt_lt, Int32.le_iff_toInt_le, ← Int32.toInt_inj, t_m1000000006, t_m1000000005, t_m1000000004, t_m1000000003, t_m1000000002, t_m1000000001, t_m1000000000, t_m33, t_m10, t_m3, t_m2, t_m1, t_0, t_1, t_2, t_3, t_4, t_5, t_6, t_7, t_8, t_9, t_10, t_11, t_12, t_13, t_14, t_15, t_16, t_17, t_18, t_19, t_20, t_21, t_22, t_23, t_24, t_25, t_26, t_27, t_28, t_29, t_30, t_31, t_32, t_33, t_34, t_35, t_36, t_37, t_38, t_39, t_40, t_41, t_42, t_43, t_44, t_45, t_46, t_47, t_48, t_49, t_50, t_51, t_52, t_53, t_54, t_55, t_56, t_57, t_58, t_59, t_60, t_61, t_62, t_63, t_64, t_69, t_70, t_71, t_99, t_104, t_105, t_106, t_107, t_108, t_109, t_110, t_111, t_112, t_113, t_114, t_115, t_116, t_121, t_124, t_148, t_255, t_256, t_257, t_390, t_999, t_9999, t_12345, t_99999, t_1103515245] at *; omega)), if_pos (by (simp only [Int32.lt_iff_toInt_lt, Int32.le_iff_toInt_le, ← Int32.toInt_inj, t_m1000000006, t_m1000000005, t_m1000000004, t_m1000000003, t_m1000000002, t_m1000000001, t_m1000000000, t_m33, t_m10, t_m3, t_m2, t_m1, t_0, t_1, t_2, t_3, t_4, t_5, t_6, t_7, t_8, t_9, t_10, t_11, t_12, t_13, t_14, t_15, t_16, t_17, t_18, t_19, t_20, t_21, t_22, t_23, t_24, t_25, t_26, t_27, t_28, t_29, t_30, t_31, t_32, t_33, t_34, t_35, t_36, t_37, t_38, t_39, t_40, t_41, t_42, t_43, t_44, t_45, t_46, t_47, t_48, t_49, t_50, t_51, t_52, t_53, t_54, t_55, t_56, t_57, t_58, t_59, t_60, t_61, t_62, t_63, t_64, t_69, t_70, t_71, t_99, t_104, t_105, t_106, t_107, t_108, t_109, t_110, t_111, t_112, t_113, t_114, t_115, t_116, t_121, t_124, t_148, t_255, t_256, t_257, t_390, t_999, t_9999, t_12345, t_99999, t_1103515245] at *; omega)), if_pos (by rw [zin]; omega)]; rfl
    · rw [f9_told, s9_in, zbd_some, t_1, t_6, if_pos c1, if_neg (by decide), if_pos (by rw [zin]; omega), h.2.2.2.1 a.toInt.toNat (by omega) (by omega)]; rfl
  · refine opk_e1 h ?_ fun s hs => ?_
    · unfold f8_told
      by_cases c2 : a < 1
      · rw [if_pos c2, e8_1]; rfl
      · rw [if_neg c2, if_neg (by (simp only [Int32.lt_iff_toInt_lt, Int32.le_iff_toInt_le, ← Int32.toInt_inj, t_m1000000006, t_m1000000005, t_m1000000004, t_m1000000003, t_m1000000002, t_m1000000001, t_m1000000000, t_m33, t_m10, t_m3, t_m2, t_m1, t_0, t_1, t_2, t_3, t_4, t_5, t_6, t_7, t_8, t_9, t_10, t_11, t_12, t_13, t_14, t_15, t_16, t_17, t_18, t_19, t_20, t_21, t_22, t_23, t_24, t_25, t_26, t_27, t_28, t_29, t_30, t_31, t_32, t_33, t_34, t_35, t_36, t_37, t_38, t_39, t_40, t_41, t_42, t_43, t_44, t_45, t_46, t_47, t_48, t_49, t_50, t_51, t_52, t_53, t_54, t_55, t_56, t_57, t_58, t_59, t_60, t_61, t_62, t_63, t_64, t_69, t_70, t_71, t_99, t_104, t_105, t_106, t_107, t_108, t_109, t_110, t_111, t_112, t_113, t_114, t_115, t_116, t_121, t_124, t_148, t_255, t_256, t_257, t_390, t_999, t_9999, t_12345, t_99999, t_1103515245] at *; omega)), e8_1]; rfl
    · rw [f9_told, s9_in, zbd_some, t_1, t_6, if_neg c1, if_pos rfl, e9_1]; rfl
theorem op_body (h : Rel m σ) (a : Int32) : opk m (f8_body k a) (f9_body k a) σ := by
  obtain ⟨v1, v2, v3⟩ := h.2.2.2.2.2
  have e2 : (σ 103 25 - 1).toInt = (σ 103 25).toInt - 1 := by rw [i_sub (by rw [t_1]; omega), t_1]
  by_cases c1 : 0 ≤ a.toInt ∧ a.toInt ≤ (σ 103 25 - 1).toInt
  · have c2 := c1
    rw [e2] at c2
    refine ⟨σ 91 a.toInt.toNat, σ, σ, ?_, ?_, h.up⟩
    · rw [f8_body, if_neg (by (simp only [Int32.lt_iff_toInt_lt, Int32.le_iff_toInt_le, ← Int32.toInt_inj, t_m1000000006, t_m1000000005, t_m1000000004, t_m1000000003, t_m1000000002, t_m1000000001, t_m1000000000, t_m33, t_m10, t_m3, t_m2, t_m1, t_0, t_1, t_2, t_3, t_4, t_5, t_6, t_7, t_8, t_9, t_10, t_11, t_12, t_13, t_14, t_15, t_16, t_17, t_18, t_19, t_20, t_21, t_22, t_23, t_24, t_25, t_26, t_27, t_28, t_29, t_30, t_31, t_32, t_33, t_34, t_35, t_36, t_37, t_38, t_39, t_40, t_41, t_42, t_43, t_44, t_45, t_46, t_47, t_48, t_49, t_50, t_51, t_52, t_53, t_54, t_55, t_56, t_57, t_58, t_59, t_60, t_61, t_62, t_63, t_64, t_69, t_70, t_71, t_99, t_104, t_105, t_106, t_107, t_108, t_109, t_110, t_111, t_112, t_113, t_114, t_115, t_116, t_121, t_124, t_148, t_255, t_256, t_257, t_390, t_999, t_9999, t_12345, t_99999, t_1103515245] at *; omega)), v1, if_pos (by (simp only [Int32.lt_iff_toInt_lt, Int32.le_iff_toInt_le, ← Int32.toInt_inj, t_m1000000006, t_m1000000005, t_m1000000004, t_m1000000003, t_m1000000002, t_m1000000001, t_m1000000000, t_m33, t_m10, t_m3, t_m2, t_m1, t_0, t_1, t_2, t_3, t_4, t_5, t_6, t_7, t_8, t_9, t_10, t_11, t_12, t_13, t_14, t_15, t_16, t_17, t_18, t_19, t_20, t_21, t_22, t_23, t_24, t_25, t_26, t_27, t_28, t_29, t_30, t_31, t_32, t_33, t_34, t_35, t_36, t_37, t_38, t_39, t_40, t_41, t_42, t_43, t_44, t_45, t_46, t_47, t_48, t_49, t_50, t_51, t_52, t_53, t_54, t_55, t_56, t_57, t_58, t_59, t_60, t_61, t_62, t_63, t_64, t_69, t_70, t_71, t_99, t_104, t_105, t_106, t_107, t_108, t_109, t_110, t_111, t_112, t_113, t_114, t_115, t_116, t_121, t_124, t_148, t_255, t_256, t_257, t_390, t_999, t_9999, t_12345, t_99999, t_1103515245] at *; omega)), f7_tracedAt, if_neg (by (simp only [Int32.lt_iff_toInt_lt, Int32.le_iff_toInt_le, ← Int32.toInt_inj, t_m1000000006, t_m1000000005, t_m1000000004, t_m1000000003, t_m1000000002, t_m1000000001, t_m1000000000, t_m33, t_m10, t_m3, t_m2, t_m1, t_0, t_1, t_2, t_3, t_4, t_5, t_6, t_7, t_8, t_9, t_10, t_11, t_12, t_13, t_14, t_15, t_16, t_17, t_18, t_19, t_20, t_21, t_22, t_23, t_24, t_25, t_26, t_27, t_28, t_29, t_30, t_31, t_32, t_33, t_34, t_35, t_36, t_37, t_38, t_39, t_40, t_41, t_42, t_43, t_44, t_45, t_46, t_47, t_48, t_49, t_50, t_51, t_52, t_53, t_54, t_55, t_56, t_57, t_58, t_59, t_60, t_61, t_62, t_63, t_64, t_69, t_70, t_71, t_99, t_104, t_105, t_106, t_107, t_108, t_109, t_110, t_111, t_112, t_113, t_114, t_115, t_116, t_121, t_124, t_148, t_255, t_256, t_257, t_390, t_999, t_9999, t_12345, t_99999, t_1103515245] at *; omega)), v1, if_neg (by (simp only [Int32.lt_iff_toInt_lt, Int32.le_iff_toInt_le, ← Int32.toInt_inj, t_m1000000006, t_m1000000005, t_m1000000004, t_m1000000003, t_m1000000002, t_m1000000001, t_m1000000000, t_m33, t_m10, t_m3, t_m2, t_m1, t_0, t_1, t_2, t_3, t_4, t_5, t_6, t_7, t_8, t_9, t_10, t_11, t_12, t_13, t_14, t_15, t_16, t_17, t_18, t_19, t_20, t_21, t_22, t_23, t_24, t_25, t_26, t_27, t_28, t_29, t_30, t_31, t_32, t_33, t_34, t_35, t_36, t_37, t_38, t_39, t_40, t_41, t_42, t_43, t_44, t_45, t_46, t_47, t_48, t_49, t_50, t_51, t_52, t_53, t_54, t_55, t_56, t_57, t_58, t_59, t_60, t_61, t_62, t_63, t_64, t_69, t_70, t_71, t_99, t_104, t_105, t_106, t_107, t_108, t_109, t_110, t_111, t_112, t_113, t_114, t_115, t_116, t_121, t_124, t_148, t_255, t_256, t_257, t_390, t_999, t_9999, t_12345, t_99999, t_1103515245] at *; omega)), if_pos (by (simp only [Int32.lt_iff_toInt_lt, Int32.le_iff_toInt_le, ← Int32.toInt_inj, t_m1000000006, t_m1000000005, t_m1000000004, t_m1000000003, t_m1000000002, t_m1000000001, t_m1000000000, t_m33, t_m10, t_m3, t_m2, t_m1, t_0, t_1, t_2, t_3, t_4, t_5, t_6, t_7, t_8, t_9, t_10, t_11, t_12, t_13, t_14, t_15, t_16, t_17, t_18, t_19, t_20, t_21, t_22, t_23, t_24, t_25, t_26, t_27, t_28, t_29, t_30, t_31, t_32, t_33, t_34, t_35, t_36, t_37, t_38, t_39, t_40, t_41, t_42, t_43, t_44, t_45, t_46, t_47, t_48, t_49, t_50, t_51, t_52, t_53, t_54, t_55, t_56, t_57, t_58, t_59, t_60, t_61, t_62, t_63, t_64, t_69, t_70, t_71, t_99, t_104, t_105, t_106, t_107, t_108, t_109, t_110, t_111, t_112, t_113, t_114, t_115, t_116, t_121, t_124, t_148, t_255, t_256, t_257, t_390, t_999, t_9999, t_12345, t_99999, t_1103515245] at *; omega)), if_pos (by rw [zin]; omega), zbd_some]; rfl
    · rw [f9_body, s9_in, zbd_some, t_0, if_pos c1, if_neg (by decide), if_pos (by rw [zin]; omega), v3 a.toInt.toNat (by omega)]; rfl
  · have c2 := c1
    rw [e2] at c2
    refine opk_e2 h ?_ fun s hs => ?_
    · unfold f8_body
      by_cases c3 : a < 0
      · rw [if_pos c3, e8_2]; rfl
      · rw [if_neg c3, v1, if_neg (by (simp only [Int32.lt_iff_toInt_lt, Int32.le_iff_toInt_le, ← Int32.toInt_inj, t_m1000000006, t_m1000000005, t_m1000000004, t_m1000000003, t_m1000000002, t_m1000000001, t_m1000000000, t_m33, t_m10, t_m3, t_m2, t_m1, t_0, t_1, t_2, t_3, t_4, t_5, t_6, t_7, t_8, t_9, t_10, t_11, t_12, t_13, t_14, t_15, t_16, t_17, t_18, t_19, t_20, t_21, t_22, t_23, t_24, t_25, t_26, t_27, t_28, t_29, t_30, t_31, t_32, t_33, t_34, t_35, t_36, t_37, t_38, t_39, t_40, t_41, t_42, t_43, t_44, t_45, t_46, t_47, t_48, t_49, t_50, t_51, t_52, t_53, t_54, t_55, t_56, t_57, t_58, t_59, t_60, t_61, t_62, t_63, t_64, t_69, t_70, t_71, t_99, t_104, t_105, t_106, t_107, t_108, t_109, t_110, t_111, t_112, t_113, t_114, t_115, t_116, t_121, t_124, t_148, t_255, t_256, t_257, t_390, t_999, t_9999, t_12345, t_99999, t_1103515245] at *; omega)), e8_2]; rfl
    · rw [f9_body, s9_in, zbd_some, t_0, hs 103 (by decide), if_neg c1, if_pos rfl, e9_2]; rfl
theorem sh_g {g : Nat} (hg : g < 8) : zsh (2 + 7 + g) = 1 := by
  match g, hg with
  | 0, _ => rfl
  | 1, _ => rfl
  | 2, _ => rfl
  | 3, _ => rfl
  | 4, _ => rfl
  | 5, _ => rfl
  | 6, _ => rfl
  | 7, _ => rfl
  | g + 8, hg => exact absurd hg (by omega)
theorem sh_p {p : Nat} (hp : p < 6) : zsh (2 + 15 + p) = 3 := by
  match p, hp with
  | 0, _ => rfl
  | 1, _ => rfl
  | 2, _ => rfl
  | 3, _ => rfl
  | 4, _ => rfl
  | 5, _ => rfl
  | p + 6, hp => exact absurd hp (by omega)
/-- a glass of the row now: there, or not -/
theorem Rel.gl8 (h : Rel m σ) (a : Int32) : f5_glassOf k 2 a σ = some (if 0 ≤ a.toInt ∧ a.toInt < (σ 104 2).toInt then 2 + 7 + a.toInt.toNat else 0, σ) := by
  have := s5_glassOf (k := k) (t := 2) (a := a) (σ := σ) rfl (by rw [h.1.1.1]; exact h.2.1.1.ng.2)
  rw [h.1.1.1] at this
  exact this
theorem Rel.pe8 (h : Rel m σ) (a : Int32) : f5_personOf k 2 a σ = some (if 0 ≤ a.toInt ∧ a.toInt < (σ 104 3).toInt then 2 + 15 + a.toInt.toNat else 0, σ) := by
  have := s5_personOf (k := k) (t := 2) (a := a) (σ := σ) rfl (by rw [h.1.1.2.1]; exact h.2.1.1.np.2)
  rw [h.1.1.2.1] at this
  exact this
theorem op_glassIs (h : Rel m σ) (a b : Int32) : opk m (f8_glassIs k a b) (f9_glassIs k a b) σ := by
  have hn := h.2.1.1.ng
  by_cases c1 : 0 ≤ a.toInt ∧ a.toInt < (σ 104 2).toInt
  · have hg : a.toInt.toNat < 8 := by omega
    by_cases c2 : 0 ≤ b.toInt ∧ b.toInt ≤ 4
    · have e9 : f9_glassIs k a b σ = some (σ 104 (6 + 5 * a.toInt.toNat + b.toInt.toNat), σ) := by
        rw [f9_glassIs, s9_isGlass hn.1, zbd_some, if_pos c1, if_neg (by decide), s9_in, zbd_some, t_0, t_4, if_pos c2, if_neg (by decide), s9_of (by omega) c2, zbd_some]
      have e8 : f8_glassIs k a b σ = some (σ (2 + 7 + a.toInt.toNat) b.toInt.toNat, σ) := by
        rw [f8_glassIs, h.gl8, zbd_some, if_pos c1, if_neg (by omega)]
        have sg := sh_g hg
        have hb : b.toInt = 0 ∨ b.toInt = 1 ∨ b.toInt = 2 ∨ b.toInt = 3 ∨ b.toInt = 4 := by omega
        rcases hb with hb | hb | hb | hb | hb
        · rw [if_pos (i_eq hb), if_pos sg, hb]; rfl
        · rw [if_neg (by (simp only [Int32.lt_iff_toInt_lt, Int32.le_iff_toInt_le, ← Int32.toInt_inj, t_m1000000006, t_m1000000005, t_m1000000004, t_m1000000003, t_m1000000002, t_m1000000001, t_m1000000000, t_m33, t_m10, t_m3, t_m2, t_m1, t_0, t_1, t_2, t_3, t_4, t_5, t_6, t_7, t_8, t_9, t_10, t_11, t_12, t_13, t_14, t_15, t_16, t_17, t_18, t_19, t_20, t_21, t_22, t_23, t_24, t_25, t_26, t_27, t_28, t_29, t_30, t_31, t_32, t_33, t_34, t_35, t_36, t_37, t_38, t_39, t_40, t_41, t_42, t_43, t_44, t_45, t_46, t_47, t_48, t_49, t_50, t_51, t_52, t_53, t_54, t_55, t_56, t_57, t_58, t_59, t_60, t_61, t_62, t_63, t_64, t_69, t_70, t_71, t_99, t_104, t_105, t_106, t_107, t_108, t_109, t_110, t_111, t_112, t_113, t_114, t_115, t_116, t_121, t_124, t_148, t_255, t_256, t_257, t_390, t_999, t_9999, t_12345, t_99999, t_1103515245] at *; omega)), if_pos (i_eq hb), if_pos sg, hb]; rfl
        · rw [if_neg (by (simp only [Int32.lt_iff_toInt_lt, Int32.le_iff_toInt_le, ← Int32.toInt_inj, t_m1000000006, t_m1000000005, t_m1000000004, t_m1000000003, t_m1000000002, t_m1000000001, t_m1000000000, t_m33, t_m10, t_m3, t_m2, t_m1, t_0, t_1, t_2, t_3, t_4, t_5, t_6, t_7, t_8, t_9, t_10, t_11, t_12, t_13, t_14, t_15, t_16, t_17, t_18, t_19, t_20, t_21, t_22, t_23, t_24, t_25, t_26, t_27, t_28, t_29, t_30, t_31, t_32, t_33, t_34, t_35, t_36, t_37, t_38, t_39, t_40, t_41, t_42, t_43, t_44, t_45, t_46, t_47, t_48, t_49, t_50, t_51, t_52, t_53, t_54, t_55, t_56, t_57, t_58, t_59, t_60, t_61, t_62, t_63, t_64, t_69, t_70, t_71, t_99, t_104, t_105, t_106, t_107, t_108, t_109, t_110, t_111, t_112, t_113, t_114, t_115, t_116, t_121, t_124, t_148, t_255, t_256, t_257, t_390, t_999, t_9999, t_12345, t_99999, t_1103515245] at *; omega)), if_neg (by (simp only [Int32.lt_iff_toInt_lt, Int32.le_iff_toInt_le, ← Int32.toInt_inj, t_m1000000006, t_m1000000005, t_m1000000004, t_m1000000003, t_m1000000002, t_m1000000001, t_m1000000000, t_m33, t_m10, t_m3, t_m2, t_m1, t_0, t_1, t_2, t_3, t_4, t_5, t_6, t_7, t_8, t_9, t_10, t_11, t_12, t_13, t_14, t_15, t_16, t_17, t_18, t_19, t_20, t_21, t_22, t_23, t_24, t_25, t_26, t_27, t_28, t_29, t_30, t_31, t_32, t_33, t_34, t_35, t_36, t_37, t_38, t_39, t_40, t_41, t_42, t_43, t_44, t_45, t_46, t_47, t_48, t_49, t_50, t_51, t_52, t_53, t_54, t_55, t_56, t_57, t_58, t_59, t_60, t_61, t_62, t_63, t_64, t_69, t_70, t_71, t_99, t_104, t_105, t_106, t_107, t_108, t_109, t_110, t_111, t_112, t_113, t_114, t_115, t_116, t_121, t_124, t_148, t_255, t_256, t_257, t_390, t_999, t_9999, t_12345, t_99999, t_1103515245] at *; omega)), if_pos (i_eq hb), if_pos sg, hb]; rfl
        · rw [if_neg (by (simp only [Int32.lt_iff_toInt_lt, Int32.le_iff_toInt_le, ← Int32.toInt_inj, t_m1000000006, t_m1000000005, t_m1000000004, t_m1000000003, t_m1000000002, t_m1000000001, t_m1000000000, t_m33, t_m10, t_m3, t_m2, t_m1, t_0, t_1, t_2, t_3, t_4, t_5, t_6, t_7, t_8, t_9, t_10, t_11, t_12, t_13, t_14, t_15, t_16, t_17, t_18, t_19, t_20, t_21, t_22, t_23, t_24, t_25, t_26, t_27, t_28, t_29, t_30, t_31, t_32, t_33, t_34, t_35, t_36, t_37, t_38, t_39, t_40, t_41, t_42, t_43, t_44, t_45, t_46, t_47, t_48, t_49, t_50, t_51, t_52, t_53, t_54, t_55, t_56, t_57, t_58, t_59, t_60, t_61, t_62, t_63, t_64, t_69, t_70, t_71, t_99, t_104, t_105, t_106, t_107, t_108, t_109, t_110, t_111, t_112, t_113, t_114, t_115, t_116, t_121, t_124, t_148, t_255, t_256, t_257, t_390, t_999, t_9999, t_12345, t_99999, t_1103515245] at *; omega)), if_neg (by (simp only [Int32.lt_iff_toInt_lt, Int32.le_iff_toInt_le, ← Int32.toInt_inj, t_m1000000006, t_m1000000005, t_m1000000004, t_m1000000003, t_m1000000002, t_m1000000001, t_m1000000000, t_m33, t_m10, t_m3, t_m2, t_m1, t_0, t_1, t_2, t_3, t_4, t_5, t_6, t_7, t_8, t_9, t_10, t_11, t_12, t_13, t_14, t_15, t_16, t_17, t_18, t_19, t_20, t_21, t_22, t_23, t_24, t_25, t_26, t_27, t_28, t_29, t_30, t_31, t_32, t_33, t_34, t_35, t_36, t_37, t_38, t_39, t_40, t_41, t_42, t_43, t_44, t_45, t_46, t_47, t_48, t_49, t_50, t_51, t_52, t_53, t_54, t_55, t_56, t_57, t_58, t_59, t_60, t_61, t_62, t_63, t_64, t_69, t_70, t_71, t_99, t_104, t_105, t_106, t_107, t_108, t_109, t_110, t_111, t_112, t_113, t_114, t_115, t_116, t_121, t_124, t_148, t_255, t_256, t_257, t_390, t_999, t_9999, t_12345, t_99999, t_1103515245] at *; omega)), if_neg (by (simp only [Int32.lt_iff_toInt_lt, Int32.le_iff_toInt_le, ← Int32.toInt_inj, t_m1000000006, t_m1000000005, t_m1000000004, t_m1000000003, t_m1000000002, t_m1000000001, t_m1000000000, t_m33, t_m10, t_m3, t_m2, t_m1, t_0, t_1, t_2, t_3, t_4, t_5, t_6, t_7, t_8, t_9, t_10, t_11, t_12, t_13, t_14, t_15, t_16, t_17, t_18, t_19, t_20, t_21, t_22, t_23, t_24, t_25, t_26, t_27, t_28, t_29, t_30, t_31, t_32, t_33, t_34, t_35, t_36, t_37, t_38, t_39, t_40, t_41, t_42, t_43, t_44, t_45, t_46, t_47, t_48, t_49, t_50, t_51, t_52, t_53, t_54, t_55, t_56, t_57, t_58, t_59, t_60, t_61, t_62, t_63, t_64, t_69, t_70, t_71, t_99, t_104, t_105, t_106, t_107, t_108, t_109, t_110, t_111, t_112, t_113, t_114, t_115, t_116, t_121, t_124, t_148, t_255, t_256, t_257, t_390, t_999, t_9999, t_12345, t_99999, t_1103515245] at *; omega)), if_pos (i_eq hb), if_pos sg, hb]; rfl
        · rw [if_neg (by (simp only [Int32.lt_iff_toInt_lt, Int32.le_iff_toInt_le, ← Int32.toInt_inj, t_m1000000006, t_m1000000005, t_m1000000004, t_m1000000003, t_m1000000002, t_m1000000001, t_m1000000000, t_m33, t_m10, t_m3, t_m2, t_m1, t_0, t_1, t_2, t_3, t_4, t_5, t_6, t_7, t_8, t_9, t_10, t_11, t_12, t_13, t_14, t_15, t_16, t_17, t_18, t_19, t_20, t_21, t_22, t_23, t_24, t_25, t_26, t_27, t_28, t_29, t_30, t_31, t_32, t_33, t_34, t_35, t_36, t_37, t_38, t_39, t_40, t_41, t_42, t_43, t_44, t_45, t_46, t_47, t_48, t_49, t_50, t_51, t_52, t_53, t_54, t_55, t_56, t_57, t_58, t_59, t_60, t_61, t_62, t_63, t_64, t_69, t_70, t_71, t_99, t_104, t_105, t_106, t_107, t_108, t_109, t_110, t_111, t_112, t_113, t_114, t_115, t_116, t_121, t_124, t_148, t_255, t_256, t_257, t_390, t_999, t_9999, t_12345, t_99999, t_1103515245] at *; omega)), if_neg (by (simp only [Int32.lt_iff_toInt_lt, Int32.le_iff_toInt_le, ← Int32.toInt_inj, t_m1000000006, t_m1000000005, t_m1000000004, t_m1000000003, t_m1000000002, t_m1000000001, t_m1000000000, t_m33, t_m10, t_m3, t_m2, t_m1, t_0, t_1, t_2, t_3, t_4, t_5, t_6, t_7, t_8, t_9, t_10, t_11, t_12, t_13, t_14, t_15, t_16, t_17, t_18, t_19, t_20, t_21, t_22, t_23, t_24, t_25, t_26, t_27, t_28, t_29, t_30, t_31, t_32, t_33, t_34, t_35, t_36, t_37, t_38, t_39, t_40, t_41, t_42, t_43, t_44, t_45, t_46, t_47, t_48, t_49, t_50, t_51, t_52, t_53, t_54, t_55, t_56, t_57, t_58, t_59, t_60, t_61, t_62, t_63, t_64, t_69, t_70, t_71, t_99, t_104, t_105, t_106, t_107, t_108, t_109, t_110, t_111, t_112, t_113, t_114, t_115, t_116, t_121, t_124, t_148, t_255, t_256, t_257, t_390, t_999, t_9999, t_12345, t_99999, t_1103515245] at *; omega)), if_neg (by (simp only [Int32.lt_iff_toInt_lt, Int32.le_iff_toInt_le, ← Int32.toInt_inj, t_m1000000006, t_m1000000005, t_m1000000004, t_m1000000003, t_m1000000002, t_m1000000001, t_m1000000000, t_m33, t_m10, t_m3, t_m2, t_m1, t_0, t_1, t_2, t_3, t_4, t_5, t_6, t_7, t_8, t_9, t_10, t_11, t_12, t_13, t_14, t_15, t_16, t_17, t_18, t_19, t_20, t_21, t_22, t_23, t_24, t_25, t_26, t_27, t_28, t_29, t_30, t_31, t_32, t_33, t_34, t_35, t_36, t_37, t_38, t_39, t_40, t_41, t_42, t_43, t_44, t_45, t_46, t_47, t_48, t_49, t_50, t_51, t_52, t_53, t_54, t_55, t_56, t_57, t_58, t_59, t_60, t_61, t_62, t_63, t_64, t_69, t_70, t_71, t_99, t_104, t_105, t_106, t_107, t_108, t_109, t_110, t_111, t_112, t_113, t_114, t_115, t_116, t_121, t_124, t_148, t_255, t_256, t_257, t_390, t_999, t_9999, t_12345, t_99999, t_1103515245] at *; omega)), if_neg (by (simp only [Int32.lt_iff_toInt_lt, Int32.le_iff_toInt_le, ← Int32.toInt_inj, t_m1000000006, t_m1000000005, t_m1000000004, t_m1000000003, t_m1000000002, t_m1000000001, t_m1000000000, t_m33, t_m10, t_m3, t_m2, t_m1, t_0, t_1, t_2, t_3, t_4, t_5, t_6, t_7, t_8, t_9, t_10, t_11, t_12, t_13, t_14, t_15, t_16, t_17, t_18, t_19, t_20, t_21, t_22, t_23, t_24, t_25, t_26, t_27, t_28, t_29, t_30, t_31, t_32, t_33, t_34, t_35, t_36, t_37, t_38, t_39, t_40, t_41, t_42, t_43, t_44, t_45, t_46, t_47, t_48, t_49, t_50, t_51, t_52, t_53, t_54, t_55, t_56, t_57, t_58, t_59, t_60, t_61, t_62, t_63, t_64, t_69, t_70, t_71, t_99, t_104, t_105, t_106, t_107, t_108, t_109, t_110, t_111, t_112, t_113, t_114, t_115, t_116, t_121, t_124, t_148, t_255, t_256, t_257, t_390, t_999, t_9999, t_12345, t_99999, t_1103515245] at *; omega)), if_pos (i_eq hb), if_pos sg, hb]; rfl
      exact ⟨_, σ, σ, e8, by rw [e9, h.1.2.1 _ hg _ (by omega)], h.up⟩
    · refine opk_e1 h ?_ fun s hs => ?_
      · rw [f8_glassIs, h.gl8, zbd_some, if_pos c1, if_neg (by omega), if_neg (by (simp only [Int32.lt_iff_toInt_lt, Int32.le_iff_toInt_le, ← Int32.toInt_inj, t_m1000000006, t_m1000000005, t_m1000000004, t_m1000000003, t_m1000000002, t_m1000000001, t_m1000000000, t_m33, t_m10, t_m3, t_m2, t_m1, t_0, t_1, t_2, t_3, t_4, t_5, t_6, t_7, t_8, t_9, t_10, t_11, t_12, t_13, t_14, t_15, t_16, t_17, t_18, t_19, t_20, t_21, t_22, t_23, t_24, t_25, t_26, t_27, t_28, t_29, t_30, t_31, t_32, t_33, t_34, t_35, t_36, t_37, t_38, t_39, t_40, t_41, t_42, t_43, t_44, t_45, t_46, t_47, t_48, t_49, t_50, t_51, t_52, t_53, t_54, t_55, t_56, t_57, t_58, t_59, t_60, t_61, t_62, t_63, t_64, t_69, t_70, t_71, t_99, t_104, t_105, t_106, t_107, t_108, t_109, t_110, t_111, t_112, t_113, t_114, t_115, t_116, t_121, t_124, t_148, t_255, t_256, t_257, t_390, t_999, t_9999, t_12345, t_99999, t_1103515245] at *; omega)), if_neg (by (simp only [Int32.lt_iff_toInt_lt, Int32.le_iff_toInt_le, ← Int32.toInt_inj, t_m1000000006, t_m1000000005, t_m1000000004, t_m1000000003, t_m1000000002, t_m1000000001, t_m1000000000, t_m33, t_m10, t_m3, t_m2, t_m1, t_0, t_1, t_2, t_3, t_4, t_5, t_6, t_7, t_8, t_9, t_10, t_11, t_12, t_13, t_14, t_15, t_16, t_17, t_18, t_19, t_20, t_21, t_22, t_23, t_24, t_25, t_26, t_27, t_28, t_29, t_30, t_31, t_32, t_33, t_34, t_35, t_36, t_37, t_38, t_39, t_40, t_41, t_42, t_43, t_44, t_45, t_46, t_47, t_48, t_49, t_50, t_51, t_52, t_53, t_54, t_55, t_56, t_57, t_58, t_59, t_60, t_61, t_62, t_63, t_64, t_69, t_70, t_71, t_99, t_104, t_105, t_106, t_107, t_108, t_109, t_110, t_111, t_112, t_113, t_114, t_115, t_116, t_121, t_124, t_148, t_255, t_256, t_257, t_390, t_999, t_9999, t_12345, t_99999, t_1103515245] at *; omega)), if_neg (by (simp only [Int32.lt_iff_toInt_lt, Int32.le_iff_toInt_le, ← Int32.toInt_inj, t_m1000000006, t_m1000000005, t_m1000000004, t_m1000000003, t_m1000000002, t_m1000000001, t_m1000000000, t_m33, t_m10, t_m3, t_m2, t_m1, t_0, t_1, t_2, t_3, t_4, t_5, t_6, t_7, t_8, t_9, t_10, t_11, t_12, t_13, t_14, t_15, t_16, t_17, t_18, t_19, t_20, t_21, t_22, t_23, t_24, t_25, t_26, t_27, t_28, t_29, t_30, t_31, t_32, t_33, t_34, t_35, t_36, t_37, t_38, t_39, t_40, t_41, t_42, t_43, t_44, t_45, t_46, t_47, t_48, t_49, t_50, t_51, t_52, t_53, t_54, t_55, t_56, t_57, t_58, t_59, t_60, t_61, t_62, t_63, t_64, t_69, t_70, t_71, t_99, t_104, t_105, t_106, t_107, t_108, t_109, t_110, t_111, t_112, t_113, t_114, t_115, t_116, t_121, t_124, t_148, t_255, t_256, t_257, t_390, t_999, t_9999, t_12345, t_99999, t_1103515245] at *; omega)), if_neg (by (simp only [Int32.lt_iff_toInt_lt, Int32.le_iff_toInt_le, ← Int32.toInt_inj, t_m1000000006, t_m1000000005, t_m1000000004, t_m1000000003, t_m1000000002, t_m1000000001, t_m1000000000, t_m33, t_m10, t_m3, t_m2, t_m1, t_0, t_1, t_2, t_3, t_4, t_5, t_6, t_7, t_8, t_9, t_10, t_11, t_12, t_13, t_14, t_15, t_16, t_17, t_18, t_19, t_20, t_21, t_22, t_23, t_24, t_25, t_26, t_27, t_28, t_29, t_30, t_31, t_32, t_33, t_34, t_35, t_36, t_37, t_38, t_39, t_40, t_41, t_42, t_43, t_44, t_45, t_46, t_47, t_48, t_49, t_50, t_51, t_52, t_53, t_54, t_55, t_56, t_57, t_58, t_59, t_60, t_61, t_62, t_63, t_64, t_69, t_70, t_71, t_99, t_104, t_105, t_106, t_107, t_108, t_109, t_110, t_111, t_112, t_113, t_114, t_115, t_116, t_121, t_124, t_148, t_255, t_256, t_257, t_390, t_999, t_9999, t_12345, t_99999, t_1103515245] at *; omega)), if_neg (by (simp only [Int32.lt_iff_toInt_lt, Int32.le_iff_toInt_le, ← Int32.toInt_inj, t_m1000000006, t_m1000000005, t_m1000000004, t_m1000000003, t_m1000000002, t_m1000000001, t_m1000000000, t_m33, t_m10, t_m3, t_m2, t_m1, t_0, t_1, t_2, t_3, t_4, t_5, t_6, t_7, t_8, t_9, t_10, t_11, t_12, t_13, t_14, t_15, t_16, t_17, t_18, t_19, t_20, t_21, t_22, t_23, t_24, t_25, t_26, t_27, t_28, t_29, t_30, t_31, t_32, t_33, t_34, t_35, t_36, t_37, t_38, t_39, t_40, t_41, t_42, t_43, t_44, t_45, t_46, t_47, t_48, t_49, t_50, t_51, t_52, t_53, t_54, t_55, t_56, t_57, t_58, t_59, t_60, t_61, t_62, t_63, t_64, t_69, t_70, t_71, t_99, t_104, t_105, t_106, t_107, t_108, t_109, t_110, t_111, t_112, t_113, t_114, t_115, t_116, t_121, t_124, t_148, t_255, t_256, t_257, t_390, t_999, t_9999, t_12345, t_99999, t_1103515245] at *; omega)), e8_1]; rfl
      · rw [f9_glassIs, s9_isGlass (by rw [hs 104 (by decide)]; exact hn.1), zbd_some, hs 104 (by decide), if_pos c1, if_neg (by decide), s9_in, zbd_some, t_0, t_4, if_neg c2, if_pos rfl, e9_1]; rfl
  · refine opk_e1 h ?_ fun s hs => ?_
    · rw [f8_glassIs, h.gl8, zbd_some, if_neg c1, if_pos rfl, e8_1]; rfl
    · rw [f9_glassIs, s9_isGlass (by rw [hs 104 (by decide)]; exact hn.1), zbd_some, hs 104 (by decide), if_neg c1, if_pos rfl, e9_1]; rfl
theorem op_spin (h : Rel m σ) (a b : Int32) : opk m (f8_spin k a b) (f9_spin k a b) σ := by
  have hn := h.2.1.1.ng
  by_cases c1 : 0 ≤ a.toInt ∧ a.toInt < (σ 104 2).toInt
  · have hg : a.toInt.toNat < 8 := by omega
    by_cases c2 : 0 ≤ b.toInt ∧ b.toInt ≤ 3
    · have ix : ((6 : Int32) + (5 : Int32) * a + (3 : Int32)).toInt = 6 + 5 * a.toInt + 3 := i_gx (w := 3) (by omega) (by rw [t_3]; omega)
      have ix2 : ((6 : Int32) + (5 : Int32) * a + (3 : Int32)).toInt.toNat = 6 + 5 * a.toInt.toNat + 3 := by rw [ix]; omega
      refine ⟨σ 104 (6 + 5 * a.toInt.toNat + 3), zu σ (2 + 7 + a.toInt.toNat) 3 b, zu (zu σ (2 + 7 + a.toInt.toNat) 3 b) 104 (6 + 5 * a.toInt.toNat + 3) b, ?_, ?_, h.two (by omega) (h.1.glass h.2.1.2.2 hg (by decide) (by decide) b) (h.2.1.upd0 (by omega) ?_ (by omega) (fun g hg => by omega))⟩
      · rw [f8_spin, h.gl8, zbd_some, if_pos c1, if_neg (by omega), s8_isNoTurn, zbd_some, if_pos c2, if_pos rfl, if_pos (sh_g hg), zput_eq, h.1.2.1 _ hg 3 (by decide)]
      · have e104 : zu σ (2 + 7 + a.toInt.toNat) 3 b 104 = σ 104 := zu_o (by omega)
        rw [f9_spin, s9_isGlass (by rw [e104]; exact hn.1), zbd_some, e104, if_pos c1, if_neg (by decide), s9_isFour, zbd_some, if_pos c2, if_neg (by decide), s9_becomes (by rw [ix]; omega), zbd_some, ix2, e104]
      · unfold bl bh
        rw [if_neg (by omega), if_neg (by omega), if_neg (by omega), if_neg (by omega), if_neg (by omega), if_neg (by omega), if_neg (by omega), if_pos (by omega), if_neg (by omega), if_neg (by omega), if_neg (by omega), if_pos (by omega)]
        exact c2
    · refine opk_e1 h ?_ fun s hs => ?_
      · rw [f8_spin, h.gl8, zbd_some, if_pos c1, if_neg (by omega), s8_isNoTurn, zbd_some, if_neg c2, if_neg (by decide), e8_1]; rfl
      · rw [f9_spin, s9_isGlass (by rw [hs 104 (by decide)]; exact hn.1), zbd_some, hs 104 (by decide), if_pos c1, if_neg (by decide), s9_isFour, zbd_some, if_neg c2, if_pos rfl, e9_1]; rfl
  · refine opk_e1 h ?_ fun s hs => ?_
    · rw [f8_spin, h.gl8, zbd_some, if_neg c1, if_pos rfl, e8_1]; rfl
    · rw [f9_spin, s9_isGlass (by rw [hs 104 (by decide)]; exact hn.1), zbd_some, hs 104 (by decide), if_neg c1, if_pos rfl, e9_1]; rfl
end
