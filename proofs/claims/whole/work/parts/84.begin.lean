/-! throwsOn, and how it begins -/
section
variable {m k : Nat} {σ : ZS}
theorem op_throwsOn (h : Rel m σ) (a w : Int32) : opk m (f8_throwsOn k a w) (f9_throwsOn k a w) σ := by
  have hn := h.2.1.1.ng
  by_cases c1 : 0 ≤ a.toInt ∧ a.toInt < (σ 104 2).toInt
  · obtain ⟨g, hg, rfl⟩ : ∃ s : Nat, s < 8 ∧ a = nI s := ⟨a.toInt.toNat, by omega, i_nat c1.1⟩
    have hgx : (nI g).toInt = g := nI_toInt (by omega)
    have hgn : (g : Int).toNat = g := by omega
    have hgl := h.2.1.1.gl hg
    by_cases c2 : 0 ≤ w.toInt ∧ w.toInt ≤ 3
    · refine ⟨onw (σ 104) g w, σ, σ, ?_, ?_, h.up⟩
      · rw [f8_throwsOn, h.gl8, zbd_some, if_pos c1, hgx, hgn, if_neg (by omega), s8_isNoWay, zbd_some, if_pos c2, if_pos rfl, s5_night (show zsh 2 = 6 from rfl), zbd_some, if_pos (sh_g hg), h.1.1.2.2.2.2.1, s0_onw (Or.inl rfl) h.1 hg, zbd_some]
      · rw [f9_throwsOn, h.ig9 rfl, zbd_some, if_pos c1, if_neg (by decide), s9_isFour, zbd_some, if_pos c2, if_neg (by decide), s9_onward hg (W4.of c2) (W4.of hgl.2.2.2.1), zbd_some]
    · refine opk_e1 h ?_ fun s hs => ?_
      · rw [f8_throwsOn, h.gl8, zbd_some, if_pos c1, if_neg (by omega), s8_isNoWay, zbd_some, if_neg c2, if_neg (by decide), e8_1]; rfl
      · rw [f9_throwsOn, h.ig9 (hs _ (by decide)), zbd_some, if_pos c1, if_neg (by decide), s9_isFour, zbd_some, if_neg c2, if_pos rfl, e9_1]; rfl
  · refine opk_e1 h ?_ fun s hs => ?_
    · rw [f8_throwsOn, h.gl8, zbd_some, if_neg c1, if_pos rfl, e8_1]; rfl
    · rw [f9_throwsOn, h.ig9 (hs _ (by decide)), zbd_some, if_neg c1, if_pos rfl, e9_1]; rfl
end
theorem zs_0 {o i : Nat} (h : o ≠ 6 ∧ o ≠ 33 ∧ o ≠ 60 ∧ o ≠ 104 ∧ o ≠ 2 ∧ o ≠ 29 ∧ o ≠ 56) : zs0 o i = 0 := by
  unfold zs0
  rw [if_neg (by omega), if_neg (by omega), if_neg (by omega)]
theorem zs_R {i : Nat} (h : i ≠ 1) : zs0 104 i = 0 := by
  have : zs0 104 = upd (fun _ => 0) 1 1 := rfl
  rw [this, upd_ne h]
theorem Rel.zero : Rel 0 zs0 := by
  have rR := @zs_R
  refine ⟨⟨⟨rfl, rfl, rfl, rfl, rfl, rfl⟩, fun g hg k hk => ?_, fun p hp k hk => ?_, fun j hj => ?_, fun j hj => ?_, fun c hc => ?_, Or.inl ⟨rfl, rfl⟩, Or.inl ⟨rfl, rfl⟩⟩, ⟨fun i hi => ?_, fun g g' h1 h2 h3 => ?_, Or.inl rfl, Or.inl rfl⟩, ⟨rfl, ⟨by decide, by decide⟩, rfl, fun h => absurd rfl h⟩, fun i h1 h2 => ?_, fun s hs => ?_, rfl, ⟨by decide, by decide⟩, fun i hi => ?_⟩
  · rw [zs_0 (by omega), zs_R (by omega)]
  · rw [zs_0 (by omega), zs_R (by omega)]
  · rw [zs_0 (by omega), zs_R (by omega)]
  · rw [zs_0 (by omega), zs_R (by omega)]
  · have e : zs0 (2 + 4) c = -1 := by
      show (if c < 64 then (-1 : Int32) else 0) = -1
      rw [if_pos hc]
    rw [e]; rfl
  · by_cases c : i = 1
    · subst c
      exact ⟨by decide, by decide⟩
    · rw [zs_R c]
      refine ⟨?_, ?_⟩
      · unfold bl
        split
        · decide
        · decide
      · unfold bh
        repeat' split
        all_goals decide
  · exact absurd h1 (by rw [show zs0 104 2 = 0 from rfl, t_0]; omega)
  · rw [zs_0 (by decide), zs_0 (by decide)]
  · rw [zs_0 (o := 95 + 2 * s) (by omega), zs_0 (o := 108) (by decide), zs_0 (o := 95 + 2 * s) (by omega), zs_0 (o := 109) (by decide)]
    exact ⟨⟨rfl, rfl⟩, Or.inl rfl, ⟨by decide, by decide⟩, fun i hi => by rw [zs_0 (by omega), zs_0 (by decide)]⟩
  · rw [zs_0 (by decide), zs_0 (by decide)]
