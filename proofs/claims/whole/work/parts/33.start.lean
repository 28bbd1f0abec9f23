/-! the start: the tables, the statics, the two constructors (printed by wip/whole/gen/start.py) -/
theorem dW_law_0 : zd code 0 (.new 7) 3 3 := ⟨by decide +kernel, rfl⟩
theorem dW_law_3 : zd code 3 .dup 1 4 := ⟨by decide +kernel, rfl⟩
theorem dW_law_4 : zd code 4 (.invokespecial 9) 3 7 := ⟨by decide +kernel, rfl⟩
theorem dW_law_7 : zd code 7 (.astore_n 1) 1 8 := ⟨by decide +kernel, rfl⟩
theorem dW_law_8 : zd code 8 (.new 10) 3 11 := ⟨by decide +kernel, rfl⟩
theorem dW_law_11 : zd code 11 .dup 1 12 := ⟨by decide +kernel, rfl⟩
theorem dW_law_12 : zd code 12 (.invokespecial 12) 3 15 := ⟨by decide +kernel, rfl⟩
theorem dW_law_15 : zd code 15 (.astore_n 2) 1 16 := ⟨by decide +kernel, rfl⟩
theorem dW_law_16 : zd code 16 (.iconst 0) 1 17 := ⟨by decide +kernel, rfl⟩
theorem dW_law_17 : zd code 17 (.istore_n 3) 1 18 := ⟨by decide +kernel, rfl⟩

theorem zrv_1006 {g : ZG} : zrv g 1006 = .ref (g.2.2.2 6) := by
  rw [zrv, if_neg (by decide), if_pos (by decide)]
theorem zNest_tab (w : Cond) (h : zNest w = true) : w.onTables = true := by
  cases w <;> first | rfl | (exact absurd h (by decide)) | simp [zNest] at h
set_option maxHeartbeats 8000000 in
set_option maxRecDepth 4000 in
/-- what the tables and the Statement say of the start, as the walk wants it -/
theorem zstart_K {s : State} {b : Nat} (hts : ∀ w ∈ lw_tbl, w.before #[Value.ref b] s = true) (hgv : (Jvm.Cond.and given_1 narrow_1).before #[Value.ref b] s = true) (hb : b < s.heap.size) : ∃ g : ZG, g.1 + 1 = s.heap.size ∧ g.2.2.2 4 = b ∧ zK g s := by
  have hs := flat_of_before _ hgv
  have hA : ∀ B : Nat, B + 1 = s.heap.size → ∀ a : Nat, a < s.heap.size → ¬ (fun q : Nat => B < q) a := fun B hB a h1 h2 => by
    have h3 : B < a := h2
    omega
  obtain ⟨B, hB⟩ : ∃ B, B + 1 = s.heap.size := ⟨s.heap.size - 1, by omega⟩
  have hA := hA B hB
  obtain ⟨cc0, iS0, hKn0⟩ := u_known (C := R0) (T := T0) (N := 5) (n := 5) hts (fun w h => (List.mem_filter.mp (hu0 w h)).1) (hts (.instantiable R0 5) (List.mem_append_right _ (List.mem_of_getElem? (i := 41) (by decide +kernel))))
  obtain ⟨cc1, iS1, hKn1⟩ := u_known (C := R1) (T := T1) (N := 5) (n := 5) hts (fun w h => (List.mem_filter.mp (hu1 w h)).1) (hts (.instantiable R1 5) (List.mem_append_right _ (List.mem_of_getElem? (i := 163) (by decide +kernel))))
  obtain ⟨cc2, iS2, hKn2⟩ := u_known (C := R2) (T := T2) (N := 3) (n := 3) hts (fun w h => (List.mem_filter.mp (hu2 w h)).1) (hts (.instantiable R2 3) (List.mem_append_right _ (List.mem_of_getElem? (i := 75) (by decide +kernel))))
  obtain ⟨cc3, iS3, hKn3⟩ := u_known (C := R3) (T := T3) (N := 5) (n := 5) hts (fun w h => (List.mem_filter.mp (hu3 w h)).1) (hts (.instantiable R3 5) (List.mem_append_right _ (List.mem_of_getElem? (i := 190) (by decide +kernel))))
  obtain ⟨cc4, iS4, hKn4⟩ := u_known (C := R4) (T := T4) (N := 3) (n := 3) hts (fun w h => (List.mem_filter.mp (hu4 w h)).1) (hts (.instantiable R4 3) (List.mem_append_right _ (List.mem_of_getElem? (i := 243) (by decide +kernel))))
  obtain ⟨cc5, iS5, hKn5⟩ := u_known (C := R5) (T := T5) (N := 12) (n := 12) hts (fun w h => (List.mem_filter.mp (hu5 w h)).1) (hts (.instantiable R5 12) (List.mem_append_right _ (List.mem_of_getElem? (i := 27) (by decide +kernel))))
  obtain ⟨cc6, iS6, hKn6⟩ := u_known (C := R6) (T := T6) (N := 4) (n := 4) hts (fun w h => (List.mem_filter.mp (hu6 w h)).1) (hts (.instantiable R6 4) (List.mem_append_right _ (List.mem_of_getElem? (i := 96) (by decide +kernel))))
  obtain ⟨cc7, iS7, hKn7⟩ := u_known (C := R7) (T := T7) (N := 6) (n := 6) hts (fun w h => (List.mem_filter.mp (hu7 w h)).1) (hts (.instantiable R7 6) (List.mem_append_right _ (List.mem_of_getElem? (i := 215) (by decide +kernel))))
  obtain ⟨cc8, iS8, hKn8⟩ := u_known (C := R8) (T := T8) (N := 11) (n := 11) hts (fun w h => (List.mem_filter.mp (hu8 w h)).1) (hts (.instantiable R8 11) (List.mem_append_right _ (List.mem_of_getElem? (i := 19) (by decide +kernel))))
  obtain ⟨cc9, iS9, hKn9⟩ := u_known (C := R9) (T := T9) (N := 27) (n := 27) hts (fun w h => (List.mem_filter.mp (hu9 w h)).1) (hts (.instantiable R9 27) (List.mem_append_right _ (List.mem_of_getElem? (i := 812) (by decide +kernel))))
  obtain ⟨cI, kI, compI, i1, i2, i3⟩ := Cond.arrayClass_spec (hts (.arrayClass .int) (List.mem_append_right _ (List.mem_of_getElem? (i := 74) (by decide +kernel))))
  obtain ⟨co11, cy11, ky11, a11_1, a11_2, a11_3, a11_4, a11_5⟩ := Cond.arrayOver_spec (hts (.arrayOver (.object "GlassTax$Glass")) (List.mem_append_right _ (List.mem_of_getElem? (i := 33) (by decide +kernel))))
  obtain ⟨co12, cy12, ky12, a12_1, a12_2, a12_3, a12_4, a12_5⟩ := Cond.arrayOver_spec (hts (.arrayOver (.object "GlassTax$Person")) (List.mem_append_right _ (List.mem_of_getElem? (i := 35) (by decide +kernel))))
  obtain ⟨co13, cy13, ky13, a13_1, a13_2, a13_3, a13_4, a13_5⟩ := Cond.arrayOver_spec (hts (.arrayOver (.object "GlassTax$Text")) (List.mem_append_right _ (List.mem_of_getElem? (i := 37) (by decide +kernel))))
  obtain ⟨co14, cy14, ky14, a14_1, a14_2, a14_3, a14_4, a14_5⟩ := Cond.arrayOver_spec (hts (.arrayOver (.object "GlassTax$Sheet")) (List.mem_append_right _ (List.mem_of_getElem? (i := 242) (by decide +kernel))))
  have e0 : ∀ j, j < 7 → (Term.elem (.static "GlassTax" "KIND_ABOVE" "[I") (.int (Int32.ofNat j))).eval #[Value.ref b] s none [] s = some (.int (zKA.getD j 0)) := fun j hj => va_eqt (hs _ ((by decide +kernel : ∀ j, j < 7 → Cond.eq (.elem (.static "GlassTax" "KIND_ABOVE" "[I") (.int (Int32.ofNat j))) (.int (zKA.getD j 0)) ∈ flatC (Jvm.Cond.and given_1 narrow_1)) j hj))
  obtain ⟨t0, ht0, hT0⟩ := va_Tof (tm := .static "GlassTax" "KIND_ABOVE" "[I") (ty := .int) (N := 7) (f := fun j => .int (zKA.getD j 0)) (A := fun q => B < q) (by decide) (hs _ (by decide +kernel)) (va_eqt (z := 7) (hs _ (by decide +kernel))) e0 hA
  have e1 : ∀ j, j < 28 → (Term.elem (.static "GlassTax$Voices" "BODIES" "[I") (.int (Int32.ofNat j))).eval #[Value.ref b] s none [] s = some (.int (zBO.getD j 0)) := fun j hj => va_eqt (hs _ ((by decide +kernel : ∀ j, j < 28 → Cond.eq (.elem (.static "GlassTax$Voices" "BODIES" "[I") (.int (Int32.ofNat j))) (.int (zBO.getD j 0)) ∈ flatC (Jvm.Cond.and given_1 narrow_1)) j hj))
  obtain ⟨t1, ht1, hT1⟩ := va_Tof (tm := .static "GlassTax$Voices" "BODIES" "[I") (ty := .int) (N := 28) (f := fun j => .int (zBO.getD j 0)) (A := fun q => B < q) (by decide) (hs _ (by decide +kernel)) (va_eqt (z := 28) (hs _ (by decide +kernel))) e1 hA
  have z0 := va_Zof (A := fun q => B < q) (hts (.laysStatic "GlassTax" "KIND_ABOVE" "[I") (List.mem_append_right _ (List.mem_of_getElem? (i := 370) (by decide +kernel)))) (hts (.initialized "GlassTax") (List.mem_append_right _ (List.mem_of_getElem? (i := 1) (by decide +kernel)))) ht0 hA
  have z1 := va_Zof (A := fun q => B < q) (hts (.laysStatic "GlassTax$Voices" "BODIES" "[I") (List.mem_append_right _ (List.mem_of_getElem? (i := 716) (by decide +kernel)))) (hts (.initialized "GlassTax$Voices") (List.mem_append_right _ (List.mem_of_getElem? (i := 9) (by decide +kernel)))) ht1 hA
  have z2 := va_Zof (A := fun q => B < q) (hts (.laysStatic "java/lang/String" "COMPACT_STRINGS" "Z") (List.mem_append_right _ (List.mem_of_getElem? (i := 517) (by decide +kernel)))) (hts (.initialized "java/lang/String") (List.mem_append_right _ (List.mem_of_getElem? (i := 13) (by decide +kernel)))) (va_eqi (z := 1) (hs _ (by decide +kernel))) hA
  have z3 := va_Zqof (A := fun q => B < q) (hts (.laysStatic "jdk/internal/util/Preconditions" "SIOOBE_FORMATTER" "Ljava/util/function/BiFunction;") (List.mem_append_right _ (List.mem_of_getElem? (i := 533) (by decide +kernel)))) (hts (.initialized "jdk/internal/util/Preconditions") (List.mem_append_right _ (List.mem_of_getElem? (i := 15) (by decide +kernel)))) (hs _ (by decide +kernel)) hA
  obtain ⟨adK, adV, hV, hEv⟩ := vk_Sof (args := #[Value.ref b]) (s := s) (N := 1) (tm := fun _ => .string "GlassTax$Reader" 69) (len := [6]) (byt := zBy) (A := fun q => B < q) (by decide) (fun i hi => hs _ (by decide +kernel)) (fun i hi => hs _ (by decide +kernel)) (fun i hi => hs _ (by decide +kernel)) (fun i hi => by
      have : i = 0 := by omega
      subst this
      exact hs _ (by decide +kernel)) (fun i hi j hj => by
      have : i = 0 := by omega
      subst this
      exact hs _ ((by decide +kernel : ∀ j, j < 6 → Cond.eq (.elem (.field (.string "GlassTax$Reader" 69) "java/lang/String" "value" "[B") (.int (Int32.ofNat j))) (.int ((zBy.getD 0 []).getD j 0)) ∈ flatC (Jvm.Cond.and given_1 narrow_1)) j hj)) (fun i j hi hj hne => absurd (by omega) hne) hA
  have hR := vk_R.of (hts (.stringRef "GlassTax$Reader" 69 "nkmthp") (List.mem_append_right _ (List.mem_of_getElem? (i := 507) (by decide +kernel)))) (hEv 0 (by decide))
  have hV1 : vk_S 1 [6] zBy (fun _ => adK 0) (fun _ => adV 0) (fun q => B < q) s s.heap := ⟨fun i hi => by
      have : i = 0 := by omega
      subst this
      exact hV.1 0 hi, fun i j hi hj _ => by omega⟩
  obtain ⟨f5, f6, h56⟩ : ∃ f5 f6 : Nat, (f5 = 0 ∨ f5 = 1006) ∧ va_Z "jdk/internal/util/Preconditions" "SIOOBE_FORMATTER" "Ljava/util/function/BiFunction;" (if f5 = 0 then .null else .ref f6) (fun q => B < q) s s.heap := by
    rcases z3 with h | ⟨t, h⟩
    · exact ⟨0, 0, Or.inl rfl, h⟩
    · exact ⟨1006, t, Or.inr rfl, h⟩
  have hc : ∀ (k : Nat) (q : vw_C), zcl[k]? = some q → u_Kn s q.1 q.2.1 q.2.2 (if k = 0 then cc0 else if k = 1 then cc1 else if k = 2 then cc2 else if k = 3 then cc3 else if k = 4 then cc4 else if k = 5 then cc5 else if k = 6 then cc6 else if k = 7 then cc7 else if k = 8 then cc8 else cc9) (if k = 0 then iS0 else if k = 1 then iS1 else if k = 2 then iS2 else if k = 3 then iS3 else if k = 4 then iS4 else if k = 5 then iS5 else if k = 6 then iS6 else if k = 7 then iS7 else if k = 8 then iS8 else iS9) := by
    intro k q hq
    match k, hq with
    | 0, hq => cases hq; exact hKn0
    | 1, hq => cases hq; exact hKn1
    | 2, hq => cases hq; exact hKn2
    | 3, hq => cases hq; exact hKn3
    | 4, hq => cases hq; exact hKn4
    | 5, hq => cases hq; exact hKn5
    | 6, hq => cases hq; exact hKn6
    | 7, hq => cases hq; exact hKn7
    | 8, hq => cases hq; exact hKn8
    | 9, hq => cases hq; exact hKn9
    | k + 10, hq => simp [zcl] at hq
  refine ⟨(B, (fun k => if k = 0 then cc0 else if k = 1 then cc1 else if k = 2 then cc2 else if k = 3 then cc3 else if k = 4 then cc4 else if k = 5 then cc5 else if k = 6 then cc6 else if k = 7 then cc7 else if k = 8 then cc8 else cc9, fun k => if k = 0 then iS0 else if k = 1 then iS1 else if k = 2 then iS2 else if k = 3 then iS3 else if k = 4 then iS4 else if k = 5 then iS5 else if k = 6 then iS6 else if k = 7 then iS7 else if k = 8 then iS8 else iS9), fun k => if k = 0 then cI else if k = 1 then cy11 else if k = 2 then cy12 else if k = 3 then cy13 else cy14, fun k => if k = 0 then t0 else if k = 1 then t1 else if k = 2 then adK 0 else if k = 3 then adV 0 else if k = 4 then b else if k = 5 then f5 else f6), hB, rfl, ⟨hc, fun k q hq => ?_⟩, ⟨⟨z0, hT0⟩, ⟨z1, hT1⟩, ⟨hV1, z2, ?_⟩⟩, fun w hw hn => ?_, hR, fun κ h1 h2 => ?_⟩
  · match k, hq with
    | 0, hq => cases hq; exact ⟨fun n z => ⟨fun k h => (by cases h), kI, i2, compI, i3⟩, i1⟩
    | 1, hq => cases hq; exact ⟨fun n z => ⟨fun k h => (by cases h), ky11, a11_3, co11, a11_4⟩, ky11, co11, a11_3, a11_4, a11_1, a11_5⟩
    | 2, hq => cases hq; exact ⟨fun n z => ⟨fun k h => (by cases h), ky12, a12_3, co12, a12_4⟩, ky12, co12, a12_3, a12_4, a12_1, a12_5⟩
    | 3, hq => cases hq; exact ⟨fun n z => ⟨fun k h => (by cases h), ky13, a13_3, co13, a13_4⟩, ky13, co13, a13_3, a13_4, a13_1, a13_5⟩
    | 4, hq => cases hq; exact ⟨fun n z => ⟨fun k h => (by cases h), ky14, a14_3, co14, a14_4⟩, ky14, co14, a14_3, a14_4, a14_1, a14_5⟩
    | k + 5, hq => simp [ztys] at hq
  · obtain ⟨h5, h6⟩ := h56
    rcases h5 with rfl | rfl
    · exact h6
    · refine (show va_Z _ _ _ (zrv _ 1006) _ _ _ from ?_)
      rw [zrv_1006]
      exact h6
  · exact va_Nw.of (zNest_tab w hn) (hts w hw)
  · match κ, h1, h2 with
    | 11, _, _ => exact va_AO.of (hts (.arrayOver (.object "GlassTax$Glass")) (List.mem_append_right _ (List.mem_of_getElem? (i := 33) (by decide +kernel))))
    | 12, _, _ => exact va_AO.of (hts (.arrayOver (.object "GlassTax$Person")) (List.mem_append_right _ (List.mem_of_getElem? (i := 35) (by decide +kernel))))
    | 13, _, _ => exact va_AO.of (hts (.arrayOver (.object "GlassTax$Text")) (List.mem_append_right _ (List.mem_of_getElem? (i := 37) (by decide +kernel))))
    | 14, _, _ => exact va_AO.of (hts (.arrayOver (.object "GlassTax$Sheet")) (List.mem_append_right _ (List.mem_of_getElem? (i := 242) (by decide +kernel))))


def zs0 : ZS := fun o => if o = 6 ∨ o = 33 ∨ o = 60 then (fun j => if j < 64 then (-1 : Int32) else 0) else if o = 104 then upd (fun _ => 0) 1 1 else if o = 2 ∨ o = 29 ∨ o = 56 then (fun j => if j = 11 then 1 else 0) else fun _ => 0
def yFW (g : ZG) : Nat → va_E := yj (yu (yj (yu (fun _ => .inr (0, [])) 0 (.inr (8, [.null, .null, .null, .null, .null, .null, .null, .null, .null, .int 0, .int 0]))) 0 (yF8 g (1 + 0))) 102 (.inr (9, [.null, .null, .null, .int 0, .null, .null, .null, .null, .null, .int 0, .int 0, .null, .int 0, .int 0, .null, .null, .null, .null, .int 0, .int 0, .int 0, .int 0, .int 0, .null, .null, .int 0, .int 0]))) 102 (yF9 g (1 + 102))
theorem yqr {D : va_G} {cA : ClassId} {N : Nat} {f f' : Nat → Option Nat} (h : ∀ i, i < N → f i = f' i) (a : Nat) (H : Heap) (hh : va_at D zcl (a, .inl (cA, N, .inr (.inr (.inr (.inr f))))) H) : va_at D zcl (a, .inl (cA, N, .inr (.inr (.inr (.inr f'))))) H := by
  have e : vp_cell cA (N, .inr (.inr (.inr (.inr f)))) = vp_cell cA (N, .inr (.inr (.inr (.inr f')))) := by
    rw [vp_cell_q, vp_cell_q]
    unfold arrV
    congr 1
    congr 1
    funext j
    exact congrArg va_rf (h j.1 j.2)
  exact (show H[a]? = _ from hh).trans (congrArg some e)
theorem yq_0 (g : ZG) (a : Nat) (H : Heap) (h : va_at g.2.1 zcl (a, yFW g 0) H) : va_at g.2.1 zcl (a, zen g zs0 1) H := h
theorem yq_1 (g : ZG) (a : Nat) (H : Heap) (h : va_at g.2.1 zcl (a, yFW g 1) H) : va_at g.2.1 zcl (a, zen g zs0 2) H := h
theorem yq_2 (g : ZG) (a : Nat) (H : Heap) (h : va_at g.2.1 zcl (a, yFW g 2) H) : va_at g.2.1 zcl (a, zen g zs0 3) H := yqr (fun i hi => by
  match i, hi with
  | 0, _ => rfl
  | 1, _ => rfl
  | 2, _ => rfl
  | 3, _ => rfl
  | 4, _ => rfl
  | 5, _ => rfl
  | 6, _ => rfl
  | 7, _ => rfl
  | i + 8, h => exact absurd (show i + 8 < 8 from h) (by omega)) a H h
theorem yq_3 (g : ZG) (a : Nat) (H : Heap) (h : va_at g.2.1 zcl (a, yFW g 3) H) : va_at g.2.1 zcl (a, zen g zs0 4) H := yqr (fun i hi => by
  match i, hi with
  | 0, _ => rfl
  | 1, _ => rfl
  | 2, _ => rfl
  | 3, _ => rfl
  | 4, _ => rfl
  | 5, _ => rfl
  | i + 6, h => exact absurd (show i + 6 < 6 from h) (by omega)) a H h
theorem yq_4 (g : ZG) (a : Nat) (H : Heap) (h : va_at g.2.1 zcl (a, yFW g 4) H) : va_at g.2.1 zcl (a, zen g zs0 5) H := yqr (fun i hi => by
  match i, hi with
  | 0, _ => rfl
  | 1, _ => rfl
  | i + 2, h => exact absurd (show i + 2 < 2 from h) (by omega)) a H h
theorem yq_5 (g : ZG) (a : Nat) (H : Heap) (h : va_at g.2.1 zcl (a, yFW g 5) H) : va_at g.2.1 zcl (a, zen g zs0 6) H := h
theorem yq_6 (g : ZG) (a : Nat) (H : Heap) (h : va_at g.2.1 zcl (a, yFW g 6) H) : va_at g.2.1 zcl (a, zen g zs0 7) H := h
theorem yq_7 (g : ZG) (a : Nat) (H : Heap) (h : va_at g.2.1 zcl (a, yFW g 7) H) : va_at g.2.1 zcl (a, zen g zs0 8) H := h
theorem yq_8 (g : ZG) (a : Nat) (H : Heap) (h : va_at g.2.1 zcl (a, yFW g 8) H) : va_at g.2.1 zcl (a, zen g zs0 9) H := h
theorem yq_9 (g : ZG) (a : Nat) (H : Heap) (h : va_at g.2.1 zcl (a, yFW g 9) H) : va_at g.2.1 zcl (a, zen g zs0 10) H := h
theorem yq_10 (g : ZG) (a : Nat) (H : Heap) (h : va_at g.2.1 zcl (a, yFW g 10) H) : va_at g.2.1 zcl (a, zen g zs0 11) H := h
theorem yq_11 (g : ZG) (a : Nat) (H : Heap) (h : va_at g.2.1 zcl (a, yFW g 11) H) : va_at g.2.1 zcl (a, zen g zs0 12) H := h
theorem yq_12 (g : ZG) (a : Nat) (H : Heap) (h : va_at g.2.1 zcl (a, yFW g 12) H) : va_at g.2.1 zcl (a, zen g zs0 13) H := h
theorem yq_13 (g : ZG) (a : Nat) (H : Heap) (h : va_at g.2.1 zcl (a, yFW g 13) H) : va_at g.2.1 zcl (a, zen g zs0 14) H := h
theorem yq_14 (g : ZG) (a : Nat) (H : Heap) (h : va_at g.2.1 zcl (a, yFW g 14) H) : va_at g.2.1 zcl (a, zen g zs0 15) H := h
theorem yq_15 (g : ZG) (a : Nat) (H : Heap) (h : va_at g.2.1 zcl (a, yFW g 15) H) : va_at g.2.1 zcl (a, zen g zs0 16) H := h
theorem yq_16 (g : ZG) (a : Nat) (H : Heap) (h : va_at g.2.1 zcl (a, yFW g 16) H) : va_at g.2.1 zcl (a, zen g zs0 17) H := h
theorem yq_17 (g : ZG) (a : Nat) (H : Heap) (h : va_at g.2.1 zcl (a, yFW g 17) H) : va_at g.2.1 zcl (a, zen g zs0 18) H := h
theorem yq_18 (g : ZG) (a : Nat) (H : Heap) (h : va_at g.2.1 zcl (a, yFW g 18) H) : va_at g.2.1 zcl (a, zen g zs0 19) H := h
theorem yq_19 (g : ZG) (a : Nat) (H : Heap) (h : va_at g.2.1 zcl (a, yFW g 19) H) : va_at g.2.1 zcl (a, zen g zs0 20) H := h
theorem yq_20 (g : ZG) (a : Nat) (H : Heap) (h : va_at g.2.1 zcl (a, yFW g 20) H) : va_at g.2.1 zcl (a, zen g zs0 21) H := h
theorem yq_21 (g : ZG) (a : Nat) (H : Heap) (h : va_at g.2.1 zcl (a, yFW g 21) H) : va_at g.2.1 zcl (a, zen g zs0 22) H := h
theorem yq_22 (g : ZG) (a : Nat) (H : Heap) (h : va_at g.2.1 zcl (a, yFW g 22) H) : va_at g.2.1 zcl (a, zen g zs0 23) H := h
theorem yq_23 (g : ZG) (a : Nat) (H : Heap) (h : va_at g.2.1 zcl (a, yFW g 23) H) : va_at g.2.1 zcl (a, zen g zs0 24) H := h
theorem yq_24 (g : ZG) (a : Nat) (H : Heap) (h : va_at g.2.1 zcl (a, yFW g 24) H) : va_at g.2.1 zcl (a, zen g zs0 25) H := h
theorem yq_25 (g : ZG) (a : Nat) (H : Heap) (h : va_at g.2.1 zcl (a, yFW g 25) H) : va_at g.2.1 zcl (a, zen g zs0 26) H := h
theorem yq_26 (g : ZG) (a : Nat) (H : Heap) (h : va_at g.2.1 zcl (a, yFW g 26) H) : va_at g.2.1 zcl (a, zen g zs0 27) H := h
theorem yq_27 (g : ZG) (a : Nat) (H : Heap) (h : va_at g.2.1 zcl (a, yFW g 27) H) : va_at g.2.1 zcl (a, zen g zs0 28) H := h
theorem yq_28 (g : ZG) (a : Nat) (H : Heap) (h : va_at g.2.1 zcl (a, yFW g 28) H) : va_at g.2.1 zcl (a, zen g zs0 29) H := h
theorem yq_29 (g : ZG) (a : Nat) (H : Heap) (h : va_at g.2.1 zcl (a, yFW g 29) H) : va_at g.2.1 zcl (a, zen g zs0 30) H := yqr (fun i hi => by
  match i, hi with
  | 0, _ => rfl
  | 1, _ => rfl
  | 2, _ => rfl
  | 3, _ => rfl
  | 4, _ => rfl
  | 5, _ => rfl
  | 6, _ => rfl
  | 7, _ => rfl
  | i + 8, h => exact absurd (show i + 8 < 8 from h) (by omega)) a H h
theorem yq_30 (g : ZG) (a : Nat) (H : Heap) (h : va_at g.2.1 zcl (a, yFW g 30) H) : va_at g.2.1 zcl (a, zen g zs0 31) H := yqr (fun i hi => by
  match i, hi with
  | 0, _ => rfl
  | 1, _ => rfl
  | 2, _ => rfl
  | 3, _ => rfl
  | 4, _ => rfl
  | 5, _ => rfl
  | i + 6, h => exact absurd (show i + 6 < 6 from h) (by omega)) a H h
theorem yq_31 (g : ZG) (a : Nat) (H : Heap) (h : va_at g.2.1 zcl (a, yFW g 31) H) : va_at g.2.1 zcl (a, zen g zs0 32) H := yqr (fun i hi => by
  match i, hi with
  | 0, _ => rfl
  | 1, _ => rfl
  | i + 2, h => exact absurd (show i + 2 < 2 from h) (by omega)) a H h
theorem yq_32 (g : ZG) (a : Nat) (H : Heap) (h : va_at g.2.1 zcl (a, yFW g 32) H) : va_at g.2.1 zcl (a, zen g zs0 33) H := h
theorem yq_33 (g : ZG) (a : Nat) (H : Heap) (h : va_at g.2.1 zcl (a, yFW g 33) H) : va_at g.2.1 zcl (a, zen g zs0 34) H := h
theorem yq_34 (g : ZG) (a : Nat) (H : Heap) (h : va_at g.2.1 zcl (a, yFW g 34) H) : va_at g.2.1 zcl (a, zen g zs0 35) H := h
theorem yq_35 (g : ZG) (a : Nat) (H : Heap) (h : va_at g.2.1 zcl (a, yFW g 35) H) : va_at g.2.1 zcl (a, zen g zs0 36) H := h
theorem yq_36 (g : ZG) (a : Nat) (H : Heap) (h : va_at g.2.1 zcl (a, yFW g 36) H) : va_at g.2.1 zcl (a, zen g zs0 37) H := h
theorem yq_37 (g : ZG) (a : Nat) (H : Heap) (h : va_at g.2.1 zcl (a, yFW g 37) H) : va_at g.2.1 zcl (a, zen g zs0 38) H := h
theorem yq_38 (g : ZG) (a : Nat) (H : Heap) (h : va_at g.2.1 zcl (a, yFW g 38) H) : va_at g.2.1 zcl (a, zen g zs0 39) H := h
theorem yq_39 (g : ZG) (a : Nat) (H : Heap) (h : va_at g.2.1 zcl (a, yFW g 39) H) : va_at g.2.1 zcl (a, zen g zs0 40) H := h
theorem yq_40 (g : ZG) (a : Nat) (H : Heap) (h : va_at g.2.1 zcl (a, yFW g 40) H) : va_at g.2.1 zcl (a, zen g zs0 41) H := h
theorem yq_41 (g : ZG) (a : Nat) (H : Heap) (h : va_at g.2.1 zcl (a, yFW g 41) H) : va_at g.2.1 zcl (a, zen g zs0 42) H := h
theorem yq_42 (g : ZG) (a : Nat) (H : Heap) (h : va_at g.2.1 zcl (a, yFW g 42) H) : va_at g.2.1 zcl (a, zen g zs0 43) H := h
theorem yq_43 (g : ZG) (a : Nat) (H : Heap) (h : va_at g.2.1 zcl (a, yFW g 43) H) : va_at g.2.1 zcl (a, zen g zs0 44) H := h
theorem yq_44 (g : ZG) (a : Nat) (H : Heap) (h : va_at g.2.1 zcl (a, yFW g 44) H) : va_at g.2.1 zcl (a, zen g zs0 45) H := h
theorem yq_45 (g : ZG) (a : Nat) (H : Heap) (h : va_at g.2.1 zcl (a, yFW g 45) H) : va_at g.2.1 zcl (a, zen g zs0 46) H := h
theorem yq_46 (g : ZG) (a : Nat) (H : Heap) (h : va_at g.2.1 zcl (a, yFW g 46) H) : va_at g.2.1 zcl (a, zen g zs0 47) H := h
theorem yq_47 (g : ZG) (a : Nat) (H : Heap) (h : va_at g.2.1 zcl (a, yFW g 47) H) : va_at g.2.1 zcl (a, zen g zs0 48) H := h
theorem yq_48 (g : ZG) (a : Nat) (H : Heap) (h : va_at g.2.1 zcl (a, yFW g 48) H) : va_at g.2.1 zcl (a, zen g zs0 49) H := h
theorem yq_49 (g : ZG) (a : Nat) (H : Heap) (h : va_at g.2.1 zcl (a, yFW g 49) H) : va_at g.2.1 zcl (a, zen g zs0 50) H := h
theorem yq_50 (g : ZG) (a : Nat) (H : Heap) (h : va_at g.2.1 zcl (a, yFW g 50) H) : va_at g.2.1 zcl (a, zen g zs0 51) H := h
theorem yq_51 (g : ZG) (a : Nat) (H : Heap) (h : va_at g.2.1 zcl (a, yFW g 51) H) : va_at g.2.1 zcl (a, zen g zs0 52) H := h
theorem yq_52 (g : ZG) (a : Nat) (H : Heap) (h : va_at g.2.1 zcl (a, yFW g 52) H) : va_at g.2.1 zcl (a, zen g zs0 53) H := h
theorem yq_53 (g : ZG) (a : Nat) (H : Heap) (h : va_at g.2.1 zcl (a, yFW g 53) H) : va_at g.2.1 zcl (a, zen g zs0 54) H := h
theorem yq_54 (g : ZG) (a : Nat) (H : Heap) (h : va_at g.2.1 zcl (a, yFW g 54) H) : va_at g.2.1 zcl (a, zen g zs0 55) H := h
theorem yq_55 (g : ZG) (a : Nat) (H : Heap) (h : va_at g.2.1 zcl (a, yFW g 55) H) : va_at g.2.1 zcl (a, zen g zs0 56) H := h
theorem yq_56 (g : ZG) (a : Nat) (H : Heap) (h : va_at g.2.1 zcl (a, yFW g 56) H) : va_at g.2.1 zcl (a, zen g zs0 57) H := yqr (fun i hi => by
  match i, hi with
  | 0, _ => rfl
  | 1, _ => rfl
  | 2, _ => rfl
  | 3, _ => rfl
  | 4, _ => rfl
  | 5, _ => rfl
  | 6, _ => rfl
  | 7, _ => rfl
  | i + 8, h => exact absurd (show i + 8 < 8 from h) (by omega)) a H h
theorem yq_57 (g : ZG) (a : Nat) (H : Heap) (h : va_at g.2.1 zcl (a, yFW g 57) H) : va_at g.2.1 zcl (a, zen g zs0 58) H := yqr (fun i hi => by
  match i, hi with
  | 0, _ => rfl
  | 1, _ => rfl
  | 2, _ => rfl
  | 3, _ => rfl
  | 4, _ => rfl
  | 5, _ => rfl
  | i + 6, h => exact absurd (show i + 6 < 6 from h) (by omega)) a H h
theorem yq_58 (g : ZG) (a : Nat) (H : Heap) (h : va_at g.2.1 zcl (a, yFW g 58) H) : va_at g.2.1 zcl (a, zen g zs0 59) H := yqr (fun i hi => by
  match i, hi with
  | 0, _ => rfl
  | 1, _ => rfl
  | i + 2, h => exact absurd (show i + 2 < 2 from h) (by omega)) a H h
theorem yq_59 (g : ZG) (a : Nat) (H : Heap) (h : va_at g.2.1 zcl (a, yFW g 59) H) : va_at g.2.1 zcl (a, zen g zs0 60) H := h
theorem yq_60 (g : ZG) (a : Nat) (H : Heap) (h : va_at g.2.1 zcl (a, yFW g 60) H) : va_at g.2.1 zcl (a, zen g zs0 61) H := h
theorem yq_61 (g : ZG) (a : Nat) (H : Heap) (h : va_at g.2.1 zcl (a, yFW g 61) H) : va_at g.2.1 zcl (a, zen g zs0 62) H := h
theorem yq_62 (g : ZG) (a : Nat) (H : Heap) (h : va_at g.2.1 zcl (a, yFW g 62) H) : va_at g.2.1 zcl (a, zen g zs0 63) H := h
theorem yq_63 (g : ZG) (a : Nat) (H : Heap) (h : va_at g.2.1 zcl (a, yFW g 63) H) : va_at g.2.1 zcl (a, zen g zs0 64) H := h
theorem yq_64 (g : ZG) (a : Nat) (H : Heap) (h : va_at g.2.1 zcl (a, yFW g 64) H) : va_at g.2.1 zcl (a, zen g zs0 65) H := h
theorem yq_65 (g : ZG) (a : Nat) (H : Heap) (h : va_at g.2.1 zcl (a, yFW g 65) H) : va_at g.2.1 zcl (a, zen g zs0 66) H := h
theorem yq_66 (g : ZG) (a : Nat) (H : Heap) (h : va_at g.2.1 zcl (a, yFW g 66) H) : va_at g.2.1 zcl (a, zen g zs0 67) H := h
theorem yq_67 (g : ZG) (a : Nat) (H : Heap) (h : va_at g.2.1 zcl (a, yFW g 67) H) : va_at g.2.1 zcl (a, zen g zs0 68) H := h
theorem yq_68 (g : ZG) (a : Nat) (H : Heap) (h : va_at g.2.1 zcl (a, yFW g 68) H) : va_at g.2.1 zcl (a, zen g zs0 69) H := h
theorem yq_69 (g : ZG) (a : Nat) (H : Heap) (h : va_at g.2.1 zcl (a, yFW g 69) H) : va_at g.2.1 zcl (a, zen g zs0 70) H := h
theorem yq_70 (g : ZG) (a : Nat) (H : Heap) (h : va_at g.2.1 zcl (a, yFW g 70) H) : va_at g.2.1 zcl (a, zen g zs0 71) H := h
theorem yq_71 (g : ZG) (a : Nat) (H : Heap) (h : va_at g.2.1 zcl (a, yFW g 71) H) : va_at g.2.1 zcl (a, zen g zs0 72) H := h
theorem yq_72 (g : ZG) (a : Nat) (H : Heap) (h : va_at g.2.1 zcl (a, yFW g 72) H) : va_at g.2.1 zcl (a, zen g zs0 73) H := h
theorem yq_73 (g : ZG) (a : Nat) (H : Heap) (h : va_at g.2.1 zcl (a, yFW g 73) H) : va_at g.2.1 zcl (a, zen g zs0 74) H := h
theorem yq_74 (g : ZG) (a : Nat) (H : Heap) (h : va_at g.2.1 zcl (a, yFW g 74) H) : va_at g.2.1 zcl (a, zen g zs0 75) H := h
theorem yq_75 (g : ZG) (a : Nat) (H : Heap) (h : va_at g.2.1 zcl (a, yFW g 75) H) : va_at g.2.1 zcl (a, zen g zs0 76) H := h
theorem yq_76 (g : ZG) (a : Nat) (H : Heap) (h : va_at g.2.1 zcl (a, yFW g 76) H) : va_at g.2.1 zcl (a, zen g zs0 77) H := h
theorem yq_77 (g : ZG) (a : Nat) (H : Heap) (h : va_at g.2.1 zcl (a, yFW g 77) H) : va_at g.2.1 zcl (a, zen g zs0 78) H := h
theorem yq_78 (g : ZG) (a : Nat) (H : Heap) (h : va_at g.2.1 zcl (a, yFW g 78) H) : va_at g.2.1 zcl (a, zen g zs0 79) H := h
theorem yq_79 (g : ZG) (a : Nat) (H : Heap) (h : va_at g.2.1 zcl (a, yFW g 79) H) : va_at g.2.1 zcl (a, zen g zs0 80) H := h
theorem yq_80 (g : ZG) (a : Nat) (H : Heap) (h : va_at g.2.1 zcl (a, yFW g 80) H) : va_at g.2.1 zcl (a, zen g zs0 81) H := h
theorem yq_81 (g : ZG) (a : Nat) (H : Heap) (h : va_at g.2.1 zcl (a, yFW g 81) H) : va_at g.2.1 zcl (a, zen g zs0 82) H := h
theorem yq_82 (g : ZG) (a : Nat) (H : Heap) (h : va_at g.2.1 zcl (a, yFW g 82) H) : va_at g.2.1 zcl (a, zen g zs0 83) H := h
theorem yq_83 (g : ZG) (a : Nat) (H : Heap) (h : va_at g.2.1 zcl (a, yFW g 83) H) : va_at g.2.1 zcl (a, zen g zs0 84) H := h
theorem yq_84 (g : ZG) (a : Nat) (H : Heap) (h : va_at g.2.1 zcl (a, yFW g 84) H) : va_at g.2.1 zcl (a, zen g zs0 85) H := h
theorem yq_85 (g : ZG) (a : Nat) (H : Heap) (h : va_at g.2.1 zcl (a, yFW g 85) H) : va_at g.2.1 zcl (a, zen g zs0 86) H := h
theorem yq_86 (g : ZG) (a : Nat) (H : Heap) (h : va_at g.2.1 zcl (a, yFW g 86) H) : va_at g.2.1 zcl (a, zen g zs0 87) H := h
theorem yq_87 (g : ZG) (a : Nat) (H : Heap) (h : va_at g.2.1 zcl (a, yFW g 87) H) : va_at g.2.1 zcl (a, zen g zs0 88) H := h
theorem yq_88 (g : ZG) (a : Nat) (H : Heap) (h : va_at g.2.1 zcl (a, yFW g 88) H) : va_at g.2.1 zcl (a, zen g zs0 89) H := h
theorem yq_89 (g : ZG) (a : Nat) (H : Heap) (h : va_at g.2.1 zcl (a, yFW g 89) H) : va_at g.2.1 zcl (a, zen g zs0 90) H := h
theorem yq_90 (g : ZG) (a : Nat) (H : Heap) (h : va_at g.2.1 zcl (a, yFW g 90) H) : va_at g.2.1 zcl (a, zen g zs0 91) H := h
theorem yq_91 (g : ZG) (a : Nat) (H : Heap) (h : va_at g.2.1 zcl (a, yFW g 91) H) : va_at g.2.1 zcl (a, zen g zs0 92) H := yqr (fun i hi => by
  match i, hi with
  | 0, _ => rfl
  | 1, _ => rfl
  | 2, _ => rfl
  | 3, _ => rfl
  | i + 4, h => exact absurd (show i + 4 < 4 from h) (by omega)) a H h
theorem yq_92 (g : ZG) (a : Nat) (H : Heap) (h : va_at g.2.1 zcl (a, yFW g 92) H) : va_at g.2.1 zcl (a, zen g zs0 93) H := h
theorem yq_93 (g : ZG) (a : Nat) (H : Heap) (h : va_at g.2.1 zcl (a, yFW g 93) H) : va_at g.2.1 zcl (a, zen g zs0 94) H := h
theorem yq_94 (g : ZG) (a : Nat) (H : Heap) (h : va_at g.2.1 zcl (a, yFW g 94) H) : va_at g.2.1 zcl (a, zen g zs0 95) H := h
theorem yq_95 (g : ZG) (a : Nat) (H : Heap) (h : va_at g.2.1 zcl (a, yFW g 95) H) : va_at g.2.1 zcl (a, zen g zs0 96) H := h
theorem yq_96 (g : ZG) (a : Nat) (H : Heap) (h : va_at g.2.1 zcl (a, yFW g 96) H) : va_at g.2.1 zcl (a, zen g zs0 97) H := h
theorem yq_97 (g : ZG) (a : Nat) (H : Heap) (h : va_at g.2.1 zcl (a, yFW g 97) H) : va_at g.2.1 zcl (a, zen g zs0 98) H := h
theorem yq_98 (g : ZG) (a : Nat) (H : Heap) (h : va_at g.2.1 zcl (a, yFW g 98) H) : va_at g.2.1 zcl (a, zen g zs0 99) H := h
theorem yq_99 (g : ZG) (a : Nat) (H : Heap) (h : va_at g.2.1 zcl (a, yFW g 99) H) : va_at g.2.1 zcl (a, zen g zs0 100) H := h
theorem yq_100 (g : ZG) (a : Nat) (H : Heap) (h : va_at g.2.1 zcl (a, yFW g 100) H) : va_at g.2.1 zcl (a, zen g zs0 101) H := h
theorem yq_101 (g : ZG) (a : Nat) (H : Heap) (h : va_at g.2.1 zcl (a, yFW g 101) H) : va_at g.2.1 zcl (a, zen g zs0 102) H := h
theorem yq_102 (g : ZG) (a : Nat) (H : Heap) (h : va_at g.2.1 zcl (a, yFW g 102) H) : va_at g.2.1 zcl (a, zen g zs0 103) H := h
theorem yq_103 (g : ZG) (a : Nat) (H : Heap) (h : va_at g.2.1 zcl (a, yFW g 103) H) : va_at g.2.1 zcl (a, zen g zs0 104) H := h
theorem yq_104 (g : ZG) (a : Nat) (H : Heap) (h : va_at g.2.1 zcl (a, yFW g 104) H) : va_at g.2.1 zcl (a, zen g zs0 105) H := h
theorem yq_105 (g : ZG) (a : Nat) (H : Heap) (h : va_at g.2.1 zcl (a, yFW g 105) H) : va_at g.2.1 zcl (a, zen g zs0 106) H := h
theorem yq_106 (g : ZG) (a : Nat) (H : Heap) (h : va_at g.2.1 zcl (a, yFW g 106) H) : va_at g.2.1 zcl (a, zen g zs0 107) H := h
theorem yq_107 (g : ZG) (a : Nat) (H : Heap) (h : va_at g.2.1 zcl (a, yFW g 107) H) : va_at g.2.1 zcl (a, zen g zs0 108) H := h
theorem yq_108 (g : ZG) (a : Nat) (H : Heap) (h : va_at g.2.1 zcl (a, yFW g 108) H) : va_at g.2.1 zcl (a, zen g zs0 109) H := h
theorem yq_109 (g : ZG) (a : Nat) (H : Heap) (h : va_at g.2.1 zcl (a, yFW g 109) H) : va_at g.2.1 zcl (a, zen g zs0 110) H := h
theorem yq_110 (g : ZG) (a : Nat) (H : Heap) (h : va_at g.2.1 zcl (a, yFW g 110) H) : va_at g.2.1 zcl (a, zen g zs0 111) H := h
theorem yq_111 (g : ZG) (a : Nat) (H : Heap) (h : va_at g.2.1 zcl (a, yFW g 111) H) : va_at g.2.1 zcl (a, zen g zs0 112) H := h
theorem yq_112 (g : ZG) (a : Nat) (H : Heap) (h : va_at g.2.1 zcl (a, yFW g 112) H) : va_at g.2.1 zcl (a, zen g zs0 113) H := h
theorem yq_113 (g : ZG) (a : Nat) (H : Heap) (h : va_at g.2.1 zcl (a, yFW g 113) H) : va_at g.2.1 zcl (a, zen g zs0 114) H := h
theorem yq_114 (g : ZG) (a : Nat) (H : Heap) (h : va_at g.2.1 zcl (a, yFW g 114) H) : va_at g.2.1 zcl (a, zen g zs0 115) H := h
theorem yq_115 (g : ZG) (a : Nat) (H : Heap) (h : va_at g.2.1 zcl (a, yFW g 115) H) : va_at g.2.1 zcl (a, zen g zs0 116) H := h
theorem yq_116 (g : ZG) (a : Nat) (H : Heap) (h : va_at g.2.1 zcl (a, yFW g 116) H) : va_at g.2.1 zcl (a, zen g zs0 117) H := h
theorem yq_117 (g : ZG) (a : Nat) (H : Heap) (h : va_at g.2.1 zcl (a, yFW g 117) H) : va_at g.2.1 zcl (a, zen g zs0 118) H := h
theorem yq_all (g : ZG) : ∀ j, j < 118 → ∀ (a : Nat) (H : Heap), va_at g.2.1 zcl (a, yFW g j) H → va_at g.2.1 zcl (a, zen g zs0 (j + 1)) H := fun j hj => by
  match j, hj with
  | 0, _ => exact yq_0 g
  | 1, _ => exact yq_1 g
  | 2, _ => exact yq_2 g
  | 3, _ => exact yq_3 g
  | 4, _ => exact yq_4 g
  | 5, _ => exact yq_5 g
  | 6, _ => exact yq_6 g
  | 7, _ => exact yq_7 g
  | 8, _ => exact yq_8 g
  | 9, _ => exact yq_9 g
  | 10, _ => exact yq_10 g
  | 11, _ => exact yq_11 g
  | 12, _ => exact yq_12 g
  | 13, _ => exact yq_13 g
  | 14, _ => exact yq_14 g
  | 15, _ => exact yq_15 g
  | 16, _ => exact yq_16 g
  | 17, _ => exact yq_17 g
  | 18, _ => exact yq_18 g
  | 19, _ => exact yq_19 g
  | 20, _ => exact yq_20 g
  | 21, _ => exact yq_21 g
  | 22, _ => exact yq_22 g
  | 23, _ => exact yq_23 g
  | 24, _ => exact yq_24 g
  | 25, _ => exact yq_25 g
  | 26, _ => exact yq_26 g
  | 27, _ => exact yq_27 g
  | 28, _ => exact yq_28 g
  | 29, _ => exact yq_29 g
  | 30, _ => exact yq_30 g
  | 31, _ => exact yq_31 g
  | 32, _ => exact yq_32 g
  | 33, _ => exact yq_33 g
  | 34, _ => exact yq_34 g
  | 35, _ => exact yq_35 g
  | 36, _ => exact yq_36 g
  | 37, _ => exact yq_37 g
  | 38, _ => exact yq_38 g
  | 39, _ => exact yq_39 g
  | 40, _ => exact yq_40 g
  | 41, _ => exact yq_41 g
  | 42, _ => exact yq_42 g
  | 43, _ => exact yq_43 g
  | 44, _ => exact yq_44 g
  | 45, _ => exact yq_45 g
  | 46, _ => exact yq_46 g
  | 47, _ => exact yq_47 g
  | 48, _ => exact yq_48 g
  | 49, _ => exact yq_49 g
  | 50, _ => exact yq_50 g
  | 51, _ => exact yq_51 g
  | 52, _ => exact yq_52 g
  | 53, _ => exact yq_53 g
  | 54, _ => exact yq_54 g
  | 55, _ => exact yq_55 g
  | 56, _ => exact yq_56 g
  | 57, _ => exact yq_57 g
  | 58, _ => exact yq_58 g
  | 59, _ => exact yq_59 g
  | 60, _ => exact yq_60 g
  | 61, _ => exact yq_61 g
  | 62, _ => exact yq_62 g
  | 63, _ => exact yq_63 g
  | 64, _ => exact yq_64 g
  | 65, _ => exact yq_65 g
  | 66, _ => exact yq_66 g
  | 67, _ => exact yq_67 g
  | 68, _ => exact yq_68 g
  | 69, _ => exact yq_69 g
  | 70, _ => exact yq_70 g
  | 71, _ => exact yq_71 g
  | 72, _ => exact yq_72 g
  | 73, _ => exact yq_73 g
  | 74, _ => exact yq_74 g
  | 75, _ => exact yq_75 g
  | 76, _ => exact yq_76 g
  | 77, _ => exact yq_77 g
  | 78, _ => exact yq_78 g
  | 79, _ => exact yq_79 g
  | 80, _ => exact yq_80 g
  | 81, _ => exact yq_81 g
  | 82, _ => exact yq_82 g
  | 83, _ => exact yq_83 g
  | 84, _ => exact yq_84 g
  | 85, _ => exact yq_85 g
  | 86, _ => exact yq_86 g
  | 87, _ => exact yq_87 g
  | 88, _ => exact yq_88 g
  | 89, _ => exact yq_89 g
  | 90, _ => exact yq_90 g
  | 91, _ => exact yq_91 g
  | 92, _ => exact yq_92 g
  | 93, _ => exact yq_93 g
  | 94, _ => exact yq_94 g
  | 95, _ => exact yq_95 g
  | 96, _ => exact yq_96 g
  | 97, _ => exact yq_97 g
  | 98, _ => exact yq_98 g
  | 99, _ => exact yq_99 g
  | 100, _ => exact yq_100 g
  | 101, _ => exact yq_101 g
  | 102, _ => exact yq_102 g
  | 103, _ => exact yq_103 g
  | 104, _ => exact yq_104 g
  | 105, _ => exact yq_105 g
  | 106, _ => exact yq_106 g
  | 107, _ => exact yq_107 g
  | 108, _ => exact yq_108 g
  | 109, _ => exact yq_109 g
  | 110, _ => exact yq_110 g
  | 111, _ => exact yq_111 g
  | 112, _ => exact yq_112 g
  | 113, _ => exact yq_113 g
  | 114, _ => exact yq_114 g
  | 115, _ => exact yq_115 g
  | 116, _ => exact yq_116 g
  | 117, _ => exact yq_117 g
  | j + 118, h => exact absurd h (by omega)
theorem yP_zP {g : ZG} {H : Heap} (h : yP g 1 (yFW g) 118 H) : zP g zs0 H := by
  intro k q hq
  unfold va_pl zL at hq
  rw [List.map_map, List.getElem?_map] at hq
  cases hr : (List.range 118)[k]? with
  | none => rw [hr] at hq; cases hq
  | some i =>
    rw [hr] at hq
    have hk := (List.getElem?_eq_some_iff.mp hr).1
    have h2 := List.getElem?_range (n := 118) (i := k) (by simpa using hk)
    rw [hr] at h2
    have hi : i = k := Option.some.inj h2
    subst hi
    cases hq
    have hi8 : i < 118 := by simpa using hk
    have h3 := yq_all g i hi8 _ H (h.1 i hi8)
    rw [show g.1 + (1 + i) = g.1 + (i + 1) by omega] at h3
    show va_at g.2.1 zcl (g.1 + (i + 1), zen g zs0 (g.1 + (i + 1) - g.1)) H
    rw [Nat.add_sub_cancel_left]
    exact h3
section
variable {x : ZX} {g : ZG} {cc : ByteArray} {own : String} {ret : Option FieldType} {nL fr lo mc ms kc ks : Nat} {Q : State → Prop} {n : Nat} {F : Nat → va_E} {k pc q t : Nat} {L : List (Option ZV)} {st : List ZV}
theorem y_astore_n (C : yC x g cc own ret nL fr lo mc ms n) {i : Fin 4} {j : Nat} {L' : List (Option ZV)} (hd : zd cc pc (.astore_n i) 1 q) (hj : j < 800) (hn : (i : Nat) < nL) (hw : zlow L i = true) (hL : zset L i (zr (n + j)) = L') (K : yw x g nL kc ks Q n F k q L' st) : yw x g nL kc ks Q n F k pc L (zr (n + j) :: st) := by
  obtain ⟨d, rfl⟩ := hd
  subst hL
  intro H locs ls hP hS h
  show W _ _ _ _ _ _ _ _ _ _ _ _ _ _ _ (F0 _ _ _ (zrv g (n + j) :: st.map (zval g)))
  have h1 : ∀ ls' : Array Slot, lv_has ls' nL (((i : Nat), zrv g (n + j)) :: (zas g L).filter (fun q => !(q.1 == (i : Nat)) && !(q.1 + 1 == (i : Nat) && q.2.category == 2))) → _ := fun ls' h' => K H locs ls' hP hS (zlh.stored hw h')
  rw [yrv C.2.2 hj] at h1 ⊢
  exact lv_astore_n C.1.1 C.1.2.1 d rfl h.has hn rfl h1
end

theorem ylw_9 : Cond.methodLink R_law 9 y8_init ∈ lw_gd := zwc1 20 rfl rfl
theorem ylw_12 : Cond.methodLink R_law 12 y9_init ∈ lw_gd := zwc4 93 rfl rfl
theorem zlw_walk {x : ZX} {g : ZG} (C : yC x g code R_law ret 4 2048 84000 600000 7302250 1) {Q : State → Prop} (K : zw x g 4 118 4054 Q zs0 18 [some (zr 1004), some (zr 1), some (zr 103), some (zi 0)] []) : yw x g 4 0 0 Q 1 (fun _ => .inr (0, [])) 0 0 [some (zr 1004), none, none, none] [] := by
  refine y_newo C (ci := 8) dW_law_0 ⟨zwc1 18 rfl rfl, zwc1 19 rfl rfl, zwc1 1 rfl rfl⟩ rfl ty8 ty8_ok (fs := [.null, .null, .null, .null, .null, .null, .null, .null, .null, .int 0, .int 0]) yfs8 ⟨Nat.le_of_ble_eq_true rfl, Nat.le_of_ble_eq_true rfl⟩ (k' := 1) rfl ?_ (by decide)
  refine y_dup C dW_law_3 rfl ?_
  refine y_callI C (m := 0) dW_law_4 ylw_9 yz8_init rfl yi8_init (k8_init x.2.1 g (1 + 0) ⟨by decide, by decide⟩) rfl (by decide) rfl (Nat.le_of_ble_eq_true rfl) ⟨Nat.le_of_ble_eq_true rfl, Nat.le_of_ble_eq_true rfl⟩ ⟨Nat.le_of_ble_eq_true rfl, Nat.le_of_ble_eq_true rfl⟩ (k' := 102) rfl ?_
  refine y_astore_n C (j := 0) dW_law_7 (by decide) (Nat.le_of_ble_eq_true rfl) rfl (L' := [some (zr 1004), some (zr (1 + 0)), none, none]) rfl ?_
  refine y_newo C (ci := 9) dW_law_8 ⟨zwc4 91 rfl rfl, zwc4 92 rfl rfl, zwc1 11 rfl rfl⟩ rfl ty9 ty9_ok (fs := [.null, .null, .null, .int 0, .null, .null, .null, .null, .null, .int 0, .int 0, .null, .int 0, .int 0, .null, .null, .null, .null, .int 0, .int 0, .int 0, .int 0, .int 0, .null, .null, .int 0, .int 0]) yfs9 ⟨Nat.le_of_ble_eq_true rfl, Nat.le_of_ble_eq_true rfl⟩ (k' := 103) rfl ?_ (by decide)
  refine y_dup C dW_law_11 rfl ?_
  refine y_callI C (m := 102) dW_law_12 ylw_12 yz9_init rfl yi9_init (k9_init x.2.1 g (1 + 102) ⟨by decide, by decide⟩) rfl (by decide) rfl (Nat.le_of_ble_eq_true rfl) ⟨Nat.le_of_ble_eq_true rfl, Nat.le_of_ble_eq_true rfl⟩ ⟨Nat.le_of_ble_eq_true rfl, Nat.le_of_ble_eq_true rfl⟩ (k' := 118) rfl ?_
  refine y_astore_n C (j := 102) dW_law_15 (by decide) (Nat.le_of_ble_eq_true rfl) rfl (L' := [some (zr 1004), some (zr (1 + 0)), some (zr (1 + 102)), none]) rfl ?_
  refine y_iconst C (0 : Int32) dW_law_16 kI_0 ?_
  refine y_istore_n C dW_law_17 (Nat.le_of_ble_eq_true rfl) rfl (L' := [some (zr 1004), some (zr (1 + 0)), some (zr (1 + 102)), some (zi 0)]) rfl ?_
  exact fun H locs ls hP hS hl => K H locs ls (yP_zP hP) (hS.wide fun q h => yA_zA (by decide) h) hl

