/-! the one store: every cell of the law's from its first on, by its place; what a place is never changes; all numbers in σ -/
abbrev ZS : Type := Nat → Nat → Int32
abbrev ZG : Type := Nat × va_G × (Nat → ClassId) × (Nat → Nat)
abbrev ZV : Type := Int32 ⊕ Nat ⊕ Int64
abbrev ZX : Type := Program × Launch × Env × Room × State × MethodId × Array Value × List Frame × Method × Code
abbrev zi (v : Int32) : ZV := .inl v
abbrev zr (o : Nat) : ZV := .inr (.inl o)
abbrev zj (v : Int64) : ZV := .inr (.inr v)
def zsh (o : Nat) : Nat := zshL.getD o 0
def zln (o : Nat) : Nat := zlnL.getD o 0
def zfs (κ : Nat) : List (Option Nat) := zfsL.getD κ []
/-- rows of references: how many, the first one's place behind the row's, from one to the next -/
def zrn (κ : Nat) : Nat := [8, 6, 2, 4].getD (κ - 11) 0
def zrd (κ : Nat) : Nat := [6, 13, 18, 3].getD (κ - 11) 0
def zrs (κ : Nat) : Nat := [1, 1, 3, 2].getD (κ - 11) 0
def zrc (κ : Nat) : String := ["GlassTax$Glass", "GlassTax$Person", "GlassTax$Text", "GlassTax$Sheet"].getD (κ - 11) ""
def zurow (σ : ZS) (o : Nat) (f : Nat → Int32) : ZS := fun a => if a = o then f else σ a
def zu (σ : ZS) (o k : Nat) (v : Int32) : ZS := zurow σ o (upd (σ o) k v)
def zrv (g : ZG) (o : Nat) : Value := if o = 0 then .null else if 1000 ≤ o then .ref (g.2.2.2 (o - 1000)) else .ref (g.1 + o)
def zval (g : ZG) : ZV → Value
  | .inl v => .int v
  | .inr (.inl o) => zrv g o
  | .inr (.inr v) => .long v
def zfv (g : ZG) (f : Nat → Int32) (o k : Nat) : Option Nat → Value
  | none => .int (f k)
  | some 0 => zrv g (f k).toNatClampNeg
  | some (d + 1) => .ref (g.1 + (o + (d + 1)))
def zob (g : ZG) (f : Nat → Int32) (o : Nat) : List (Option Nat) → Nat → List Value
  | [], _ => []
  | d :: l, k => zfv g f o k d :: zob g f o l (k + 1)
def zen1 (g : ZG) (o : Nat) (f : Nat → Int32) : va_E :=
  if zsh o = 15 then .inl (g.2.2.1 0, zln o, .inl f)
  else if 11 ≤ zsh o then .inl (g.2.2.1 (zsh o - 10), zrn (zsh o), .inr (.inr (.inr (.inr fun i => some (g.1 + (o + zrd (zsh o) + zrs (zsh o) * i))))))
  else .inr (zsh o - 1, zob g f o (zfs (zsh o)) 0)
def zen (g : ZG) (σ : ZS) (o : Nat) : va_E := zen1 g o (σ o)
def zL (g : ZG) : List Nat := (List.range 118).map fun i => g.1 + (i + 1)
def zf (g : ZG) (σ : ZS) : Nat → va_E := fun a => zen g σ (a - g.1)
def zA (g : ZG) : Nat → Prop := fun q => g.1 < q
def zP (g : ZG) (σ : ZS) (H : Heap) : Prop := va_P g.2.1 zcl (va_pl (zL g) (zf g σ)) H
def ztys (g : ZG) : List (ClassId × FieldType) := [(g.2.2.1 0, .int), (g.2.2.1 1, .object "GlassTax$Glass"), (g.2.2.1 2, .object "GlassTax$Person"), (g.2.2.1 3, .object "GlassTax$Text"), (g.2.2.1 4, .object "GlassTax$Sheet")]
def zKA : List Int32 := [0, 0, 0, 0, 1, 2, 0]
def zBO : List Int32 := [10, 11, 12, 13, 20, 0, 0, 21, 0, 30, 0, 0, 0, 0, 40, 0, 50, 0, 51, 0, 0, 60, 0, 0, 70, 71, 0, 0]
def zBy : List (List Int32) := [[110, 107, 109, 116, 104, 112]]
def zNest : Cond → Bool
  | .methodLinkNest .. => true
  | .fieldLinkNest .. => true
  | _ => false
def zZ (g : ZG) (U : State) (H : Heap) : Prop :=
  (va_Z "GlassTax" "KIND_ABOVE" "[I" (.ref (g.2.2.2 0)) (zA g) U H ∧ va_T .int (g.2.2.2 0) 7 (fun j => .int (zKA.getD j 0)) (zA g) U H) ∧
  (va_Z "GlassTax$Voices" "BODIES" "[I" (.ref (g.2.2.2 1)) (zA g) U H ∧ va_T .int (g.2.2.2 1) 28 (fun j => .int (zBO.getD j 0)) (zA g) U H) ∧
  (vk_S 1 [6] zBy (fun _ => g.2.2.2 2) (fun _ => g.2.2.2 3) (zA g) U H ∧ va_Z "java/lang/String" "COMPACT_STRINGS" "Z" (.int 1) (zA g) U H ∧ va_Z "jdk/internal/util/Preconditions" "SIOOBE_FORMATTER" "Ljava/util/function/BiFunction;" (zrv g (g.2.2.2 5)) (zA g) U H)
def zK (g : ZG) (U : State) : Prop := va_K g.2.1 zcl (ztys g) U ∧ zZ g U U.heap ∧ (∀ w ∈ lw_tbl, zNest w = true → va_Nw w U) ∧ vk_R "GlassTax$Reader" 69 "nkmthp" (g.2.2.2 2) U ∧ ∀ κ, 11 ≤ κ → κ < 15 → va_AO (zrc κ) U
theorem zZ.moved {g : ZG} {u U : State} {H : Heap} (hvm : u.vm.Alike U.vm) (h : zZ g u H) : zZ g U H := ⟨⟨h.1.1.moved hvm, h.1.2.moved hvm⟩, ⟨h.2.1.1.moved hvm, h.2.1.2.moved hvm⟩, ⟨h.2.2.1.moved hvm, h.2.2.2.1.moved hvm, h.2.2.2.2.moved hvm⟩⟩
theorem zZ.kept {g : ZG} {U : State} {H H1 : Heap} (h : zZ g U H) (hq : ∀ a : Nat, a < H.size → ¬ zA g a → H1[a]? = H[a]?) : zZ g U H1 := ⟨⟨h.1.1.kept hq, h.1.2.kept hq⟩, ⟨h.2.1.1.kept hq, h.2.1.2.kept hq⟩, ⟨h.2.2.1.kept hq, h.2.2.2.1.kept hq, h.2.2.2.2.kept hq⟩⟩
theorem zK.blind {g : ZG} {U : State} {f : JFrame} {mk : MethodId} {a : Array Value} (h : zK g U) : zK g (U.calling f mk a) :=
  ⟨va_K.moved (Vm.Alike.refl U.vm) h.1, h.2.1.moved (u := U) (U := U.calling f mk a) (Vm.Alike.refl U.vm), fun w hw hn => va_Nw.same (by cases w <;> simp_all [zNest, Cond.onTables]) (u := U) (U := U.calling f mk a) rfl (h.2.2.1 w hw hn), vk_R.same (u := U) rfl h.2.2.2.1, fun κ h1 h2 => va_AO.moved (u := U) (U := U.calling f mk a) (Vm.Alike.refl U.vm) (h.2.2.2.2 κ h1 h2)⟩
theorem zK.go {g : ZG} {s U : State} {H : Heap} {locs : List Loc} (h : zK g s) (hS : va_S (zA g) s.heap H locs) (hU : U.heap = H) (hW : s.WarmedH U.vm) : zK g U := by
  refine ⟨va_K.moved hW.alike h.1, ?_, fun w hw hn => ?_, vk_R.warm hW h.2.2.2.1, fun κ h1 h2 => va_AO.moved hW.alike (h.2.2.2.2 κ h1 h2)⟩
  · rw [hU]
    exact (h.2.1.kept hS.2.1).moved hW.alike
  · have h1 := h.2.2.1 w hw hn
    cases w with
    | methodLinkNest => exact va_Nw.warmM hW h1
    | fieldLinkNest => exact va_Nw.warmF hW h1
    | _ => simp [zNest] at hn
theorem zsh_lt {o : Nat} (h : zsh o ≠ 0) : 0 < o ∧ o < 119 := by
  by_cases h1 : o < 119
  · refine ⟨?_, h1⟩
    rcases Nat.eq_zero_or_pos o with z | z
    · subst z
      exact absurd rfl h
    · exact z
  · exfalso
    apply h
    unfold zsh
    rw [List.getD_eq_getElem?_getD, List.getElem?_eq_none (show zshL.length ≤ o from by rw [show zshL.length = 119 from rfl]; omega)]
    rfl
theorem zrv_of {g : ZG} {o : Nat} (h : zsh o ≠ 0) : zrv g o = .ref (g.1 + o) := by
  obtain ⟨h1, h2⟩ := zsh_lt h
  rw [zrv, if_neg (by omega), if_neg (by omega)]
theorem zrv_0 {g : ZG} : zrv g 0 = .null := rfl
theorem zrv_ref {g : ZG} {o : Nat} (h : o ≠ 0) : ∃ a, zrv g o = .ref a := by
  unfold zrv
  rw [if_neg h]
  by_cases h1 : 1000 ≤ o
  · rw [if_pos h1]; exact ⟨_, rfl⟩
  · rw [if_neg h1]; exact ⟨_, rfl⟩
theorem zrv_cat {g : ZG} {o : Nat} : (zrv g o).category = 1 := by
  by_cases h : o = 0
  · subst h; rfl
  · obtain ⟨a, ha⟩ := zrv_ref (g := g) h
    rw [ha]; rfl
theorem zL_mem {g : ZG} {o : Nat} (h : zsh o ≠ 0) : g.1 + o ∈ zL g := by
  obtain ⟨h1, h2⟩ := zsh_lt h
  exact List.mem_map.mpr ⟨o - 1, List.mem_range.mpr (by omega), by omega⟩
theorem zP_at {g : ZG} {σ : ZS} {o : Nat} (h : zsh o ≠ 0) : ∃ k : Nat, (va_pl (zL g) (zf g σ))[k]? = some (g.1 + o, zen g σ o) := by
  obtain ⟨k, hk⟩ := va_pl_get (X := []) (f := zf g σ) (zL_mem (g := g) h)
  refine ⟨k, ?_⟩
  have e : zf g σ (g.1 + o) = zen g σ o := by
    show zen g σ (g.1 + o - g.1) = _
    rw [Nat.add_sub_cancel_left]
  rw [← e]
  exact hk
theorem zD {g : ZG} (f : Nat → va_E) : va_D (zA g) (va_pl (zL g) f) := by
  have key : ∀ (k : Nat) (q : Nat × va_E), (va_pl (zL g) f)[k]? = some q → q.1 = g.1 + (k + 1) := by
    intro k q hq
    unfold va_pl zL at hq
    rw [List.map_map, List.getElem?_map] at hq
    cases hr : (List.range 118)[k]? with
    | none => rw [hr] at hq; cases hq
    | some i =>
      rw [hr] at hq
      have hi : i = k := by
        have h2 := List.getElem?_range (n := 118) (i := k) (by have := (List.getElem?_eq_some_iff.mp hr).1; simpa using this)
        rw [hr] at h2
        exact Option.some.inj h2
      cases hq
      subst hi
      rfl
  refine ⟨fun i j p q hi hj hpq => ?_, fun k q hk => ?_⟩
  · have h1 := key i p hi
    have h2 := key j q hj
    omega
  · have h1 := key k q hk
    show g.1 < q.1
    omega
theorem zP_set {g : ZG} {σ σ' : ZS} {H : Heap} {o k : Nat} {e : va_E} (ho : zsh o ≠ 0) (hk : (va_pl (zL g) (zf g σ))[k]? = some (g.1 + o, zen g σ o)) (he : zen g σ' o = e) (hσ : ∀ a, a ≠ o → σ' a = σ a) (h : va_P g.2.1 zcl ((va_pl (zL g) (zf g σ)).set k (g.1 + o, e)) H) : zP g σ' H := by
  have e0 : zf g σ (g.1 + o) = zen g σ o := by
    show zen g σ (g.1 + o - g.1) = _
    rw [Nat.add_sub_cancel_left]
  have h1 := va_pl_set (X := []) (e := e) (zD (g := g) (zf g σ)) (zL_mem ho) (by rw [e0]; exact hk)
  have h2 : (va_pl (zL g) (zf g σ)).set k (g.1 + o, e) = va_pl (zL g) (va_up (zf g σ) (g.1 + o) e) := h1
  rw [h2] at h
  have h3 : va_pl (zL g) (va_up (zf g σ) (g.1 + o) e) = va_pl (zL g) (zf g σ') := by
    refine va_pl_congr fun a => ?_
    show (if a = g.1 + o then e else zf g σ a) = zf g σ' a
    obtain ⟨o1, -⟩ := zsh_lt ho
    by_cases ha : a = g.1 + o
    · rw [if_pos ha, ha]
      show e = zen g σ' (g.1 + o - g.1)
      rw [Nat.add_sub_cancel_left, he]
    · rw [if_neg ha]
      show zen1 g (a - g.1) (σ (a - g.1)) = zen1 g (a - g.1) (σ' (a - g.1))
      rw [hσ (a - g.1) (by omega)]
  rw [h3] at h
  exact h
theorem zu_row {σ : ZS} {o : Nat} {f : Nat → Int32} : zurow σ o f o = f := if_pos rfl
theorem zu_ne {σ : ZS} {o a : Nat} {f : Nat → Int32} (h : a ≠ o) : zurow σ o f a = σ a := if_neg h
theorem zen_arr {g : ZG} {σ : ZS} {o n : Nat} (h : zsh o = 15) (hn : zln o = n) : zen g σ o = .inl (g.2.2.1 0, n, .inl (σ o)) := by
  unfold zen zen1
  rw [if_pos h, hn]
theorem zen_ref {g : ZG} {σ : ZS} {o κ : Nat} (h : zsh o = κ) (h1 : 11 ≤ κ) (h2 : κ < 15) : zen g σ o = .inl (g.2.2.1 (κ - 10), zrn κ, .inr (.inr (.inr (.inr fun i => some (g.1 + (o + zrd κ + zrs κ * i)))))) := by
  unfold zen zen1
  rw [if_neg (by omega), if_pos (by omega), h]
theorem zen_obj {g : ZG} {σ : ZS} {o ci : Nat} (h : zsh o = ci + 1) (h1 : ci < 10) : zen g σ o = .inr (ci, zob g (σ o) o (zfs (ci + 1)) 0) := by
  unfold zen zen1
  rw [if_neg (by omega), if_neg (by omega), h]
  rfl
theorem zob_get {g : ZG} {f : Nat → Int32} {o : Nat} : ∀ (l : List (Option Nat)) (j k : Nat) (d : Option Nat), l[k]? = some d → (zob g f o l j)[k]? = some (zfv g f o (j + k) d)
  | [], _, _, _, h => by simp at h
  | a :: l, j, 0, d, h => by
    simp only [List.getElem?_cons_zero, Option.some.injEq] at h
    subst h
    simp [zob]
  | a :: l, j, k + 1, d, h => by
    simp only [List.getElem?_cons_succ] at h
    have := zob_get (g := g) (f := f) (o := o) l (j + 1) k d h
    simp only [zob, List.getElem?_cons_succ, this]
    rw [show j + 1 + k = j + (k + 1) by omega]
theorem zob_len {g : ZG} {f : Nat → Int32} {o : Nat} : ∀ (l : List (Option Nat)) (j : Nat), (zob g f o l j).length = l.length
  | [], _ => rfl
  | a :: l, j => by simp [zob, zob_len l (j + 1)]
theorem zfv_ne {g : ZG} {f : Nat → Int32} {o k j : Nat} {v : Int32} {d : Option Nat} (h : j ≠ k) : zfv g (upd f k v) o j d = zfv g f o j d := by
  have e : upd f k v j = f j := if_neg h
  unfold zfv
  cases d with
  | none => rw [e]
  | some d => cases d with
    | zero => rw [e]
    | succ d => rfl
theorem zob_set {g : ZG} {f : Nat → Int32} {o k : Nat} {v : Int32} {l : List (Option Nat)} {d : Option Nat} (h : l[k]? = some d) : (zob g f o l 0).set k (zfv g (upd f k v) o k d) = zob g (upd f k v) o l 0 := by
  refine List.ext_getElem? fun j => ?_
  by_cases hj : j < l.length
  · obtain ⟨d', hd'⟩ : ∃ d', l[j]? = some d' := ⟨_, List.getElem?_eq_getElem hj⟩
    have h2 := zob_get (g := g) (f := upd f k v) (o := o) l 0 j d' hd'
    rw [Nat.zero_add] at h2
    rw [h2]
    by_cases hjk : j = k
    · subst hjk
      rw [hd'] at h
      cases h
      rw [List.getElem?_set_self (by rw [zob_len]; exact hj)]
    · rw [List.getElem?_set_ne (Ne.symm hjk)]
      have h3 := zob_get (g := g) (f := f) (o := o) l 0 j d' hd'
      rw [Nat.zero_add] at h3
      rw [h3, zfv_ne hjk]
  · rw [List.getElem?_eq_none (by rw [List.length_set, zob_len]; omega), List.getElem?_eq_none (by rw [zob_len]; omega)]
/-! locals by their places -/
def zat : List (Option ZV) → Nat → Option ZV
  | [], _ => none
  | a :: _, 0 => a
  | _ :: l, n + 1 => zat l n
def zset : List (Option ZV) → Nat → ZV → List (Option ZV)
  | [], _, _ => []
  | _ :: l, 0, v => some v :: l
  | a :: l, n + 1, v => a :: zset l n v
def zdrop : List (Option ZV) → List Bool → List (Option ZV)
  | [], _ => []
  | l, [] => l
  | a :: l, true :: m => a :: zdrop l m
  | _ :: l, false :: m => none :: zdrop l m
def zlong : Option ZV → Bool
  | some (.inr (.inr _)) => true
  | _ => false
def zlow (L : List (Option ZV)) : Nat → Bool
  | 0 => true
  | i + 1 => !zlong (zat L i)
def zent : List ZV → List (Option ZV)
  | [] => []
  | .inr (.inr v) :: l => some (.inr (.inr v)) :: none :: zent l
  | v :: l => some v :: zent l
def zlh (g : ZG) (ls : Array Slot) (nL : Nat) (L : List (Option ZV)) : Prop := ls.size = nL ∧ lv_wf ls ∧ ∀ i v, zat L i = some v → ls[i]? = some (.val (zval g v))
theorem zat_set : ∀ (L : List (Option ZV)) (i j : Nat) (v w : ZV), zat (zset L i v) j = some w → (j = i ∧ w = v) ∨ (j ≠ i ∧ zat L j = some w)
  | [], _, _, _, _, h => by simp [zset, zat] at h
  | a :: l, 0, 0, v, w, h => by simp only [zset, zat, Option.some.injEq] at h; exact Or.inl ⟨rfl, h.symm⟩
  | a :: l, 0, j + 1, v, w, h => by simp only [zset, zat] at h; exact Or.inr ⟨by omega, h⟩
  | a :: l, i + 1, 0, v, w, h => by simp only [zset, zat] at h; exact Or.inr ⟨by omega, h⟩
  | a :: l, i + 1, j + 1, v, w, h => by
    simp only [zset, zat] at h
    rcases zat_set l i j v w h with ⟨h1, h2⟩ | ⟨h1, h2⟩
    · exact Or.inl ⟨by omega, h2⟩
    · exact Or.inr ⟨by omega, h2⟩
theorem zat_drop : ∀ (L : List (Option ZV)) (m : List Bool) (j : Nat) (w : ZV), zat (zdrop L m) j = some w → zat L j = some w
  | [], _, _, _, h => by simp [zdrop, zat] at h
  | a :: l, [], _, _, h => by simpa [zdrop] using h
  | a :: l, true :: m, 0, w, h => by simpa [zdrop, zat] using h
  | a :: l, true :: m, j + 1, w, h => by simp only [zdrop, zat] at h ⊢; exact zat_drop l m j w h
  | a :: l, false :: m, 0, w, h => by simp [zdrop, zat] at h
  | a :: l, false :: m, j + 1, w, h => by simp only [zdrop, zat] at h ⊢; exact zat_drop l m j w h
theorem zlh.drop {g : ZG} {ls : Array Slot} {nL : Nat} {L : List (Option ZV)} (h : zlh g ls nL L) (m : List Bool) : zlh g ls nL (zdrop L m) := ⟨h.1, h.2.1, fun i v hi => h.2.2 i v (zat_drop L m i v hi)⟩
theorem zval_cat {g : ZG} (v : ZV) : (zval g v).category = if zlong (some v) = true then 2 else 1 := by
  rcases v with v | v | v
  · rfl
  · exact zrv_cat
  · rfl
/-- the listed locals, as the kit wants them -/
def zas (g : ZG) (L : List (Option ZV)) : List (Nat × Value) := (List.range L.length).filterMap fun i => (zat L i).map fun v => (i, zval g v)
theorem zat_lt : ∀ (L : List (Option ZV)) (i : Nat) (v : ZV), zat L i = some v → i < L.length
  | [], _, _, h => by simp [zat] at h
  | a :: l, 0, _, _ => by simp
  | a :: l, i + 1, v, h => by
    have := zat_lt l i v h
    simp only [List.length_cons]
    omega
theorem zas_mem {g : ZG} {L : List (Option ZV)} {i : Nat} {v : ZV} (h : zat L i = some v) : (i, zval g v) ∈ zas g L :=
  List.mem_filterMap.mpr ⟨i, List.mem_range.mpr (zat_lt L i v h), by rw [h]; rfl⟩
theorem zlh.has {g : ZG} {ls : Array Slot} {nL : Nat} {L : List (Option ZV)} (h : zlh g ls nL L) : lv_has ls nL (zas g L) := by
  refine ⟨h.1, h.2.1, fun q hq => ?_⟩
  obtain ⟨i, -, hi⟩ := List.mem_filterMap.mp hq
  cases hv : zat L i with
  | none => rw [hv] at hi; cases hi
  | some v =>
    rw [hv] at hi
    cases hi
    exact h.2.2 i v hv
theorem zlh.stored {g : ZG} {ls : Array Slot} {nL i : Nat} {L : List (Option ZV)} {v : ZV} (hw : zlow L i = true) (h : lv_has ls nL ((i, zval g v) :: (zas g L).filter (fun q => !(q.1 == i) && !(q.1 + 1 == i && q.2.category == 2)))) : zlh g ls nL (zset L i v) := by
  refine ⟨h.1, h.2.1, fun j w hj => ?_⟩
  rcases zat_set L i j v w hj with ⟨h1, h2⟩ | ⟨h1, h2⟩
  · subst h1; subst h2
    exact h.2.2 (j, zval g w) List.mem_cons_self
  · refine h.2.2 (j, zval g w) (List.mem_cons_of_mem _ (List.mem_filter.mpr ⟨zas_mem h2, ?_⟩))
    simp only [Bool.and_eq_true, Bool.not_eq_true', beq_eq_false_iff_ne, ne_eq, Bool.and_eq_false_iff]
    refine ⟨h1, ?_⟩
    by_cases hji : j + 1 = i
    · right
      subst hji
      have hz : zlong (zat L j) = false := by
        simp only [zlow, Bool.not_eq_true'] at hw
        exact hw
      rw [h2] at hz
      rw [zval_cat, hz]
      decide
    · exact Or.inl hji
theorem zlh_entry {g : ZG} : ∀ (as : List ZV) (k i : Nat) (v : ZV), zat (zent as) i = some v → (k + i, zval g v) ∈ lv_args k (as.map (zval g))
  | [], _, _, _, h => by simp [zent, zat] at h
  | .inl a :: l, k, 0, v, h => by simp only [zent, zat, Option.some.injEq] at h; subst h; exact List.mem_cons_self
  | .inr (.inl a) :: l, k, 0, v, h => by simp only [zent, zat, Option.some.injEq] at h; subst h; exact List.mem_cons_self
  | .inr (.inr a) :: l, k, 0, v, h => by simp only [zent, zat, Option.some.injEq] at h; subst h; exact List.mem_cons_self
  | .inr (.inr a) :: l, k, 1, v, h => by simp [zent, zat] at h
  | .inl a :: l, k, i + 1, v, h => by
    have := zlh_entry (g := g) l (k + 1) i v h
    rw [show k + 1 + i = k + (i + 1) by omega] at this
    exact List.mem_cons_of_mem _ this
  | .inr (.inl a) :: l, k, i + 1, v, h => by
    have := zlh_entry (g := g) l (k + 1) i v h
    rw [show k + 1 + i = k + (i + 1) by omega] at this
    refine List.mem_cons_of_mem _ ?_
    rw [if_neg (by rw [show zval g (.inr (.inl a)) = zrv g a from rfl, zrv_cat]; decide)]
    exact this
  | .inr (.inr a) :: l, k, i + 2, v, h => by
    have := zlh_entry (g := g) l (k + 2) i v h
    rw [show k + 2 + i = k + (i + 2) by omega] at this
    exact List.mem_cons_of_mem _ this
