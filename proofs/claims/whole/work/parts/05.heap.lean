/-! rows of the heap, of calls, switches and ends -/
/-- a field of numbers: class ci's k-th, linked from a place of own -/
def zFI (own : String) (idx ci k : Nat) : Prop := ∃ (Cn : String) (T : u_T) (N : Nat), zcl[ci]? = some (Cn, T, N) ∧ ci < 10 ∧ k < N ∧ (T k).1 = Cn ∧ Cond.fieldLink own idx Cn (T k).2.1 (T k).2.2.1 ∈ lw_gd ∧ (zfs (ci + 1))[k]? = some none
/-- a field of a reference that stays: its object lies d behind -/
def zFR (own : String) (idx ci k d : Nat) : Prop := ∃ (Cn : String) (T : u_T) (N : Nat), zcl[ci]? = some (Cn, T, N) ∧ ci < 10 ∧ k < N ∧ (T k).1 = Cn ∧ Cond.fieldLink own idx Cn (T k).2.1 (T k).2.2.1 ∈ lw_gd ∧ (zfs (ci + 1))[k]? = some (some (d + 1))
/-- the one field of a reference that changes -/
def zFD (own : String) (idx ci k : Nat) : Prop := ∃ (Cn : String) (T : u_T) (N : Nat), zcl[ci]? = some (Cn, T, N) ∧ ci < 10 ∧ k < N ∧ (T k).1 = Cn ∧ Cond.fieldLink own idx Cn (T k).2.1 (T k).2.2.1 ∈ lw_gd ∧ (zfs (ci + 1))[k]? = some (some 0)
/-- what a store wants of the field's kind -/
def zFty (ci k : Nat) (ty : FieldType) : Prop := ∀ q, zcl[ci]? = some q → (q.2.1 k).2.2.2 = false ∧ parseFieldDescriptor (q.2.1 k).2.2.1 = some ty
theorem zhu : ∀ (ci : Nat) (q : vw_C), zcl[ci]? = some q → (∀ w ∈ u_ws q.1 q.2.1 q.2.2, w ∈ lw_gd) ∧ (∃ ty0 : Nat → FieldType, ∀ k, k < q.2.2 → parseFieldDescriptor (q.2.1 k).2.2.1 = some (ty0 k)) ∧ (∀ a, a < q.2.2 → ∀ b, b < q.2.2 → a ≠ b → (q.2.1 a).2.1 ≠ (q.2.1 b).2.1)
  | 0, _, h => by cases h; exact ⟨hu0, ⟨_, ty0_ok⟩, nm0⟩
  | 1, _, h => by cases h; exact ⟨hu1, ⟨_, ty1_ok⟩, nm1⟩
  | 2, _, h => by cases h; exact ⟨hu2, ⟨_, ty2_ok⟩, nm2⟩
  | 3, _, h => by cases h; exact ⟨hu3, ⟨_, ty3_ok⟩, nm3⟩
  | 4, _, h => by cases h; exact ⟨hu4, ⟨_, ty4_ok⟩, nm4⟩
  | 5, _, h => by cases h; exact ⟨hu5, ⟨_, ty5_ok⟩, nm5⟩
  | 6, _, h => by cases h; exact ⟨hu6, ⟨_, ty6_ok⟩, nm6⟩
  | 7, _, h => by cases h; exact ⟨hu7, ⟨_, ty7_ok⟩, nm7⟩
  | 8, _, h => by cases h; exact ⟨hu8, ⟨_, ty8_ok⟩, nm8⟩
  | 9, _, h => by cases h; exact ⟨hu9, ⟨_, ty9_ok⟩, nm9⟩
  | n + 10, _, h => by simp [zcl] at h
/-- a boolean -/
abbrev zbo (v : Int32) : Prop := v = 0 ∨ v = 1
theorem zbo_n {v : Int32} (h : zbo v) : narrow .boolean (.int v) = .int v := by rcases h with rfl | rfl <;> rfl
theorem zbo_f {v : Int32} (h : zbo v) : fits .boolean (.int v) = true := by rcases h with rfl | rfl <;> rfl
/-- an index of a row of n -/
abbrev zin (i : Int32) (n : Nat) : Prop := 0 ≤ i.toInt ∧ i.toInt < n
theorem zin_vp {i : Int32} {n : Nat} (h : zin i n) : vp_in i n := vp_in_iff.mpr h
/-- a call's words -/
def zY (y : MethodName) (cc : ByteArray) (nL : Nat) (ret : Option FieldType) (n : Nat) : Prop :=
  Cond.code y cc nL ret ∈ lw_gd ∧ Cond.initialized y.cls ∈ lw_gd ∧ (y.cls ≠ "java/lang/invoke/MethodHandle" ∧ y.cls ≠ "java/lang/invoke/VarHandle") ∧ (parseMethodDescriptor y.desc).map (fun d => d.parameters.length) = some n
def zYV (y : MethodName) (cc : ByteArray) (nL : Nat) (ret : Option FieldType) (n : Nat) : Prop := zY y cc nL ret n ∧ Cond.instanceMethod y ∈ lw_gd ∧ Cond.selects y.cls y y ∈ lw_gd
def zYC (y : MethodName) (ci : Nat) : Prop := ci < 10 ∧ ∃ (T : u_T) (N : Nat), zcl[ci]? = some (y.cls, T, N)
def zYS (y : MethodName) (cc : ByteArray) (nL : Nat) (ret : Option FieldType) (n : Nat) : Prop := zY y cc nL ret n ∧ Cond.static y ∈ lw_gd
theorem zY.params {y : MethodName} {cc : ByteArray} {nL : Nat} {ret : Option FieldType} {n : Nat} (h : zY y cc nL ret n) : ∀ sig, parseMethodDescriptor y.desc = some sig → n = sig.parameters.length := fun sig hs => by
  have h2 := h.2.2.2
  rw [hs] at h2
  exact (Option.some.inj h2).symm
def zas_l (as : List ZV) (st : List ZV) : List ZV := as.reverse ++ st
/-- a switch: the keys with their targets, the target of what is none of them -/
def zswt : List (Int32 × Nat) → Nat → Int32 → Nat
  | [], d, _ => d
  | (k, t) :: l, d, v => if v = k then t else zswt l d v
def ztb (pc : Nat) : Int → List Int → List (Int32 × Nat) → Bool
  | _, [], [] => true
  | lo, o :: os, (k, t) :: l => decide (k.toInt = lo) && (decide ((pc : Int) + o = (t : Int)) && ztb pc (lo + 1) os l)
  | _, _, _ => false
def zlk (pc : Nat) : List (Int × Int) → List (Int32 × Nat) → Bool
  | [], [] => true
  | (a, o) :: os, (k, t) :: l => decide (k.toInt = a) && (decide ((pc : Int) + o = (t : Int)) && zlk pc os l)
  | _, _ => false
theorem ztb_in (pc : Nat) (d : Nat) (x : Int32) : ∀ (lo : Int) (os : List Int) (l : List (Int32 × Nat)), ztb pc lo os l = true → (∀ o, os[(x.toInt - lo).toNat]? = some o → ¬ x.toInt < lo → (pc : Int) + o = (zswt l d x : Int)) ∧ ((x.toInt < lo ∨ lo + os.length ≤ x.toInt) → zswt l d x = d)
  | lo, [], [], _ => ⟨fun o h => by simp at h, fun _ => rfl⟩
  | lo, [], _ :: _, h => by simp [ztb] at h
  | lo, _ :: _, [], h => by simp [ztb] at h
  | lo, o :: os, (k, t) :: l, h => by
    simp only [ztb, Bool.and_eq_true, decide_eq_true_eq] at h
    obtain ⟨h1, h2, h3⟩ := h
    obtain ⟨i1, i2⟩ := ztb_in pc d x (lo + 1) os l h3
    by_cases hx : x = k
    · subst hx
      refine ⟨fun o' ho hlo => ?_, fun hh => ?_⟩
      · have z : (x.toInt - lo).toNat = 0 := by omega
        rw [z] at ho
        cases ho
        rw [zswt, if_pos rfl]
        exact h2
      · exfalso
        simp only [List.length_cons] at hh
        omega
    · have hx' : x.toInt ≠ lo := fun e => hx (Int32.toInt_inj.mp (by rw [e, h1]))
      refine ⟨fun o' ho hlo => ?_, fun hh => ?_⟩
      · rw [zswt, if_neg hx]
        refine i1 o' ?_ (by omega)
        have z : (x.toInt - lo).toNat = (x.toInt - (lo + 1)).toNat + 1 := by omega
        rw [z, List.getElem?_cons_succ] at ho
        exact ho
      · rw [zswt, if_neg hx]
        refine i2 ?_
        simp only [List.length_cons] at hh
        omega
theorem zlk_in (pc : Nat) (d : Nat) (dflt : Int) (hd : (pc : Int) + dflt = (d : Int)) (x : Int32) : ∀ (os : List (Int × Int)) (l : List (Int32 × Nat)), zlk pc os l = true → (pc : Int) + Op.lookupswitch.offset os dflt x.toInt = (zswt l d x : Int)
  | [], [], _ => by simpa [Op.lookupswitch.offset, zswt] using hd
  | [], _ :: _, h => by simp [zlk] at h
  | _ :: _, [], h => by simp [zlk] at h
  | (a, o) :: os, (k, t) :: l, h => by
    simp only [zlk, Bool.and_eq_true, decide_eq_true_eq] at h
    obtain ⟨h1, h2, h3⟩ := h
    have ih := zlk_in pc d dflt hd x os l h3
    by_cases hx : x = k
    · subst hx
      rw [zswt, if_pos rfl]
      simpa [Op.lookupswitch.offset, h1] using h2
    · rw [zswt, if_neg hx, lv_osw hx h1]
      exact ih
section
variable {x : ZX} {g : ZG} {cc : ByteArray} {own : String} {ret : Option FieldType} {nL fr lo kc ks : Nat} {Q : State → Prop} {σ : ZS} {pc q t : Nat} {L : List (Option ZV)} {st : List ZV}
theorem zw.ref {o : Nat} (h : zsh o ≠ 0) (K : ∀ (H : Heap) (locs : List Loc) (ls : Array Slot), zP g σ H → va_S (zA g) x.2.2.2.2.1.heap H locs → zlh g ls nL L →
    W x.1 x.2.1 x.2.2.1 x.2.2.2.1 x.2.2.2.2.1 x.2.2.2.2.2.1 x.2.2.2.2.2.2.1 x.2.2.2.2.2.2.2.1 x.2.2.2.2.2.2.2.2.1 x.2.2.2.2.2.2.2.2.2 H locs kc ks Q (F0 x.2.2.2.2.2.1 pc ls (.ref (g.1 + o) :: st.map (zval g)))) : zw x g nL kc ks Q σ pc L (zr o :: st) := by
  intro H locs ls hP hS hl
  have h1 := K H locs ls hP hS hl
  rw [← zrv_of (g := g) h] at h1
  exact h1
theorem z_getI (C : zC x g cc own ret nL fr lo) {idx ci k o : Nat} (hd : zd cc pc (.getfield idx) 3 q) (hw : zFI own idx ci k) (ho : zsh o = ci + 1) (K : zw x g nL kc ks Q σ q L (zi (σ o k) :: st)) : zw x g nL kc ks Q σ pc L (zr o :: st) := by
  obtain ⟨d, rfl⟩ := hd
  obtain ⟨Cn, T, N, h1, h2, h3, h4, h5, h6⟩ := hw
  obtain ⟨u1, -, -⟩ := zhu ci _ h1
  refine zw.ref (by omega) fun H locs ls hP hS hl => ?_
  obtain ⟨p0, hp⟩ := zP_at (g := g) (σ := σ) (o := o) (by omega)
  rw [zen_obj ho h2] at hp
  have h7 := zob_get (g := g) (f := σ o) (o := o) (zfs (ci + 1)) 0 k none h6
  rw [Nat.zero_add] at h7
  exact va_get C.1 C.2.1 C.2.2.2.2.2.1 u1 C.2.2.2.2.1 C.2.2.2.2.2.2.2.2.1 hP p0 hp h1 k h3 (C.2.2.2.2.2.1 _ h5) (fun y hy => by rw [h4] at hy; exact hy) h7 d (K H locs ls hP hS hl)
theorem z_getR (C : zC x g cc own ret nL fr lo) {idx ci k o d0 : Nat} (hd : zd cc pc (.getfield idx) 3 q) (hw : zFR own idx ci k d0) (ho : zsh o = ci + 1) (o' : Nat) (he : o + (d0 + 1) = o') (ho' : zsh o' ≠ 0) (K : zw x g nL kc ks Q σ q L (zr o' :: st)) : zw x g nL kc ks Q σ pc L (zr o :: st) := by
  obtain ⟨d, rfl⟩ := hd
  obtain ⟨Cn, T, N, h1, h2, h3, h4, h5, h6⟩ := hw
  obtain ⟨u1, -, -⟩ := zhu ci _ h1
  subst he
  refine zw.ref (by omega) fun H locs ls hP hS hl => ?_
  obtain ⟨p0, hp⟩ := zP_at (g := g) (σ := σ) (o := o) (by omega)
  rw [zen_obj ho h2] at hp
  have h7 := zob_get (g := g) (f := σ o) (o := o) (zfs (ci + 1)) 0 k _ h6
  rw [Nat.zero_add] at h7
  have h8 := K H locs ls hP hS hl
  change W _ _ _ _ _ _ _ _ _ _ _ _ _ _ _ (F0 _ _ _ (zrv g (o + (d0 + 1)) :: st.map (zval g))) at h8
  rw [zrv_of ho'] at h8
  exact va_get C.1 C.2.1 C.2.2.2.2.2.1 u1 C.2.2.2.2.1 C.2.2.2.2.2.2.2.2.1 hP p0 hp h1 k h3 (C.2.2.2.2.2.1 _ h5) (fun y hy => by rw [h4] at hy; exact hy) h7 d h8
theorem z_getD (C : zC x g cc own ret nL fr lo) {idx ci k o : Nat} (hd : zd cc pc (.getfield idx) 3 q) (hw : zFD own idx ci k) (ho : zsh o = ci + 1) (K : zw x g nL kc ks Q σ q L (zr (σ o k).toNatClampNeg :: st)) : zw x g nL kc ks Q σ pc L (zr o :: st) := by
  obtain ⟨d, rfl⟩ := hd
  obtain ⟨Cn, T, N, h1, h2, h3, h4, h5, h6⟩ := hw
  obtain ⟨u1, -, -⟩ := zhu ci _ h1
  refine zw.ref (by omega) fun H locs ls hP hS hl => ?_
  obtain ⟨p0, hp⟩ := zP_at (g := g) (σ := σ) (o := o) (by omega)
  rw [zen_obj ho h2] at hp
  have h7 := zob_get (g := g) (f := σ o) (o := o) (zfs (ci + 1)) 0 k _ h6
  rw [Nat.zero_add] at h7
  exact va_get C.1 C.2.1 C.2.2.2.2.2.1 u1 C.2.2.2.2.1 C.2.2.2.2.2.2.2.2.1 hP p0 hp h1 k h3 (C.2.2.2.2.2.1 _ h5) (fun y hy => by rw [h4] at hy; exact hy) h7 d (K H locs ls hP hS hl)
theorem z_put (C : zC x g cc own ret nL fr lo) {idx ci k o : Nat} {v : Int32} {w : Value} {dd : Option Nat} {ty : FieldType} (hd : zd cc pc (.putfield idx) 3 q)
    {Cn : String} {T : u_T} {N : Nat} (h1 : zcl[ci]? = some (Cn, T, N)) (h2 : ci < 10) (h3 : k < N) (h4 : (T k).1 = Cn) (h5 : Cond.fieldLink own idx Cn (T k).2.1 (T k).2.2.1 ∈ lw_gd) (h6 : (zfs (ci + 1))[k]? = some dd)
    (hf : (T k).2.2.2 = false) (hty : parseFieldDescriptor (T k).2.2.1 = some ty) (hn : narrow ty w = w) (hfit : fits ty w = true) (hw : zfv g (upd (σ o) k v) o k dd = w) (ho : zsh o = ci + 1)
    (K : zw x g nL kc ks Q (zu σ o k v) q L st) {H : Heap} {locs : List Loc} {ls : Array Slot} (hP : zP g σ H) (hS : va_S (zA g) x.2.2.2.2.1.heap H locs) (hl : zlh g ls nL L) :
    W x.1 x.2.1 x.2.2.1 x.2.2.2.1 x.2.2.2.2.1 x.2.2.2.2.2.1 x.2.2.2.2.2.2.1 x.2.2.2.2.2.2.2.1 x.2.2.2.2.2.2.2.2.1 x.2.2.2.2.2.2.2.2.2 H locs kc ks Q (F0 x.2.2.2.2.2.1 pc ls (w :: .ref (g.1 + o) :: st.map (zval g))) := by
  obtain ⟨d, rfl⟩ := hd
  obtain ⟨u1, ⟨ty0, u2⟩, u3⟩ := zhu ci _ h1
  obtain ⟨p0, hp⟩ := zP_at (g := g) (σ := σ) (o := o) (by omega)
  have hp2 := hp
  rw [zen_obj ho h2] at hp
  refine va_put C.1 C.2.1 C.2.2.2.2.2.1 u1 ty0 u2 u3 C.2.2.2.2.1 C.2.2.2.2.2.2.2.2.1 hP (zD _) hS p0 hp h1 k h3 (C.2.2.2.2.2.1 _ h5) (fun y hy => by rw [h4] at hy; exact hy) hf hty hn hfit (by rw [zob_len]; exact (List.getElem?_eq_some_iff.mp h6).1) d fun H1 locs1 hP1 _ hS1 => ?_
  refine K H1 locs1 ls (zP_set (σ' := zu σ o k v) (by omega) hp2 ?_ (fun a ha => zu_ne ha) hP1) hS1 hl
  rw [zen_obj ho h2, show zu σ o k v o = upd (σ o) k v from zu_row, ← hw, zob_set h6]
theorem z_putI (C : zC x g cc own ret nL fr lo) {idx ci k o : Nat} {v : Int32} (hd : zd cc pc (.putfield idx) 3 q) (hw : zFI own idx ci k) (hty : zFty ci k .int) (ho : zsh o = ci + 1) {σ1 : ZS} (he : σ1 = zu σ o k v) (K : zw x g nL kc ks Q σ1 q L st) : zw x g nL kc ks Q σ pc L (zi v :: zr o :: st) := by
  subst he
  obtain ⟨Cn, T, N, h1, h2, h3, h4, h5, h6⟩ := hw
  obtain ⟨hf, hty⟩ := hty _ h1
  intro H locs ls hP hS hl
  show W _ _ _ _ _ _ _ _ _ _ _ _ _ _ _ (F0 _ _ _ (.int v :: zrv g o :: st.map (zval g)))
  rw [zrv_of (by omega)]
  exact z_put C (v := v) hd h1 h2 h3 h4 h5 h6 hf hty rfl rfl (by show Value.int (upd (σ o) k v k) = .int v; rw [pk_us]) ho K hP hS hl
theorem z_putZ (C : zC x g cc own ret nL fr lo) {idx ci k o : Nat} {v : Int32} (hd : zd cc pc (.putfield idx) 3 q) (hw : zFI own idx ci k) (hty : zFty ci k .boolean) (ho : zsh o = ci + 1) (hv : zbo v) {σ1 : ZS} (he : σ1 = zu σ o k v) (K : zw x g nL kc ks Q σ1 q L st) : zw x g nL kc ks Q σ pc L (zi v :: zr o :: st) := by
  subst he
  obtain ⟨Cn, T, N, h1, h2, h3, h4, h5, h6⟩ := hw
  obtain ⟨hf, hty⟩ := hty _ h1
  intro H locs ls hP hS hl
  show W _ _ _ _ _ _ _ _ _ _ _ _ _ _ _ (F0 _ _ _ (.int v :: zrv g o :: st.map (zval g)))
  rw [zrv_of (by omega)]
  exact z_put C (v := v) hd h1 h2 h3 h4 h5 h6 hf hty (zbo_n hv) (zbo_f hv) (by show Value.int (upd (σ o) k v k) = .int v; rw [pk_us]) ho K hP hS hl
theorem z_putD (C : zC x g cc own ret nL fr lo) {idx ci k o o1 : Nat} (hd : zd cc pc (.putfield idx) 3 q) (hw : zFD own idx ci k) (hty : zFty ci k (.array .int)) (ho : zsh o = ci + 1) (h1 : zsh o1 ≠ 0) {σ1 : ZS} (he : σ1 = zu σ o k (nI o1)) (K : zw x g nL kc ks Q σ1 q L st) : zw x g nL kc ks Q σ pc L (zr o1 :: zr o :: st) := by
  subst he
  have hlt := (zsh_lt h1).2
  obtain ⟨Cn, T, N, g1, g2, g3, g4, g5, g6⟩ := hw
  obtain ⟨hf, hty⟩ := hty _ g1
  intro H locs ls hP hS hl
  show W _ _ _ _ _ _ _ _ _ _ _ _ _ _ _ (F0 _ _ _ (zrv g o1 :: zrv g o :: st.map (zval g)))
  rw [zrv_of (o := o) (by omega)]
  refine z_put C (v := nI o1) hd g1 g2 g3 g4 g5 g6 hf hty ?_ ?_ ?_ ho K hP hS hl
  · rw [zrv_of h1]; rfl
  · rw [zrv_of h1]; rfl
  · show zrv g (upd (σ o) k (nI o1) k).toNatClampNeg = _
    rw [pk_us, nI_clamp (by omega)]
theorem z_iald (C : zC x g cc own ret nL fr lo) {o n : Nat} {i : Int32} (hd : zd cc pc .iaload 1 q) (ho : zsh o = 15) (hn : zln o = n) (hi : zin i n) (j : Nat) (hj : i.toNatClampNeg = j) (K : zw x g nL kc ks Q σ q L (zi (σ o j) :: st)) : zw x g nL kc ks Q σ pc L (zi i :: zr o :: st) := by
  subst hj
  obtain ⟨d, rfl⟩ := hd
  intro H locs ls hP hS hl
  show W _ _ _ _ _ _ _ _ _ _ _ _ _ _ _ (F0 _ _ _ (.int i :: zrv g o :: st.map (zval g)))
  rw [zrv_of (by omega)]
  obtain ⟨p0, hp⟩ := zP_at (g := g) (σ := σ) (o := o) (by omega)
  rw [zen_arr ho hn] at hp
  exact va_iald C.1 C.2.1 C.2.2.2.2.2.2.2.2.1 hP p0 0 hp rfl (zin_vp hi) d (K H locs ls hP hS hl)
theorem z_iast (C : zC x g cc own ret nL fr lo) {o n : Nat} {i v : Int32} (hd : zd cc pc .iastore 1 q) (ho : zsh o = 15) (hn : zln o = n) (hi : zin i n) {j : Nat} (hj : i.toNatClampNeg = j) {σ1 : ZS} (he : σ1 = zu σ o j v) (K : zw x g nL kc ks Q σ1 q L st) : zw x g nL kc ks Q σ pc L (zi v :: zi i :: zr o :: st) := by
  subst hj; subst he
  obtain ⟨d, rfl⟩ := hd
  intro H locs ls hP hS hl
  show W _ _ _ _ _ _ _ _ _ _ _ _ _ _ _ (F0 _ _ _ (.int v :: .int i :: zrv g o :: st.map (zval g)))
  rw [zrv_of (by omega)]
  obtain ⟨p0, hp⟩ := zP_at (g := g) (σ := σ) (o := o) (by omega)
  have hp2 := hp
  rw [zen_arr ho hn] at hp
  refine va_iast C.1 C.2.1 C.2.2.2.2.2.2.2.2.1 hP (zD _) hS p0 0 hp rfl (zin_vp hi) d fun H1 locs1 hP1 _ hS1 => ?_
  refine K H1 locs1 ls (zP_set (σ' := zu σ o i.toNatClampNeg v) (by omega) hp2 ?_ (fun a ha => zu_ne ha) hP1) hS1 hl
  rw [zen_arr ho hn]
  exact congrArg (fun f => (Sum.inl (g.2.2.1 0, n, .inl f) : va_E)) zu_row
theorem z_alen (C : zC x g cc own ret nL fr lo) {o n : Nat} (v : Int32) (hd : zd cc pc .arraylength 1 q) (ho : zsh o = 15) (hn : zln o = n) (hv : Int32.ofNat n = v) (K : zw x g nL kc ks Q σ q L (zi v :: st)) : zw x g nL kc ks Q σ pc L (zr o :: st) := by
  obtain ⟨d, rfl⟩ := hd
  refine zw.ref (by omega) fun H locs ls hP hS hl => ?_
  obtain ⟨p0, hp⟩ := zP_at (g := g) (σ := σ) (o := o) (by omega)
  rw [zen_arr ho hn] at hp
  exact va_alen C.1 C.2.1 C.2.2.2.2.2.2.2.2.1 hP p0 0 hp rfl hv d (K H locs ls hP hS hl)
theorem ztys_at (g : ZG) {κ : Nat} (h1 : 11 ≤ κ) (h2 : κ < 15) : (ztys g)[κ - 10]? = some (g.2.2.1 (κ - 10), .object (zrc κ)) := by
  match κ, h1, h2 with
  | 11, _, _ => rfl
  | 12, _, _ => rfl
  | 13, _, _ => rfl
  | 14, _, _ => rfl
theorem z_alenR (C : zC x g cc own ret nL fr lo) {o κ : Nat} (v : Int32) (hd : zd cc pc .arraylength 1 q) (ho : zsh o = κ) (h1 : 11 ≤ κ) (h2 : κ < 15) (hv : Int32.ofNat (zrn κ) = v) (K : zw x g nL kc ks Q σ q L (zi v :: st)) : zw x g nL kc ks Q σ pc L (zr o :: st) := by
  obtain ⟨d, rfl⟩ := hd
  refine zw.ref (by omega) fun H locs ls hP hS hl => ?_
  obtain ⟨p0, hp⟩ := zP_at (g := g) (σ := σ) (o := o) (by omega)
  rw [zen_ref ho h1 h2] at hp
  exact va_alen C.1 C.2.1 C.2.2.2.2.2.2.2.2.1 hP p0 (κ - 10) hp (ztys_at g h1 h2) hv d (K H locs ls hP hS hl)
theorem z_aald (C : zC x g cc own ret nL fr lo) {o κ : Nat} {i : Int32} (hd : zd cc pc .aaload 1 q) (ho : zsh o = κ) (h1 : 11 ≤ κ) (h2 : κ < 15) (hi : zin i (zrn κ)) (o' : Nat) (he : o + zrd κ + zrs κ * i.toNatClampNeg = o') (ho' : zsh o' ≠ 0) (K : zw x g nL kc ks Q σ q L (zr o' :: st)) : zw x g nL kc ks Q σ pc L (zi i :: zr o :: st) := by
  obtain ⟨d, rfl⟩ := hd
  subst he
  intro H locs ls hP hS hl
  show W _ _ _ _ _ _ _ _ _ _ _ _ _ _ _ (F0 _ _ _ (.int i :: zrv g o :: st.map (zval g)))
  rw [zrv_of (by omega)]
  obtain ⟨p0, hp⟩ := zP_at (g := g) (σ := σ) (o := o) (by omega)
  rw [zen_ref ho h1 h2] at hp
  have h8 := K H locs ls hP hS hl
  change W _ _ _ _ _ _ _ _ _ _ _ _ _ _ _ (F0 _ _ _ (zrv g (o + zrd κ + zrs κ * i.toNatClampNeg) :: st.map (zval g))) at h8
  rw [zrv_of ho'] at h8
  exact va_aldq C.1 C.2.1 C.2.2.2.2.2.2.2.2.1 hP p0 (κ - 10) hp (ztys_at g h1 h2) (zin_vp hi) d h8
/-- the static rows: place 1000 KIND_ABOVE, 1001 BODIES -/
theorem z_gets0 (C : zC x g cc own ret nL fr lo) {idx : Nat} {host : String} (hd : zd cc pc (.getstatic idx) 3 q) (hw : Cond.fieldLinkNest own idx "GlassTax" "KIND_ABOVE" "[I" host ∈ lw_tbl) (K : zw x g nL kc ks Q σ q L (zr 1000 :: st)) : zw x g nL kc ks Q σ pc L st := by
  obtain ⟨d, rfl⟩ := hd
  exact fun H locs ls hP hS hl => va_getsN C.1 C.2.1 C.2.2.2.2.2.2.2.2.2.1.1.1 hS C.2.2.2.2.1 (va_Nw.use rfl (C.2.2.2.2.2.2.2.2.2.2.1 _ hw rfl)) (fun _ h => h) d (K H locs ls hP hS hl)
theorem z_gets1 (C : zC x g cc own ret nL fr lo) {idx : Nat} (hd : zd cc pc (.getstatic idx) 3 q) (hw : Cond.fieldLink own idx "GlassTax$Voices" "BODIES" "[I" ∈ lw_gd) (K : zw x g nL kc ks Q σ q L (zr 1001 :: st)) : zw x g nL kc ks Q σ pc L st := by
  obtain ⟨d, rfl⟩ := hd
  exact fun H locs ls hP hS hl => va_gets C.1 C.2.1 C.2.2.2.2.2.2.2.2.2.1.2.1.1 hS C.2.2.2.2.1 (C.2.2.2.2.2.1 _ hw) (fun _ h => h) d (K H locs ls hP hS hl)
theorem z_iald0 (C : zC x g cc own ret nL fr lo) {i : Int32} (hd : zd cc pc .iaload 1 q) (hi : zin i 7) (K : zw x g nL kc ks Q σ q L (zi (zKA.getD i.toNatClampNeg 0) :: st)) : zw x g nL kc ks Q σ pc L (zi i :: zr 1000 :: st) := by
  obtain ⟨d, rfl⟩ := hd
  exact fun H locs ls hP hS hl => va_ti C.1 C.2.1 C.2.2.2.2.2.2.2.2.2.1.1.2 hS (zin_vp hi) rfl d (K H locs ls hP hS hl)
theorem z_iald1 (C : zC x g cc own ret nL fr lo) {i : Int32} (hd : zd cc pc .iaload 1 q) (hi : zin i 28) (K : zw x g nL kc ks Q σ q L (zi (zBO.getD i.toNatClampNeg 0) :: st)) : zw x g nL kc ks Q σ pc L (zi i :: zr 1001 :: st) := by
  obtain ⟨d, rfl⟩ := hd
  exact fun H locs ls hP hS hl => va_ti C.1 C.2.1 C.2.2.2.2.2.2.2.2.2.1.2.1.2 hS (zin_vp hi) rfl d (K H locs ls hP hS hl)
theorem z_tsw (C : zC x g cc own ret nL fr lo) {dflt lw hw : Int} {offs : Array Int} {len d : Nat} {v : Int32} (l : List (Int32 × Nat)) (hd : decode cc pc = .ok (.tableswitch dflt lw hw offs, len)) (hdf : (pc : Int) + dflt = (d : Int)) (h1 : lw + offs.size = hw + 1) (h2 : ztb pc lw offs.toList l = true) (K : zw x g nL kc ks Q σ (zswt l d v) L st) : zw x g nL kc ks Q σ pc L (zi v :: st) := by
  intro H locs ls hP hS hl
  obtain ⟨i1, i2⟩ := ztb_in pc d v lw offs.toList l h2
  have hsz : offs.toList.length = offs.size := Array.length_toList
  by_cases hv : v.toInt < lw ∨ hw < v.toInt
  · have e := i2 (by omega)
    have K2 := K H locs ls hP hS hl
    rw [e] at K2
    exact lv_tableOut C.1 C.2.1 hd hv hdf K2
  · obtain ⟨o, ho⟩ : ∃ o, offs[(v.toInt - lw).toNat]? = some o := ⟨_, Array.getElem?_eq_getElem (by omega)⟩
    exact lv_tableIn C.1 C.2.1 hd (by omega) (by omega) ho (i1 o (by rw [Array.getElem?_toList]; exact ho) (by omega)) (K H locs ls hP hS hl)
theorem z_lsw (C : zC x g cc own ret nL fr lo) {dflt : Int} {ps : Array (Int × Int)} {len d : Nat} {v : Int32} (l : List (Int32 × Nat)) (hd : decode cc pc = .ok (.lookupswitch dflt ps, len)) (hp : (ps.toList.zip (ps.toList.drop 1)).all (fun (a, next) => a.1 < next.1) = true) (hdf : (pc : Int) + dflt = (d : Int)) (h2 : zlk pc ps.toList l = true) (K : zw x g nL kc ks Q σ (zswt l d v) L st) : zw x g nL kc ks Q σ pc L (zi v :: st) := by
  intro H locs ls hP hS hl
  exact lv_lookup C.1 C.2.1 hd hp rfl (zlk_in pc d dflt hdf v ps.toList l h2) (K H locs ls hP hS hl)
theorem z_swc {l : List (Int32 × Nat)} {k v : Int32} {t d : Nat} (kt : v = k → zw x g nL kc ks Q σ t L st) (kf : ¬ v = k → zw x g nL kc ks Q σ (zswt l d v) L st) : zw x g nL kc ks Q σ (zswt ((k, t) :: l) d v) L st := by
  by_cases h : v = k
  · rw [zswt, if_pos h]; exact kt h
  · rw [zswt, if_neg h]; exact kf h
/-! ends -/
theorem z_iret (C : zC x g cc own (some .int) nL fr lo) {r v : Int32} {σ' : ZS} (hd : zd cc pc .ireturn 1 q) (hf : some (v, σ) = some (r, σ')) : zw x g nL 0 0 (zMQ x g (some (zi r)) σ') σ pc L [zi v] := by
  cases hf
  obtain ⟨d, rfl⟩ := hd
  exact fun H locs ls hP hS hl => W.iret C.1 C.2.1 C.2.2.1 (fun t ht _ => ⟨rfl, by rw [ht]; exact hP, hS.F ht⟩) hS.2.2 d C.2.2.2.2.2.2.1
theorem z_zret (C : zC x g cc own (some .boolean) nL fr lo) {r v : Int32} {σ' : ZS} (hd : zd cc pc .ireturn 1 q) (hv : zbo v) (hf : some (v, σ) = some (r, σ')) : zw x g nL 0 0 (zMQ x g (some (zi r)) σ') σ pc L [zi v] := by
  cases hf
  obtain ⟨d, rfl⟩ := hd
  exact fun H locs ls hP hS hl => W.zret C.1 C.2.1 C.2.2.1 (zbo_n hv) (fun t ht _ => ⟨rfl, by rw [ht]; exact hP, hS.F ht⟩) hS.2.2 d C.2.2.2.2.2.2.1
theorem z_sret (C : zC x g cc own (some .byte) nL fr lo) {r v : Int32} {σ' : ZS} (hd : zd cc pc .ireturn 1 q) (hv : narrow .byte (.int v) = .int v) (hf : some (v, σ) = some (r, σ')) : zw x g nL 0 0 (zMQ x g (some (zi r)) σ') σ pc L [zi v] := by
  cases hf
  obtain ⟨d, rfl⟩ := hd
  exact fun H locs ls hP hS hl => W.zret C.1 C.2.1 C.2.2.1 hv (fun t ht _ => ⟨rfl, by rw [ht]; exact hP, hS.F ht⟩) hS.2.2 d C.2.2.2.2.2.2.1
theorem z_cret (C : zC x g cc own (some .char) nL fr lo) {r v : Int32} {σ' : ZS} (hd : zd cc pc .ireturn 1 q) (hv : narrow .char (.int v) = .int v) (hf : some (v, σ) = some (r, σ')) : zw x g nL 0 0 (zMQ x g (some (zi r)) σ') σ pc L [zi v] := by
  cases hf
  obtain ⟨d, rfl⟩ := hd
  exact fun H locs ls hP hS hl => W.zret C.1 C.2.1 C.2.2.1 hv (fun t ht _ => ⟨rfl, by rw [ht]; exact hP, hS.F ht⟩) hS.2.2 d C.2.2.2.2.2.2.1
theorem z_vret (C : zC x g cc own none nL fr lo) {u : Unit} {σ' : ZS} (hd : zd cc pc .return_ 1 q) (hf : some ((), σ) = some (u, σ')) : zw x g nL 0 0 (zMQ x g none σ') σ pc L [] := by
  cases hf
  obtain ⟨d, rfl⟩ := hd
  exact fun H locs ls hP hS hl => W.vret C.1 C.2.1 C.2.2.1 (fun t ht _ => ⟨rfl, by rw [ht]; exact hP, hS.F ht⟩) hS.2.2 d C.2.2.2.2.2.2.1
theorem z_aret {n : String} (C : zC x g cc own (some (.object n)) nL fr lo) {r v : Nat} {σ' : ZS} (hd : zd cc pc .areturn 1 q) (hf : some (v, σ) = some (r, σ')) : zw x g nL 0 0 (zMQ x g (some (zr r)) σ') σ pc L [zr v] := by
  cases hf
  obtain ⟨d, rfl⟩ := hd
  exact fun H locs ls hP hS hl => W.aret C.1 C.2.1 C.2.2.1 (Or.inl ⟨n, rfl⟩) (by
    show zrv g r = .null ∨ ∃ a, zrv g r = .ref a
    by_cases h : r = 0
    · subst h; exact Or.inl rfl
    · exact Or.inr (zrv_ref h)) (fun t ht _ => ⟨rfl, by rw [ht]; exact hP, hS.F ht⟩) hS.2.2 d C.2.2.2.2.2.2.1
/-! calls -/
theorem z_blind {as : List ZV} {σ0 : ZS} : FrameBlind (va_Pc (as.map (zval g)) (fun U => zP g σ0 U.heap ∧ zK g U)) := fun _ _ _ _ h => ⟨h.1, h.2.1, h.2.2.blind⟩
theorem z_ran {v : Option ZV} {σ1 : ZS} {st0 : List Value} {rest : List ZV} {H : Heap} {locs : List Loc} {ls : Array Slot} {a : Array Value} (hS : va_S (zA g) x.2.2.2.2.1.heap H locs) (hl : zlh g ls nL L)
    (hr : va_Run x.1 x.2.1 x.2.2.1 x.2.2.2.1 x.2.2.2.2.1 x.2.2.2.2.2.1 x.2.2.2.2.2.2.1 x.2.2.2.2.2.2.2.1 x.2.2.2.2.2.2.2.2.1 x.2.2.2.2.2.2.2.2.2 H locs kc ks 0 0 (F0 x.2.2.2.2.2.1 pc ls st0) (rest.map (zval g)) (zQ g v σ1 a) (zA g))
    (K : zw x g nL kc ks Q σ1 (pc + 3) L (v.toList ++ rest)) : W x.1 x.2.1 x.2.2.1 x.2.2.2.1 x.2.2.2.2.1 x.2.2.2.2.2.1 x.2.2.2.2.2.2.1 x.2.2.2.2.2.2.2.1 x.2.2.2.2.2.2.2.2.1 x.2.2.2.2.2.2.2.2.2 H locs kc ks Q (F0 x.2.2.2.2.2.1 pc ls st0) := by
  intro T hT X
  obtain ⟨v', st₀, t, T', L', h0, X', hL, e1, e2, ⟨hv, hP1, hz, hk⟩, stp⟩ := hr T hT X
  cases hv
  rw [h0] at hz hk
  have hS1 : va_S (zA g) x.2.2.2.2.1.heap T'.heap (locs ++ L') := ⟨Nat.le_trans hS.1 (by rw [e1]; exact hz), fun q h1 h2 => by rw [e1, hk q (Nat.lt_of_lt_of_le h1 hS.1) h2]; exact hS.2.1 q h1 h2, fun q hq => by
      rcases List.mem_append.mp hq with h | h
      · exact hS.2.2 q h
      · exact hL q h⟩
  obtain ⟨t2, a1, b1⟩ := K T'.heap (locs ++ L') ls (by rw [e1]; exact hP1) hS1 hl T' rfl X'
  refine ⟨t2, stp t2 ?_, b1⟩
  have e : (v.map (zval g)).toList ++ rest.map (zval g) = (v.toList ++ rest).map (zval g) := by
    rw [List.map_append]
    cases v <;> rfl
  rw [e]
  exact a1
theorem z_room {rest : List ZV} (h : (rest.map fun v => if zlong (some v) = true then 2 else 1).sum ≤ 8) : ((rest.map (zval g)).map fun v => v.category).sum ≤ 8 := by
  have e : (rest.map (zval g)).map (fun v => v.category) = rest.map fun v => if zlong (some v) = true then 2 else 1 := by
    rw [List.map_map]
    exact List.map_congr_left fun v _ => zval_cat v
  rw [e]; exact h
theorem z_callV (C : zC x g cc own ret nL fr lo) {y : MethodName} {cc' : ByteArray} {nL' : Nat} {ret' : Option FieldType} {fr' lo' idx n ci o : Nat} {as : List ZV} {v : Option ZV} {σ1 : ZS} {st' : List ZV} (hd : zd cc pc (.invokevirtual idx) 3 q) (hw : Cond.methodLink own idx y ∈ lw_gd) (hy : zYV y cc' nL' ret' n) (hT : zT x.2.1 g y cc' nL' ret' fr' lo' (zr o :: as) σ v σ1)
    (hc : zYC y ci) (ho : zsh o = ci + 1) (hn : as.length = n) (hst : as.reverse ++ zr o :: st = st') (hrm : (st.map fun v => if zlong (some v) = true then 2 else 1).sum ≤ 8) (hR : fr' + 1 ≤ fr ∧ 8 + (nL' + 11) + lo' ≤ lo) (hk : kc ≤ x.2.2.2.1.cells ∧ ks ≤ x.2.2.2.1.slots)
    (K : zw x g nL kc ks Q σ1 q L (v.toList ++ st)) : zw x g nL kc ks Q σ pc L st' := by
  obtain ⟨d, rfl⟩ := hd
  subst hst
  obtain ⟨h2, T, N, hc⟩ := hc
  obtain ⟨⟨y1, y2, y3, y4⟩, y5, y6⟩ := hy
  intro H locs ls hP hS hl
  have hts := C.2.2.2.2.2.1
  refine z_ran hS hl (va_runV (b := g.1 + o) (As := as.map (zval g)) (n := n) ⟨C.1, C.2.1, C.2.2.2.1, C.2.2.2.2.1, hts⟩ hT ⟨⟨rfl, rfl, Nat.le_trans hR.1 C.2.2.2.2.2.2.2.1.1, Nat.le_trans hR.2 C.2.2.2.2.2.2.2.1.2, pay_in hts (fun w hw => by
      rcases List.mem_cons.mp hw with rfl | h
      · exact lw_gdIn _ y1
      · exact lw_gdIn _ h), List.mem_cons_self, hts _ y1, hts _ y2, y3, zY.params ⟨y1, y2, y3, y4⟩, hts _ hw⟩, hts _ y5, hts _ y6⟩ ⟨z_blind, ?_, fun U hU hW => ⟨by
        show (Value.ref (g.1 + o) :: as.map (zval g)).toArray = (zrv g o :: as.map (zval g)).toArray
        rw [zrv_of (by omega)], by rw [hU]; exact hP, C.2.2.2.2.2.2.2.2.go hS hU hW⟩⟩ rfl (by rw [List.length_map]; exact hn) hl.1 ?_ (lv_room (z_room hrm)) d hk) K
  · obtain ⟨p0, hp⟩ := zP_at (g := g) (σ := σ) (o := o) (by omega)
    rw [zen_obj ho h2] at hp
    exact va_recv C.2.2.2.2.2.2.2.2.1 hP hc hp
  · show (as.reverse ++ zr o :: st).map (zval g) = _
    rw [List.map_append, List.map_reverse, List.map_cons]
    show _ ++ zrv g o :: _ = _
    rw [zrv_of (by omega)]
theorem z_callS (C : zC x g cc own ret nL fr lo) {y : MethodName} {cc' : ByteArray} {nL' : Nat} {ret' : Option FieldType} {fr' lo' idx n : Nat} {as : List ZV} {v : Option ZV} {σ1 : ZS} {st' : List ZV} (hd : zd cc pc (.invokestatic idx) 3 q) (hw : Cond.methodLink own idx y ∈ lw_gd) (hy : zYS y cc' nL' ret' n) (hT : zT x.2.1 g y cc' nL' ret' fr' lo' as σ v σ1)
    (hn : as.length = n) (hst : as.reverse ++ st = st') (hrm : (st.map fun v => if zlong (some v) = true then 2 else 1).sum ≤ 8) (hR : fr' + 1 ≤ fr ∧ 8 + (nL' + 11) + lo' ≤ lo) (hk : kc ≤ x.2.2.2.1.cells ∧ ks ≤ x.2.2.2.1.slots)
    (K : zw x g nL kc ks Q σ1 q L (v.toList ++ st)) : zw x g nL kc ks Q σ pc L st' := by
  obtain ⟨d, rfl⟩ := hd
  subst hst
  obtain ⟨⟨y1, y2, y3, y4⟩, y5⟩ := hy
  intro H locs ls hP hS hl
  have hts := C.2.2.2.2.2.1
  refine z_ran hS hl (va_runS (As := as.map (zval g)) (n := n) ⟨C.1, C.2.1, C.2.2.2.1, C.2.2.2.2.1, hts⟩ hT ⟨⟨rfl, rfl, Nat.le_trans hR.1 C.2.2.2.2.2.2.2.1.1, Nat.le_trans hR.2 C.2.2.2.2.2.2.2.1.2, pay_in hts (fun w hw => by
      rcases List.mem_cons.mp hw with rfl | h
      · exact lw_gdIn _ y1
      · exact lw_gdIn _ h), List.mem_cons_self, hts _ y1, hts _ y2, y3, zY.params ⟨y1, y2, y3, y4⟩, hts _ hw⟩, hts _ y5⟩ ⟨z_blind, fun U hU hW => ⟨rfl, by rw [hU]; exact hP, C.2.2.2.2.2.2.2.2.go hS hU hW⟩⟩ rfl (by rw [List.length_map]; exact hn) hl.1 ?_ (lv_room (z_room hrm)) d hk) K
  show (as.reverse ++ st).map (zval g) = _
  rw [List.map_append, List.map_reverse]
theorem z_callSN (C : zC x g cc own ret nL fr lo) {y : MethodName} {host : String} {cc' : ByteArray} {nL' : Nat} {ret' : Option FieldType} {fr' lo' idx n : Nat} {as : List ZV} {v : Option ZV} {σ1 : ZS} {st' : List ZV} (hd : zd cc pc (.invokestatic idx) 3 q) (hw : Cond.methodLinkNest own idx y host ∈ lw_tbl) (hy : zYS y cc' nL' ret' n) (hT : zT x.2.1 g y cc' nL' ret' fr' lo' as σ v σ1)
    (hn : as.length = n) (hst : as.reverse ++ st = st') (hrm : (st.map fun v => if zlong (some v) = true then 2 else 1).sum ≤ 8) (hR : fr' + 1 ≤ fr ∧ 8 + (nL' + 11) + lo' ≤ lo) (hk : kc ≤ x.2.2.2.1.cells ∧ ks ≤ x.2.2.2.1.slots)
    (K : zw x g nL kc ks Q σ1 q L (v.toList ++ st)) : zw x g nL kc ks Q σ pc L st' := by
  obtain ⟨d, rfl⟩ := hd
  subst hst
  obtain ⟨⟨y1, y2, y3, y4⟩, y5⟩ := hy
  intro H locs ls hP hS hl
  have hts := C.2.2.2.2.2.1
  refine z_ran hS hl (va_runSN (As := as.map (zval g)) (n := n) ⟨C.1, C.2.1, C.2.2.2.1, C.2.2.2.2.1, hts⟩ hT ⟨⟨⟨rfl, rfl, Nat.le_trans hR.1 C.2.2.2.2.2.2.2.1.1, Nat.le_trans hR.2 C.2.2.2.2.2.2.2.1.2, pay_in hts (fun w hw => by
      rcases List.mem_cons.mp hw with rfl | h
      · exact lw_gdIn _ y1
      · exact lw_gdIn _ h), List.mem_cons_self⟩, hts _ y1, hts _ y2, y3, zY.params ⟨y1, y2, y3, y4⟩, va_Nw.use rfl (C.2.2.2.2.2.2.2.2.2.2.1 _ hw rfl)⟩, hts _ y5, trivial⟩ ⟨z_blind, fun U hU hW => ⟨rfl, by rw [hU]; exact hP, C.2.2.2.2.2.2.2.2.go hS hU hW⟩⟩ rfl (by rw [List.length_map]; exact hn) hl.1 ?_ (lv_room (z_room hrm)) d hk) K
  show (as.reverse ++ st).map (zval g) = _
  rw [List.map_append, List.map_reverse]
/-! the JDK's -/
theorem z_max (C : zC x g cc own ret nL fr lo) {idx : Nat} {a b : Int32} (hd : zd cc pc (.invokestatic idx) 3 q) (hw : Cond.methodLink own idx Lib.Math.max.name ∈ lw_gd) (hrm : (st.map fun v => if zlong (some v) = true then 2 else 1).sum ≤ 8) (hR : 1 ≤ fr ∧ 21 ≤ lo) (hk : kc ≤ x.2.2.2.1.cells ∧ ks ≤ x.2.2.2.1.slots) (hmx : Cond.static Lib.Math.max.name ∈ lw_gd ∧ Cond.initialized "java/lang/Math" ∈ lw_gd ∧ Cond.code Lib.Math.max.name Lib.Math.max.code 2 (some .int) ∈ lw_gd)
    (K : zw x g nL kc ks Q σ q L (zi (if a < b then b else a) :: st)) : zw x g nL kc ks Q σ pc L (zi b :: zi a :: st) := by
  obtain ⟨d, rfl⟩ := hd
  have hts := C.2.2.2.2.2.1
  have hrm2 := z_room (g := g) hrm
  exact fun H locs ls hP hS hl => va_mmax C.1 C.2.1 (C.2.2.2.1.trans hl.1.symm) C.2.2.2.2.1 (hts _ hw) (hts _ hmx.1) (hts _ hmx.2.1) (hts _ hmx.2.2) (Nat.le_trans hR.1 C.2.2.2.2.2.2.2.1.1) (Nat.le_trans (by omega) C.2.2.2.2.2.2.2.1.2) hk.1 hk.2 d (K H locs ls hP hS hl)
theorem z_min (C : zC x g cc own ret nL fr lo) {idx : Nat} {a b : Int32} (hd : zd cc pc (.invokestatic idx) 3 q) (hw : Cond.methodLink own idx Lib.Math.min.name ∈ lw_gd) (hrm : (st.map fun v => if zlong (some v) = true then 2 else 1).sum ≤ 8) (hR : 1 ≤ fr ∧ 21 ≤ lo) (hk : kc ≤ x.2.2.2.1.cells ∧ ks ≤ x.2.2.2.1.slots) (hmx : Cond.static Lib.Math.min.name ∈ lw_gd ∧ Cond.initialized "java/lang/Math" ∈ lw_gd ∧ Cond.code Lib.Math.min.name Lib.Math.min.code 2 (some .int) ∈ lw_gd)
    (K : zw x g nL kc ks Q σ q L (zi (if b < a then b else a) :: st)) : zw x g nL kc ks Q σ pc L (zi b :: zi a :: st) := by
  obtain ⟨d, rfl⟩ := hd
  have hts := C.2.2.2.2.2.1
  have hrm2 := z_room (g := g) hrm
  exact fun H locs ls hP hS hl => va_mmin C.1 C.2.1 (C.2.2.2.1.trans hl.1.symm) C.2.2.2.2.1 (hts _ hw) (hts _ hmx.1) (hts _ hmx.2.1) (hts _ hmx.2.2) (Nat.le_trans hR.1 C.2.2.2.2.2.2.2.1.1) (Nat.le_trans (by omega) C.2.2.2.2.2.2.2.1.2) hk.1 hk.2 d (K H locs ls hP hS hl)
theorem z_copy (C : zC x g cc own ret nL fr lo) {idx o0 o1 n0 n1 : Nat} {sp dp n : Int32} (hd : zd cc pc (.invokestatic idx) 3 q) (hw : Cond.methodLink own idx arraycopyName ∈ lw_gd) (hmx : Cond.native arraycopyName ∈ lw_gd ∧ Cond.static arraycopyName ∈ lw_gd ∧ Cond.initialized "java/lang/System" ∈ lw_gd) (ho0 : zsh o0 = 15) (hn0 : zln o0 = n0) (ho1 : zsh o1 = 15) (hn1 : zln o1 = n1)
    (h1 : 0 ≤ sp.toInt ∧ 0 ≤ dp.toInt ∧ 0 ≤ n.toInt ∧ sp.toInt + n.toInt ≤ n0 ∧ dp.toInt + n.toInt ≤ n1) (hR : 1 ≤ fr ∧ 40 ≤ lo) (hrm : (st.map fun v => if zlong (some v) = true then 2 else 1).sum ≤ 8)
    {σ1 : ZS} (he : σ1 = zurow σ o1 (va_cpy (σ o0) (σ o1) sp.toNatClampNeg dp.toNatClampNeg n.toNatClampNeg)) (K : zw x g nL kc ks Q σ1 q L st) : zw x g nL kc ks Q σ pc L (zi n :: zi dp :: zr o1 :: zi sp :: zr o0 :: st) := by
  subst he
  obtain ⟨d, rfl⟩ := hd
  have hts := C.2.2.2.2.2.1
  have hrm2 := z_room (g := g) hrm
  intro H locs ls hP hS hl
  show W _ _ _ _ _ _ _ _ _ _ _ _ _ _ _ (F0 _ _ _ (.int n :: .int dp :: zrv g o1 :: .int sp :: zrv g o0 :: st.map (zval g)))
  rw [zrv_of (o := o0) (by omega), zrv_of (o := o1) (by omega)]
  obtain ⟨p0, hp0⟩ := zP_at (g := g) (σ := σ) (o := o0) (by omega)
  obtain ⟨p1, hp1⟩ := zP_at (g := g) (σ := σ) (o := o1) (by omega)
  have hp2 := hp1
  rw [zen_arr ho0 hn0] at hp0
  rw [zen_arr ho1 hn1] at hp1
  have neg : ∀ z : Int32, 0 ≤ z.toInt → ¬ z < 0 := fun z hz h => by
    have := Int32.lt_iff_toInt_lt.mp h
    simp at this
    omega
  have cl : ∀ z : Int32, z.toNatClampNeg = z.toInt.toNat := fun z => rfl
  refine va_copyi C.1 C.2.1 (C.2.2.2.1.trans hl.1.symm) C.2.2.2.2.1 (hts _ hw) (hts _ hmx.1) (hts _ hmx.2.1) (hts _ hmx.2.2) C.2.2.2.2.2.2.2.2.1 hP (zD _) hS p0 p1 0 0 hp0 hp1 rfl rfl rfl (neg _ h1.1) (neg _ h1.2.1) (neg _ h1.2.2.1) (by rw [cl, cl]; omega) (by rw [cl, cl]; omega) (fun _ _ => rfl) (Nat.le_trans hR.1 C.2.2.2.2.2.2.2.1.1) (Nat.le_trans (Nat.le_trans (Nat.add_le_add_right hrm2 _) (Nat.le_trans (by decide) hR.2)) C.2.2.2.2.2.2.2.1.2) d fun H1 locs1 hP1 _ hS1 => ?_
  refine K H1 locs1 ls (zP_set (σ' := zurow σ o1 (va_cpy (σ o0) (σ o1) sp.toNatClampNeg dp.toNatClampNeg n.toNatClampNeg)) (by omega) hp2 ?_ (fun a ha => zu_ne ha) hP1) hS1 hl
  rw [zen_arr ho1 hn1]
  exact congrArg (fun f => (Sum.inl (g.2.2.1 0, n1, .inl f) : va_E)) zu_row
theorem z_callVi (C : zC x g cc own ret nL fr lo) {y : MethodName} {cc' : ByteArray} {nL' : Nat} {ret' : Option FieldType} {fr' lo' idx n ci o : Nat} {as : List ZV} {rr : Int32} {σ1 : ZS} {st' : List ZV} (hd : zd cc pc (.invokevirtual idx) 3 q) (hw : Cond.methodLink own idx y ∈ lw_gd) (hy : zYV y cc' nL' ret' n) (hT : zT x.2.1 g y cc' nL' ret' fr' lo' (zr o :: as) σ (some (zi rr)) σ1)
    (hc : zYC y ci) (ho : zsh o = ci + 1) (hn : as.length = n) (hst : as.reverse ++ zr o :: st = st') (hrm : (st.map fun v => if zlong (some v) = true then 2 else 1).sum ≤ 8) (hR : fr' + 1 ≤ fr ∧ 8 + (nL' + 11) + lo' ≤ lo) (hk : kc ≤ x.2.2.2.1.cells ∧ ks ≤ x.2.2.2.1.slots)
    (K : zw x g nL kc ks Q σ1 q L (zi rr :: st)) : zw x g nL kc ks Q σ pc L st' := z_callV (v := (some (zi rr))) C hd hw hy hT hc ho hn hst hrm hR hk K
theorem z_callVr (C : zC x g cc own ret nL fr lo) {y : MethodName} {cc' : ByteArray} {nL' : Nat} {ret' : Option FieldType} {fr' lo' idx n ci o : Nat} {as : List ZV} {rr : Nat} {σ1 : ZS} {st' : List ZV} (hd : zd cc pc (.invokevirtual idx) 3 q) (hw : Cond.methodLink own idx y ∈ lw_gd) (hy : zYV y cc' nL' ret' n) (hT : zT x.2.1 g y cc' nL' ret' fr' lo' (zr o :: as) σ (some (zr rr)) σ1)
    (hc : zYC y ci) (ho : zsh o = ci + 1) (hn : as.length = n) (hst : as.reverse ++ zr o :: st = st') (hrm : (st.map fun v => if zlong (some v) = true then 2 else 1).sum ≤ 8) (hR : fr' + 1 ≤ fr ∧ 8 + (nL' + 11) + lo' ≤ lo) (hk : kc ≤ x.2.2.2.1.cells ∧ ks ≤ x.2.2.2.1.slots)
    (K : zw x g nL kc ks Q σ1 q L (zr rr :: st)) : zw x g nL kc ks Q σ pc L st' := z_callV (v := (some (zr rr))) C hd hw hy hT hc ho hn hst hrm hR hk K
theorem z_callVv (C : zC x g cc own ret nL fr lo) {y : MethodName} {cc' : ByteArray} {nL' : Nat} {ret' : Option FieldType} {fr' lo' idx n ci o : Nat} {as : List ZV}  {σ1 : ZS} {st' : List ZV} (hd : zd cc pc (.invokevirtual idx) 3 q) (hw : Cond.methodLink own idx y ∈ lw_gd) (hy : zYV y cc' nL' ret' n) (hT : zT x.2.1 g y cc' nL' ret' fr' lo' (zr o :: as) σ none σ1)
    (hc : zYC y ci) (ho : zsh o = ci + 1) (hn : as.length = n) (hst : as.reverse ++ zr o :: st = st') (hrm : (st.map fun v => if zlong (some v) = true then 2 else 1).sum ≤ 8) (hR : fr' + 1 ≤ fr ∧ 8 + (nL' + 11) + lo' ≤ lo) (hk : kc ≤ x.2.2.2.1.cells ∧ ks ≤ x.2.2.2.1.slots)
    (K : zw x g nL kc ks Q σ1 q L (st)) : zw x g nL kc ks Q σ pc L st' := z_callV (v := none) C hd hw hy hT hc ho hn hst hrm hR hk K
theorem z_callSi (C : zC x g cc own ret nL fr lo) {y : MethodName} {cc' : ByteArray} {nL' : Nat} {ret' : Option FieldType} {fr' lo' idx n : Nat} {as : List ZV} {rr : Int32} {σ1 : ZS} {st' : List ZV} (hd : zd cc pc (.invokestatic idx) 3 q) (hw : Cond.methodLink own idx y ∈ lw_gd) (hy : zYS y cc' nL' ret' n) (hT : zT x.2.1 g y cc' nL' ret' fr' lo' as σ (some (zi rr)) σ1)
    (hn : as.length = n) (hst : as.reverse ++ st = st') (hrm : (st.map fun v => if zlong (some v) = true then 2 else 1).sum ≤ 8) (hR : fr' + 1 ≤ fr ∧ 8 + (nL' + 11) + lo' ≤ lo) (hk : kc ≤ x.2.2.2.1.cells ∧ ks ≤ x.2.2.2.1.slots)
    (K : zw x g nL kc ks Q σ1 q L (zi rr :: st)) : zw x g nL kc ks Q σ pc L st' := z_callS (v := (some (zi rr))) C hd hw hy hT hn hst hrm hR hk K
theorem z_callSr (C : zC x g cc own ret nL fr lo) {y : MethodName} {cc' : ByteArray} {nL' : Nat} {ret' : Option FieldType} {fr' lo' idx n : Nat} {as : List ZV} {rr : Nat} {σ1 : ZS} {st' : List ZV} (hd : zd cc pc (.invokestatic idx) 3 q) (hw : Cond.methodLink own idx y ∈ lw_gd) (hy : zYS y cc' nL' ret' n) (hT : zT x.2.1 g y cc' nL' ret' fr' lo' as σ (some (zr rr)) σ1)
    (hn : as.length = n) (hst : as.reverse ++ st = st') (hrm : (st.map fun v => if zlong (some v) = true then 2 else 1).sum ≤ 8) (hR : fr' + 1 ≤ fr ∧ 8 + (nL' + 11) + lo' ≤ lo) (hk : kc ≤ x.2.2.2.1.cells ∧ ks ≤ x.2.2.2.1.slots)
    (K : zw x g nL kc ks Q σ1 q L (zr rr :: st)) : zw x g nL kc ks Q σ pc L st' := z_callS (v := (some (zr rr))) C hd hw hy hT hn hst hrm hR hk K
theorem z_callSv (C : zC x g cc own ret nL fr lo) {y : MethodName} {cc' : ByteArray} {nL' : Nat} {ret' : Option FieldType} {fr' lo' idx n : Nat} {as : List ZV}  {σ1 : ZS} {st' : List ZV} (hd : zd cc pc (.invokestatic idx) 3 q) (hw : Cond.methodLink own idx y ∈ lw_gd) (hy : zYS y cc' nL' ret' n) (hT : zT x.2.1 g y cc' nL' ret' fr' lo' as σ none σ1)
    (hn : as.length = n) (hst : as.reverse ++ st = st') (hrm : (st.map fun v => if zlong (some v) = true then 2 else 1).sum ≤ 8) (hR : fr' + 1 ≤ fr ∧ 8 + (nL' + 11) + lo' ≤ lo) (hk : kc ≤ x.2.2.2.1.cells ∧ ks ≤ x.2.2.2.1.slots)
    (K : zw x g nL kc ks Q σ1 q L (st)) : zw x g nL kc ks Q σ pc L st' := z_callS (v := none) C hd hw hy hT hn hst hrm hR hk K
theorem z_callSNi (C : zC x g cc own ret nL fr lo) {y : MethodName} {host : String} {cc' : ByteArray} {nL' : Nat} {ret' : Option FieldType} {fr' lo' idx n : Nat} {as : List ZV} {rr : Int32} {σ1 : ZS} {st' : List ZV} (hd : zd cc pc (.invokestatic idx) 3 q) (hw : Cond.methodLinkNest own idx y host ∈ lw_tbl) (hy : zYS y cc' nL' ret' n) (hT : zT x.2.1 g y cc' nL' ret' fr' lo' as σ (some (zi rr)) σ1)
    (hn : as.length = n) (hst : as.reverse ++ st = st') (hrm : (st.map fun v => if zlong (some v) = true then 2 else 1).sum ≤ 8) (hR : fr' + 1 ≤ fr ∧ 8 + (nL' + 11) + lo' ≤ lo) (hk : kc ≤ x.2.2.2.1.cells ∧ ks ≤ x.2.2.2.1.slots)
    (K : zw x g nL kc ks Q σ1 q L (zi rr :: st)) : zw x g nL kc ks Q σ pc L st' := z_callSN (v := (some (zi rr))) C hd hw hy hT hn hst hrm hR hk K
theorem z_callSNr (C : zC x g cc own ret nL fr lo) {y : MethodName} {host : String} {cc' : ByteArray} {nL' : Nat} {ret' : Option FieldType} {fr' lo' idx n : Nat} {as : List ZV} {rr : Nat} {σ1 : ZS} {st' : List ZV} (hd : zd cc pc (.invokestatic idx) 3 q) (hw : Cond.methodLinkNest own idx y host ∈ lw_tbl) (hy : zYS y cc' nL' ret' n) (hT : zT x.2.1 g y cc' nL' ret' fr' lo' as σ (some (zr rr)) σ1)
    (hn : as.length = n) (hst : as.reverse ++ st = st') (hrm : (st.map fun v => if zlong (some v) = true then 2 else 1).sum ≤ 8) (hR : fr' + 1 ≤ fr ∧ 8 + (nL' + 11) + lo' ≤ lo) (hk : kc ≤ x.2.2.2.1.cells ∧ ks ≤ x.2.2.2.1.slots)
    (K : zw x g nL kc ks Q σ1 q L (zr rr :: st)) : zw x g nL kc ks Q σ pc L st' := z_callSN (v := (some (zr rr))) C hd hw hy hT hn hst hrm hR hk K
theorem z_callSNv (C : zC x g cc own ret nL fr lo) {y : MethodName} {host : String} {cc' : ByteArray} {nL' : Nat} {ret' : Option FieldType} {fr' lo' idx n : Nat} {as : List ZV}  {σ1 : ZS} {st' : List ZV} (hd : zd cc pc (.invokestatic idx) 3 q) (hw : Cond.methodLinkNest own idx y host ∈ lw_tbl) (hy : zYS y cc' nL' ret' n) (hT : zT x.2.1 g y cc' nL' ret' fr' lo' as σ none σ1)
    (hn : as.length = n) (hst : as.reverse ++ st = st') (hrm : (st.map fun v => if zlong (some v) = true then 2 else 1).sum ≤ 8) (hR : fr' + 1 ≤ fr ∧ 8 + (nL' + 11) + lo' ≤ lo) (hk : kc ≤ x.2.2.2.1.cells ∧ ks ≤ x.2.2.2.1.slots)
    (K : zw x g nL kc ks Q σ1 q L (st)) : zw x g nL kc ks Q σ pc L st' := z_callSN (v := none) C hd hw hy hT hn hst hrm hR hk K
theorem z_sw0 {v : Int32} {d : Nat} (K : zw x g nL kc ks Q σ d L st) : zw x g nL kc ks Q σ (zswt [] d v) L st := K
end
/-! the shallow functions' words -/
def zput {α : Type} (s : ZS) (k : ZS → α) : α := k s
def zbd {α β : Type} (m : Option (α × ZS)) (k : α → ZS → Option β) : Option β := match m with
  | none => none
  | some z => k z.1 z.2
theorem zpx {α : Type} {s : ZS} {k : ZS → α} {r : α} (h : zput s k = r) : ∃ s' : ZS, s' = s ∧ k s' = r := ⟨s, rfl, h⟩
theorem zbx {α β : Type} {m : Option (α × ZS)} {k : α → ZS → Option β} {r : β} (h : zbd m k = some r) : ∃ (a : α) (s' : ZS), m = some (a, s') ∧ k a s' = some r := by
  cases m with
  | none => cases h
  | some z => exact ⟨z.1, z.2, rfl, h⟩
theorem zgo {α : Type} {c : Prop} {_ : Decidable c} {m : Option α} {r : α} (h : (if c then m else none) = some r) : c ∧ m = some r := by
  by_cases hc : c
  · rw [if_pos hc] at h; exact ⟨hc, h⟩
  · rw [if_neg hc] at h; cases h
theorem zit {α : Type} {c : Prop} {_ : Decidable c} {a b r : α} (hc : c) (h : (if c then a else b) = r) : a = r := by
  rw [if_pos hc] at h; exact h
theorem zie {α : Type} {c : Prop} {_ : Decidable c} {a b r : α} (hc : ¬ c) (h : (if c then a else b) = r) : b = r := by
  rw [if_neg hc] at h; exact h
theorem zn0 {o κ : Nat} (h : zsh o = κ + 1) : zsh o ≠ 0 := by omega
/-! static rows, the one text -/
section
variable {x : ZX} {g : ZG} {cc : ByteArray} {own : String} {ret : Option FieldType} {nL fr lo kc ks : Nat} {Q : State → Prop} {σ : ZS} {pc q t : Nat} {L : List (Option ZV)} {st : List ZV}
theorem z_talen (C : zC x g cc own ret nL fr lo) {ty : FieldType} {t n : Nat} {f : Nat → Value} (hT : va_T ty t n f (zA g) x.2.2.2.2.1 x.2.2.2.2.1.heap) {v : Int32} (hv : Int32.ofNat n = v) {o : Nat} (ho : zrv g o = .ref t) (hd : zd cc pc .arraylength 1 q) (K : zw x g nL kc ks Q σ q L (zi v :: st)) : zw x g nL kc ks Q σ pc L (zr o :: st) := by
  obtain ⟨d, rfl⟩ := hd
  obtain ⟨cell, h1, h2, h3, h4, h5, h6, h7⟩ := hT
  intro H locs ls hP hS hl
  show W _ _ _ _ _ _ _ _ _ _ _ _ _ _ _ (F0 _ _ _ (zrv g o :: st.map (zval g)))
  rw [ho]
  exact W.alen (n := v) C.1 C.2.1 (by rw [hS.2.1 t (Array.getElem?_eq_some_iff.mp h1).1 h7]; exact h1) h2 (by rw [h5, hv]) rfl rfl d (K H locs ls hP hS hl)
theorem z_alen0 (C : zC x g cc own ret nL fr lo) (hd : zd cc pc .arraylength 1 q) (K : zw x g nL kc ks Q σ q L (zi 7 :: st)) : zw x g nL kc ks Q σ pc L (zr 1000 :: st) := z_talen C C.2.2.2.2.2.2.2.2.2.1.1.2 rfl rfl hd K
theorem z_alen1 (C : zC x g cc own ret nL fr lo) (hd : zd cc pc .arraylength 1 q) (K : zw x g nL kc ks Q σ q L (zi 28 :: st)) : zw x g nL kc ks Q σ pc L (zr 1001 :: st) := z_talen C C.2.2.2.2.2.2.2.2.2.1.2.1.2 rfl rfl hd K
theorem z_blen (C : zC x g cc own ret nL fr lo) (hd : zd cc pc .arraylength 1 q) (K : zw x g nL kc ks Q σ q L (zi 6 :: st)) : zw x g nL kc ks Q σ pc L (zr 1003 :: st) := z_talen C (C.2.2.2.2.2.2.2.2.2.1.2.2.1.1 0 (by decide)).2.2.2 rfl rfl hd K
theorem z_bald (C : zC x g cc own ret nL fr lo) {i : Int32} (hd : zd cc pc .baload 1 q) (hi : zin i 6) (K : zw x g nL kc ks Q σ q L (zi ((zBy.getD 0 []).getD i.toNatClampNeg 0) :: st)) : zw x g nL kc ks Q σ pc L (zi i :: zr 1003 :: st) := by
  obtain ⟨d, rfl⟩ := hd
  exact fun H locs ls hP hS hl => va_tb C.1 C.2.1 (C.2.2.2.2.2.2.2.2.2.1.2.2.1.1 0 (by decide)).2.2.2 hS (zin_vp hi) rfl d (K H locs ls hP hS hl)
theorem z_strV (C : zC x g cc own ret nL fr lo) {idx : Nat} (hd : zd cc pc (.getfield idx) 3 q) (hw : Cond.fieldLink own idx "java/lang/String" "value" "[B" ∈ lw_gd) (K : zw x g nL kc ks Q σ q L (zr 1003 :: st)) : zw x g nL kc ks Q σ pc L (zr 1002 :: st) := by
  obtain ⟨d, rfl⟩ := hd
  exact fun H locs ls hP hS hl => vk_getf C.1 C.2.1 (C.2.2.2.2.2.2.2.2.2.1.2.2.1.1 0 (by decide)).2.2.1 hS C.2.2.2.2.1 (C.2.2.2.2.2.1 _ hw) (fun _ h => h) d (K H locs ls hP hS hl)
theorem z_strC (C : zC x g cc own ret nL fr lo) {idx : Nat} (hd : zd cc pc (.getfield idx) 3 q) (hw : Cond.fieldLink own idx "java/lang/String" "coder" "B" ∈ lw_gd) (K : zw x g nL kc ks Q σ q L (zi 0 :: st)) : zw x g nL kc ks Q σ pc L (zr 1002 :: st) := by
  obtain ⟨d, rfl⟩ := hd
  exact fun H locs ls hP hS hl => vk_getf C.1 C.2.1 (C.2.2.2.2.2.2.2.2.2.1.2.2.1.1 0 (by decide)).2.1 hS C.2.2.2.2.1 (C.2.2.2.2.2.1 _ hw) (fun _ h => h) d (K H locs ls hP hS hl)
theorem z_getsC (C : zC x g cc own ret nL fr lo) {idx : Nat} (hd : zd cc pc (.getstatic idx) 3 q) (hw : Cond.fieldLink own idx "java/lang/String" "COMPACT_STRINGS" "Z" ∈ lw_gd) (K : zw x g nL kc ks Q σ q L (zi 1 :: st)) : zw x g nL kc ks Q σ pc L st := by
  obtain ⟨d, rfl⟩ := hd
  exact fun H locs ls hP hS hl => va_gets C.1 C.2.1 C.2.2.2.2.2.2.2.2.2.1.2.2.2.1 hS C.2.2.2.2.1 (C.2.2.2.2.2.1 _ hw) (fun _ h => h) d (K H locs ls hP hS hl)
theorem z_getsF (C : zC x g cc own ret nL fr lo) {idx : Nat} (hd : zd cc pc (.getstatic idx) 3 q) (hw : Cond.fieldLink own idx "jdk/internal/util/Preconditions" "SIOOBE_FORMATTER" "Ljava/util/function/BiFunction;" ∈ lw_gd) (K : zw x g nL kc ks Q σ q L (zr (g.2.2.2 5) :: st)) : zw x g nL kc ks Q σ pc L st := by
  obtain ⟨d, rfl⟩ := hd
  exact fun H locs ls hP hS hl => va_gets C.1 C.2.1 C.2.2.2.2.2.2.2.2.2.1.2.2.2.2 hS C.2.2.2.2.1 (C.2.2.2.2.2.1 _ hw) (fun _ h => h) d (K H locs ls hP hS hl)
theorem z_ldcS (C : zC x g cc own ret nL fr lo) (ho : own = "GlassTax$Reader") (hd : zd cc pc (.ldc 69) 2 q) (K : zw x g nL kc ks Q σ q L (zr 1002 :: st)) : zw x g nL kc ks Q σ pc L st := by
  obtain ⟨d, rfl⟩ := hd
  subst ho
  exact fun H locs ls hP hS hl => va_ldcS C.1 C.2.1 C.2.2.2.2.1 C.2.2.2.2.2.2.2.2.2.2.2.1 d (K H locs ls hP hS hl)
theorem z_callT (C : zC x g cc own ret nL fr lo) {y : MethodName} {cc' : ByteArray} {nL' : Nat} {ret' : Option FieldType} {fr' lo' idx n : Nat} {as : List ZV} {v : Option ZV} {σ1 : ZS} {st' : List ZV} (hd : zd cc pc (.invokevirtual idx) 3 q) (hw : Cond.methodLink own idx y ∈ lw_gd) (hy : zYV y cc' nL' ret' n) (hcls : y.cls = "java/lang/String") (hT : zT x.2.1 g y cc' nL' ret' fr' lo' (zr 1002 :: as) σ v σ1)
    (hn : as.length = n) (hst : as.reverse ++ zr 1002 :: st = st') (hrm : (st.map fun v => if zlong (some v) = true then 2 else 1).sum ≤ 8) (hR : fr' + 1 ≤ fr ∧ 8 + (nL' + 11) + lo' ≤ lo) (hk : kc ≤ x.2.2.2.1.cells ∧ ks ≤ x.2.2.2.1.slots)
    (K : zw x g nL kc ks Q σ1 q L (v.toList ++ st)) : zw x g nL kc ks Q σ pc L st' := by
  obtain ⟨d, rfl⟩ := hd
  subst hst
  obtain ⟨⟨y1, y2, y3, y4⟩, y5, y6⟩ := hy
  intro H locs ls hP hS hl
  have hts := C.2.2.2.2.2.1
  refine z_ran hS hl (va_runV (b := g.2.2.2 2) (As := as.map (zval g)) (n := n) ⟨C.1, C.2.1, C.2.2.2.1, C.2.2.2.2.1, hts⟩ hT ⟨⟨rfl, rfl, Nat.le_trans hR.1 C.2.2.2.2.2.2.2.1.1, Nat.le_trans hR.2 C.2.2.2.2.2.2.2.1.2, pay_in hts (fun w hw => by
      rcases List.mem_cons.mp hw with rfl | h
      · exact lw_gdIn _ y1
      · exact lw_gdIn _ h), List.mem_cons_self, hts _ y1, hts _ y2, y3, zY.params ⟨y1, y2, y3, y4⟩, hts _ hw⟩, hts _ y5, hts _ y6⟩ ⟨z_blind, ?_, fun U hU hW => ⟨rfl, by rw [hU]; exact hP, C.2.2.2.2.2.2.2.2.go hS hU hW⟩⟩ rfl (by rw [List.length_map]; exact hn) hl.1 ?_ (lv_room (z_room hrm)) d hk) K
  · rw [hcls]
    exact vk_recv C.2.2.2.2.2.2.2.2.2.1.2.2.1 (i := 0) (by decide) hS
  · show (as.reverse ++ zr 1002 :: st).map (zval g) = _
    rw [List.map_append, List.map_reverse, List.map_cons]
    rfl
theorem z_callTi (C : zC x g cc own ret nL fr lo) {y : MethodName} {cc' : ByteArray} {nL' : Nat} {ret' : Option FieldType} {fr' lo' idx n : Nat} {as : List ZV} {rr : Int32} {σ1 : ZS} {st' : List ZV} (hd : zd cc pc (.invokevirtual idx) 3 q) (hw : Cond.methodLink own idx y ∈ lw_gd) (hy : zYV y cc' nL' ret' n) (hcls : y.cls = "java/lang/String") (hT : zT x.2.1 g y cc' nL' ret' fr' lo' (zr 1002 :: as) σ (some (zi rr)) σ1)
    (hn : as.length = n) (hst : as.reverse ++ zr 1002 :: st = st') (hrm : (st.map fun v => if zlong (some v) = true then 2 else 1).sum ≤ 8) (hR : fr' + 1 ≤ fr ∧ 8 + (nL' + 11) + lo' ≤ lo) (hk : kc ≤ x.2.2.2.1.cells ∧ ks ≤ x.2.2.2.1.slots)
    (K : zw x g nL kc ks Q σ1 q L (zi rr :: st)) : zw x g nL kc ks Q σ pc L st' := z_callT (v := some (zi rr)) C hd hw hy hcls hT hn hst hrm hR hk K
end
