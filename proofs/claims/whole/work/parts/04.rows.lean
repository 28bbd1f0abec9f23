/-! the walk over the one store: zw, a method's standing facts zC, a method's contract zT; an instruction, a row -/
def zw (x : ZX) (g : ZG) (nL : Nat) (kc ks : Nat) (Q : State → Prop) (σ : ZS) (pc : Nat) (L : List (Option ZV)) (st : List ZV) : Prop :=
  ∀ (H : Heap) (locs : List Loc) (ls : Array Slot), zP g σ H → va_S (zA g) x.2.2.2.2.1.heap H locs → zlh g ls nL L →
    W x.1 x.2.1 x.2.2.1 x.2.2.2.1 x.2.2.2.2.1 x.2.2.2.2.2.1 x.2.2.2.2.2.2.1 x.2.2.2.2.2.2.2.1 x.2.2.2.2.2.2.2.2.1 x.2.2.2.2.2.2.2.2.2 H locs kc ks Q (F0 x.2.2.2.2.2.1 pc ls (st.map (zval g)))
def zC (x : ZX) (g : ZG) (cc : ByteArray) (own : String) (ret : Option FieldType) (nL fr lo : Nat) : Prop :=
  x.1.tables.exec = Jvm.exec ∧ x.2.2.2.2.2.2.2.2.2.code = cc ∧ x.2.2.2.2.2.2.2.2.1.sig.returnType = ret ∧ x.2.2.2.2.2.2.2.2.2.maxLocals = nL ∧ x.2.2.2.2.1.vm.findClass own = some x.2.2.2.2.2.1.cls ∧ (∀ w ∈ lw_gd, w.before x.2.2.2.2.2.2.1 x.2.2.2.2.1 = true) ∧
  x.2.2.2.2.2.2.2.2.1.locks = false ∧ (fr ≤ x.2.2.2.1.frames ∧ lo ≤ x.2.2.2.1.locals) ∧ zK g x.2.2.2.2.1
def zQ (g : ZG) (v : Option ZV) (σ : ZS) : Array Value → State → Outcome → State → Prop := fun _ st o t => o = .returned (v.map (zval g)) ∧ zP g σ t.heap ∧ va_F (zA g) st t
def zMQ (x : ZX) (g : ZG) (v : Option ZV) (σ : ZS) : State → Prop := MQ x.2.2.2.2.2.2.2.1 (zQ g v σ) x.2.2.2.2.2.2.1 x.2.2.2.2.1 0 0 (zA g)
def zT (l : Launch) (g : ZG) (y : MethodName) (cc : ByteArray) (nL : Nat) (ret : Option FieldType) (fr lo : Nat) (as : List ZV) (σ : ZS) (v : Option ZV) (σ' : ZS) : Prop :=
  Met l y (.code y cc nL ret :: lw_gd) { frames := fr, cells := 0, slots := 0, locals := lo } (va_Pc (as.map (zval g)) (fun U => zP g σ U.heap ∧ zK g U)) (zQ g v σ') 0 0 (zA g)
def zd (cc : ByteArray) (pc : Nat) (i : Instr) (n q : Nat) : Prop := decode cc pc = .ok (i, n) ∧ pc + n = q
def zdb (cc : ByteArray) (pc : Nat) (i : Instr) (off : Int) (q t : Nat) : Prop := decode cc pc = .ok (i, 3) ∧ pc + 3 = q ∧ (pc : Int) + off = (t : Int)
theorem zT_start {l : Launch} {g : ZG} {y : MethodName} {cc : ByteArray} {nL : Nat} {ret : Option FieldType} {fr lo : Nat} {as : List ZV} {σ : ZS} {v : Option ZV} {σ' : ZS} {own : String} (ho : y.cls = own) (hy : plainName own = true) (m : Nat) {L : List (Option ZV)} (hL : zent as ++ List.replicate m none = L) (hn : (zent as).length + m = nL)
    (K : ∀ x : ZX, x.2.1 = l → zC x g cc own ret nL fr lo → zw x g nL 0 0 (zMQ x g v σ') σ 0 L []) : zT l g y cc nL ret fr lo as σ v σ' := by
  subst ho
  refine Met.ofW (cc := cc) (maxL := nL) (ret := ret) hy rfl ?_
  intro p e s m0 args below meth c s₁ B hml hv
  obtain ⟨rfl, hP, hK⟩ := hv
  have hts := atoms_spec (ws := .code y cc nL ret :: lw_gd) B.pre
  have C : zC (p, l, e, { frames := fr, cells := 0, slots := 0, locals := lo }, s, m0, (as.map (zval g)).toArray, below, meth, c) g cc y.cls ret nL fr lo :=
    ⟨B.exec, B.bytes, B.returns, hml, findClass_of_methodNamed B.named, fun w hw => hts w (List.mem_cons_of_mem _ hw), B.notSynchronized, ⟨Nat.le_refl _, Nat.le_refl _⟩, hK⟩
  have hlen : ∀ as : List ZV, (lg_sl (as.map (zval g))).length = (zent as).length := by
    intro as
    induction as with
    | nil => rfl
    | cons a as ih =>
      have h2 : lg_sl ((a :: as).map (zval g)) = (if (zval g a).category = 2 then [Slot.val (zval g a), Slot.second] else [Slot.val (zval g a)]) ++ lg_sl (as.map (zval g)) := by
        simp only [lg_sl, List.map_cons, List.flatMap_cons]
      rw [h2, List.length_append, ih, zval_cat]
      rcases a with a | a | a
      · simp [zlong, zent]; omega
      · simp [zlong, zent]; omega
      · simp [zlong, zent]; omega
  have hl := lv_entry (as.map (zval g)) (n := nL) (by rw [hlen as]; omega)
  have hl2 : zlh g ((lg_sl (as.map (zval g)) ++ List.replicate (nL - (lg_sl (as.map (zval g))).length) Slot.unset).toArray) nL L := by
    refine ⟨hl.1, hl.2.1, fun i v hi => ?_⟩
    have h1 : zat (zent as) i = some v := by
      rw [← hL] at hi
      clear hn hL hl C
      generalize zent as = z at hi
      induction z generalizing i with
      | nil =>
        exfalso
        rw [List.nil_append] at hi
        induction m generalizing i with
        | zero => simp [zat] at hi
        | succ m ihm => cases i with
          | zero => simp [List.replicate, zat] at hi
          | succ i => exact ihm i (by simpa [List.replicate, zat] using hi)
      | cons a z ih => cases i with
        | zero => simpa [zat] using hi
        | succ i => exact ih i (by simpa [zat] using hi)
    have h2 := zlh_entry (g := g) as 0 i v h1
    rw [Nat.zero_add] at h2
    exact hl.2.2 (i, zval g v) h2
  rw [lg_entry_eq]
  exact K (p, l, e, _, s, m0, _, below, meth, c) rfl C s.heap [] _ hP va_S.rf hl2
section
variable {x : ZX} {g : ZG} {cc : ByteArray} {own : String} {ret : Option FieldType} {nL fr lo kc ks : Nat} {Q : State → Prop} {σ : ZS} {pc q t : Nat} {L : List (Option ZV)} {st : List ZV}
theorem z_drop (m : List Bool) {L' : List (Option ZV)} (h : zdrop L m = L') (K : zw x g nL kc ks Q σ pc L' st) : zw x g nL kc ks Q σ pc L st := by
  subst h
  exact fun H locs ls hP hS hl => K H locs ls hP hS (hl.drop m)
theorem z_iconst (C : zC x g cc own ret nL fr lo) {n : Int} (v : Int32) (hd : zd cc pc (.iconst n) 1 q) (hv : Int32.ofInt n = v) (K : zw x g nL kc ks Q σ q L (zi v :: st)) : zw x g nL kc ks Q σ pc L st := by
  obtain ⟨d, rfl⟩ := hd
  exact fun H locs ls hP hS hl => lv_iconst C.1 C.2.1 d hv (K H locs ls hP hS hl)
theorem z_bipush (C : zC x g cc own ret nL fr lo) {n : Int} (v : Int32) (hd : zd cc pc (.bipush n) 2 q) (hv : (Int8.ofInt n).toInt32 = v) (K : zw x g nL kc ks Q σ q L (zi v :: st)) : zw x g nL kc ks Q σ pc L st := by
  obtain ⟨d, rfl⟩ := hd
  exact fun H locs ls hP hS hl => lv_bipush C.1 C.2.1 d hv (K H locs ls hP hS hl)
theorem z_sipush (C : zC x g cc own ret nL fr lo) {n : Int} (v : Int32) (hd : zd cc pc (.sipush n) 3 q) (hv : (Int16.ofInt n).toInt32 = v) (K : zw x g nL kc ks Q σ q L (zi v :: st)) : zw x g nL kc ks Q σ pc L st := by
  obtain ⟨d, rfl⟩ := hd
  exact fun H locs ls hP hS hl => lv_sipush C.1 C.2.1 d hv (K H locs ls hP hS hl)
theorem z_ldc (C : zC x g cc own ret nL fr lo) {i : Nat} (v : Int32) (hd : zd cc pc (.ldc i) 2 q) (hw : Cond.constant own i v ∈ lw_gd) (K : zw x g nL kc ks Q σ q L (zi v :: st)) : zw x g nL kc ks Q σ pc L st := by
  obtain ⟨d, rfl⟩ := hd
  exact fun H locs ls hP hS hl => lv_ldc C.1 C.2.1 C.2.2.2.2.1 (C.2.2.2.2.2.1 _ hw) d (K H locs ls hP hS hl)
theorem z_ldcw (C : zC x g cc own ret nL fr lo) {i : Nat} (v : Int32) (hd : zd cc pc (.ldc_w i) 3 q) (hw : Cond.constant own i v ∈ lw_gd) (K : zw x g nL kc ks Q σ q L (zi v :: st)) : zw x g nL kc ks Q σ pc L st := by
  obtain ⟨d, rfl⟩ := hd
  exact fun H locs ls hP hS hl => lv_ldcw C.1 C.2.1 C.2.2.2.2.1 (C.2.2.2.2.2.1 _ hw) d (K H locs ls hP hS hl)
theorem z_ldc2 (C : zC x g cc own ret nL fr lo) {i : Nat} (v : Int64) (hd : zd cc pc (.ldc2_w i) 3 q) (hw : Cond.constantLong own i v ∈ lw_gd) (K : zw x g nL kc ks Q σ q L (zj v :: st)) : zw x g nL kc ks Q σ pc L st := by
  obtain ⟨d, rfl⟩ := hd
  exact fun H locs ls hP hS hl => lv_ldc2 C.1 C.2.1 C.2.2.2.2.1 (C.2.2.2.2.2.1 _ hw) d (K H locs ls hP hS hl)
theorem z_iload_n (C : zC x g cc own ret nL fr lo) {k : Fin 4} {v : Int32} (hd : zd cc pc (.iload_n k) 1 q) (hl : zat L k = some (zi v)) (K : zw x g nL kc ks Q σ q L (zi v :: st)) : zw x g nL kc ks Q σ pc L st := by
  obtain ⟨d, rfl⟩ := hd
  exact fun H locs ls hP hS h => lv_iload_n C.1 C.2.1 d rfl (h.2.2 _ _ hl) (K H locs ls hP hS h)
theorem z_iload (C : zC x g cc own ret nL fr lo) {k : Nat} {v : Int32} (hd : zd cc pc (.iload k) 2 q) (hl : zat L k = some (zi v)) (K : zw x g nL kc ks Q σ q L (zi v :: st)) : zw x g nL kc ks Q σ pc L st := by
  obtain ⟨d, rfl⟩ := hd
  exact fun H locs ls hP hS h => lv_iload C.1 C.2.1 d (h.2.2 _ _ hl) (K H locs ls hP hS h)
theorem z_lload_n (C : zC x g cc own ret nL fr lo) {k : Fin 4} {v : Int64} (hd : zd cc pc (.lload_n k) 1 q) (hl : zat L k = some (zj v)) (K : zw x g nL kc ks Q σ q L (zj v :: st)) : zw x g nL kc ks Q σ pc L st := by
  obtain ⟨d, rfl⟩ := hd
  exact fun H locs ls hP hS h => lv_lload_n C.1 C.2.1 d rfl (h.2.2 _ _ hl) (K H locs ls hP hS h)
theorem z_aload_n (C : zC x g cc own ret nL fr lo) {k : Fin 4} {o : Nat} (hd : zd cc pc (.aload_n k) 1 q) (hl : zat L k = some (zr o)) (K : zw x g nL kc ks Q σ q L (zr o :: st)) : zw x g nL kc ks Q σ pc L st := by
  obtain ⟨d, rfl⟩ := hd
  intro H locs ls hP hS h
  have h1 := h.2.2 _ _ hl
  have h2 := K H locs ls hP hS h
  change W _ _ _ _ _ _ _ _ _ _ _ _ _ _ _ (F0 _ _ _ (zrv g o :: st.map (zval g))) at h2
  change ls[_]? = some (Slot.val (zrv g o)) at h1
  by_cases ho : o = 0
  · subst ho
    exact lv_aload_nN C.1 C.2.1 d rfl h1 h2
  · obtain ⟨a, ha⟩ := zrv_ref (g := g) ho
    rw [ha] at h1 h2
    exact lv_aload_n C.1 C.2.1 d rfl h1 h2
theorem z_aload (C : zC x g cc own ret nL fr lo) {k : Nat} {o : Nat} (hd : zd cc pc (.aload k) 2 q) (hl : zat L k = some (zr o)) (K : zw x g nL kc ks Q σ q L (zr o :: st)) : zw x g nL kc ks Q σ pc L st := by
  obtain ⟨d, rfl⟩ := hd
  intro H locs ls hP hS h
  have h1 := h.2.2 _ _ hl
  have h2 := K H locs ls hP hS h
  change W _ _ _ _ _ _ _ _ _ _ _ _ _ _ _ (F0 _ _ _ (zrv g o :: st.map (zval g))) at h2
  change ls[_]? = some (Slot.val (zrv g o)) at h1
  by_cases ho : o = 0
  · subst ho
    exact lv_aloadN C.1 C.2.1 d h1 h2
  · obtain ⟨a, ha⟩ := zrv_ref (g := g) ho
    rw [ha] at h1 h2
    exact lv_aload C.1 C.2.1 d h1 h2
theorem z_istore_n (C : zC x g cc own ret nL fr lo) {k : Fin 4} {v : Int32} {L' : List (Option ZV)} (hd : zd cc pc (.istore_n k) 1 q) (hn : (k : Nat) < nL) (hw : zlow L k = true) (hL : zset L k (zi v) = L') (K : zw x g nL kc ks Q σ q L' st) : zw x g nL kc ks Q σ pc L (zi v :: st) := by
  obtain ⟨d, rfl⟩ := hd
  subst hL
  exact fun H locs ls hP hS h => lv_istore_n C.1 C.2.1 d rfl h.has hn rfl fun ls' h' => K H locs ls' hP hS (zlh.stored hw h')
theorem z_istore (C : zC x g cc own ret nL fr lo) {k : Nat} {v : Int32} {L' : List (Option ZV)} (hd : zd cc pc (.istore k) 2 q) (hn : k < nL) (hw : zlow L k = true) (hL : zset L k (zi v) = L') (K : zw x g nL kc ks Q σ q L' st) : zw x g nL kc ks Q σ pc L (zi v :: st) := by
  obtain ⟨d, rfl⟩ := hd
  subst hL
  exact fun H locs ls hP hS h => lv_istore C.1 C.2.1 d h.has hn rfl fun ls' h' => K H locs ls' hP hS (zlh.stored hw h')
theorem z_astore_n (C : zC x g cc own ret nL fr lo) {k : Fin 4} {o : Nat} {L' : List (Option ZV)} (hd : zd cc pc (.astore_n k) 1 q) (hn : (k : Nat) < nL) (hw : zlow L k = true) (hL : zset L k (zr o) = L') (K : zw x g nL kc ks Q σ q L' st) : zw x g nL kc ks Q σ pc L (zr o :: st) := by
  obtain ⟨d, rfl⟩ := hd
  subst hL
  intro H locs ls hP hS h
  show W _ _ _ _ _ _ _ _ _ _ _ _ _ _ _ (F0 _ _ _ (zrv g o :: st.map (zval g)))
  have h1 : ∀ ls' : Array Slot, lv_has ls' nL (((k : Nat), zrv g o) :: (zas g L).filter (fun q => !(q.1 == (k : Nat)) && !(q.1 + 1 == (k : Nat) && q.2.category == 2))) → _ := fun ls' h' => K H locs ls' hP hS (zlh.stored hw h')
  by_cases ho : o = 0
  · subst ho
    exact lv_astore_nN C.1 C.2.1 d rfl h.has hn rfl h1
  · obtain ⟨a, ha⟩ := zrv_ref (g := g) ho
    rw [ha] at h1 ⊢
    exact lv_astore_n C.1 C.2.1 d rfl h.has hn rfl h1
theorem z_astore (C : zC x g cc own ret nL fr lo) {k : Nat} {o : Nat} {L' : List (Option ZV)} (hd : zd cc pc (.astore k) 2 q) (hn : k < nL) (hw : zlow L k = true) (hL : zset L k (zr o) = L') (K : zw x g nL kc ks Q σ q L' st) : zw x g nL kc ks Q σ pc L (zr o :: st) := by
  obtain ⟨d, rfl⟩ := hd
  subst hL
  intro H locs ls hP hS h
  show W _ _ _ _ _ _ _ _ _ _ _ _ _ _ _ (F0 _ _ _ (zrv g o :: st.map (zval g)))
  have h1 : ∀ ls' : Array Slot, lv_has ls' nL ((k, zrv g o) :: (zas g L).filter (fun q => !(q.1 == k) && !(q.1 + 1 == k && q.2.category == 2))) → _ := fun ls' h' => K H locs ls' hP hS (zlh.stored hw h')
  by_cases ho : o = 0
  · subst ho
    exact lv_astoreN C.1 C.2.1 d h.has hn rfl h1
  · obtain ⟨a, ha⟩ := zrv_ref (g := g) ho
    rw [ha] at h1 ⊢
    exact lv_astore C.1 C.2.1 d h.has hn rfl h1
theorem z_iinc (C : zC x g cc own ret nL fr lo) {k : Nat} {n : Int} {v w : Int32} {L' : List (Option ZV)} (hd : zd cc pc (.iinc k n) 3 q) (hl : zat L k = some (zi v)) (hv : Int32.ofInt n = w) (hn : k < nL) (hw : zlow L k = true) (hL : zset L k (zi (v + w)) = L') (K : zw x g nL kc ks Q σ q L' st) : zw x g nL kc ks Q σ pc L st := by
  obtain ⟨d, rfl⟩ := hd
  subst hL; subst hv
  intro H locs ls hP hS h
  obtain ⟨j, hj⟩ := List.getElem?_of_mem (zas_mem (g := g) hl)
  exact lv_iinc C.1 C.2.1 d h.has hj rfl hn rfl fun ls' h' => K H locs ls' hP hS (zlh.stored hw h')
theorem z_iadd (C : zC x g cc own ret nL fr lo) {a b : Int32} (hd : zd cc pc .iadd 1 q) (K : zw x g nL kc ks Q σ q L (zi (a + b) :: st)) : zw x g nL kc ks Q σ pc L (zi b :: zi a :: st) := by
  obtain ⟨d, rfl⟩ := hd
  exact fun H locs ls hP hS h => lv_iadd C.1 C.2.1 d (K H locs ls hP hS h)
theorem z_isub (C : zC x g cc own ret nL fr lo) {a b : Int32} (hd : zd cc pc .isub 1 q) (K : zw x g nL kc ks Q σ q L (zi (a - b) :: st)) : zw x g nL kc ks Q σ pc L (zi b :: zi a :: st) := by
  obtain ⟨d, rfl⟩ := hd
  exact fun H locs ls hP hS h => lv_isub C.1 C.2.1 d (K H locs ls hP hS h)
theorem z_imul (C : zC x g cc own ret nL fr lo) {a b : Int32} (hd : zd cc pc .imul 1 q) (K : zw x g nL kc ks Q σ q L (zi (a * b) :: st)) : zw x g nL kc ks Q σ pc L (zi b :: zi a :: st) := by
  obtain ⟨d, rfl⟩ := hd
  exact fun H locs ls hP hS h => lv_imul C.1 C.2.1 d (K H locs ls hP hS h)
theorem z_iand (C : zC x g cc own ret nL fr lo) {a b : Int32} (hd : zd cc pc .iand 1 q) (K : zw x g nL kc ks Q σ q L (zi (a &&& b) :: st)) : zw x g nL kc ks Q σ pc L (zi b :: zi a :: st) := by
  obtain ⟨d, rfl⟩ := hd
  exact fun H locs ls hP hS h => lv_iand C.1 C.2.1 d (K H locs ls hP hS h)
theorem z_ior (C : zC x g cc own ret nL fr lo) {a b : Int32} (hd : zd cc pc .ior 1 q) (K : zw x g nL kc ks Q σ q L (zi (a ||| b) :: st)) : zw x g nL kc ks Q σ pc L (zi b :: zi a :: st) := by
  obtain ⟨d, rfl⟩ := hd
  exact fun H locs ls hP hS h => lv_ior C.1 C.2.1 d (K H locs ls hP hS h)
theorem z_ixor (C : zC x g cc own ret nL fr lo) {a b : Int32} (hd : zd cc pc .ixor 1 q) (K : zw x g nL kc ks Q σ q L (zi (a ^^^ b) :: st)) : zw x g nL kc ks Q σ pc L (zi b :: zi a :: st) := by
  obtain ⟨d, rfl⟩ := hd
  exact fun H locs ls hP hS h => lv_ixor C.1 C.2.1 d (K H locs ls hP hS h)
theorem z_ineg (C : zC x g cc own ret nL fr lo) {a : Int32} (hd : zd cc pc .ineg 1 q) (K : zw x g nL kc ks Q σ q L (zi (-a) :: st)) : zw x g nL kc ks Q σ pc L (zi a :: st) := by
  obtain ⟨d, rfl⟩ := hd
  exact fun H locs ls hP hS h => lv_ineg C.1 C.2.1 d (K H locs ls hP hS h)
theorem z_idiv (C : zC x g cc own ret nL fr lo) {a b : Int32} (hd : zd cc pc .idiv 1 q) (hb : ¬ b = 0) (K : zw x g nL kc ks Q σ q L (zi (a / b) :: st)) : zw x g nL kc ks Q σ pc L (zi b :: zi a :: st) := by
  obtain ⟨d, rfl⟩ := hd
  exact fun H locs ls hP hS h => lv_idiv C.1 C.2.1 d hb (K H locs ls hP hS h)
theorem z_irem (C : zC x g cc own ret nL fr lo) {a b : Int32} (hd : zd cc pc .irem 1 q) (hb : ¬ b = 0) (K : zw x g nL kc ks Q σ q L (zi (a % b) :: st)) : zw x g nL kc ks Q σ pc L (zi b :: zi a :: st) := by
  obtain ⟨d, rfl⟩ := hd
  rw [← irem_eq_mod a b] at K
  exact fun H locs ls hP hS h => lv_irem C.1 C.2.1 d hb (K H locs ls hP hS h)
theorem z_ishl (C : zC x g cc own ret nL fr lo) {a b : Int32} (hd : zd cc pc .ishl 1 q) (K : zw x g nL kc ks Q σ q L (zi (a <<< (b &&& 31)) :: st)) : zw x g nL kc ks Q σ pc L (zi b :: zi a :: st) := by
  obtain ⟨d, rfl⟩ := hd
  exact fun H locs ls hP hS h => lv_ishl C.1 C.2.1 d (K H locs ls hP hS h)
theorem z_ishr (C : zC x g cc own ret nL fr lo) {a b : Int32} (hd : zd cc pc .ishr 1 q) (K : zw x g nL kc ks Q σ q L (zi (a >>> (b &&& 31)) :: st)) : zw x g nL kc ks Q σ pc L (zi b :: zi a :: st) := by
  obtain ⟨d, rfl⟩ := hd
  exact fun H locs ls hP hS h => lv_ishr C.1 C.2.1 d (K H locs ls hP hS h)
theorem z_iushr (C : zC x g cc own ret nL fr lo) {a b : Int32} (hd : zd cc pc .iushr 1 q) (K : zw x g nL kc ks Q σ q L (zi ((a.toUInt32 >>> (b.toUInt32 &&& Int32.toUInt32 31)).toInt32) :: st)) : zw x g nL kc ks Q σ pc L (zi b :: zi a :: st) := by
  obtain ⟨d, rfl⟩ := hd
  exact fun H locs ls hP hS h => lv_iushr C.1 C.2.1 d rfl (K H locs ls hP hS h)
theorem z_i2b (C : zC x g cc own ret nL fr lo) {a : Int32} (hd : zd cc pc .i2b 1 q) (K : zw x g nL kc ks Q σ q L (zi a.toInt8.toInt32 :: st)) : zw x g nL kc ks Q σ pc L (zi a :: st) := by
  obtain ⟨d, rfl⟩ := hd
  exact fun H locs ls hP hS h => lv_i2b C.1 C.2.1 d rfl (K H locs ls hP hS h)
theorem z_i2s (C : zC x g cc own ret nL fr lo) {a : Int32} (hd : zd cc pc .i2s 1 q) (K : zw x g nL kc ks Q σ q L (zi a.toInt16.toInt32 :: st)) : zw x g nL kc ks Q σ pc L (zi a :: st) := by
  obtain ⟨d, rfl⟩ := hd
  exact fun H locs ls hP hS h => lv_i2s C.1 C.2.1 d rfl (K H locs ls hP hS h)
theorem z_i2c (C : zC x g cc own ret nL fr lo) {a : Int32} (hd : zd cc pc .i2c 1 q) (K : zw x g nL kc ks Q σ q L (zi (a.toUInt32 % 65536).toInt32 :: st)) : zw x g nL kc ks Q σ pc L (zi a :: st) := by
  obtain ⟨d, rfl⟩ := hd
  exact fun H locs ls hP hS h => lv_i2c C.1 C.2.1 d rfl (K H locs ls hP hS h)
theorem z_i2l (C : zC x g cc own ret nL fr lo) {a : Int32} (hd : zd cc pc .i2l 1 q) (K : zw x g nL kc ks Q σ q L (zj a.toInt64 :: st)) : zw x g nL kc ks Q σ pc L (zi a :: st) := by
  obtain ⟨d, rfl⟩ := hd
  exact fun H locs ls hP hS h => lv_i2l C.1 C.2.1 d rfl (K H locs ls hP hS h)
theorem z_l2i (C : zC x g cc own ret nL fr lo) {a : Int64} (hd : zd cc pc .l2i 1 q) (K : zw x g nL kc ks Q σ q L (zi a.toInt32 :: st)) : zw x g nL kc ks Q σ pc L (zj a :: st) := by
  obtain ⟨d, rfl⟩ := hd
  exact fun H locs ls hP hS h => lv_l2i C.1 C.2.1 d rfl (K H locs ls hP hS h)
theorem z_land (C : zC x g cc own ret nL fr lo) {a b : Int64} (hd : zd cc pc .land 1 q) (K : zw x g nL kc ks Q σ q L (zj (a &&& b) :: st)) : zw x g nL kc ks Q σ pc L (zj b :: zj a :: st) := by
  obtain ⟨d, rfl⟩ := hd
  exact fun H locs ls hP hS h => lv_land C.1 C.2.1 d (K H locs ls hP hS h)
theorem z_lor (C : zC x g cc own ret nL fr lo) {a b : Int64} (hd : zd cc pc .lor 1 q) (K : zw x g nL kc ks Q σ q L (zj (a ||| b) :: st)) : zw x g nL kc ks Q σ pc L (zj b :: zj a :: st) := by
  obtain ⟨d, rfl⟩ := hd
  exact fun H locs ls hP hS h => lv_lor C.1 C.2.1 d (K H locs ls hP hS h)
theorem z_lushr (C : zC x g cc own ret nL fr lo) {a : Int64} {b : Int32} (hd : zd cc pc .lushr 1 q) (K : zw x g nL kc ks Q σ q L (zj (a.toUInt64 >>> (b.toInt64.toUInt64 &&& Int64.toUInt64 63)).toInt64 :: st)) : zw x g nL kc ks Q σ pc L (zi b :: zj a :: st) := by
  obtain ⟨d, rfl⟩ := hd
  exact fun H locs ls hP hS h => lv_lushr C.1 C.2.1 d rfl (K H locs ls hP hS h)
theorem z_lshl (C : zC x g cc own ret nL fr lo) {a : Int64} {b : Int32} (hd : zd cc pc .lshl 1 q) (K : zw x g nL kc ks Q σ q L (zj (a <<< (b.toInt64 &&& 63)) :: st)) : zw x g nL kc ks Q σ pc L (zi b :: zj a :: st) := by
  obtain ⟨d, rfl⟩ := hd
  exact fun H locs ls hP hS h => lv_lshl C.1 C.2.1 d rfl (K H locs ls hP hS h)
theorem z_lshr (C : zC x g cc own ret nL fr lo) {a : Int64} {b : Int32} (hd : zd cc pc .lshr 1 q) (K : zw x g nL kc ks Q σ q L (zj (a >>> (b.toInt64 &&& 63)) :: st)) : zw x g nL kc ks Q σ pc L (zi b :: zj a :: st) := by
  obtain ⟨d, rfl⟩ := hd
  exact fun H locs ls hP hS h => lv_lshr C.1 C.2.1 d rfl (K H locs ls hP hS h)
theorem z_dup (C : zC x g cc own ret nL fr lo) {v : ZV} (hd : zd cc pc .dup 1 q) (hv : zlong (some v) = false) (K : zw x g nL kc ks Q σ q L (v :: v :: st)) : zw x g nL kc ks Q σ pc L (v :: st) := by
  obtain ⟨d, rfl⟩ := hd
  exact fun H locs ls hP hS h => lv_dup C.1 C.2.1 d (by rw [zval_cat, hv]; decide) (K H locs ls hP hS h)
theorem z_dup2 (C : zC x g cc own ret nL fr lo) {v w : ZV} (hd : zd cc pc .dup2 1 q) (hv : zlong (some v) = false) (hw : zlong (some w) = false) (K : zw x g nL kc ks Q σ q L (v :: w :: v :: w :: st)) : zw x g nL kc ks Q σ pc L (v :: w :: st) := by
  obtain ⟨d, rfl⟩ := hd
  exact fun H locs ls hP hS h => lv_dup2_11 C.1 C.2.1 d (by rw [zval_cat, hv]; decide) (by rw [zval_cat, hw]; decide) (K H locs ls hP hS h)
theorem z_pop (C : zC x g cc own ret nL fr lo) {v : ZV} (hd : zd cc pc .pop 1 q) (hv : zlong (some v) = false) (K : zw x g nL kc ks Q σ q L st) : zw x g nL kc ks Q σ pc L (v :: st) := by
  obtain ⟨d, rfl⟩ := hd
  exact fun H locs ls hP hS h => lv_pop C.1 C.2.1 d (by rw [zval_cat, hv]; decide) (K H locs ls hP hS h)
theorem z_goto (C : zC x g cc own ret nL fr lo) {off : Int} (hd : zdb cc pc (.goto off) off q t) (K : zw x g nL kc ks Q σ t L st) : zw x g nL kc ks Q σ pc L st :=
  fun H locs ls hP hS h => lv_goto C.1 C.2.1 hd.1 hd.2.2 (K H locs ls hP hS h)
theorem z_null (C : zC x g cc own ret nL fr lo) (hd : zd cc pc .aconst_null 1 q) (K : zw x g nL kc ks Q σ q L (zr 0 :: st)) : zw x g nL kc ks Q σ pc L st := by
  obtain ⟨d, rfl⟩ := hd
  exact fun H locs ls hP hS h => lv_null C.1 C.2.1 d (K H locs ls hP hS h)
theorem z_ifnull (C : zC x g cc own ret nL fr lo) {o : Nat} {off : Int} (hd : zdb cc pc (.ifnull off) off q t) (kt : o = 0 → zw x g nL kc ks Q σ t L st) (kf : ¬ o = 0 → zw x g nL kc ks Q σ q L st) : zw x g nL kc ks Q σ pc L (zr o :: st) := by
  obtain ⟨d, rfl, ht⟩ := hd
  intro H locs ls hP hS h
  show W _ _ _ _ _ _ _ _ _ _ _ _ _ _ _ (F0 _ _ _ (zrv g o :: st.map (zval g)))
  by_cases ho : o = 0
  · subst ho
    exact lv_ifnullN C.1 C.2.1 d ht (kt rfl H locs ls hP hS h)
  · obtain ⟨a, ha⟩ := zrv_ref (g := g) ho
    rw [ha]
    exact lv_ifnull C.1 C.2.1 d (kf ho H locs ls hP hS h)
theorem z_ifnonnull (C : zC x g cc own ret nL fr lo) {o : Nat} {off : Int} (hd : zdb cc pc (.ifnonnull off) off q t) (kf : o = 0 → zw x g nL kc ks Q σ q L st) (kt : ¬ o = 0 → zw x g nL kc ks Q σ t L st) : zw x g nL kc ks Q σ pc L (zr o :: st) := by
  obtain ⟨d, rfl, ht⟩ := hd
  intro H locs ls hP hS h
  show W _ _ _ _ _ _ _ _ _ _ _ _ _ _ _ (F0 _ _ _ (zrv g o :: st.map (zval g)))
  by_cases ho : o = 0
  · subst ho
    exact lv_ifnonnullN C.1 C.2.1 d (kf rfl H locs ls hP hS h)
  · obtain ⟨a, ha⟩ := zrv_ref (g := g) ho
    rw [ha]
    exact lv_ifnonnull C.1 C.2.1 d ht (kt ho H locs ls hP hS h)
theorem z_if_eq (C : zC x g cc own ret nL fr lo) {a : Int32} {off : Int} (hd : zdb cc pc (.ifCond .eq off) off q t) (kt : a = 0 → zw x g nL kc ks Q σ t L st) (kf : ¬ a = 0 → zw x g nL kc ks Q σ q L st) : zw x g nL kc ks Q σ pc L (zi a :: st) := by
  obtain ⟨d, rfl, ht⟩ := hd
  exact fun H locs ls hP hS h => lv_if_eq C.1 C.2.1 d ht (fun z => kt z H locs ls hP hS h) (fun z => kf z H locs ls hP hS h)
theorem z_icmp_eq (C : zC x g cc own ret nL fr lo) {a b : Int32} {off : Int} (hd : zdb cc pc (.if_icmp .eq off) off q t) (kt : a = b → zw x g nL kc ks Q σ t L st) (kf : ¬ a = b → zw x g nL kc ks Q σ q L st) : zw x g nL kc ks Q σ pc L (zi b :: zi a :: st) := by
  obtain ⟨d, rfl, ht⟩ := hd
  exact fun H locs ls hP hS h => lv_icmp_eq C.1 C.2.1 d ht (fun z => kt z H locs ls hP hS h) (fun z => kf z H locs ls hP hS h)
theorem z_if_ne (C : zC x g cc own ret nL fr lo) {a : Int32} {off : Int} (hd : zdb cc pc (.ifCond .ne off) off q t) (kf : a = 0 → zw x g nL kc ks Q σ q L st) (kt : ¬ a = 0 → zw x g nL kc ks Q σ t L st) : zw x g nL kc ks Q σ pc L (zi a :: st) := by
  obtain ⟨d, rfl, ht⟩ := hd
  exact fun H locs ls hP hS h => lv_if_ne C.1 C.2.1 d ht (fun z => kt z H locs ls hP hS h) (fun z => kf z H locs ls hP hS h)
theorem z_icmp_ne (C : zC x g cc own ret nL fr lo) {a b : Int32} {off : Int} (hd : zdb cc pc (.if_icmp .ne off) off q t) (kf : a = b → zw x g nL kc ks Q σ q L st) (kt : ¬ a = b → zw x g nL kc ks Q σ t L st) : zw x g nL kc ks Q σ pc L (zi b :: zi a :: st) := by
  obtain ⟨d, rfl, ht⟩ := hd
  exact fun H locs ls hP hS h => lv_icmp_ne C.1 C.2.1 d ht (fun z => kt z H locs ls hP hS h) (fun z => kf z H locs ls hP hS h)
theorem z_if_lt (C : zC x g cc own ret nL fr lo) {a : Int32} {off : Int} (hd : zdb cc pc (.ifCond .lt off) off q t) (kt : a < 0 → zw x g nL kc ks Q σ t L st) (kf : ¬ a < 0 → zw x g nL kc ks Q σ q L st) : zw x g nL kc ks Q σ pc L (zi a :: st) := by
  obtain ⟨d, rfl, ht⟩ := hd
  exact fun H locs ls hP hS h => lv_if_lt C.1 C.2.1 d ht (fun z => kt z H locs ls hP hS h) (fun z => kf z H locs ls hP hS h)
theorem z_icmp_lt (C : zC x g cc own ret nL fr lo) {a b : Int32} {off : Int} (hd : zdb cc pc (.if_icmp .lt off) off q t) (kt : a < b → zw x g nL kc ks Q σ t L st) (kf : ¬ a < b → zw x g nL kc ks Q σ q L st) : zw x g nL kc ks Q σ pc L (zi b :: zi a :: st) := by
  obtain ⟨d, rfl, ht⟩ := hd
  exact fun H locs ls hP hS h => lv_icmp_lt C.1 C.2.1 d ht (fun z => kt z H locs ls hP hS h) (fun z => kf z H locs ls hP hS h)
theorem z_if_ge (C : zC x g cc own ret nL fr lo) {a : Int32} {off : Int} (hd : zdb cc pc (.ifCond .ge off) off q t) (kt : 0 ≤ a → zw x g nL kc ks Q σ t L st) (kf : ¬ 0 ≤ a → zw x g nL kc ks Q σ q L st) : zw x g nL kc ks Q σ pc L (zi a :: st) := by
  obtain ⟨d, rfl, ht⟩ := hd
  exact fun H locs ls hP hS h => lv_if_ge C.1 C.2.1 d ht (fun z => kt z H locs ls hP hS h) (fun z => kf z H locs ls hP hS h)
theorem z_icmp_ge (C : zC x g cc own ret nL fr lo) {a b : Int32} {off : Int} (hd : zdb cc pc (.if_icmp .ge off) off q t) (kt : b ≤ a → zw x g nL kc ks Q σ t L st) (kf : ¬ b ≤ a → zw x g nL kc ks Q σ q L st) : zw x g nL kc ks Q σ pc L (zi b :: zi a :: st) := by
  obtain ⟨d, rfl, ht⟩ := hd
  exact fun H locs ls hP hS h => lv_icmp_ge C.1 C.2.1 d ht (fun z => kt z H locs ls hP hS h) (fun z => kf z H locs ls hP hS h)
theorem z_if_gt (C : zC x g cc own ret nL fr lo) {a : Int32} {off : Int} (hd : zdb cc pc (.ifCond .gt off) off q t) (kt : 0 < a → zw x g nL kc ks Q σ t L st) (kf : ¬ 0 < a → zw x g nL kc ks Q σ q L st) : zw x g nL kc ks Q σ pc L (zi a :: st) := by
  obtain ⟨d, rfl, ht⟩ := hd
  exact fun H locs ls hP hS h => lv_if_gt C.1 C.2.1 d ht (fun z => kt z H locs ls hP hS h) (fun z => kf z H locs ls hP hS h)
theorem z_icmp_gt (C : zC x g cc own ret nL fr lo) {a b : Int32} {off : Int} (hd : zdb cc pc (.if_icmp .gt off) off q t) (kt : b < a → zw x g nL kc ks Q σ t L st) (kf : ¬ b < a → zw x g nL kc ks Q σ q L st) : zw x g nL kc ks Q σ pc L (zi b :: zi a :: st) := by
  obtain ⟨d, rfl, ht⟩ := hd
  exact fun H locs ls hP hS h => lv_icmp_gt C.1 C.2.1 d ht (fun z => kt z H locs ls hP hS h) (fun z => kf z H locs ls hP hS h)
theorem z_if_le (C : zC x g cc own ret nL fr lo) {a : Int32} {off : Int} (hd : zdb cc pc (.ifCond .le off) off q t) (kt : a ≤ 0 → zw x g nL kc ks Q σ t L st) (kf : ¬ a ≤ 0 → zw x g nL kc ks Q σ q L st) : zw x g nL kc ks Q σ pc L (zi a :: st) := by
  obtain ⟨d, rfl, ht⟩ := hd
  exact fun H locs ls hP hS h => lv_if_le C.1 C.2.1 d ht (fun z => kt z H locs ls hP hS h) (fun z => kf z H locs ls hP hS h)
theorem z_icmp_le (C : zC x g cc own ret nL fr lo) {a b : Int32} {off : Int} (hd : zdb cc pc (.if_icmp .le off) off q t) (kt : a ≤ b → zw x g nL kc ks Q σ t L st) (kf : ¬ a ≤ b → zw x g nL kc ks Q σ q L st) : zw x g nL kc ks Q σ pc L (zi b :: zi a :: st) := by
  obtain ⟨d, rfl, ht⟩ := hd
  exact fun H locs ls hP hS h => lv_icmp_le C.1 C.2.1 d ht (fun z => kt z H locs ls hP hS h) (fun z => kf z H locs ls hP hS h)
end
