/-! constructors: the cells that a walk makes, one behind the other from place n on: F j is the cell at n + j, k of them so far -/
def yu (F : Nat → va_E) (j : Nat) (e : va_E) : Nat → va_E := fun i => if i = j then e else F i
def yj (F : Nat → va_E) (m : Nat) (G : Nat → va_E) : Nat → va_E := fun i => if i < m then F i else G (i - m)
def yA (g : ZG) (n : Nat) : Nat → Prop := fun q => g.1 + n ≤ q
def yP (g : ZG) (n : Nat) (F : Nat → va_E) (k : Nat) (H : Heap) : Prop := (∀ j, j < k → va_at g.2.1 zcl (g.1 + (n + j), F j) H) ∧ H.size = g.1 + (n + k)
def yw (x : ZX) (g : ZG) (nL : Nat) (kc ks : Nat) (Q : State → Prop) (n : Nat) (F : Nat → va_E) (k : Nat) (pc : Nat) (L : List (Option ZV)) (st : List ZV) : Prop :=
  ∀ (H : Heap) (locs : List Loc) (ls : Array Slot), yP g n F k H → va_S (yA g n) x.2.2.2.2.1.heap H locs → zlh g ls nL L →
    W x.1 x.2.1 x.2.2.1 x.2.2.2.1 x.2.2.2.2.1 x.2.2.2.2.2.1 x.2.2.2.2.2.2.1 x.2.2.2.2.2.2.2.1 x.2.2.2.2.2.2.2.2.1 x.2.2.2.2.2.2.2.2.2 H locs kc ks Q (F0 x.2.2.2.2.2.1 pc ls (st.map (zval g)))
def yC (x : ZX) (g : ZG) (cc : ByteArray) (own : String) (ret : Option FieldType) (nL fr lo mc ms n : Nat) : Prop := zC x g cc own ret nL fr lo ∧ (mc ≤ x.2.2.2.1.cells ∧ ms ≤ x.2.2.2.1.slots) ∧ (0 < n ∧ n < 200)
def yQ (g : ZG) (n : Nat) (F : Nat → va_E) (k : Nat) : Array Value → State → Outcome → State → Prop := fun _ st o t => o = .returned none ∧ yP g n F k t.heap ∧ va_F (yA g n) st t
/-- a contract that makes cells -/
def yT (l : Launch) (g : ZG) (y : MethodName) (cc : ByteArray) (nL : Nat) (fr lo mc ms n : Nat) (as : List ZV) (F : Nat → va_E) (k : Nat) (F' : Nat → va_E) (k' : Nat) : Prop :=
  Met l y (.code y cc nL none :: lw_gd) { frames := fr, cells := mc, slots := ms, locals := lo } (va_Pc (as.map (zval g)) (fun U => yP g n F k U.heap ∧ zK g U)) (yQ g n F' k') mc ms (yA g n)
theorem yA_zA {g : ZG} {n q : Nat} (h0 : 0 < n) (h : yA g n q) : zA g q := by
  show g.1 < q
  have : g.1 + n ≤ q := h
  omega
theorem va_S.wide {A B : Nat → Prop} {H0 H : Heap} {locs : List Loc} (h : va_S A H0 H locs) (hAB : ∀ q, A q → B q) : va_S B H0 H locs := ⟨h.1, fun q h1 h2 => h.2.1 q h1 (fun z => h2 (hAB q z)), fun l hl => hAB _ (h.2.2 l hl)⟩
theorem zlh_start {g : ZG} {nL m : Nat} {as : List ZV} {L : List (Option ZV)} (hL : zent as ++ List.replicate m none = L) (hn : (zent as).length + m = nL) : zlh g ((lg_sl (as.map (zval g)) ++ List.replicate (nL - (lg_sl (as.map (zval g))).length) Slot.unset).toArray) nL L := by
  have hlen : ∀ as : List ZV, (lg_sl (as.map (zval g))).length = (zent as).length := by
    intro as
    induction as with
    | nil => rfl
    | cons a as ih =>
      have h2 : lg_sl ((a :: as).map (zval g)) = (if (zval g a).category = 2 then [Slot.val (zval g a), Slot.second] else [Slot.val (zval g a)]) ++ lg_sl (as.map (zval g)) := by
        simp only [lg_sl, List.map_cons, List.flatMap_cons]
      rw [h2, List.length_append, ih, zval_cat]
      rcases a with a | a | a
      · simp [zlong, zent]; omega
      · simp [zlong, zent]; omega
      · simp [zlong, zent]; omega
  have hl := lv_entry (as.map (zval g)) (n := nL) (by rw [hlen as]; omega)
  refine ⟨hl.1, hl.2.1, fun i v hi => ?_⟩
  have h1 : zat (zent as) i = some v := by
    rw [← hL] at hi
    clear hn hL hl
    generalize zent as = z at hi
    induction z generalizing i with
    | nil =>
      exfalso
      rw [List.nil_append] at hi
      induction m generalizing i with
      | zero => simp [zat] at hi
      | succ m ihm => cases i with
        | zero => simp [List.replicate, zat] at hi
        | succ i => exact ihm i (by simpa [List.replicate, zat] using hi)
    | cons a z ih => cases i with
      | zero => simpa [zat] using hi
      | succ i => exact ih i (by simpa [zat] using hi)
  have h2 := zlh_entry (g := g) as 0 i v h1
  rw [Nat.zero_add] at h2
  exact hl.2.2 (i, zval g v) h2
theorem yT_start {l : Launch} {g : ZG} {y : MethodName} {cc : ByteArray} {nL : Nat} {fr lo mc ms n : Nat} {as : List ZV} {F : Nat → va_E} {k : Nat} {F' : Nat → va_E} {k' : Nat} {own : String} (ho : y.cls = own) (hy : plainName own = true) (hn0 : 0 < n ∧ n < 200) (m : Nat) {L : List (Option ZV)} (hL : zent as ++ List.replicate m none = L) (hn : (zent as).length + m = nL)
    (K : ∀ x : ZX, x.2.1 = l → yC x g cc own none nL fr lo mc ms n → x.2.2.2.2.2.2.2.2.1.name = y.name → yw x g nL 0 0 (MQ x.2.2.2.2.2.2.2.1 (yQ g n F' k') x.2.2.2.2.2.2.1 x.2.2.2.2.1 mc ms (yA g n)) n F k 0 L []) : yT l g y cc nL fr lo mc ms n as F k F' k' := by
  subst ho
  refine Met.ofW (cc := cc) (maxL := nL) (ret := none) hy rfl ?_
  intro p e s m0 args below meth c s₁ B hml hv
  obtain ⟨rfl, hP, hK⟩ := hv
  have hts := atoms_spec (ws := .code y cc nL none :: lw_gd) B.pre
  have C : yC (p, l, e, { frames := fr, cells := mc, slots := ms, locals := lo }, s, m0, (as.map (zval g)).toArray, below, meth, c) g cc y.cls none nL fr lo mc ms n :=
    ⟨⟨B.exec, B.bytes, B.returns, hml, findClass_of_methodNamed B.named, fun w hw => hts w (List.mem_cons_of_mem _ hw), B.notSynchronized, ⟨Nat.le_refl _, Nat.le_refl _⟩, hK⟩, ⟨Nat.le_refl _, Nat.le_refl _⟩, hn0⟩
  rw [lg_entry_eq]
  exact K (p, l, e, _, s, m0, _, below, meth, c) rfl C (name_of_methodNamed B.named B.method).1 s.heap [] _ hP va_S.rf (zlh_start hL hn)
section
variable {x : ZX} {g : ZG} {cc : ByteArray} {own : String} {ret : Option FieldType} {nL fr lo mc ms kc ks : Nat} {Q : State → Prop} {n : Nat} {F : Nat → va_E} {k pc q t : Nat} {L : List (Option ZV)} {st : List ZV}
theorem yrv {j : Nat} (hn : 0 < n ∧ n < 200) (hj : j < 800) : zrv g (n + j) = .ref (g.1 + (n + j)) := by
  rw [zrv, if_neg (by omega), if_neg (by omega)]
theorem y_iconst (C : yC x g cc own ret nL fr lo mc ms n) {i : Int} (v : Int32) (hd : zd cc pc (.iconst i) 1 q) (hv : Int32.ofInt i = v) (K : yw x g nL kc ks Q n F k q L (zi v :: st)) : yw x g nL kc ks Q n F k pc L st := by
  obtain ⟨d, rfl⟩ := hd
  exact fun H locs ls hP hS hl => lv_iconst C.1.1 C.1.2.1 d hv (K H locs ls hP hS hl)
theorem y_bipush (C : yC x g cc own ret nL fr lo mc ms n) {i : Int} (v : Int32) (hd : zd cc pc (.bipush i) 2 q) (hv : (Int8.ofInt i).toInt32 = v) (K : yw x g nL kc ks Q n F k q L (zi v :: st)) : yw x g nL kc ks Q n F k pc L st := by
  obtain ⟨d, rfl⟩ := hd
  exact fun H locs ls hP hS hl => lv_bipush C.1.1 C.1.2.1 d hv (K H locs ls hP hS hl)
theorem y_sipush (C : yC x g cc own ret nL fr lo mc ms n) {i : Int} (v : Int32) (hd : zd cc pc (.sipush i) 3 q) (hv : (Int16.ofInt i).toInt32 = v) (K : yw x g nL kc ks Q n F k q L (zi v :: st)) : yw x g nL kc ks Q n F k pc L st := by
  obtain ⟨d, rfl⟩ := hd
  exact fun H locs ls hP hS hl => lv_sipush C.1.1 C.1.2.1 d hv (K H locs ls hP hS hl)
theorem y_iload_n (C : yC x g cc own ret nL fr lo mc ms n) {i : Fin 4} {v : Int32} (hd : zd cc pc (.iload_n i) 1 q) (hl : zat L i = some (zi v)) (K : yw x g nL kc ks Q n F k q L (zi v :: st)) : yw x g nL kc ks Q n F k pc L st := by
  obtain ⟨d, rfl⟩ := hd
  exact fun H locs ls hP hS h => lv_iload_n C.1.1 C.1.2.1 d rfl (h.2.2 _ _ hl) (K H locs ls hP hS h)
theorem y_aload_n (C : yC x g cc own ret nL fr lo mc ms n) {i : Fin 4} {j : Nat} (hd : zd cc pc (.aload_n i) 1 q) (hl : zat L i = some (zr (n + j))) (hj : j < 800) (K : yw x g nL kc ks Q n F k q L (zr (n + j) :: st)) : yw x g nL kc ks Q n F k pc L st := by
  obtain ⟨d, rfl⟩ := hd
  intro H locs ls hP hS h
  have h1 := h.2.2 _ _ hl
  have h2 := K H locs ls hP hS h
  change W _ _ _ _ _ _ _ _ _ _ _ _ _ _ _ (F0 _ _ _ (zrv g (n + j) :: st.map (zval g))) at h2
  change ls[_]? = some (Slot.val (zrv g (n + j))) at h1
  rw [yrv C.2.2 hj] at h1 h2
  exact lv_aload_n C.1.1 C.1.2.1 d rfl h1 h2
theorem y_istore_n (C : yC x g cc own ret nL fr lo mc ms n) {i : Fin 4} {v : Int32} {L' : List (Option ZV)} (hd : zd cc pc (.istore_n i) 1 q) (hn : (i : Nat) < nL) (hw : zlow L i = true) (hL : zset L i (zi v) = L') (K : yw x g nL kc ks Q n F k q L' st) : yw x g nL kc ks Q n F k pc L (zi v :: st) := by
  obtain ⟨d, rfl⟩ := hd
  subst hL
  exact fun H locs ls hP hS h => lv_istore_n C.1.1 C.1.2.1 d rfl h.has hn rfl fun ls' h' => K H locs ls' hP hS (zlh.stored hw h')
theorem y_iinc (C : yC x g cc own ret nL fr lo mc ms n) {i : Nat} {z : Int} {v v' : Int32} {L' : List (Option ZV)} (hd : zd cc pc (.iinc i z) 3 q) (hl : zat L i = some (zi v)) (hv : v + Int32.ofInt z = v') (hn : i < nL) (hw : zlow L i = true) (hL : zset L i (zi v') = L') (K : yw x g nL kc ks Q n F k q L' st) : yw x g nL kc ks Q n F k pc L st := by
  obtain ⟨d, rfl⟩ := hd
  subst hL; subst hv
  intro H locs ls hP hS h
  obtain ⟨j, hj⟩ := List.getElem?_of_mem (zas_mem (g := g) hl)
  exact lv_iinc C.1.1 C.1.2.1 d h.has hj rfl hn rfl fun ls' h' => K H locs ls' hP hS (zlh.stored hw h')
theorem y_dup (C : yC x g cc own ret nL fr lo mc ms n) {v : ZV} (hd : zd cc pc .dup 1 q) (hv : zlong (some v) = false) (K : yw x g nL kc ks Q n F k q L (v :: v :: st)) : yw x g nL kc ks Q n F k pc L (v :: st) := by
  obtain ⟨d, rfl⟩ := hd
  exact fun H locs ls hP hS h => lv_dup C.1.1 C.1.2.1 d (by rw [zval_cat, hv]; decide) (K H locs ls hP hS h)
theorem y_goto (C : yC x g cc own ret nL fr lo mc ms n) {off : Int} (hd : zdb cc pc (.goto off) off q t) (K : yw x g nL kc ks Q n F k t L st) : yw x g nL kc ks Q n F k pc L st :=
  fun H locs ls hP hS h => lv_goto C.1.1 C.1.2.1 hd.1 hd.2.2 (K H locs ls hP hS h)
theorem y_icmp_ge (C : yC x g cc own ret nL fr lo mc ms n) {a b : Int32} {off : Int} (hd : zdb cc pc (.if_icmp .ge off) off q t) (kt : b ≤ a → yw x g nL kc ks Q n F k t L st) (kf : ¬ b ≤ a → yw x g nL kc ks Q n F k q L st) : yw x g nL kc ks Q n F k pc L (zi b :: zi a :: st) := by
  obtain ⟨d, rfl, ht⟩ := hd
  exact fun H locs ls hP hS h => lv_icmp_ge C.1.1 C.1.2.1 d ht (fun z => kt z H locs ls hP hS h) (fun z => kf z H locs ls hP hS h)
/-- Object's constructor -/
theorem y_obj (C : yC x g cc own ret nL fr lo mc ms n) {idx j : Nat} (hd : zd cc pc (.invokespecial idx) 3 q) (hw : Cond.methodLink own idx Lib.objectInit ∈ lw_gd) (ho : Cond.instanceMethod Lib.objectInit ∈ lw_gd ∧ Cond.code Lib.objectInit ⟨#[0xb1]⟩ 1 none ∈ lw_gd) (hj : j < 800) (hst : st = []) (hR : 1 ≤ fr ∧ 20 ≤ lo) (K : yw x g nL kc ks Q n F k q L st) : yw x g nL kc ks Q n F k pc L (zr (n + j) :: st) := by
  obtain ⟨d, rfl⟩ := hd
  subst hst
  have hts := C.1.2.2.2.2.2.1
  intro H locs ls hP hS h
  show W _ _ _ _ _ _ _ _ _ _ _ _ _ _ _ (F0 _ _ _ (zrv g (n + j) :: []))
  rw [yrv C.2.2 hj]
  exact W.objInit C.1.1 C.1.2.1 C.1.2.2.2.2.1 (hts _ hw) (hts _ ho.1) (hts _ ho.2) rfl (h.1.trans C.1.2.2.2.1.symm) rfl d (Nat.le_trans hR.1 C.1.2.2.2.2.2.2.2.1.1) (Nat.le_trans (by show 2 * 0 + 0 + 12 ≤ 20; omega) (Nat.le_trans hR.2 C.1.2.2.2.2.2.2.2.1.2)) (K H locs ls hP hS h)
theorem va_S.grown {A : Nat → Prop} {H0 H H1 : Heap} {locs : List Loc} (h : va_S A H0 H locs) (hz : H.size ≤ H1.size) (ho : ∀ q, q < H.size → H1[q]? = H[q]?) : va_S A H0 H1 locs := ⟨Nat.le_trans h.1 hz, fun q h1 h2 => (ho q (Nat.lt_of_lt_of_le h1 h.1)).trans (h.2.1 q h1 h2), h.2.2⟩
/-- one more cell -/
theorem yP.push {H H1 : Heap} {e : va_E} (h : yP g n F k H) (hz : H1.size = H.size + 1) (ho : ∀ q, q < H.size → H1[q]? = H[q]?) (he : va_at g.2.1 zcl (g.1 + (n + k), e) H1) : yP g n (yu F k e) (k + 1) H1 := by
  refine ⟨fun j hj => ?_, by rw [hz, h.2]; omega⟩
  by_cases hjk : j = k
  · subst hjk
    rw [yu, if_pos rfl]
    exact he
  · rw [yu, if_neg hjk]
    refine (h.1 j (by omega)).kept (ho _ ?_)
    rw [h.2]
    show g.1 + (n + j) < _
    omega
/-- a cell that changes -/
theorem yP.put {H H1 : Heap} {e : va_E} {j0 : Nat} (h : yP g n F k H) (hz : H1.size = H.size) (ho : ∀ q, q ≠ g.1 + (n + j0) → H1[q]? = H[q]?) (he : va_at g.2.1 zcl (g.1 + (n + j0), e) H1) : yP g n (yu F j0 e) k H1 := by
  refine ⟨fun j hj => ?_, by rw [hz, h.2]⟩
  by_cases hjk : j = j0
  · subst hjk
    rw [yu, if_pos rfl]
    exact he
  · rw [yu, if_neg hjk]
    refine (h.1 j (by omega)).kept (ho _ ?_)
    show g.1 + (n + j) ≠ _
    omega
theorem y_newo (C : yC x g cc own ret nL fr lo mc ms n) {idx ci : Nat} {Cn : String} {T : u_T} {N : Nat} {fs : List Value} (hd : zd cc pc (.new idx) 3 q) (hw : Cond.classLink own idx Cn ∈ lw_gd ∧ Cond.instantiable Cn N ∈ lw_gd ∧ Cond.initialized Cn ∈ lw_gd) (hc : zcl[ci]? = some (Cn, T, N)) (ty0 : Nat → FieldType) (hty : ∀ k, k < N → parseFieldDescriptor (T k).2.2.1 = some (ty0 k)) (hfs : ∀ j, j < N → defaultValue (ty0 j) = vp_V fs j) (hR : kc + 1 ≤ mc ∧ ks + N ≤ ms) {k' : Nat} (hk : k + 1 = k')
    (K : yw x g nL (kc + 1) (ks + N) Q n (yu F k (.inr (ci, fs))) k' q L (zr (n + k) :: st)) (hk8 : k < 800) : yw x g nL kc ks Q n F k pc L st := by
  obtain ⟨d, rfl⟩ := hd
  subst hk
  have hts := C.1.2.2.2.2.2.1
  obtain ⟨u1, -, -⟩ := zhu ci _ hc
  intro H locs ls hP hS h
  have hKn := C.1.2.2.2.2.2.2.2.2.1.1 ci _ hc
  refine W.newcK C.1.1 C.1.2.1 C.1.2.2.2.2.1 (hts _ hw.1) (hts _ hw.2.1) (hts _ hw.2.2) rfl d (Nat.le_trans hR.1 C.2.1.1) (Nat.le_trans hR.2 C.2.1.2) hKn.2.1 rfl fun H1 kC hkC e1 z1 o1 => ?_
  have hz2 := hP.2
  have e2 : va_at g.2.1 zcl (g.1 + (n + k), .inr (ci, fs)) H1 := by
    rw [← hz2]
    exact ⟨_, hc, (u_born ty0 hts u1 hKn hkC e1 hty).to hfs⟩
  have h2 := K H1 locs ls (hP.push z1 o1 e2) (hS.grown (by omega) o1) h
  change W _ _ _ _ _ _ _ _ _ _ _ _ _ _ _ (F0 _ _ _ (zrv g (n + k) :: st.map (zval g))) at h2
  rw [yrv C.2.2 hk8, ← hz2] at h2
  exact h2
theorem y_newa (C : yC x g cc own ret nL fr lo mc ms n) {v : Int32} {N : Nat} (hd : zd cc pc (.newarray .int) 2 q) (hw : Cond.arrayClass .int ∈ lw_gd) (hv : v = nI N) (hN : N < 2 ^ 20) (hR : kc + 1 ≤ mc ∧ ks + N ≤ ms) {k' : Nat} (hk : k + 1 = k') (hk8 : k < 800)
    (K : yw x g nL (kc + 1) (ks + N) Q n (yu F k (.inl (g.2.2.1 0, N, .inl fun _ => 0))) k' q L (zr (n + k) :: st)) : yw x g nL kc ks Q n F k pc L (zi v :: st) := by
  obtain ⟨d, rfl⟩ := hd
  subst hk; subst hv
  have hts := C.1.2.2.2.2.2.1
  intro H locs ls hP hS h
  have hz2 := hP.2
  refine va_newaK (atype := .int) C.1.1 C.1.2.1 (hts _ hw) rfl d rfl (nI_pos (by omega)) (nI_clamp (by omega)) (by show N * 4 ≤ _; omega) (Nat.le_trans hR.1 C.2.1.1) (Nat.le_trans hR.2 C.2.1.2) hz2 fun H1 cA e1 z1 o1 hAr hNm => ?_
  have hcA : cA = g.2.2.1 0 := by
    have h2 := (C.1.2.2.2.2.2.2.2.2.1.2 0 (g.2.2.1 0, .int) rfl).2
    exact Option.some.inj (hNm.symm.trans h2)
  subst hcA
  have h2 := K H1 locs ls (hP.push (by omega) (fun q hq => o1 q (by omega)) e1) (hS.grown (by omega) (fun q hq => o1 q (by omega))) h
  change W _ _ _ _ _ _ _ _ _ _ _ _ _ _ _ (F0 _ _ _ (zrv g (n + k) :: st.map (zval g))) at h2
  rw [yrv C.2.2 hk8] at h2
  exact h2
theorem y_newq (C : yC x g cc own ret nL fr lo mc ms n) {v : Int32} {N κ idx : Nat} (hd : zd cc pc (.anewarray idx) 3 q) (h1 : 11 ≤ κ) (h2 : κ < 15) (hw : Cond.classLink own idx (zrc κ) ∈ lw_gd) (hv : v = nI N) (hN : N < 2 ^ 20) (hR : kc + 1 ≤ mc ∧ ks + N ≤ ms) {k' : Nat} (hk : k + 1 = k') (hk8 : k < 800)
    (K : yw x g nL (kc + 1) (ks + N) Q n (yu F k (.inl (g.2.2.1 (κ - 10), N, .inr (.inr (.inr (.inr fun _ => none)))))) k' q L (zr (n + k) :: st)) : yw x g nL kc ks Q n F k pc L (zi v :: st) := by
  obtain ⟨d, rfl⟩ := hd
  subst hk; subst hv
  have hts := C.1.2.2.2.2.2.1
  intro H locs ls hP hS h
  have hz2 := hP.2
  refine W.anew C.1.1 C.1.2.1 C.1.2.2.2.2.1 (hts _ hw) (va_AO.use (C.1.2.2.2.2.2.2.2.2.2.2.2.2 κ h1 h2)) rfl d rfl (nI_pos (by omega)) (by rw [nI_clamp (by omega)]; omega) (Nat.le_trans hR.1 C.2.1.1) (by rw [nI_clamp (by omega)]; exact Nat.le_trans hR.2 C.2.1.2) fun cA kA comp f1 f2 f3 f4 => ?_
  rw [nI_clamp (by omega)]
  generalize hH1 : H.push ({ cls := cA, slots := Array.replicate N .null, vm := .none } : Cell) = H1
  have z1 : H1.size = H.size + 1 := by rw [← hH1, Array.size_push]
  have e1 : H1[H.size]? = some (arrV cA N (fun _ => .null)) := by rw [← hH1, Array.getElem?_push_size, ← arrV_new]
  have o1 : ∀ q : Nat, q < H.size → H1[q]? = H[q]? := fun q hq => by rw [← hH1, Array.getElem?_push, if_neg (Nat.ne_of_lt hq)]
  have hcA : cA = g.2.2.1 (κ - 10) := by
    obtain ⟨k2, c2, r1, r2, r3, r4⟩ := (C.1.2.2.2.2.2.2.2.2.1.2 (κ - 10) _ (ztys_at g h1 h2)).2
    exact Option.some.inj (f1.symm.trans r4)
  subst hcA
  rw [hz2] at e1
  have h3 := K H1 locs ls (hP.push z1 o1 e1) (hS.grown (by omega) o1) h
  change W _ _ _ _ _ _ _ _ _ _ _ _ _ _ _ (F0 _ _ _ (zrv g (n + k) :: st.map (zval g))) at h3
  rw [yrv C.2.2 hk8, ← hz2] at h3
  exact h3
theorem y_putF (C : yC x g cc own ret nL fr lo mc ms n) {idx ci kf j0 jw : Nat} {Cn : String} {T : u_T} {N : Nat} {fs fs' : List Value} (hd : zd cc pc (.putfield idx) 3 q) (hi : x.2.2.2.2.2.2.2.2.1.name = "<init>") (hc : zcl[ci]? = some (Cn, T, N)) (hk : kf < N) (h4 : (T kf).1 = own) (hw : Cond.fieldLink own idx own (T kf).2.1 (T kf).2.2.1 ∈ lw_gd) (hf : (T kf).2.2.2 = true) {ty : FieldType} (hty : parseFieldDescriptor (T kf).2.2.1 = some ty) (hn : ∀ a, narrow ty (.ref a) = .ref a) (hfit : ∀ a, fits ty (.ref a) = true)
    (hj : j0 < k) (hjw : jw < 800) (hk8 : k < 800) (he : F j0 = .inr (ci, fs)) (hs : fs.set kf (.ref (g.1 + (n + jw))) = fs') (hl : kf < fs.length) (K : yw x g nL kc ks Q n (yu F j0 (.inr (ci, fs'))) k q L st) : yw x g nL kc ks Q n F k pc L (zr (n + jw) :: zr (n + j0) :: st) := by
  obtain ⟨d, rfl⟩ := hd
  subst hs
  have hts := C.1.2.2.2.2.2.1
  obtain ⟨u1, ⟨ty0, u2⟩, u3⟩ := zhu ci _ hc
  intro H locs ls hP hS h
  show W _ _ _ _ _ _ _ _ _ _ _ _ _ _ _ (F0 _ _ _ (zrv g (n + jw) :: zrv g (n + j0) :: st.map (zval g)))
  rw [yrv C.2.2 hjw, yrv C.2.2 (by omega)]
  have hap := va_apart (own := own) hts u1 ty0 u2 u3 C.1.2.2.2.2.2.2.2.2.1 hc
  have h0 := hP.1 j0 hj
  rw [he] at h0
  obtain ⟨r, h1, cell, q1, q2, q3, q4⟩ := h0
  have hr : r = (Cn, T, N) := Option.some.inj (h1.symm.trans hc)
  subst hr
  obtain ⟨hS1, hfc, kC, hkC, hkind⟩ := C.1.2.2.2.2.2.2.2.2.1.1 ci _ hc
  obtain ⟨cf, kf2, fi, f, hi2, hsl⟩ := hS1 kf hk
  have hlay := hts _ (u1 _ (u_in_lay hk))
  unfold u_lay at hlay
  rw [if_pos hf] at hlay
  have hst := (u_facts hfc hkC (u_lays hts u1 hk) hi2).1
  have hcf : x.2.2.2.2.2.1.cls = cf := by
    obtain ⟨_, _, c', _, _, _, -, -, hf', -, -, -, hown2, -⟩ := Cond.laysFinal_spec hlay
    have e1 : c' = cf := by have := hi2.symm.trans hf'; simp at this; exact this.1.symm
    rw [h4] at hown2
    rw [← e1]; exact Option.some.inj (C.1.2.2.2.2.1.symm.trans hown2)
  have h6 := u_fits hfc hkC hkind (Or.inr hlay) hi2 hty (hn (g.1 + (n + jw))) (hfit (g.1 + (n + jw)))
  refine W.putFinK C.1.1 C.1.2.1 C.1.2.2.2.2.1 (hts _ hw) (by rw [h4] at hi2; exact hi2) hst hcf hi (by rw [q2]; exact h6) q1 q3 (by rw [hsl]; exact k2_hasslot (q4 kf hk)) rfl rfl d fun H' e1 e2 e3 => ?_
  rw [hsl] at e1 ⊢
  refine K H' _ ls (hP.put e2 e3 ⟨_, hc, t_OB.to (V := updV (vp_V fs) kf (.ref (g.1 + (n + jw)))) ⟨_, e1, q2, q3, t_set q4 hap hk _⟩ (fun j _ => vp_updV_set hl _ j)⟩) (hS.put e2 e3 (by show g.1 + n ≤ _; omega)) h
theorem y_putN (C : yC x g cc own ret nL fr lo mc ms n) {idx ci kf j0 : Nat} {w : Int32} {Cn : String} {T : u_T} {N : Nat} {fs fs' : List Value} (hd : zd cc pc (.putfield idx) 3 q) (hc : zcl[ci]? = some (Cn, T, N)) (hk : kf < N) (h4 : (T kf).1 = own) (hw : Cond.fieldLink own idx own (T kf).2.1 (T kf).2.2.1 ∈ lw_gd) (hf : (T kf).2.2.2 = false) (hty : parseFieldDescriptor (T kf).2.2.1 = some .int)
    (hj : j0 < k) (hk8 : k < 800) (he : F j0 = .inr (ci, fs)) (hs : fs.set kf (.int w) = fs') (hl : kf < fs.length) (K : yw x g nL kc ks Q n (yu F j0 (.inr (ci, fs'))) k q L st) : yw x g nL kc ks Q n F k pc L (zi w :: zr (n + j0) :: st) := by
  obtain ⟨d, rfl⟩ := hd
  subst hs
  have hts := C.1.2.2.2.2.2.1
  obtain ⟨u1, ⟨ty0, u2⟩, u3⟩ := zhu ci _ hc
  intro H locs ls hP hS h
  show W _ _ _ _ _ _ _ _ _ _ _ _ _ _ _ (F0 _ _ _ (.int w :: zrv g (n + j0) :: st.map (zval g)))
  rw [yrv C.2.2 (by omega)]
  have hap := va_apart (own := own) hts u1 ty0 u2 u3 C.1.2.2.2.2.2.2.2.2.1 hc
  have h0 := hP.1 j0 hj
  rw [he] at h0
  obtain ⟨r, h1, cell, q1, q2, q3, q4⟩ := h0
  have hr : r = (Cn, T, N) := Option.some.inj (h1.symm.trans hc)
  subst hr
  obtain ⟨hS1, hfc, kC, hkC, hkind⟩ := C.1.2.2.2.2.2.2.2.2.1.1 ci _ hc
  obtain ⟨cf, kf2, fi, f, hi2, hsl⟩ := hS1 kf hk
  have hlay := hts _ (u1 _ (u_in_lay hk))
  unfold u_lay at hlay
  rw [if_neg (by rw [hf]; decide)] at hlay
  have hst := (u_facts hfc hkC (u_lays hts u1 hk) hi2).1
  have h6 := u_store hfc hkC hkind hlay hi2 hty (v := .int w) rfl rfl
  refine W.putK C.1.1 C.1.2.1 (f := f) ⟨C.1.2.2.2.2.1, hts _ hw, ⟨_, _, _, by rw [h4] at hi2; exact hi2⟩, hst⟩ (by rw [q2]; exact h6) q1 q3 (by rw [hsl]; exact k2_hasslot (q4 kf hk)) rfl rfl d fun H' e1 e2 e3 => ?_
  rw [hsl] at e1 ⊢
  refine K H' _ ls (hP.put e2 e3 ⟨_, hc, t_OB.to (V := updV (vp_V fs) kf (.int w)) ⟨_, e1, q2, q3, t_set q4 hap hk _⟩ (fun j _ => vp_updV_set hl _ j)⟩) (hS.put e2 e3 (by show g.1 + n ≤ _; omega)) h
theorem y_getR (C : yC x g cc own ret nL fr lo mc ms n) {idx ci kf j0 j1 : Nat} {Cn : String} {T : u_T} {N : Nat} {fs : List Value} (hd : zd cc pc (.getfield idx) 3 q) (hc : zcl[ci]? = some (Cn, T, N)) (hk : kf < N) (h4 : (T kf).1 = own) (hw : Cond.fieldLink own idx own (T kf).2.1 (T kf).2.2.1 ∈ lw_gd) (hj : j0 < k) (hk8 : k < 800) (hj1 : j1 < 800) (he : F j0 = .inr (ci, fs)) (hs : fs[kf]? = some (.ref (g.1 + (n + j1))))
    (K : yw x g nL kc ks Q n F k q L (zr (n + j1) :: st)) : yw x g nL kc ks Q n F k pc L (zr (n + j0) :: st) := by
  obtain ⟨d, rfl⟩ := hd
  have hts := C.1.2.2.2.2.2.1
  obtain ⟨u1, -, -⟩ := zhu ci _ hc
  intro H locs ls hP hS h
  show W _ _ _ _ _ _ _ _ _ _ _ _ _ _ _ (F0 _ _ _ (zrv g (n + j0) :: st.map (zval g)))
  rw [yrv C.2.2 (by omega)]
  have h0 := hP.1 j0 hj
  rw [he] at h0
  have hP1 : va_P g.2.1 zcl [(g.1 + (n + j0), .inr (ci, fs))] H := fun i q hq => by
    cases i with
    | zero => cases hq; exact h0
    | succ i => simp at hq
  have h8 := K H locs ls hP hS h
  change W _ _ _ _ _ _ _ _ _ _ _ _ _ _ _ (F0 _ _ _ (zrv g (n + j1) :: st.map (zval g))) at h8
  rw [yrv C.2.2 hj1] at h8
  exact va_get C.1.1 C.1.2.1 hts u1 C.1.2.2.2.2.1 C.1.2.2.2.2.2.2.2.2.1 hP1 0 rfl hc kf hk (hts _ hw) (fun y hy => by rw [h4] at hy; exact hy) hs d h8
theorem y_alen (C : yC x g cc own ret nL fr lo mc ms n) {j0 N t0 : Nat} {a : _} {ty : FieldType} (v : Int32) (hd : zd cc pc .arraylength 1 q) (hj : j0 < k) (hk8 : k < 800) (he : F j0 = .inl (g.2.2.1 t0, N, a)) (ht : (ztys g)[t0]? = some (g.2.2.1 t0, ty)) (hv : Int32.ofNat N = v)
    (K : yw x g nL kc ks Q n F k q L (zi v :: st)) : yw x g nL kc ks Q n F k pc L (zr (n + j0) :: st) := by
  obtain ⟨d, rfl⟩ := hd
  intro H locs ls hP hS h
  show W _ _ _ _ _ _ _ _ _ _ _ _ _ _ _ (F0 _ _ _ (zrv g (n + j0) :: st.map (zval g)))
  rw [yrv C.2.2 (by omega)]
  have h0 := hP.1 j0 hj
  rw [he] at h0
  have hP1 : va_P g.2.1 zcl [(g.1 + (n + j0), .inl (g.2.2.1 t0, N, a))] H := fun i q hq => by
    cases i with
    | zero => cases hq; exact h0
    | succ i => simp at hq
  exact va_alen C.1.1 C.1.2.1 C.1.2.2.2.2.2.2.2.2.1 hP1 0 t0 rfl ht hv d (K H locs ls hP hS h)
theorem y_astq (C : yC x g cc own ret nL fr lo mc ms n) {j0 jv N κ ci : Nat} {f : Nat → Option Nat} {r : vw_C} {vs : List Value} {i : Int32} (hd : zd cc pc .aastore 1 q) (h1 : 11 ≤ κ) (h2 : κ < 15) (hj : j0 < k) (hjv : jv < k) (hk8 : k < 800) (he : F j0 = .inl (g.2.2.1 (κ - 10), N, .inr (.inr (.inr (.inr f))))) (hv : F jv = .inr (ci, vs)) (hc : zcl[ci]? = some r) (hr : r.1 = zrc κ) (hi : zin i N) {ii : Nat} (hii : i.toNatClampNeg = ii)
    (K : yw x g nL kc ks Q n (yu F j0 (.inl (g.2.2.1 (κ - 10), N, .inr (.inr (.inr (.inr (va_up f ii (some (g.1 + (n + jv)))))))))) k q L st) : yw x g nL kc ks Q n F k pc L (zr (n + jv) :: zi i :: zr (n + j0) :: st) := by
  obtain ⟨d, rfl⟩ := hd
  subst hii
  intro H locs ls hP hS h
  show W _ _ _ _ _ _ _ _ _ _ _ _ _ _ _ (F0 _ _ _ (zrv g (n + jv) :: .int i :: zrv g (n + j0) :: st.map (zval g)))
  rw [yrv C.2.2 (by omega), yrv C.2.2 (by omega)]
  have h0 := hP.1 j0 hj
  have h0v := hP.1 jv hjv
  rw [he] at h0
  rw [hv] at h0v
  have hin := zin_vp hi
  have hlt : i.toNatClampNeg < N := Nat.not_le.mp fun q => hin (Or.inr q)
  have hi0 : ¬ i < 0 := fun q => hin (Or.inl q)
  obtain ⟨r', hr', cellV, g1, g2, g3, -⟩ := h0v
  have hK := C.1.2.2.2.2.2.2.2.2.1
  have hcls := (hK.1 ci r hc).2
  obtain ⟨kA, comp, k1, k2, k3, -⟩ := (hK.2 (κ - 10) _ (ztys_at g h1 h2)).2
  rw [← hr] at k3
  have hcomp : comp = g.2.1.1 ci := Option.some.inj (k3.symm.trans hcls.1)
  subst hcomp
  have hcls2 := hcls.2
  obtain ⟨kC, hkC, -⟩ := hcls.2
  refine W.aast C.1.1 C.1.2.1 h0 (fun q h => by cases h) (fun h => by cases h) k1 k2 rfl hkC ⟨hi0, by show _ < (arrV _ _ _).slots.size; rw [arrV_size]; exact hlt⟩ g1 (fun q h => by rw [g3] at h; cases h) (by rw [g2]; exact hkC) (by rw [g2]; exact va_assign hcls) rfl rfl d fun H1 e z oq => ?_
  refine K H1 _ ls (hP.put z oq ?_) (hS.put z oq (by show g.1 + n ≤ _; omega)) h
  show H1[g.1 + (n + j0)]? = some (vp_cell _ _)
  rw [e, vp_cell_q, vp_cell_q, arrV_store]
  congr 2
  funext q
  by_cases hq : q = i.toNatClampNeg
  · subst hq
    simp [updV, va_up, va_rf]
  · simp [updV, va_up, hq]
theorem y_iast (C : yC x g cc own ret nL fr lo mc ms n) {j0 N : Nat} {f : Nat → Int32} {i v : Int32} (hd : zd cc pc .iastore 1 q) (hj : j0 < k) (hk8 : k < 800) (he : F j0 = .inl (g.2.2.1 0, N, .inl f)) (hi : zin i N) {ii : Nat} (hii : i.toNatClampNeg = ii)
    (K : yw x g nL kc ks Q n (yu F j0 (.inl (g.2.2.1 0, N, .inl (upd f ii v)))) k q L st) : yw x g nL kc ks Q n F k pc L (zi v :: zi i :: zr (n + j0) :: st) := by
  obtain ⟨d, rfl⟩ := hd
  subst hii
  intro H locs ls hP hS h
  show W _ _ _ _ _ _ _ _ _ _ _ _ _ _ _ (F0 _ _ _ (.int v :: .int i :: zrv g (n + j0) :: st.map (zval g)))
  rw [yrv C.2.2 (by omega)]
  have h0 := hP.1 j0 hj
  rw [he] at h0
  have hin := zin_vp hi
  refine W.iast C.1.1 C.1.2.1 h0 ((C.1.2.2.2.2.2.2.2.2.1.2 0 _ rfl).1 N (fun j => .int (f j))) (fun q => by cases q) (by show ¬ (i < 0 ∨ (arrV _ _ _).slots.size ≤ _); rw [arrV_size]; exact hin) rfl rfl d fun H1 e z oq => ?_
  refine K H1 _ ls (hP.put z oq ?_) (hS.put z oq (by show g.1 + n ≤ _; omega)) h
  show H1[g.1 + (n + j0)]? = some (vp_cell _ _)
  rw [e]
  show some ((vp_cell (g.2.2.1 0) (N, .inl f)).setSlot i.toNatClampNeg (.int v)) = some (vp_cell (g.2.2.1 0) (N, .inl (upd f i.toNatClampNeg v)))
  rw [vp_cell_i, vp_cell_i, arrV_store]
  congr 2
  funext q
  by_cases hq : q = i.toNatClampNeg
  · subst hq
    simp [updV, upd]
  · simp [updV, upd, hq]
theorem y_vret (C : yC x g cc own none nL fr lo mc ms n) {F' : Nat → va_E} {k' : Nat} (hd : zd cc pc .return_ 1 q) (hk : k = k') (hF : ∀ j, j < k → F j = F' j) (hkc : kc = mc) (hks : ks = ms) : yw x g nL kc ks (MQ x.2.2.2.2.2.2.2.1 (yQ g n F' k') x.2.2.2.2.2.2.1 x.2.2.2.2.1 mc ms (yA g n)) n F k pc L [] := by
  obtain ⟨d, rfl⟩ := hd
  subst hk; subst hkc; subst hks
  exact fun H locs ls hP hS hl => W.vret C.1.1 C.1.2.1 C.1.2.2.1 (fun t ht _ => ⟨rfl, by rw [ht]; exact ⟨fun j hj => by rw [← hF j hj]; exact hP.1 j hj, hP.2⟩, hS.F ht⟩) hS.2.2 d C.1.2.2.2.2.2.2.1
/-- behind a call: the callee's cells from its own place on -/
theorem y_ran {m : Nat} {F1 : Nat → va_E} {k1 mc' ms' : Nat} {st0 : List Value} {rest : List ZV} {H : Heap} {locs : List Loc} {ls : Array Slot} {a : Array Value} (hm : m ≤ k) (hP : yP g n F k H) (hS : va_S (yA g n) x.2.2.2.2.1.heap H locs) (hl : zlh g ls nL L)
    (hr : va_Run x.1 x.2.1 x.2.2.1 x.2.2.2.1 x.2.2.2.2.1 x.2.2.2.2.2.1 x.2.2.2.2.2.2.1 x.2.2.2.2.2.2.2.1 x.2.2.2.2.2.2.2.2.1 x.2.2.2.2.2.2.2.2.2 H locs kc ks mc' ms' (F0 x.2.2.2.2.2.1 pc ls st0) (rest.map (zval g)) (yQ g (n + m) F1 k1 a) (yA g (n + m)))
    (K : yw x g nL (kc + mc') (ks + ms') Q n (yj F m F1) (m + k1) (pc + 3) L rest) : W x.1 x.2.1 x.2.2.1 x.2.2.2.1 x.2.2.2.2.1 x.2.2.2.2.2.1 x.2.2.2.2.2.2.1 x.2.2.2.2.2.2.2.1 x.2.2.2.2.2.2.2.2.1 x.2.2.2.2.2.2.2.2.2 H locs kc ks Q (F0 x.2.2.2.2.2.1 pc ls st0) := by
  intro T hT X
  obtain ⟨v', st₀, t, T', L', h0, X', hL, e1, e2, ⟨hv, hP1, hz, hk⟩, stp⟩ := hr T hT X
  cases hv
  rw [h0] at hz hk
  have wide : ∀ q, yA g (n + m) q → yA g n q := fun q h => by
    have : g.1 + (n + m) ≤ q := h
    show g.1 + n ≤ q
    omega
  have hS1 : va_S (yA g n) x.2.2.2.2.1.heap T'.heap (locs ++ L') := ⟨Nat.le_trans hS.1 (by rw [e1]; exact hz), fun q h1 h2 => by rw [e1, hk q (Nat.lt_of_lt_of_le h1 hS.1) (fun z => h2 (wide q z))]; exact hS.2.1 q h1 h2, fun q hq => by
      rcases List.mem_append.mp hq with h | h
      · exact hS.2.2 q h
      · exact wide _ (hL q h)⟩
  have hP2 : yP g n (yj F m F1) (m + k1) T'.heap := by
    rw [e1]
    refine ⟨fun j hj => ?_, by rw [hP1.2]; omega⟩
    by_cases hjm : j < m
    · rw [yj, if_pos hjm]
      refine (hP.1 j (by omega)).kept (hk _ ?_ ?_)
      · rw [hP.2]
        show g.1 + (n + j) < _
        omega
      · intro z
        have : g.1 + (n + m) ≤ g.1 + (n + j) := z
        omega
    · rw [yj, if_neg hjm]
      have h3 := hP1.1 (j - m) (by omega)
      rw [show n + m + (j - m) = n + j by omega] at h3
      exact h3
  obtain ⟨t2, a1, b1⟩ := K T'.heap (locs ++ L') ls hP2 hS1 hl T' rfl X'
  exact ⟨t2, stp t2 a1, b1⟩
theorem y_blind {as : List ZV} {m : Nat} {F1 : Nat → va_E} {k1 : Nat} : FrameBlind (va_Pc (as.map (zval g)) (fun U => yP g m F1 k1 U.heap ∧ zK g U)) := fun _ _ _ _ h => ⟨h.1, h.2.1, h.2.2.blind⟩
theorem y_callI (C : yC x g cc own ret nL fr lo mc ms n) {y : MethodName} {cc' : ByteArray} {nL' fr' lo' mc' ms' idx m : Nat} {e0 : va_E} {F1 : Nat → va_E} {k1 : Nat} (hd : zd cc pc (.invokespecial idx) 3 q) (hw : Cond.methodLink own idx y ∈ lw_gd) (hy : zY y cc' nL' none 0) (hyi : y.name = "<init>") (hin : Cond.instanceMethod y ∈ lw_gd) (hT : yT x.2.1 g y cc' nL' fr' lo' mc' ms' (n + m) [zr (n + m)] (fun _ => e0) 1 F1 k1) (hm : k = m + 1) (hk8 : k < 800) (he : F m = e0)
    (hrm : (st.map fun v => if zlong (some v) = true then 2 else 1).sum ≤ 8) (hR : fr' + 1 ≤ fr ∧ 8 + (nL' + 11) + lo' ≤ lo) (hc : kc + mc' ≤ mc ∧ ks + ms' ≤ ms) {k' : Nat} (hk' : m + k1 = k')
    (K : yw x g nL (kc + mc') (ks + ms') Q n (yj F m F1) k' q L st) : yw x g nL kc ks Q n F k pc L (zr (n + m) :: st) := by
  obtain ⟨d, rfl⟩ := hd
  subst hk'
  obtain ⟨y1, y2, y3, y4⟩ := hy
  intro H locs ls hP hS hl
  have hts := C.1.2.2.2.2.2.1
  have hSz : va_S (zA g) x.2.2.2.2.1.heap H locs := hS.wide fun q h => yA_zA C.2.2.1 h
  show W _ _ _ _ _ _ _ _ _ _ _ _ _ _ _ (F0 _ _ _ (zrv g (n + m) :: st.map (zval g)))
  rw [yrv C.2.2 (by omega)]
  have hPc : ∀ U : State, U.heap = H → x.2.2.2.2.1.WarmedH U.vm → va_Pc (([zr (n + m)] : List ZV).map (zval g)) (fun U => yP g (n + m) (fun _ => e0) 1 U.heap ∧ zK g U) (Value.ref (g.1 + (n + m)) :: []).toArray U := fun U hU hW => ⟨by
      show (Value.ref (g.1 + (n + m)) :: []).toArray = (zrv g (n + m) :: []).toArray
      rw [yrv C.2.2 (by omega)], by
      rw [hU]
      refine ⟨fun j hj => ?_, by rw [hP.2]; omega⟩
      have h3 := hP.1 m (by omega)
      rw [he] at h3
      rw [show j = 0 by omega]
      exact h3, C.1.2.2.2.2.2.2.2.2.go hSz hU hW⟩
  exact y_ran (by omega) hP hS hl (va_runI (b := g.1 + (n + m)) (As := []) (rest := st.map (zval g)) (n := 0) ⟨C.1.1, C.1.2.1, C.1.2.2.2.1, C.1.2.2.2.2.1, hts⟩ hT ⟨⟨rfl, rfl, Nat.le_trans hR.1 C.1.2.2.2.2.2.2.2.1.1, Nat.le_trans hR.2 C.1.2.2.2.2.2.2.2.1.2, pay_in hts (fun w hw => by
      rcases List.mem_cons.mp hw with rfl | h
      · exact lw_gdIn _ y1
      · exact lw_gdIn _ h), List.mem_cons_self, hts _ y1, hts _ y2, y3, zY.params ⟨y1, y2, y3, y4⟩, hts _ hw⟩, hyi, hts _ hin⟩ ⟨y_blind, hPc⟩ rfl rfl hl.1 rfl (lv_room (z_room hrm)) d ⟨Nat.le_trans hc.1 C.2.1.1, Nat.le_trans hc.2 C.2.1.2⟩) K
theorem y_callIN (C : yC x g cc own ret nL fr lo mc ms n) {y : MethodName} {host : String} {cc' : ByteArray} {nL' fr' lo' mc' ms' idx m : Nat} {e0 : va_E} {F1 : Nat → va_E} {k1 : Nat} (hd : zd cc pc (.invokespecial idx) 3 q) (hw : Cond.methodLinkNest own idx y host ∈ lw_tbl) (hy : zY y cc' nL' none 0) (hyi : y.name = "<init>") (hin : Cond.instanceMethod y ∈ lw_gd) (hT : yT x.2.1 g y cc' nL' fr' lo' mc' ms' (n + m) [zr (n + m)] (fun _ => e0) 1 F1 k1) (hm : k = m + 1) (hk8 : k < 800) (he : F m = e0)
    (hrm : (st.map fun v => if zlong (some v) = true then 2 else 1).sum ≤ 8) (hR : fr' + 1 ≤ fr ∧ 8 + (nL' + 11) + lo' ≤ lo) (hc : kc + mc' ≤ mc ∧ ks + ms' ≤ ms) {k' : Nat} (hk' : m + k1 = k')
    (K : yw x g nL (kc + mc') (ks + ms') Q n (yj F m F1) k' q L st) : yw x g nL kc ks Q n F k pc L (zr (n + m) :: st) := by
  obtain ⟨d, rfl⟩ := hd
  subst hk'
  obtain ⟨y1, y2, y3, y4⟩ := hy
  intro H locs ls hP hS hl
  have hts := C.1.2.2.2.2.2.1
  have hSz : va_S (zA g) x.2.2.2.2.1.heap H locs := hS.wide fun q h => yA_zA C.2.2.1 h
  show W _ _ _ _ _ _ _ _ _ _ _ _ _ _ _ (F0 _ _ _ (zrv g (n + m) :: st.map (zval g)))
  rw [yrv C.2.2 (by omega)]
  have hPc : ∀ U : State, U.heap = H → x.2.2.2.2.1.WarmedH U.vm → va_Pc (([zr (n + m)] : List ZV).map (zval g)) (fun U => yP g (n + m) (fun _ => e0) 1 U.heap ∧ zK g U) (Value.ref (g.1 + (n + m)) :: []).toArray U := fun U hU hW => ⟨by
      show (Value.ref (g.1 + (n + m)) :: []).toArray = (zrv g (n + m) :: []).toArray
      rw [yrv C.2.2 (by omega)], by
      rw [hU]
      refine ⟨fun j hj => ?_, by rw [hP.2]; omega⟩
      have h3 := hP.1 m (by omega)
      rw [he] at h3
      rw [show j = 0 by omega]
      exact h3, C.1.2.2.2.2.2.2.2.2.go hSz hU hW⟩
  exact y_ran (by omega) hP hS hl (va_runIN (b := g.1 + (n + m)) (As := []) (rest := st.map (zval g)) (n := 0) ⟨C.1.1, C.1.2.1, C.1.2.2.2.1, C.1.2.2.2.2.1, hts⟩ hT ⟨⟨⟨rfl, rfl, Nat.le_trans hR.1 C.1.2.2.2.2.2.2.2.1.1, Nat.le_trans hR.2 C.1.2.2.2.2.2.2.2.1.2, pay_in hts (fun w hw => by
      rcases List.mem_cons.mp hw with rfl | h
      · exact lw_gdIn _ y1
      · exact lw_gdIn _ h), List.mem_cons_self⟩, hts _ y1, hts _ y2, y3, zY.params ⟨y1, y2, y3, y4⟩, va_Nw.use rfl (C.1.2.2.2.2.2.2.2.2.2.2.1 _ hw rfl)⟩, hyi, hts _ hin⟩ ⟨y_blind, hPc⟩ rfl rfl hl.1 rfl (lv_room (z_room hrm)) d ⟨Nat.le_trans hc.1 C.2.1.1, Nat.le_trans hc.2 C.2.1.2⟩) K
/-- Arrays.fill: called with a row that lies at place m of the caller's -/
theorem y_callF (C : yC x g cc own ret nL fr lo mc ms n) {y : MethodName} {cc' : ByteArray} {nL' fr' lo' idx m : Nat} {v : Int32} {F1 : Nat → va_E} (hd : zd cc pc (.invokestatic idx) 3 q) (hw : Cond.methodLink own idx y ∈ lw_gd) (hy : zYS y cc' nL' none 2) (hT : yT x.2.1 g y cc' nL' fr' lo' 0 0 n [zr (n + m), zi v] F k F1 k) (hm : m < 800) 
    (hrm : (st.map fun v => if zlong (some v) = true then 2 else 1).sum ≤ 8) (hR : fr' + 1 ≤ fr ∧ 8 + (nL' + 11) + lo' ≤ lo) (hc : kc ≤ mc ∧ ks ≤ ms)
    (K : yw x g nL kc ks Q n F1 k q L st) : yw x g nL kc ks Q n F k pc L (zi v :: zr (n + m) :: st) := by
  obtain ⟨d, rfl⟩ := hd
  obtain ⟨⟨y1, y2, y3, y4⟩, y5⟩ := hy
  intro H locs ls hP hS hl
  have hts := C.1.2.2.2.2.2.1
  have hSz : va_S (zA g) x.2.2.2.2.1.heap H locs := hS.wide fun q h => yA_zA C.2.2.1 h
  have hF0 : yj F 0 F1 = F1 := by
    funext j
    rw [yj, if_neg (by omega), Nat.sub_zero]
  have K2 : yw x g nL (kc + 0) (ks + 0) Q n (yj F 0 F1) (0 + k) (pc + 3) L st := by
    rw [hF0, Nat.zero_add]
    exact K
  refine y_ran (m := 0) (by omega) hP hS hl (va_runS (As := [zrv g (n + m), .int v]) (rest := st.map (zval g)) (n := 2) ⟨C.1.1, C.1.2.1, C.1.2.2.2.1, C.1.2.2.2.2.1, hts⟩ hT ⟨⟨rfl, rfl, Nat.le_trans hR.1 C.1.2.2.2.2.2.2.2.1.1, Nat.le_trans hR.2 C.1.2.2.2.2.2.2.2.1.2, pay_in hts (fun w hw => by
      rcases List.mem_cons.mp hw with rfl | h
      · exact lw_gdIn _ y1
      · exact lw_gdIn _ h), List.mem_cons_self, hts _ y1, hts _ y2, y3, zY.params ⟨y1, y2, y3, y4⟩, hts _ hw⟩, hts _ y5⟩ ⟨y_blind, fun U hU hW => ⟨rfl, by rw [hU]; exact hP, C.1.2.2.2.2.2.2.2.2.go hSz hU hW⟩⟩ rfl rfl hl.1 rfl (lv_room (z_room hrm)) d ⟨Nat.le_trans hc.1 C.2.1.1, Nat.le_trans hc.2 C.2.1.2⟩) K2
end
