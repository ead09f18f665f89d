/-! THE Z LAYER: the world is a list of cells by place; a reference is a place -/
def zV (ad : Nat → Nat) : Value → Value
  | .ref k => .ref (ad k)
  | v => v
def zA (ad : Nat → Nat) (a : vp_A) : vp_A := match a.2 with
  | .inr (.inr (.inr (.inr f))) => (a.1, .inr (.inr (.inr (.inr (fun j => (f j).map ad)))))
  | _ => a
def zE (dA ad : Nat → Nat) : va_E → va_E
  | .inl q => .inl (dA q.1, zA ad q.2)
  | .inr q => .inr (q.1, q.2.map (zV ad))
def zW (dA ad : Nat → Nat) (w : List va_E) : va_W := w.mapIdx fun k e => (ad k, zE dA ad e)
def zL (ad : Nat → Nat) (lv : List (Nat × Value)) : List (Nat × Value) := lv.map fun q => (q.1, zV ad q.2)
abbrev ztys (dA : Nat → Nat) : List (ClassId × FieldType) := [(dA 0, .int), (dA 1, .long), (dA 2, .array .int)]
theorem zW_at {dA ad : Nat → Nat} {w : List va_E} {k : Nat} {e : va_E} (h : w[k]? = some e) : (zW dA ad w)[k]? = some (ad k, zE dA ad e) := by
  simp [zW, List.getElem?_mapIdx, h]
theorem zW_len {dA ad : Nat → Nat} {w : List va_E} : (zW dA ad w).length = w.length := by simp [zW]
theorem zW_set {dA ad : Nat → Nat} {w : List va_E} {k : Nat} {e : va_E} : zW dA ad (w.set k e) = (zW dA ad w).set k (ad k, zE dA ad e) := by
  apply List.ext_getElem?
  intro i
  simp only [zW, List.getElem?_mapIdx, List.getElem?_set, List.length_mapIdx]
  by_cases h : k = i
  · subst h
    by_cases h2 : k < w.length <;> simp [h2]
  · simp [h]
theorem zV_cat (ad : Nat → Nat) (v : Value) : (zV ad v).category = v.category := by cases v <;> rfl
def zg : List (Nat × Value) → Nat → Option Value
  | [], _ => none
  | q :: l, i => match Nat.beq q.1 i with
    | true => some q.2
    | false => zg l i
theorem zg_mem : ∀ {lv : List (Nat × Value)} {i : Nat} {v : Value}, zg lv i = some v → (i, v) ∈ lv
  | [], _, _, h => by cases h
  | q :: l, i, v, h => by
    unfold zg at h
    split at h
    · rename_i hb
      have h1 : q.1 = i := Nat.eq_of_beq_eq_true hb
      have h2 : q.2 = v := Option.some.inj h
      rw [← h1, ← h2]
      exact List.mem_cons_self
    · exact List.mem_cons_of_mem _ (zg_mem h)
theorem zl_at {ad : Nat → Nat} {ls : Array Slot} {nL : Nat} {lv : List (Nat × Value)} {i : Nat} {v : Value} (h : lv_has ls nL (zL ad lv)) (hg : zg lv i = some v) : ls[i]? = some (.val (zV ad v)) :=
  h.2.2 (i, zV ad v) (List.mem_map.mpr ⟨(i, v), zg_mem hg, rfl⟩)
def zs1 (lv : List (Nat × Value)) (i : Nat) (v : Value) : List (Nat × Value) := (i, v) :: lv.filter (fun q => !(q.1 == i) && !(q.1 + 1 == i && q.2.category == 2))
def zs2 (lv : List (Nat × Value)) (i : Nat) (v : Value) : List (Nat × Value) := (i, v) :: lv.filter (fun q => !(q.1 == i) && (!(q.1 == i + 1) && !(q.1 + 1 == i && q.2.category == 2)))
theorem zL_s1 {ad : Nat → Nat} {lv : List (Nat × Value)} {i : Nat} {v : Value} : (i, zV ad v) :: (zL ad lv).filter (fun q => !(q.1 == i) && !(q.1 + 1 == i && q.2.category == 2)) = zL ad (zs1 lv i v) := by
  simp only [zL, zs1, List.map_cons, List.filter_map, Function.comp_def, zV_cat]
theorem zL_s2 {ad : Nat → Nat} {lv : List (Nat × Value)} {i : Nat} {v : Value} : (i, zV ad v) :: (zL ad lv).filter (fun q => !(q.1 == i) && (!(q.1 == i + 1) && !(q.1 + 1 == i && q.2.category == 2))) = zL ad (zs2 lv i v) := by
  simp only [zL, zs2, List.map_cons, List.filter_map, Function.comp_def, zV_cat]
abbrev ZP : Type := Nat → Nat → List va_E → List (Nat × Value) → Nat → List Value → Prop
def Zof (p : Program) (l : Launch) (e : Env) (R : Room) (s : State) (m : MethodId) (args : Array Value) (below : List Frame) (meth : Method) (c : Code) (nL : Nat) (D : va_G) (dA : Nat → Nat) (A : Nat → Prop) (ad0 : Nat → Nat) (n0 : Nat) (Q : State → Prop) : ZP := fun k n w lv pc st =>
  ∀ (ad : Nat → Nat) (H : Heap) (locs : List Loc) (ls : Array Slot), (∀ i, (i < n0 ∨ w.length ≤ i) → ad i = ad0 i) → n0 ≤ w.length → va_P D clz (zW dA ad w) H → va_D A (zW dA ad w) → va_S A s.heap H locs → lv_has ls nL (zL ad lv) →
    W p l e R s m args below meth c H locs k n Q (F0 m pc ls (st.map (zV ad)))
def zOK (p : Program) (s : State) (m : MethodId) (args : Array Value) (c : Code) (own : String) (cc : ByteArray) (nL : Nat) (D : va_G) (dA : Nat → Nat) (A : Nat → Prop) : Prop :=
  p.tables.exec = Jvm.exec ∧ c.code = cc ∧ c.maxLocals = nL ∧ s.vm.findClass own = some m.cls ∧ (∀ w ∈ TT, w.before args s = true) ∧ (∀ w ∈ NT, va_Nw w s) ∧ va_K D clz (ztys dA) s ∧ (∀ q, s.heap.size ≤ q → A q)
def Cb (Z : ZP) (own : String) (cc : ByteArray) (nL : Nat) (R : Room) : Prop :=
  ∃ (p : Program) (l : Launch) (e : Env) (s : State) (m : MethodId) (args : Array Value) (below : List Frame) (meth : Method) (c : Code) (D : va_G) (dA : Nat → Nat) (A : Nat → Prop) (ad0 : Nat → Nat) (n0 : Nat) (Q : State → Prop), zOK p s m args c own cc nL D dA A ∧ Z = Zof p l e R s m args below meth c nL D dA A ad0 n0 Q
section ZR
variable {Z : ZP} {own : String} {cc : ByteArray} {nL : Nat} {R : Room} {k n pc : Nat} {w : List va_E} {lv : List (Nat × Value)} {st : List Value}
theorem z_iconst (h : Cb Z own cc nL R) {i : Int} {v : Int32} (d : decode cc pc = .ok (.iconst i, 1)) (hv : Int32.ofInt i = v) (kk : Z k n w lv (pc + 1) (.int v :: st)) : Z k n w lv pc st := by
  obtain ⟨p, l, e, s, m, args, below, meth, c, D, dA, A, ad0, n0, Q, ⟨hx, hb, hml, ho, hts, hnt, hK, hA⟩, rfl⟩ := h
  intro ad H locs ls h1 h2 h3 h4 h5 h6
  exact lv_iconst hx hb d hv (kk ad H locs ls h1 h2 h3 h4 h5 h6)
theorem z_bipush (h : Cb Z own cc nL R) {i : Int} {v : Int32} (d : decode cc pc = .ok (.bipush i, 2)) (hv : (Int8.ofInt i).toInt32 = v) (kk : Z k n w lv (pc + 2) (.int v :: st)) : Z k n w lv pc st := by
  obtain ⟨p, l, e, s, m, args, below, meth, c, D, dA, A, ad0, n0, Q, ⟨hx, hb, hml, ho, hts, hnt, hK, hA⟩, rfl⟩ := h
  intro ad H locs ls h1 h2 h3 h4 h5 h6
  exact lv_bipush hx hb d hv (kk ad H locs ls h1 h2 h3 h4 h5 h6)
theorem z_sipush (h : Cb Z own cc nL R) {i : Int} {v : Int32} (d : decode cc pc = .ok (.sipush i, 3)) (hv : (Int16.ofInt i).toInt32 = v) (kk : Z k n w lv (pc + 3) (.int v :: st)) : Z k n w lv pc st := by
  obtain ⟨p, l, e, s, m, args, below, meth, c, D, dA, A, ad0, n0, Q, ⟨hx, hb, hml, ho, hts, hnt, hK, hA⟩, rfl⟩ := h
  intro ad H locs ls h1 h2 h3 h4 h5 h6
  exact lv_sipush hx hb d hv (kk ad H locs ls h1 h2 h3 h4 h5 h6)
theorem z_lconst (h : Cb Z own cc nL R) {i : Fin 2} {v : Int64} (d : decode cc pc = .ok (.lconst i, 1)) (hv : Int64.ofNat (i : Nat) = v) (kk : Z k n w lv (pc + 1) (.long v :: st)) : Z k n w lv pc st := by
  obtain ⟨p, l, e, s, m, args, below, meth, c, D, dA, A, ad0, n0, Q, ⟨hx, hb, hml, ho, hts, hnt, hK, hA⟩, rfl⟩ := h
  intro ad H locs ls h1 h2 h3 h4 h5 h6
  exact lv_lconst hx hb d hv (kk ad H locs ls h1 h2 h3 h4 h5 h6)
theorem z_ldc (h : Cb Z own cc nL R) {i : Nat} {v : Int32} (d : decode cc pc = .ok (.ldc i, 2)) (hw : Cond.constant own i v ∈ TT) (kk : Z k n w lv (pc + 2) (.int v :: st)) : Z k n w lv pc st := by
  obtain ⟨p, l, e, s, m, args, below, meth, c, D, dA, A, ad0, n0, Q, ⟨hx, hb, hml, ho, hts, hnt, hK, hA⟩, rfl⟩ := h
  intro ad H locs ls h1 h2 h3 h4 h5 h6
  exact lv_ldc hx hb ho (hts _ hw) d (kk ad H locs ls h1 h2 h3 h4 h5 h6)
theorem z_ldc_w (h : Cb Z own cc nL R) {i : Nat} {v : Int32} (d : decode cc pc = .ok (.ldc_w i, 3)) (hw : Cond.constant own i v ∈ TT) (kk : Z k n w lv (pc + 3) (.int v :: st)) : Z k n w lv pc st := by
  obtain ⟨p, l, e, s, m, args, below, meth, c, D, dA, A, ad0, n0, Q, ⟨hx, hb, hml, ho, hts, hnt, hK, hA⟩, rfl⟩ := h
  intro ad H locs ls h1 h2 h3 h4 h5 h6
  exact lv_ldcw hx hb ho (hts _ hw) d (kk ad H locs ls h1 h2 h3 h4 h5 h6)
theorem z_ldc2_w (h : Cb Z own cc nL R) {i : Nat} {v : Int64} (d : decode cc pc = .ok (.ldc2_w i, 3)) (hw : Cond.constantLong own i v ∈ TT) (kk : Z k n w lv (pc + 3) (.long v :: st)) : Z k n w lv pc st := by
  obtain ⟨p, l, e, s, m, args, below, meth, c, D, dA, A, ad0, n0, Q, ⟨hx, hb, hml, ho, hts, hnt, hK, hA⟩, rfl⟩ := h
  intro ad H locs ls h1 h2 h3 h4 h5 h6
  exact lv_ldc2 hx hb ho (hts _ hw) d (kk ad H locs ls h1 h2 h3 h4 h5 h6)
theorem z_iload_n (h : Cb Z own cc nL R) {i : Fin 4} {x : Int32} (d : decode cc pc = .ok (.iload_n i, 1)) (hg : zg lv (i : Nat) = some (.int x)) (kk : Z k n w lv (pc + 1) (.int x :: st)) : Z k n w lv pc st := by
  obtain ⟨p, l, e, s, m, args, below, meth, c, D, dA, A, ad0, n0, Q, ⟨hx, hb, hml, ho, hts, hnt, hK, hA⟩, rfl⟩ := h
  intro ad H locs ls h1 h2 h3 h4 h5 h6
  exact lv_iload_n hx hb d rfl (zl_at h6 hg) (kk ad H locs ls h1 h2 h3 h4 h5 h6)
theorem z_iload (h : Cb Z own cc nL R) {i : Nat} {x : Int32} (d : decode cc pc = .ok (.iload i, 2)) (hg : zg lv i = some (.int x)) (kk : Z k n w lv (pc + 2) (.int x :: st)) : Z k n w lv pc st := by
  obtain ⟨p, l, e, s, m, args, below, meth, c, D, dA, A, ad0, n0, Q, ⟨hx, hb, hml, ho, hts, hnt, hK, hA⟩, rfl⟩ := h
  intro ad H locs ls h1 h2 h3 h4 h5 h6
  exact lv_iload hx hb d (zl_at h6 hg) (kk ad H locs ls h1 h2 h3 h4 h5 h6)
theorem z_istore_n (h : Cb Z own cc nL R) {i : Fin 4} {x : Int32} (d : decode cc pc = .ok (.istore_n i, 1)) (hn : (i : Nat) < nL) (kk : Z k n w (zs1 lv i (.int x)) (pc + 1) st) : Z k n w lv pc (.int x :: st) := by
  obtain ⟨p, l, e, s, m, args, below, meth, c, D, dA, A, ad0, n0, Q, ⟨hx, hb, hml, ho, hts, hnt, hK, hA⟩, rfl⟩ := h
  intro ad H locs ls h1 h2 h3 h4 h5 h6
  exact lv_istore_n hx hb d rfl h6 hn (zL_s1 (v := .int x)) (fun ls h6 => kk ad H locs ls h1 h2 h3 h4 h5 h6)
theorem z_istore (h : Cb Z own cc nL R) {i : Nat} {x : Int32} (d : decode cc pc = .ok (.istore i, 2)) (hn : (i : Nat) < nL) (kk : Z k n w (zs1 lv i (.int x)) (pc + 2) st) : Z k n w lv pc (.int x :: st) := by
  obtain ⟨p, l, e, s, m, args, below, meth, c, D, dA, A, ad0, n0, Q, ⟨hx, hb, hml, ho, hts, hnt, hK, hA⟩, rfl⟩ := h
  intro ad H locs ls h1 h2 h3 h4 h5 h6
  exact lv_istore hx hb d h6 hn (zL_s1 (v := .int x)) (fun ls h6 => kk ad H locs ls h1 h2 h3 h4 h5 h6)
theorem z_lload_n (h : Cb Z own cc nL R) {i : Fin 4} {x : Int64} (d : decode cc pc = .ok (.lload_n i, 1)) (hg : zg lv (i : Nat) = some (.long x)) (kk : Z k n w lv (pc + 1) (.long x :: st)) : Z k n w lv pc st := by
  obtain ⟨p, l, e, s, m, args, below, meth, c, D, dA, A, ad0, n0, Q, ⟨hx, hb, hml, ho, hts, hnt, hK, hA⟩, rfl⟩ := h
  intro ad H locs ls h1 h2 h3 h4 h5 h6
  exact lv_lload_n hx hb d rfl (zl_at h6 hg) (kk ad H locs ls h1 h2 h3 h4 h5 h6)
theorem z_lload (h : Cb Z own cc nL R) {i : Nat} {x : Int64} (d : decode cc pc = .ok (.lload i, 2)) (hg : zg lv i = some (.long x)) (kk : Z k n w lv (pc + 2) (.long x :: st)) : Z k n w lv pc st := by
  obtain ⟨p, l, e, s, m, args, below, meth, c, D, dA, A, ad0, n0, Q, ⟨hx, hb, hml, ho, hts, hnt, hK, hA⟩, rfl⟩ := h
  intro ad H locs ls h1 h2 h3 h4 h5 h6
  exact lv_lload hx hb d (zl_at h6 hg) (kk ad H locs ls h1 h2 h3 h4 h5 h6)
theorem z_lstore_n (h : Cb Z own cc nL R) {i : Fin 4} {x : Int64} (d : decode cc pc = .ok (.lstore_n i, 1)) (hn : (i : Nat) + 1 < nL) (kk : Z k n w (zs2 lv i (.long x)) (pc + 1) st) : Z k n w lv pc (.long x :: st) := by
  obtain ⟨p, l, e, s, m, args, below, meth, c, D, dA, A, ad0, n0, Q, ⟨hx, hb, hml, ho, hts, hnt, hK, hA⟩, rfl⟩ := h
  intro ad H locs ls h1 h2 h3 h4 h5 h6
  exact lv_lstore_n hx hb d rfl h6 hn (zL_s2 (v := .long x)) (fun ls h6 => kk ad H locs ls h1 h2 h3 h4 h5 h6)
theorem z_lstore (h : Cb Z own cc nL R) {i : Nat} {x : Int64} (d : decode cc pc = .ok (.lstore i, 2)) (hn : (i : Nat) + 1 < nL) (kk : Z k n w (zs2 lv i (.long x)) (pc + 2) st) : Z k n w lv pc (.long x :: st) := by
  obtain ⟨p, l, e, s, m, args, below, meth, c, D, dA, A, ad0, n0, Q, ⟨hx, hb, hml, ho, hts, hnt, hK, hA⟩, rfl⟩ := h
  intro ad H locs ls h1 h2 h3 h4 h5 h6
  exact lv_lstore hx hb d h6 hn (zL_s2 (v := .long x)) (fun ls h6 => kk ad H locs ls h1 h2 h3 h4 h5 h6)
theorem z_aload_n (h : Cb Z own cc nL R) {i : Fin 4} {x : Nat} (d : decode cc pc = .ok (.aload_n i, 1)) (hg : zg lv (i : Nat) = some (.ref x)) (kk : Z k n w lv (pc + 1) (.ref x :: st)) : Z k n w lv pc st := by
  obtain ⟨p, l, e, s, m, args, below, meth, c, D, dA, A, ad0, n0, Q, ⟨hx, hb, hml, ho, hts, hnt, hK, hA⟩, rfl⟩ := h
  intro ad H locs ls h1 h2 h3 h4 h5 h6
  exact lv_aload_n hx hb d rfl (zl_at h6 hg) (kk ad H locs ls h1 h2 h3 h4 h5 h6)
theorem z_aload (h : Cb Z own cc nL R) {i : Nat} {x : Nat} (d : decode cc pc = .ok (.aload i, 2)) (hg : zg lv i = some (.ref x)) (kk : Z k n w lv (pc + 2) (.ref x :: st)) : Z k n w lv pc st := by
  obtain ⟨p, l, e, s, m, args, below, meth, c, D, dA, A, ad0, n0, Q, ⟨hx, hb, hml, ho, hts, hnt, hK, hA⟩, rfl⟩ := h
  intro ad H locs ls h1 h2 h3 h4 h5 h6
  exact lv_aload hx hb d (zl_at h6 hg) (kk ad H locs ls h1 h2 h3 h4 h5 h6)
theorem z_astore_n (h : Cb Z own cc nL R) {i : Fin 4} {x : Nat} (d : decode cc pc = .ok (.astore_n i, 1)) (hn : (i : Nat) < nL) (kk : Z k n w (zs1 lv i (.ref x)) (pc + 1) st) : Z k n w lv pc (.ref x :: st) := by
  obtain ⟨p, l, e, s, m, args, below, meth, c, D, dA, A, ad0, n0, Q, ⟨hx, hb, hml, ho, hts, hnt, hK, hA⟩, rfl⟩ := h
  intro ad H locs ls h1 h2 h3 h4 h5 h6
  exact lv_astore_n hx hb d rfl h6 hn (zL_s1 (v := .ref x)) (fun ls h6 => kk ad H locs ls h1 h2 h3 h4 h5 h6)
theorem z_astore (h : Cb Z own cc nL R) {i : Nat} {x : Nat} (d : decode cc pc = .ok (.astore i, 2)) (hn : (i : Nat) < nL) (kk : Z k n w (zs1 lv i (.ref x)) (pc + 2) st) : Z k n w lv pc (.ref x :: st) := by
  obtain ⟨p, l, e, s, m, args, below, meth, c, D, dA, A, ad0, n0, Q, ⟨hx, hb, hml, ho, hts, hnt, hK, hA⟩, rfl⟩ := h
  intro ad H locs ls h1 h2 h3 h4 h5 h6
  exact lv_astore hx hb d h6 hn (zL_s1 (v := .ref x)) (fun ls h6 => kk ad H locs ls h1 h2 h3 h4 h5 h6)
theorem z_iinc (h : Cb Z own cc nL R) {i : Nat} {b : Int} {x cst : Int32} (d : decode cc pc = .ok (.iinc i b, 3)) (hg : zg lv i = some (.int x)) (hv : Int32.ofInt b = cst) (hn : i < nL) (kk : Z k n w (zs1 lv i (.int (x + cst))) (pc + 3) st) : Z k n w lv pc st := by
  obtain ⟨p, l, e, s, m, args, below, meth, c, D, dA, A, ad0, n0, Q, ⟨hx, hb, hml, ho, hts, hnt, hK, hA⟩, rfl⟩ := h
  intro ad H locs ls h1 h2 h3 h4 h5 h6
  obtain ⟨q, hq⟩ := List.getElem?_of_mem (List.mem_map.mpr ⟨(i, .int x), zg_mem hg, rfl⟩ : (i, zV ad (.int x)) ∈ zL ad lv)
  exact lv_iinc hx hb d h6 hq (by rw [hv]) hn (zL_s1 (v := .int (x + cst))) (fun ls h6 => kk ad H locs ls h1 h2 h3 h4 h5 h6)
theorem z_iadd (h : Cb Z own cc nL R) {x y : Int32} (d : decode cc pc = .ok (.iadd, 1)) (kk : Z k n w lv (pc + 1) (.int (x + y) :: st)) : Z k n w lv pc (.int y :: .int x :: st) := by
  obtain ⟨p, l, e, s, m, args, below, meth, c, D, dA, A, ad0, n0, Q, ⟨hx, hb, hml, ho, hts, hnt, hK, hA⟩, rfl⟩ := h
  intro ad H locs ls h1 h2 h3 h4 h5 h6
  exact lv_iadd hx hb d (kk ad H locs ls h1 h2 h3 h4 h5 h6)
theorem z_isub (h : Cb Z own cc nL R) {x y : Int32} (d : decode cc pc = .ok (.isub, 1)) (kk : Z k n w lv (pc + 1) (.int (x - y) :: st)) : Z k n w lv pc (.int y :: .int x :: st) := by
  obtain ⟨p, l, e, s, m, args, below, meth, c, D, dA, A, ad0, n0, Q, ⟨hx, hb, hml, ho, hts, hnt, hK, hA⟩, rfl⟩ := h
  intro ad H locs ls h1 h2 h3 h4 h5 h6
  exact lv_isub hx hb d (kk ad H locs ls h1 h2 h3 h4 h5 h6)
theorem z_imul (h : Cb Z own cc nL R) {x y : Int32} (d : decode cc pc = .ok (.imul, 1)) (kk : Z k n w lv (pc + 1) (.int (x * y) :: st)) : Z k n w lv pc (.int y :: .int x :: st) := by
  obtain ⟨p, l, e, s, m, args, below, meth, c, D, dA, A, ad0, n0, Q, ⟨hx, hb, hml, ho, hts, hnt, hK, hA⟩, rfl⟩ := h
  intro ad H locs ls h1 h2 h3 h4 h5 h6
  exact lv_imul hx hb d (kk ad H locs ls h1 h2 h3 h4 h5 h6)
theorem z_iand (h : Cb Z own cc nL R) {x y : Int32} (d : decode cc pc = .ok (.iand, 1)) (kk : Z k n w lv (pc + 1) (.int (x &&& y) :: st)) : Z k n w lv pc (.int y :: .int x :: st) := by
  obtain ⟨p, l, e, s, m, args, below, meth, c, D, dA, A, ad0, n0, Q, ⟨hx, hb, hml, ho, hts, hnt, hK, hA⟩, rfl⟩ := h
  intro ad H locs ls h1 h2 h3 h4 h5 h6
  exact lv_iand hx hb d (kk ad H locs ls h1 h2 h3 h4 h5 h6)
theorem z_ior (h : Cb Z own cc nL R) {x y : Int32} (d : decode cc pc = .ok (.ior, 1)) (kk : Z k n w lv (pc + 1) (.int (x ||| y) :: st)) : Z k n w lv pc (.int y :: .int x :: st) := by
  obtain ⟨p, l, e, s, m, args, below, meth, c, D, dA, A, ad0, n0, Q, ⟨hx, hb, hml, ho, hts, hnt, hK, hA⟩, rfl⟩ := h
  intro ad H locs ls h1 h2 h3 h4 h5 h6
  exact lv_ior hx hb d (kk ad H locs ls h1 h2 h3 h4 h5 h6)
theorem z_ixor (h : Cb Z own cc nL R) {x y : Int32} (d : decode cc pc = .ok (.ixor, 1)) (kk : Z k n w lv (pc + 1) (.int (x ^^^ y) :: st)) : Z k n w lv pc (.int y :: .int x :: st) := by
  obtain ⟨p, l, e, s, m, args, below, meth, c, D, dA, A, ad0, n0, Q, ⟨hx, hb, hml, ho, hts, hnt, hK, hA⟩, rfl⟩ := h
  intro ad H locs ls h1 h2 h3 h4 h5 h6
  exact lv_ixor hx hb d (kk ad H locs ls h1 h2 h3 h4 h5 h6)
theorem z_ishl (h : Cb Z own cc nL R) {x y : Int32} (d : decode cc pc = .ok (.ishl, 1)) (kk : Z k n w lv (pc + 1) (.int (x <<< (y &&& 31)) :: st)) : Z k n w lv pc (.int y :: .int x :: st) := by
  obtain ⟨p, l, e, s, m, args, below, meth, c, D, dA, A, ad0, n0, Q, ⟨hx, hb, hml, ho, hts, hnt, hK, hA⟩, rfl⟩ := h
  intro ad H locs ls h1 h2 h3 h4 h5 h6
  exact lv_ishl hx hb d (kk ad H locs ls h1 h2 h3 h4 h5 h6)
theorem z_ishr (h : Cb Z own cc nL R) {x y : Int32} (d : decode cc pc = .ok (.ishr, 1)) (kk : Z k n w lv (pc + 1) (.int (x >>> (y &&& 31)) :: st)) : Z k n w lv pc (.int y :: .int x :: st) := by
  obtain ⟨p, l, e, s, m, args, below, meth, c, D, dA, A, ad0, n0, Q, ⟨hx, hb, hml, ho, hts, hnt, hK, hA⟩, rfl⟩ := h
  intro ad H locs ls h1 h2 h3 h4 h5 h6
  exact lv_ishr hx hb d (kk ad H locs ls h1 h2 h3 h4 h5 h6)
theorem z_ladd (h : Cb Z own cc nL R) {x y : Int64} (d : decode cc pc = .ok (.ladd, 1)) (kk : Z k n w lv (pc + 1) (.long (x + y) :: st)) : Z k n w lv pc (.long y :: .long x :: st) := by
  obtain ⟨p, l, e, s, m, args, below, meth, c, D, dA, A, ad0, n0, Q, ⟨hx, hb, hml, ho, hts, hnt, hK, hA⟩, rfl⟩ := h
  intro ad H locs ls h1 h2 h3 h4 h5 h6
  exact lv_ladd hx hb d (kk ad H locs ls h1 h2 h3 h4 h5 h6)
theorem z_lsub (h : Cb Z own cc nL R) {x y : Int64} (d : decode cc pc = .ok (.lsub, 1)) (kk : Z k n w lv (pc + 1) (.long (x - y) :: st)) : Z k n w lv pc (.long y :: .long x :: st) := by
  obtain ⟨p, l, e, s, m, args, below, meth, c, D, dA, A, ad0, n0, Q, ⟨hx, hb, hml, ho, hts, hnt, hK, hA⟩, rfl⟩ := h
  intro ad H locs ls h1 h2 h3 h4 h5 h6
  exact lv_lsub hx hb d (kk ad H locs ls h1 h2 h3 h4 h5 h6)
theorem z_lmul (h : Cb Z own cc nL R) {x y : Int64} (d : decode cc pc = .ok (.lmul, 1)) (kk : Z k n w lv (pc + 1) (.long (x * y) :: st)) : Z k n w lv pc (.long y :: .long x :: st) := by
  obtain ⟨p, l, e, s, m, args, below, meth, c, D, dA, A, ad0, n0, Q, ⟨hx, hb, hml, ho, hts, hnt, hK, hA⟩, rfl⟩ := h
  intro ad H locs ls h1 h2 h3 h4 h5 h6
  exact lv_lmul hx hb d (kk ad H locs ls h1 h2 h3 h4 h5 h6)
theorem z_land (h : Cb Z own cc nL R) {x y : Int64} (d : decode cc pc = .ok (.land, 1)) (kk : Z k n w lv (pc + 1) (.long (x &&& y) :: st)) : Z k n w lv pc (.long y :: .long x :: st) := by
  obtain ⟨p, l, e, s, m, args, below, meth, c, D, dA, A, ad0, n0, Q, ⟨hx, hb, hml, ho, hts, hnt, hK, hA⟩, rfl⟩ := h
  intro ad H locs ls h1 h2 h3 h4 h5 h6
  exact lv_land hx hb d (kk ad H locs ls h1 h2 h3 h4 h5 h6)
theorem z_lor (h : Cb Z own cc nL R) {x y : Int64} (d : decode cc pc = .ok (.lor, 1)) (kk : Z k n w lv (pc + 1) (.long (x ||| y) :: st)) : Z k n w lv pc (.long y :: .long x :: st) := by
  obtain ⟨p, l, e, s, m, args, below, meth, c, D, dA, A, ad0, n0, Q, ⟨hx, hb, hml, ho, hts, hnt, hK, hA⟩, rfl⟩ := h
  intro ad H locs ls h1 h2 h3 h4 h5 h6
  exact lv_lor hx hb d (kk ad H locs ls h1 h2 h3 h4 h5 h6)
theorem z_lxor (h : Cb Z own cc nL R) {x y : Int64} (d : decode cc pc = .ok (.lxor, 1)) (kk : Z k n w lv (pc + 1) (.long (x ^^^ y) :: st)) : Z k n w lv pc (.long y :: .long x :: st) := by
  obtain ⟨p, l, e, s, m, args, below, meth, c, D, dA, A, ad0, n0, Q, ⟨hx, hb, hml, ho, hts, hnt, hK, hA⟩, rfl⟩ := h
  intro ad H locs ls h1 h2 h3 h4 h5 h6
  exact lv_lxor hx hb d (kk ad H locs ls h1 h2 h3 h4 h5 h6)
theorem z_idiv (h : Cb Z own cc nL R) {x y : Int32} (d : decode cc pc = .ok (.idiv, 1)) (hne : ¬ y = 0) (kk : Z k n w lv (pc + 1) (.int (x / y) :: st)) : Z k n w lv pc (.int y :: .int x :: st) := by
  obtain ⟨p, l, e, s, m, args, below, meth, c, D, dA, A, ad0, n0, Q, ⟨hx, hb, hml, ho, hts, hnt, hK, hA⟩, rfl⟩ := h
  intro ad H locs ls h1 h2 h3 h4 h5 h6
  exact lv_idiv hx hb d hne (kk ad H locs ls h1 h2 h3 h4 h5 h6)
theorem z_irem (h : Cb Z own cc nL R) {x y : Int32} (d : decode cc pc = .ok (.irem, 1)) (hne : ¬ y = 0) (kk : Z k n w lv (pc + 1) (.int (x - x / y * y) :: st)) : Z k n w lv pc (.int y :: .int x :: st) := by
  obtain ⟨p, l, e, s, m, args, below, meth, c, D, dA, A, ad0, n0, Q, ⟨hx, hb, hml, ho, hts, hnt, hK, hA⟩, rfl⟩ := h
  intro ad H locs ls h1 h2 h3 h4 h5 h6
  exact lv_irem hx hb d hne (kk ad H locs ls h1 h2 h3 h4 h5 h6)
theorem z_ldiv (h : Cb Z own cc nL R) {x y : Int64} (d : decode cc pc = .ok (.ldiv, 1)) (hne : ¬ y = 0) (kk : Z k n w lv (pc + 1) (.long (x / y) :: st)) : Z k n w lv pc (.long y :: .long x :: st) := by
  obtain ⟨p, l, e, s, m, args, below, meth, c, D, dA, A, ad0, n0, Q, ⟨hx, hb, hml, ho, hts, hnt, hK, hA⟩, rfl⟩ := h
  intro ad H locs ls h1 h2 h3 h4 h5 h6
  exact lv_ldiv hx hb d hne (kk ad H locs ls h1 h2 h3 h4 h5 h6)
theorem z_lrem (h : Cb Z own cc nL R) {x y : Int64} (d : decode cc pc = .ok (.lrem, 1)) (hne : ¬ y = 0) (kk : Z k n w lv (pc + 1) (.long (x - x / y * y) :: st)) : Z k n w lv pc (.long y :: .long x :: st) := by
  obtain ⟨p, l, e, s, m, args, below, meth, c, D, dA, A, ad0, n0, Q, ⟨hx, hb, hml, ho, hts, hnt, hK, hA⟩, rfl⟩ := h
  intro ad H locs ls h1 h2 h3 h4 h5 h6
  exact lv_lrem hx hb d hne (kk ad H locs ls h1 h2 h3 h4 h5 h6)
theorem z_ineg (h : Cb Z own cc nL R) {x : Int32} (d : decode cc pc = .ok (.ineg, 1)) (kk : Z k n w lv (pc + 1) (.int (-x) :: st)) : Z k n w lv pc (.int x :: st) := by
  obtain ⟨p, l, e, s, m, args, below, meth, c, D, dA, A, ad0, n0, Q, ⟨hx, hb, hml, ho, hts, hnt, hK, hA⟩, rfl⟩ := h
  intro ad H locs ls h1 h2 h3 h4 h5 h6
  exact lv_ineg hx hb d (kk ad H locs ls h1 h2 h3 h4 h5 h6)
theorem z_lneg (h : Cb Z own cc nL R) {x : Int64} (d : decode cc pc = .ok (.lneg, 1)) (kk : Z k n w lv (pc + 1) (.long (-x) :: st)) : Z k n w lv pc (.long x :: st) := by
  obtain ⟨p, l, e, s, m, args, below, meth, c, D, dA, A, ad0, n0, Q, ⟨hx, hb, hml, ho, hts, hnt, hK, hA⟩, rfl⟩ := h
  intro ad H locs ls h1 h2 h3 h4 h5 h6
  exact lv_lneg hx hb d (kk ad H locs ls h1 h2 h3 h4 h5 h6)
theorem z_lshl (h : Cb Z own cc nL R) {x : Int64} {y : Int32} (d : decode cc pc = .ok (.lshl, 1)) (kk : Z k n w lv (pc + 1) (.long (x <<< (y.toInt64 &&& 63)) :: st)) : Z k n w lv pc (.int y :: .long x :: st) := by
  obtain ⟨p, l, e, s, m, args, below, meth, c, D, dA, A, ad0, n0, Q, ⟨hx, hb, hml, ho, hts, hnt, hK, hA⟩, rfl⟩ := h
  intro ad H locs ls h1 h2 h3 h4 h5 h6
  exact lv_lshl hx hb d rfl (kk ad H locs ls h1 h2 h3 h4 h5 h6)
theorem z_lshr (h : Cb Z own cc nL R) {x : Int64} {y : Int32} (d : decode cc pc = .ok (.lshr, 1)) (kk : Z k n w lv (pc + 1) (.long (x >>> (y.toInt64 &&& 63)) :: st)) : Z k n w lv pc (.int y :: .long x :: st) := by
  obtain ⟨p, l, e, s, m, args, below, meth, c, D, dA, A, ad0, n0, Q, ⟨hx, hb, hml, ho, hts, hnt, hK, hA⟩, rfl⟩ := h
  intro ad H locs ls h1 h2 h3 h4 h5 h6
  exact lv_lshr hx hb d rfl (kk ad H locs ls h1 h2 h3 h4 h5 h6)
theorem z_iushr (h : Cb Z own cc nL R) {x y : Int32} (d : decode cc pc = .ok (.iushr, 1)) (kk : Z k n w lv (pc + 1) (.int (x.toUInt32 >>> (y.toUInt32 &&& Int32.toUInt32 31)).toInt32 :: st)) : Z k n w lv pc (.int y :: .int x :: st) := by
  obtain ⟨p, l, e, s, m, args, below, meth, c, D, dA, A, ad0, n0, Q, ⟨hx, hb, hml, ho, hts, hnt, hK, hA⟩, rfl⟩ := h
  intro ad H locs ls h1 h2 h3 h4 h5 h6
  exact lv_iushr hx hb d rfl (kk ad H locs ls h1 h2 h3 h4 h5 h6)
theorem z_i2l (h : Cb Z own cc nL R) {x : Int32} (d : decode cc pc = .ok (.i2l, 1)) (kk : Z k n w lv (pc + 1) (.long x.toInt64 :: st)) : Z k n w lv pc (.int x :: st) := by
  obtain ⟨p, l, e, s, m, args, below, meth, c, D, dA, A, ad0, n0, Q, ⟨hx, hb, hml, ho, hts, hnt, hK, hA⟩, rfl⟩ := h
  intro ad H locs ls h1 h2 h3 h4 h5 h6
  exact lv_i2l hx hb d rfl (kk ad H locs ls h1 h2 h3 h4 h5 h6)
theorem z_l2i (h : Cb Z own cc nL R) {x : Int64} (d : decode cc pc = .ok (.l2i, 1)) (kk : Z k n w lv (pc + 1) (.int x.toInt32 :: st)) : Z k n w lv pc (.long x :: st) := by
  obtain ⟨p, l, e, s, m, args, below, meth, c, D, dA, A, ad0, n0, Q, ⟨hx, hb, hml, ho, hts, hnt, hK, hA⟩, rfl⟩ := h
  intro ad H locs ls h1 h2 h3 h4 h5 h6
  exact lv_l2i hx hb d rfl (kk ad H locs ls h1 h2 h3 h4 h5 h6)
theorem z_dup (h : Cb Z own cc nL R) {v : Value} (d : decode cc pc = .ok (.dup, 1)) (hv : v.category = 1) (kk : Z k n w lv (pc + 1) (v :: v :: st)) : Z k n w lv pc (v :: st) := by
  obtain ⟨p, l, e, s, m, args, below, meth, c, D, dA, A, ad0, n0, Q, ⟨hx, hb, hml, ho, hts, hnt, hK, hA⟩, rfl⟩ := h
  intro ad H locs ls h1 h2 h3 h4 h5 h6
  exact lv_dup hx hb d (by rw [zV_cat]; exact hv) (kk ad H locs ls h1 h2 h3 h4 h5 h6)
theorem z_pop (h : Cb Z own cc nL R) {v : Value} (d : decode cc pc = .ok (.pop, 1)) (hv : v.category = 1) (kk : Z k n w lv (pc + 1) st) : Z k n w lv pc (v :: st) := by
  obtain ⟨p, l, e, s, m, args, below, meth, c, D, dA, A, ad0, n0, Q, ⟨hx, hb, hml, ho, hts, hnt, hK, hA⟩, rfl⟩ := h
  intro ad H locs ls h1 h2 h3 h4 h5 h6
  exact lv_pop hx hb d (by rw [zV_cat]; exact hv) (kk ad H locs ls h1 h2 h3 h4 h5 h6)
theorem z_dup_x1 (h : Cb Z own cc nL R) {v v2 : Value} (d : decode cc pc = .ok (.dup_x1, 1)) (hv : v.category = 1) (hv2 : v2.category = 1) (kk : Z k n w lv (pc + 1) (v :: v2 :: v :: st)) : Z k n w lv pc (v :: v2 :: st) := by
  obtain ⟨p, l, e, s, m, args, below, meth, c, D, dA, A, ad0, n0, Q, ⟨hx, hb, hml, ho, hts, hnt, hK, hA⟩, rfl⟩ := h
  intro ad H locs ls h1 h2 h3 h4 h5 h6
  exact lv_dup_x1 hx hb d (by rw [zV_cat]; exact hv) (by rw [zV_cat]; exact hv2) (kk ad H locs ls h1 h2 h3 h4 h5 h6)
theorem z_dup2_11 (h : Cb Z own cc nL R) {v v2 : Value} (d : decode cc pc = .ok (.dup2, 1)) (hv : v.category = 1) (hv2 : v2.category = 1) (kk : Z k n w lv (pc + 1) (v :: v2 :: v :: v2 :: st)) : Z k n w lv pc (v :: v2 :: st) := by
  obtain ⟨p, l, e, s, m, args, below, meth, c, D, dA, A, ad0, n0, Q, ⟨hx, hb, hml, ho, hts, hnt, hK, hA⟩, rfl⟩ := h
  intro ad H locs ls h1 h2 h3 h4 h5 h6
  exact lv_dup2_11 hx hb d (by rw [zV_cat]; exact hv) (by rw [zV_cat]; exact hv2) (kk ad H locs ls h1 h2 h3 h4 h5 h6)
theorem z_if_eq (h : Cb Z own cc nL R) {x : Int32} {off : Int} {tgt : Nat} (d : decode cc pc = .ok (.ifCond .eq off, 3)) (ht : (pc : Int) + off = (tgt : Int)) (kt : x = 0 → Z k n w lv tgt st) (kf : ¬ x = 0 → Z k n w lv (pc + 3) st) : Z k n w lv pc (.int x :: st) := by
  obtain ⟨p, l, e, s, m, args, below, meth, c, D, dA, A, ad0, n0, Q, ⟨hx, hb, hml, ho, hts, hnt, hK, hA⟩, rfl⟩ := h
  intro ad H locs ls h1 h2 h3 h4 h5 h6
  exact lv_if_eq hx hb d ht (fun q => kt q ad H locs ls h1 h2 h3 h4 h5 h6) (fun q => kf q ad H locs ls h1 h2 h3 h4 h5 h6)
theorem z_icmp_eq (h : Cb Z own cc nL R) {x y : Int32} {off : Int} {tgt : Nat} (d : decode cc pc = .ok (.if_icmp .eq off, 3)) (ht : (pc : Int) + off = (tgt : Int)) (kt : x = y → Z k n w lv tgt st) (kf : ¬ x = y → Z k n w lv (pc + 3) st) : Z k n w lv pc (.int y :: .int x :: st) := by
  obtain ⟨p, l, e, s, m, args, below, meth, c, D, dA, A, ad0, n0, Q, ⟨hx, hb, hml, ho, hts, hnt, hK, hA⟩, rfl⟩ := h
  intro ad H locs ls h1 h2 h3 h4 h5 h6
  exact lv_icmp_eq hx hb d ht (fun q => kt q ad H locs ls h1 h2 h3 h4 h5 h6) (fun q => kf q ad H locs ls h1 h2 h3 h4 h5 h6)
theorem z_if_ne (h : Cb Z own cc nL R) {x : Int32} {off : Int} {tgt : Nat} (d : decode cc pc = .ok (.ifCond .ne off, 3)) (ht : (pc : Int) + off = (tgt : Int)) (kt : ¬ x = 0 → Z k n w lv tgt st) (kf : x = 0 → Z k n w lv (pc + 3) st) : Z k n w lv pc (.int x :: st) := by
  obtain ⟨p, l, e, s, m, args, below, meth, c, D, dA, A, ad0, n0, Q, ⟨hx, hb, hml, ho, hts, hnt, hK, hA⟩, rfl⟩ := h
  intro ad H locs ls h1 h2 h3 h4 h5 h6
  exact lv_if_ne hx hb d ht (fun q => kt q ad H locs ls h1 h2 h3 h4 h5 h6) (fun q => kf q ad H locs ls h1 h2 h3 h4 h5 h6)
theorem z_icmp_ne (h : Cb Z own cc nL R) {x y : Int32} {off : Int} {tgt : Nat} (d : decode cc pc = .ok (.if_icmp .ne off, 3)) (ht : (pc : Int) + off = (tgt : Int)) (kt : ¬ x = y → Z k n w lv tgt st) (kf : x = y → Z k n w lv (pc + 3) st) : Z k n w lv pc (.int y :: .int x :: st) := by
  obtain ⟨p, l, e, s, m, args, below, meth, c, D, dA, A, ad0, n0, Q, ⟨hx, hb, hml, ho, hts, hnt, hK, hA⟩, rfl⟩ := h
  intro ad H locs ls h1 h2 h3 h4 h5 h6
  exact lv_icmp_ne hx hb d ht (fun q => kt q ad H locs ls h1 h2 h3 h4 h5 h6) (fun q => kf q ad H locs ls h1 h2 h3 h4 h5 h6)
theorem z_if_lt (h : Cb Z own cc nL R) {x : Int32} {off : Int} {tgt : Nat} (d : decode cc pc = .ok (.ifCond .lt off, 3)) (ht : (pc : Int) + off = (tgt : Int)) (kt : x < 0 → Z k n w lv tgt st) (kf : ¬ x < 0 → Z k n w lv (pc + 3) st) : Z k n w lv pc (.int x :: st) := by
  obtain ⟨p, l, e, s, m, args, below, meth, c, D, dA, A, ad0, n0, Q, ⟨hx, hb, hml, ho, hts, hnt, hK, hA⟩, rfl⟩ := h
  intro ad H locs ls h1 h2 h3 h4 h5 h6
  exact lv_if_lt hx hb d ht (fun q => kt q ad H locs ls h1 h2 h3 h4 h5 h6) (fun q => kf q ad H locs ls h1 h2 h3 h4 h5 h6)
theorem z_icmp_lt (h : Cb Z own cc nL R) {x y : Int32} {off : Int} {tgt : Nat} (d : decode cc pc = .ok (.if_icmp .lt off, 3)) (ht : (pc : Int) + off = (tgt : Int)) (kt : x < y → Z k n w lv tgt st) (kf : ¬ x < y → Z k n w lv (pc + 3) st) : Z k n w lv pc (.int y :: .int x :: st) := by
  obtain ⟨p, l, e, s, m, args, below, meth, c, D, dA, A, ad0, n0, Q, ⟨hx, hb, hml, ho, hts, hnt, hK, hA⟩, rfl⟩ := h
  intro ad H locs ls h1 h2 h3 h4 h5 h6
  exact lv_icmp_lt hx hb d ht (fun q => kt q ad H locs ls h1 h2 h3 h4 h5 h6) (fun q => kf q ad H locs ls h1 h2 h3 h4 h5 h6)
theorem z_if_ge (h : Cb Z own cc nL R) {x : Int32} {off : Int} {tgt : Nat} (d : decode cc pc = .ok (.ifCond .ge off, 3)) (ht : (pc : Int) + off = (tgt : Int)) (kt : 0 ≤ x → Z k n w lv tgt st) (kf : ¬ 0 ≤ x → Z k n w lv (pc + 3) st) : Z k n w lv pc (.int x :: st) := by
  obtain ⟨p, l, e, s, m, args, below, meth, c, D, dA, A, ad0, n0, Q, ⟨hx, hb, hml, ho, hts, hnt, hK, hA⟩, rfl⟩ := h
  intro ad H locs ls h1 h2 h3 h4 h5 h6
  exact lv_if_ge hx hb d ht (fun q => kt q ad H locs ls h1 h2 h3 h4 h5 h6) (fun q => kf q ad H locs ls h1 h2 h3 h4 h5 h6)
theorem z_icmp_ge (h : Cb Z own cc nL R) {x y : Int32} {off : Int} {tgt : Nat} (d : decode cc pc = .ok (.if_icmp .ge off, 3)) (ht : (pc : Int) + off = (tgt : Int)) (kt : y ≤ x → Z k n w lv tgt st) (kf : ¬ y ≤ x → Z k n w lv (pc + 3) st) : Z k n w lv pc (.int y :: .int x :: st) := by
  obtain ⟨p, l, e, s, m, args, below, meth, c, D, dA, A, ad0, n0, Q, ⟨hx, hb, hml, ho, hts, hnt, hK, hA⟩, rfl⟩ := h
  intro ad H locs ls h1 h2 h3 h4 h5 h6
  exact lv_icmp_ge hx hb d ht (fun q => kt q ad H locs ls h1 h2 h3 h4 h5 h6) (fun q => kf q ad H locs ls h1 h2 h3 h4 h5 h6)
theorem z_if_gt (h : Cb Z own cc nL R) {x : Int32} {off : Int} {tgt : Nat} (d : decode cc pc = .ok (.ifCond .gt off, 3)) (ht : (pc : Int) + off = (tgt : Int)) (kt : 0 < x → Z k n w lv tgt st) (kf : ¬ 0 < x → Z k n w lv (pc + 3) st) : Z k n w lv pc (.int x :: st) := by
  obtain ⟨p, l, e, s, m, args, below, meth, c, D, dA, A, ad0, n0, Q, ⟨hx, hb, hml, ho, hts, hnt, hK, hA⟩, rfl⟩ := h
  intro ad H locs ls h1 h2 h3 h4 h5 h6
  exact lv_if_gt hx hb d ht (fun q => kt q ad H locs ls h1 h2 h3 h4 h5 h6) (fun q => kf q ad H locs ls h1 h2 h3 h4 h5 h6)
theorem z_icmp_gt (h : Cb Z own cc nL R) {x y : Int32} {off : Int} {tgt : Nat} (d : decode cc pc = .ok (.if_icmp .gt off, 3)) (ht : (pc : Int) + off = (tgt : Int)) (kt : y < x → Z k n w lv tgt st) (kf : ¬ y < x → Z k n w lv (pc + 3) st) : Z k n w lv pc (.int y :: .int x :: st) := by
  obtain ⟨p, l, e, s, m, args, below, meth, c, D, dA, A, ad0, n0, Q, ⟨hx, hb, hml, ho, hts, hnt, hK, hA⟩, rfl⟩ := h
  intro ad H locs ls h1 h2 h3 h4 h5 h6
  exact lv_icmp_gt hx hb d ht (fun q => kt q ad H locs ls h1 h2 h3 h4 h5 h6) (fun q => kf q ad H locs ls h1 h2 h3 h4 h5 h6)
theorem z_if_le (h : Cb Z own cc nL R) {x : Int32} {off : Int} {tgt : Nat} (d : decode cc pc = .ok (.ifCond .le off, 3)) (ht : (pc : Int) + off = (tgt : Int)) (kt : x ≤ 0 → Z k n w lv tgt st) (kf : ¬ x ≤ 0 → Z k n w lv (pc + 3) st) : Z k n w lv pc (.int x :: st) := by
  obtain ⟨p, l, e, s, m, args, below, meth, c, D, dA, A, ad0, n0, Q, ⟨hx, hb, hml, ho, hts, hnt, hK, hA⟩, rfl⟩ := h
  intro ad H locs ls h1 h2 h3 h4 h5 h6
  exact lv_if_le hx hb d ht (fun q => kt q ad H locs ls h1 h2 h3 h4 h5 h6) (fun q => kf q ad H locs ls h1 h2 h3 h4 h5 h6)
theorem z_icmp_le (h : Cb Z own cc nL R) {x y : Int32} {off : Int} {tgt : Nat} (d : decode cc pc = .ok (.if_icmp .le off, 3)) (ht : (pc : Int) + off = (tgt : Int)) (kt : x ≤ y → Z k n w lv tgt st) (kf : ¬ x ≤ y → Z k n w lv (pc + 3) st) : Z k n w lv pc (.int y :: .int x :: st) := by
  obtain ⟨p, l, e, s, m, args, below, meth, c, D, dA, A, ad0, n0, Q, ⟨hx, hb, hml, ho, hts, hnt, hK, hA⟩, rfl⟩ := h
  intro ad H locs ls h1 h2 h3 h4 h5 h6
  exact lv_icmp_le hx hb d ht (fun q => kt q ad H locs ls h1 h2 h3 h4 h5 h6) (fun q => kf q ad H locs ls h1 h2 h3 h4 h5 h6)
theorem z_goto (h : Cb Z own cc nL R) {off : Int} {tgt : Nat} (d : decode cc pc = .ok (.goto off, 3)) (ht : (pc : Int) + off = (tgt : Int)) (kk : Z k n w lv tgt st) : Z k n w lv pc st := by
  obtain ⟨p, l, e, s, m, args, below, meth, c, D, dA, A, ad0, n0, Q, ⟨hx, hb, hml, ho, hts, hnt, hK, hA⟩, rfl⟩ := h
  intro ad H locs ls h1 h2 h3 h4 h5 h6
  exact lv_goto hx hb d ht (kk ad H locs ls h1 h2 h3 h4 h5 h6)
theorem z_lv {lv' : List (Nat × Value)} (h : Cb Z own cc nL R) (hl : lv'.map (fun q => zg lv q.1) = lv'.map (fun q => some q.2)) (kk : Z k n w lv' pc st) : Z k n w lv pc st := by
  obtain ⟨p, l, e, s, m, args, below, meth, c, D, dA, A, ad0, n0, Q, ⟨hx, hb, hml, ho, hts, hnt, hK, hA⟩, rfl⟩ := h
  intro ad H locs ls h1 h2 h3 h4 h5 h6
  refine kk ad H locs ls h1 h2 h3 h4 h5 ⟨h6.1, h6.2.1, fun q hq => ?_⟩
  obtain ⟨a, ha, rfl⟩ := List.mem_map.mp hq
  obtain ⟨j, hj⟩ := List.getElem?_of_mem ha
  have e := congrArg (fun x : List (Option Value) => x[j]?) hl
  simp only [List.getElem?_map, hj, Option.map_some] at e
  exact zl_at h6 (Option.some.inj e)
theorem z_widen (h : Cb Z own cc nL R) {k' n' : Nat} (hk : k ≤ k') (hn : n ≤ n') (kk : Z k' n' w lv pc st) : Z k n w lv pc st := by
  obtain ⟨p, l, e, s, m, args, below, meth, c, D, dA, A, ad0, n0, Q, ⟨hx, hb, hml, ho, hts, hnt, hK, hA⟩, rfl⟩ := h
  intro ad H locs ls h1 h2 h3 h4 h5 h6
  exact W.widen hk hn (kk ad H locs ls h1 h2 h3 h4 h5 h6)
theorem z_get (h : Cb Z own cc nL R) {ix a ci : Nat} {fs : List Value} {C : String} {T : u_T} {N : Nat} {v : Value} (j : Nat) (d : decode cc pc = .ok (.getfield ix, 3)) (hin : ∀ w ∈ u_ws C T N, w ∈ TT) (hc : clz[ci]? = some (C, T, N)) (hj : j < N) (hl : Cond.fieldLink own ix (T j).1 (T j).2.1 (T j).2.2.1 ∈ TT) (he : w[a]? = some (.inr (ci, fs))) (hv : fs[j]? = some v) (kk : Z k n w lv (pc + 3) (v :: st)) : Z k n w lv pc (.ref a :: st) := by
  obtain ⟨p, l, e, s, m, args, below, meth, c, D, dA, A, ad0, n0, Q, ⟨hx, hb, hml, ho, hts, hnt, hK, hA⟩, rfl⟩ := h
  intro ad H locs ls h1 h2 h3 h4 h5 h6
  exact va_get (v := zV ad v) hx hb hts hin ho hK h3 a (zW_at he) hc j hj (hts _ hl) (fun _ q => q) (by show (fs.map (zV ad))[j]? = _; rw [List.getElem?_map, hv]; rfl) d (kk ad H locs ls h1 h2 h3 h4 h5 h6)
theorem z_getN (h : Cb Z own cc nL R) {ix a ci : Nat} {fs : List Value} {C host : String} {T : u_T} {N : Nat} {v : Value} (j : Nat) (d : decode cc pc = .ok (.getfield ix, 3)) (hin : ∀ w ∈ u_ws C T N, w ∈ TT) (hc : clz[ci]? = some (C, T, N)) (hj : j < N) (hl : Cond.fieldLinkNest own ix (T j).1 (T j).2.1 (T j).2.2.1 host ∈ NT) (he : w[a]? = some (.inr (ci, fs))) (hv : fs[j]? = some v) (kk : Z k n w lv (pc + 3) (v :: st)) : Z k n w lv pc (.ref a :: st) := by
  obtain ⟨p, l, e, s, m, args, below, meth, c, D, dA, A, ad0, n0, Q, ⟨hx, hb, hml, ho, hts, hnt, hK, hA⟩, rfl⟩ := h
  intro ad H locs ls h1 h2 h3 h4 h5 h6
  exact va_getN (v := zV ad v) hx hb hts hin ho hK h3 a (zW_at he) hc j hj (va_Nw.use rfl (hnt _ hl)) (fun _ q => q) (by show (fs.map (zV ad))[j]? = _; rw [List.getElem?_map, hv]; rfl) d (kk ad H locs ls h1 h2 h3 h4 h5 h6)
theorem zE_setf {dA ad : Nat → Nat} {ci j : Nat} {fs : List Value} {v : Value} : (.inr (ci, (fs.map (zV ad)).set j (zV ad v)) : va_E) = zE dA ad (.inr (ci, fs.set j v)) := by
  show _ = (.inr (ci, (fs.set j v).map (zV ad)) : va_E)
  rw [List.map_set]
theorem zV_nar {ad : Nat → Nat} {ty : FieldType} {v : Value} (h : narrow ty v = v) : narrow ty (zV ad v) = zV ad v := by
  cases v <;> first | exact h | (cases ty <;> first | rfl | exact h)
theorem zV_fit {ad : Nat → Nat} {ty : FieldType} {v : Value} (h : fits ty v = true) : fits ty (zV ad v) = true := by
  cases v <;> first | exact h | (cases ty <;> first | rfl | exact h)
theorem z_put (h : Cb Z own cc nL R) {ix a ci : Nat} {fs : List Value} {C : String} {T : u_T} {N : Nat} {v : Value} {ty : FieldType} (j : Nat) (d : decode cc pc = .ok (.putfield ix, 3)) (hin : ∀ w ∈ u_ws C T N, w ∈ TT) (hc : clz[ci]? = some (C, T, N)) {ty0 : Nat → FieldType} (hty : ∀ k, k < N → parseFieldDescriptor (T k).2.2.1 = some (ty0 k)) (hnm : ∀ a, a < N → ∀ b, b < N → a ≠ b → (T a).2.1 ≠ (T b).2.1) (hj : j < N) (hl : Cond.fieldLink own ix (T j).1 (T j).2.1 (T j).2.2.1 ∈ TT) (hfin : (T j).2.2.2 = false) (hd : ty0 j = ty) (hn : narrow ty v = v) (hf : fits ty v = true) (he : w[a]? = some (.inr (ci, fs))) (hle : j < fs.length) (kk : Z k n (w.set a (.inr (ci, fs.set j v))) lv (pc + 3) st) : Z k n w lv pc (v :: .ref a :: st) := by
  obtain ⟨p, l, e, s, m, args, below, meth, c, D, dA, A, ad0, n0, Q, ⟨hx, hb, hml, ho, hts, hnt, hK, hA⟩, rfl⟩ := h
  intro ad H locs ls h1 h2 h3 h4 h5 h6
  refine va_put (v := zV ad v) (ty := ty) hx hb hts hin ty0 hty hnm ho hK h3 h4 h5 a (zW_at he) hc j hj (hts _ hl) (fun _ q => q) hfin (by rw [hty j hj, hd]) (zV_nar hn) (zV_fit hf) (by show j < (fs.map (zV ad)).length; rw [List.length_map]; exact hle) d (fun H locs h3 h4 h5 => ?_)
  rw [show (.inr (ci, (fs.map (zV ad)).set j (zV ad v)) : va_E) = zE dA ad (.inr (ci, fs.set j v)) from zE_setf, ← zW_set] at h3 h4
  exact kk ad H locs ls (by rw [List.length_set]; exact h1) (by rw [List.length_set]; exact h2) h3 h4 h5 h6
theorem z_putN (h : Cb Z own cc nL R) {ix a ci : Nat} {fs : List Value} {C host : String} {T : u_T} {N : Nat} {v : Value} {ty : FieldType} (j : Nat) (d : decode cc pc = .ok (.putfield ix, 3)) (hin : ∀ w ∈ u_ws C T N, w ∈ TT) (hc : clz[ci]? = some (C, T, N)) {ty0 : Nat → FieldType} (hty : ∀ k, k < N → parseFieldDescriptor (T k).2.2.1 = some (ty0 k)) (hnm : ∀ a, a < N → ∀ b, b < N → a ≠ b → (T a).2.1 ≠ (T b).2.1) (hj : j < N) (hl : Cond.fieldLinkNest own ix (T j).1 (T j).2.1 (T j).2.2.1 host ∈ NT) (hfin : (T j).2.2.2 = false) (hd : ty0 j = ty) (hn : narrow ty v = v) (hf : fits ty v = true) (he : w[a]? = some (.inr (ci, fs))) (hle : j < fs.length) (kk : Z k n (w.set a (.inr (ci, fs.set j v))) lv (pc + 3) st) : Z k n w lv pc (v :: .ref a :: st) := by
  obtain ⟨p, l, e, s, m, args, below, meth, c, D, dA, A, ad0, n0, Q, ⟨hx, hb, hml, ho, hts, hnt, hK, hA⟩, rfl⟩ := h
  intro ad H locs ls h1 h2 h3 h4 h5 h6
  refine va_putN (v := zV ad v) (ty := ty) hx hb hts hin ty0 hty hnm ho hK h3 h4 h5 a (zW_at he) hc j hj (va_Nw.use rfl (hnt _ hl)) (fun _ q => q) hfin (by rw [hty j hj, hd]) (zV_nar hn) (zV_fit hf) (by show j < (fs.map (zV ad)).length; rw [List.length_map]; exact hle) d (fun H locs h3 h4 h5 => ?_)
  rw [show (.inr (ci, (fs.map (zV ad)).set j (zV ad v)) : va_E) = zE dA ad (.inr (ci, fs.set j v)) from zE_setf, ← zW_set] at h3 h4
  exact kk ad H locs ls (by rw [List.length_set]; exact h1) (by rw [List.length_set]; exact h2) h3 h4 h5 h6
theorem z_iaload (h : Cb Z own cc nL R) {a N : Nat} {f : Nat → Int32} {i : Int32} (d : decode cc pc = .ok (.iaload, 1)) (he : w[a]? = some (.inl (0, N, .inl f))) (hi : vp_in i N) (kk : Z k n w lv (pc + 1) (.int (f i.toNatClampNeg) :: st)) : Z k n w lv pc (.int i :: .ref a :: st) := by
  obtain ⟨p, l, e, s, m, args, below, meth, c, D, dA, A, ad0, n0, Q, ⟨hx, hb, hml, ho, hts, hnt, hK, hA⟩, rfl⟩ := h
  intro ad H locs ls h1 h2 h3 h4 h5 h6
  exact va_iald hx hb hK h3 a 0 (zW_at he) rfl hi d (kk ad H locs ls h1 h2 h3 h4 h5 h6)
theorem z_laload (h : Cb Z own cc nL R) {a N : Nat} {f : Nat → Int64} {i : Int32} (d : decode cc pc = .ok (.laload, 1)) (he : w[a]? = some (.inl (1, N, .inr (.inl f)))) (hi : vp_in i N) (kk : Z k n w lv (pc + 1) (.long (f i.toNatClampNeg) :: st)) : Z k n w lv pc (.int i :: .ref a :: st) := by
  obtain ⟨p, l, e, s, m, args, below, meth, c, D, dA, A, ad0, n0, Q, ⟨hx, hb, hml, ho, hts, hnt, hK, hA⟩, rfl⟩ := h
  intro ad H locs ls h1 h2 h3 h4 h5 h6
  exact va_lald hx hb hK h3 a 1 (zW_at he) rfl hi d (kk ad H locs ls h1 h2 h3 h4 h5 h6)
theorem z_aaload (h : Cb Z own cc nL R) {a N b : Nat} {f : Nat → Option Nat} {i : Int32} (d : decode cc pc = .ok (.aaload, 1)) (he : w[a]? = some (.inl (2, N, .inr (.inr (.inr (.inr f)))))) (hi : vp_in i N) (hb9 : f i.toNatClampNeg = some b) (kk : Z k n w lv (pc + 1) (.ref b :: st)) : Z k n w lv pc (.int i :: .ref a :: st) := by
  obtain ⟨p, l, e, s, m, args, below, meth, c, D, dA, A, ad0, n0, Q, ⟨hx, hb, hml, ho, hts, hnt, hK, hA⟩, rfl⟩ := h
  intro ad H locs ls h1 h2 h3 h4 h5 h6
  have hlt : i.toNatClampNeg < N := Nat.not_le.mp fun q => hi (Or.inr q)
  have hcell : H[ad a]? = some (arrV (dA 2) N (fun j => va_rf ((f j).map ad))) := h3 a _ (zW_at he)
  refine W.aald (v := va_rf ((f i.toNatClampNeg).map ad)) (ty := .array .int) hx hb hcell ((hK.2 2 _ rfl).1 N (fun j => va_rf ((f j).map ad))) rfl (fun q => by cases q) (by rw [arrV_size]; exact hi) (by rw [arrV_read _ _ hlt]) rfl rfl d ?_
  rw [hb9]
  exact kk ad H locs ls h1 h2 h3 h4 h5 h6
theorem z_iastore (h : Cb Z own cc nL R) {a N : Nat} {f : Nat → Int32} {i x : Int32} (d : decode cc pc = .ok (.iastore, 1)) (he : w[a]? = some (.inl (0, N, .inl f))) (hi : vp_in i N) (kk : Z k n (w.set a (.inl (0, N, .inl (upd f i.toNatClampNeg x)))) lv (pc + 1) st) : Z k n w lv pc (.int x :: .int i :: .ref a :: st) := by
  obtain ⟨p, l, e, s, m, args, below, meth, c, D, dA, A, ad0, n0, Q, ⟨hx, hb, hml, ho, hts, hnt, hK, hA⟩, rfl⟩ := h
  intro ad H locs ls h1 h2 h3 h4 h5 h6
  refine va_iast hx hb hK h3 h4 h5 a 0 (zW_at he) rfl hi d (fun H locs h3 h4 h5 => ?_)
  rw [show (.inl (dA 0, N, .inl (upd f i.toNatClampNeg x)) : va_E) = zE dA ad (.inl (0, N, .inl (upd f i.toNatClampNeg x))) from rfl, ← zW_set] at h3 h4
  exact kk ad H locs ls (by rw [List.length_set]; exact h1) (by rw [List.length_set]; exact h2) h3 h4 h5 h6
theorem z_lastore (h : Cb Z own cc nL R) {a N : Nat} {f : Nat → Int64} {i : Int32} {x : Int64} (d : decode cc pc = .ok (.lastore, 1)) (he : w[a]? = some (.inl (1, N, .inr (.inl f)))) (hi : vp_in i N) (kk : Z k n (w.set a (.inl (1, N, .inr (.inl (vp_updL f i.toNatClampNeg x))))) lv (pc + 1) st) : Z k n w lv pc (.long x :: .int i :: .ref a :: st) := by
  obtain ⟨p, l, e, s, m, args, below, meth, c, D, dA, A, ad0, n0, Q, ⟨hx, hb, hml, ho, hts, hnt, hK, hA⟩, rfl⟩ := h
  intro ad H locs ls h1 h2 h3 h4 h5 h6
  refine va_last hx hb hK h3 h4 h5 a 1 (zW_at he) rfl hi d (fun H locs h3 h4 h5 => ?_)
  rw [show (.inl (dA 1, N, .inr (.inl (vp_updL f i.toNatClampNeg x))) : va_E) = zE dA ad (.inl (1, N, .inr (.inl (vp_updL f i.toNatClampNeg x)))) from rfl, ← zW_set] at h3 h4
  exact kk ad H locs ls (by rw [List.length_set]; exact h1) (by rw [List.length_set]; exact h2) h3 h4 h5 h6
theorem z_alen (h : Cb Z own cc nL R) {a q : Nat} {x : vp_A} {v : Int32} (d : decode cc pc = .ok (.arraylength, 1)) (he : w[a]? = some (.inl (q, x))) (hq : q < 3) (hv : Int32.ofNat x.1 = v) (kk : Z k n w lv (pc + 1) (.int v :: st)) : Z k n w lv pc (.ref a :: st) := by
  obtain ⟨p, l, e, s, m, args, below, meth, c, D, dA, A, ad0, n0, Q, ⟨hx, hb, hml, ho, hts, hnt, hK, hA⟩, rfl⟩ := h
  intro ad H locs ls h1 h2 h3 h4 h5 h6
  have hx1 : (zA ad x).1 = x.1 := by
    unfold zA
    split <;> rfl
  have ht : ∃ ty, (ztys dA)[q]? = some (dA q, ty) := by
    rcases (show q = 0 ∨ q = 1 ∨ q = 2 by omega) with rfl | rfl | rfl <;> exact ⟨_, rfl⟩
  obtain ⟨ty, ht⟩ := ht
  exact va_alen hx hb hK h3 a q (zW_at he) ht (v := v) (by rw [hx1]; exact hv) d (kk ad H locs ls h1 h2 h3 h4 h5 h6)
theorem z_lcmp (h : Cb Z own cc nL R) {x y : Int64} (d : decode cc pc = .ok (.lcmp, 1)) (kk : Z k n w lv (pc + 1) (.int (lg_cmp x y) :: st)) : Z k n w lv pc (.long y :: .long x :: st) := by
  obtain ⟨p, l, e, s, m, args, below, meth, c, D, dA, A, ad0, n0, Q, ⟨hx, hb, hml, ho, hts, hnt, hK, hA⟩, rfl⟩ := h
  intro ad H locs ls h1 h2 h3 h4 h5 h6
  refine W.lcmp hx hb d ?_
  exact kk ad H locs ls h1 h2 h3 h4 h5 h6
end ZR
