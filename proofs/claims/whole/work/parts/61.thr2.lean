/-! methods with handlers; calls of them -/
/-! a method with handlers -/
abbrev Hrow : Type := Nat × Nat × Nat × Nat
/-- at pc, the handlers hs bring an E to hp -/
def zCatch (own : String) (hs : List Hrow) (pc : Nat) (E : String) (hp : Nat) : Prop :=
  (∃ sp ep ct t, hs = (sp, ep, hp, ct) :: t ∧ (sp ≤ pc ∧ pc < ep) ∧ ct ≠ 0 ∧ Cond.classLink own ct E ∈ TT) ∨
  (∃ sp ep h1 ct sp2 ep2 ct2 t, hs = (sp, ep, h1, ct) :: (sp2, ep2, hp, ct2) :: t ∧ (sp ≤ pc ∧ pc < ep) ∧ (sp2 ≤ pc ∧ pc < ep2) ∧ ct ≠ 0 ∧ ct2 ≠ 0 ∧ E = "java/lang/UnsupportedOperationException" ∧ Cond.classLink own ct "java/lang/IllegalArgumentException" ∈ TT ∧ Cond.classLink own ct2 E ∈ TT)
theorem cov_of {x : ExceptionTableEntry} {pc : Nat} (h : x.startPc ≤ pc ∧ pc < x.endPc) : covers x pc = true := by
  simp [covers, h.1, h.2]
section TH5
variable {p : Program} {l : Launch} {e : Env} {R : Room} {s : State} {m : MethodId} {args : Array Value} {below : List Frame} {meth : Method} {c : Code} {T : State} {locs : List Loc} {cells slots : Nat}
theorem st_catchE (X : Stand p l e R s m args below meth c T locs cells slots) {a : Nat} {g : JFrame} (hg : g.method = m) {own E : String} (hown : s.vm.findClass own = some m.cls) (ht : ∀ w ∈ TT, w.before args s = true) (hX : zX s) {hs : List Hrow} {hp : Nat} (htab : c.exceptionTable.toList.map (fun h => (h.startPc, h.endPc, h.handlerPc, h.catchType)) = hs) (hc : zCatch own hs g.pc E hp) {cell : Cell} (hcell : T.heap[a]? = some cell) (hobj : cell.vm.isStatics = false) (hcls : s.vm.findClass E = some cell.cls) :
    ∃ vm', Stand p l e R s m args below meth c (T.setVm vm') locs cells slots ∧ ∀ target, Steps p.tables e below ((T.setVm vm').setTop { g with pc := hp, stack := [.ref a] }) target → Steps p.tables e below ((T.setTop g).pushFrame (.throwing a)) target := by
  rcases hc with ⟨sp, ep, ct, t, rfl, h1, h2, h3⟩ | ⟨sp, ep, hh, ct, sp2, ep2, ct2, t, rfl, h1, h2, h3, h4, rfl, h5, h6⟩
  · cases hq : c.exceptionTable.toList with
    | nil => rw [hq] at htab; cases htab
    | cons x tl =>
      rw [hq] at htab
      simp only [List.map_cons, List.cons.injEq, Prod.mk.injEq] at htab
      obtain ⟨⟨e1, e2, e3, e4⟩, -⟩ := htab
      subst e1; subst e2; subst e3; subst e4
      exact st_catch1 X hg hown hq (cov_of h1) h2 (ht _ h3) hcell hobj ⟨_, hcls, va_asg _ _⟩
  · cases hq : c.exceptionTable.toList with
    | nil => rw [hq] at htab; cases htab
    | cons x tl =>
      cases tl with
      | nil => rw [hq] at htab; simp at htab
      | cons x2 tl =>
        rw [hq] at htab
        simp only [List.map_cons, List.cons.injEq, Prod.mk.injEq] at htab
        obtain ⟨⟨e1, e2, e3, e4⟩, ⟨e5, e6, e7, e8⟩, -⟩ := htab
        subst e1; subst e2; subst e4; subst e5; subst e6; subst e7; subst e8
        obtain ⟨cU, cI, g1, g2, g3⟩ := hX.2.2.2.1
        cases g1.symm.trans hcls
        exact st_catch2 X hg hown hq (cov_of h1) h3 (cov_of h2) h4 (ht _ h5) (ht _ h6) hcell hobj ⟨_, g2, g3⟩ ⟨_, hcls, va_asg _ _⟩
end TH5
def MH (y : MethodName) (cc : ByteArray) (nL : Nat) (hs : List Hrow) (R : Room) (As : List Value) (w : List va_E) (Post : Option Value → List va_E → Prop) : Prop :=
  ∀ (l : Launch) (D : va_G) (dA ad : Nat → Nat) (sz : Nat), l.stackTraces = false → MetFree l y (headSpec (.codeWith y cc nL (some .int) hs :: TT) R) (va_Pc (As.map (zV ad)) (fun U => zPre D dA ad sz w U ∧ zX U)) (fun _ _ _ _ _ => True) (fun a st o t => zQ D dA (va_A (zW dA ad w) sz) ad w.length Post a st o t ∧ ∃ L, FrameEnd st o t L R.cells R.slots ∧ ∀ q ∈ L, va_A (zW dA ad w) sz q.base)
/-- where an exception may be caught -/
def Cx (Z : ZP) (own : String) (cc : ByteArray) (nL : Nat) (R : Room) (n0 : Nat) (hs : List Hrow) (Post : Option Value → List va_E → Prop) : Prop :=
  ∃ (p : Program) (l : Launch) (e : Env) (s : State) (m : MethodId) (args : Array Value) (below : List Frame) (meth : Method) (c : Code) (D : va_G) (dA : Nat → Nat) (A : Nat → Prop) (ad0 : Nat → Nat), zOK p s m args c own cc nL D dA A ∧ l.stackTraces = false ∧ zX s ∧ (∀ q, A q → ∀ cell, s.heap[q]? = some cell → cell.vm.isStatics = false) ∧ c.exceptionTable.toList.map (fun h => (h.startPc, h.endPc, h.handlerPc, h.catchType)) = hs ∧ meth.locks = false ∧ meth.sig.returnType = some .int ∧
    Z = Zof p l e R s m args below meth c nL D dA A ad0 n0 (MQ below (zQ D dA A ad0 n0 Post) args s R.cells R.slots A)
set_option maxHeartbeats 1000000 in
theorem MH_of {y : MethodName} {cc : ByteArray} {nL : Nat} {hs : List Hrow} {R : Room} {As : List Value} {w : List va_E} {Post : Option Value → List va_E → Prop} {own : String} (hy : plainName y.cls = true) (ho : y.cls = own) (hsl : ∀ ad : Nat → Nat, (lg_sl (As.map (zV ad))).length ≤ nL)
    (body : ∀ Z : ZP, Cb Z own cc nL R → Cr Z cc (some .int) R Post → Cx Z own cc nL R w.length hs Post → Z 0 0 w (lv_args 0 As) 0 []) : MH y cc nL hs R As w Post := by
  intro l D dA ad sz htr
  refine MetFree.of_bodyS (code := cc) (maxLocals := nL) (ret := some .int) hy ?_ ?_
  · intro args s m h hn
    obtain ⟨m', meth, c, h0, h1, h2, h3, h4, -, h5, h6, -⟩ := Cond.codeWith_spec (atoms_spec (ws := .codeWith y cc nL (some .int) hs :: TT) h _ List.mem_cons_self)
    cases h0.symm.trans hn
    exact ⟨meth, c, h1, h2, h3, h4, h5, h6⟩
  · intro p e s m args below meth c s₁ B hml hv _
    obtain ⟨rfl, ⟨hsz, hP, hK, hN, hD0⟩, hX⟩ := hv
    have hts := atoms_spec (ws := .codeWith y cc nL (some .int) hs :: TT) B.pre
    have hown : s.vm.findClass own = some m.cls := by rw [← ho]; exact findClass_of_methodNamed B.named
    have hlocks := B.notSynchronized
    have htab : c.exceptionTable.toList.map (fun h => (h.startPc, h.endPc, h.handlerPc, h.catchType)) = hs := by
      obtain ⟨m', meth', c', h0, h1, h2, h3, h4, h7, -⟩ := Cond.codeWith_spec (hts _ List.mem_cons_self)
      cases h0.symm.trans B.named
      have X₀ := Stand.of_body B
      have e1 := X₀.method
      rw [e1] at h1
      cases h1
      have e2 := X₀.code
      rw [e2] at h2
      cases h2
      exact h7
    subst hsz
    have hD := hD0.self (sz := s.heap.size)
    have hst := zw_nst hP
    generalize hAe : va_A (zW dA ad w) s.heap.size = A at hD hst ⊢
    have hA : ∀ q : Nat, s.heap.size ≤ q → A q := fun q h => by rw [← hAe]; exact Or.inr h
    have hl := lv_entry (As.map (zV ad)) (n := nL) (hsl ad)
    rw [zl_args] at hl
    have hok : zOK p s m (As.map (zV ad)).toArray c own cc nL D dA A := ⟨B.exec, B.bytes, hml, hown, fun q hq => hts q (List.mem_cons_of_mem _ hq), hN, hK, hA⟩
    have key := body (Zof p l e R s m (As.map (zV ad)).toArray below meth c nL D dA A ad w.length (MQ below (zQ D dA A ad w.length Post) (As.map (zV ad)).toArray s R.cells R.slots A))
      ⟨p, l, e, s, m, (As.map (zV ad)).toArray, below, meth, c, D, dA, A, ad, w.length, _, hok, rfl⟩
      ⟨fun k n w' lv pc v hk hn hr hd hp ad' H locs ls h1 h2 h3 h4 h5 h6 => W.widen hk hn (W.iret (v := v) B.exec B.bytes (B.returns.trans hr) (fun t ht hW => ⟨⟨some (.int v), w', ad', rfl, h1, h2, by rw [ht]; exact h3, h4, hp⟩, h5.F ht⟩) h5.2.2 hd),
       (by intro _ _ _ _ _ _ _ _ h; cases h), (by intro _ _ _ _ _ _ _ _ h; cases h), (by intro _ _ _ _ _ _ _ h; cases h), (by intro _ _ _ _ _ _ _ _ _ h; cases h)⟩
      ⟨p, l, e, s, m, (As.map (zV ad)).toArray, below, meth, c, D, dA, A, ad, hok, htr, hX, hst, htab, hlocks, B.returns, rfl⟩
    have hh0 : s₁.heap = s.heap := by rw [B.state]; rfl
    have k1 := key ad s.heap [] _ (fun _ _ => rfl) (Nat.le_refl _) hP hD va_S.rf hl
    have k2 : W p l e R s m (As.map (zV ad)).toArray below meth c s.heap [] 0 0 (MQ below (zQ D dA A ad w.length Post) (As.map (zV ad)).toArray s R.cells R.slots A) (entryFrame m (As.map (zV ad)).toArray nL) := by
      rw [lg_entry_eq]
      exact k1
    obtain ⟨t, a1, o, b1, b2, b3⟩ := k2 s₁ hh0 (Stand.of_body B)
    exact ⟨t, o, a1, b1, b2, b3⟩
section ZT3
variable {Z : ZP} {own : String} {cc : ByteArray} {nL : Nat} {R : Room} {k n pc : Nat} {w : List va_E} {lv : List (Nat × Value)} {st : List Value}
variable {y : MethodName} {cy : ByteArray} {ny : Nat} {ry : Option FieldType} {Ry : Room} {As : List Value} {wc : List va_E}
set_option maxHeartbeats 2000000 in
/-- a callee throws an E; the handler stores it, and answers r -/
theorem z_catch {n0 : Nat} {hs : List Hrow} {E : String} {Post : Option Value → List va_E → Prop} {Post' : List va_E → Prop} (h : Cx Z own cc nL R n0 hs Post) {stk : List Value} {b0 ix : Nat} (hM : MT y cy ny ry Ry (.ref b0 :: As) wc E Post') (hF : zFit y cy ny ry Ry R As.length) (hl : Cond.methodLink own ix y ∈ TT) {C : String} {ci : Nat} {q9 : u_T × Nat} (hi : Cond.instanceMethod y ∈ TT) (hsel : Cond.selects C y y ∈ TT) (hci : clz[ci]? = some (C, q9)) (hrc : ∃ fs : List Value, wc[b0]? = some (.inr (ci, fs))) (d : decode cc pc = .ok (.invokevirtual ix, 3)) (hk : k + Ry.cells ≤ R.cells ∧ n + Ry.slots ≤ R.slots) (is : List Nat) (hnd : va_nd is = true) (hw : is.map (fun i => w[i]?) = wc.map (fun e => some (zE (fun i => i) (zfn is) e))) (hst : (st.map fun v => v.category).sum ≤ 8) (hstk : ((As.map (zV (zfn is))).reverse ++ .ref (zfn is b0) :: st) = stk) (hwl : w.length = n0)
    {hp r i lr : Nat} {v : Int32} (hc : zCatch own hs pc E hp) (d1 : (decode cc hp = .ok (.astore i, 2) ∧ lr = hp + 2) ∨ (∃ q : Fin 4, (q : Nat) = i ∧ decode cc hp = .ok (.astore_n q, 1) ∧ lr = hp + 1)) (hin : i < nL) {vi : Int} (d2 : decode cc lr = .ok (.iconst vi, 1)) (hv : Int32.ofInt vi = v) (d3 : decode cc (lr + 1) = .ok (.ireturn, 1))
    (kk : ∀ w', w'.length = wc.length → Post' w' → Post (some (.int v)) (zput w is (w'.map (zE (fun i => i) (zfn is))))) : Z k n w lv pc stk := by
  subst hstk
  obtain ⟨p, l, e, s, m, args, below, meth, c, D, dA, A, ad0, ⟨hx, hb, hml, ho, hts, hnt, hK, hA⟩, htr, hX, hnst, htab, hlocks, hret, rfl⟩ := h
  intro ad H locs ls h1 h2 h3 h4 h5 h6 T hT X
  have had : ad = ad0 := funext fun i => h1 i (by rw [hwl]; exact Nat.lt_or_ge i n0)
  subst had
  subst hT
  obtain ⟨f1, f2, f3, f4, f5, f6⟩ := hF
  have hpick := zpick (dA := dA) (ad := ad) (zfn_at (is := is)) hw
  have hPc : va_P D clz (zW dA (fun j => ad (zfn is j)) wc) T.heap := h3.sub is (zmap_filter hpick)
  have hDc : va_D A (zW dA (fun j => ad (zfn is j)) wc) := h4.sub is hnd hpick
  have hFc := va_free (wc := zW dA (fun j => ad (zfn is j)) wc) h4 h5 hA is hpick
  have hpay := pay_in (args := args) (s := s) hts (zgood f1)
  have hrecv : ∃ cellB : Cell, T.heap[ad (zfn is b0)]? = some cellB ∧ cellB.vm.isStatics = false ∧ s.vm.findClass C = some cellB.cls := by
    obtain ⟨fs, hq⟩ := hrc
    exact va_recv (q := (C, q9)) hK hPc hci (zW_at hq)
  obtain ⟨cellB, hcB, hoB, hclB⟩ := hrecv
  obtain ⟨mk, methM, hnamed, hmethM, hstM, habM⟩ := Cond.instanceMethod_spec (hts _ hi)
  obtain ⟨methM', cM, hmethM', -, -, -, -, -, -, hsigM⟩ := Cond.code_spec hnamed (hts _ f1)
  cases hmethM.symm.trans hmethM'
  obtain ⟨c2, r2, m2, q1, q2, q3, q4, kP, hkP, hkPi⟩ := Cond.selects_spec (hts _ hsel)
  cases hclB.symm.trans q1
  cases (State.methodFound?_of_named hnamed f3).symm.trans q2
  cases hnamed.symm.trans q3
  have hselP : selectMethod e.platform s.vm cellB.cls mk = .method mk := by rw [Launch.admits_selectMethod X.admits]; exact q4
  have hlenY : As.length = methM.sig.parameters.length := by
    rw [hsigM] at f4
    exact (Option.some.inj f4).symm
  have e0 : ((As.map (zV (zfn is))).reverse ++ .ref (zfn is b0) :: st).map (zV ad) = (As.map (zV (fun j => ad (zfn is j)))).reverse ++ .ref (ad (zfn is b0)) :: st.map (zV ad) := by
    simp only [List.map_append, List.map_reverse, List.map_map, List.map_cons]
    congr 2
    apply List.map_congr_left
    intro v _
    exact zV_comp v
  rw [e0]
  obtain ⟨vm₁, X₁, st₁⟩ := X.invokevirtual hx ho (hts _ hl) hnamed hmethM hstM hkP hkPi f3 hcB (VmData.ne_statics_of hoB) hselP hmethM habM hkP hkPi (g := F0 m pc ls ((As.map (zV (fun j => ad (zfn is j)))).reverse ++ .ref (ad (zfn is b0)) :: st.map (zV ad))) rfl (argsL := As.map (zV (fun j => ad (zfn is j)))) (rest := st.map (zV ad)) (by rw [List.length_map]; exact hlenY) rfl (by rw [hb]; exact d)
  have hini1 : (Cond.initialized y.cls).before #[] (T.setVm vm₁) = true := word_at (s := s) (U := T.setVm vm₁) X₁.warmed (good_of_word (List.mem_filter.mp f2).2) (hts _ f2)
  have hXT : zX (T.setVm vm₁) := zX_to (u := reS s T) (U := T.setVm vm₁) X₁.warmed (fun _ _ h _ => h) (zX_mid hX hnst h5)
  have hpre : va_Pc ((Value.ref b0 :: As).map (zV (fun j => ad (zfn is j)))) (fun U => zPre D dA (fun j => ad (zfn is j)) T.heap.size wc U ∧ zX U) ((Value.ref b0 :: As).map (zV (fun j => ad (zfn is j)))).toArray (T.setVm vm₁) :=
    ⟨rfl, ⟨rfl, hPc, va_K.moved X₁.warmed.alike hK, nt_warm X₁.warmed hnt, hDc.weaken (fun _ _ _ _ => trivial)⟩, hXT⟩
  obtain ⟨x, T', t, L, X', hL, e1, hq, hgo⟩ := st_out X₁ (g := F0 m pc ls (st.map (zV ad))) rfl (h6.1.trans hml.symm) (by rw [hb]; exact d) (lv_room (zcat hst)) (X₁.named hnamed) (hM l D dA (fun j => ad (zfn is j)) T.heap.size htr) hpay hini1 f5 f6 (by omega) (by omega) (a := ((Value.ref b0 :: As).map (zV (fun j => ad (zfn is j)))).toArray)
    ⟨hpre.1, zblind (av := (Value.ref b0 :: As).map (zV (fun j => ad (zfn is j)))) _ _ _ _ ⟨hpre.1, hpre.2.1⟩ |>.2, zX_blind hpre.2.2⟩ (fun o t h => by obtain ⟨x, -, -, h, -⟩ := h; exact ⟨x, h⟩)
  obtain ⟨x', w', ce, hx', q1, q2, q3, q4, q5, q6, q7, q8, q9⟩ := hq
  cases hx'
  have hj := zjoin (A := A) (H' := T'.heap) (zfn_at (is := is)) hnd hw q4 h3 h4 (by rw [e1]; exact q5) (fun q g1 g2 => by rw [e1]; exact q9 q g1 g2)
  have hS' : va_S A s.heap T'.heap (locs ++ L) := ⟨Nat.le_trans h5.1 (by rw [e1]; exact q8), fun q g1 g2 => by
      rw [e1, q9 q (Nat.lt_of_lt_of_le g1 h5.1) (fun z => g2 (hFc q z))]
      exact h5.2.1 q g1 g2, fun q hq => by
      rcases List.mem_append.mp hq with h | h
      · exact h5.2.2 q h
      · exact hFc _ (hL q h)⟩
  obtain ⟨vm', X2, st2⟩ := st_catchE X' (a := x) (g := F0 m pc ls (st.map (zV ad))) rfl ho hts hX htab hc (by rw [e1]; exact q1) q2 (by rw [← q3]; exact (X₁.warmed.alike.findClass E _).symm)
  have hbk : ∀ ls' : Array Slot, W p l e R s m args below meth c T'.heap (locs ++ L) (k + Ry.cells) (n + Ry.slots) (MQ below (zQ D dA A ad n0 Post) args s R.cells R.slots A) (F0 m lr ls' []) := fun ls' => by
    refine lv_iconst hx hb d2 hv ?_
    exact W.widen hk.1 hk.2 (W.iret (v := v) hx hb hret (fun t ht hW => ⟨⟨some (.int v), _, ad, rfl, fun _ _ => rfl, by rw [zput_len, hwl]; exact Nat.le_refl _, by rw [ht]; exact hj.1, hj.2, kk w' q4 q7⟩, hS'.F ht⟩) hS'.2.2 d3 hlocks)
  have hgo2 : W p l e R s m args below meth c T'.heap (locs ++ L) (k + Ry.cells) (n + Ry.slots) (MQ below (zQ D dA A ad n0 Post) args s R.cells R.slots A) (F0 m hp ls [.ref x]) := by
    rcases d1 with ⟨g1, rfl⟩ | ⟨q, g0, g1, rfl⟩
    · exact lv_astore hx hb g1 h6 hin rfl (fun ls' _ => hbk ls')
    · exact lv_astore_n hx hb g1 g0 h6 hin rfl (fun ls' _ => hbk ls')
  obtain ⟨t2, a1, b1⟩ := hgo2 (T'.setVm vm') rfl X2
  exact ⟨t2, st₁ _ (fun acts => (hgo acts).trans (st2 _ a1)), b1⟩
end ZT3
/-- the law's own method: what its calls of methods with handlers need -/
def Cy (Z : ZP) (own : String) (cc : ByteArray) (nL : Nat) (R : Room) : Prop :=
  ∃ (p : Program) (l : Launch) (e : Env) (s : State) (m : MethodId) (args : Array Value) (below : List Frame) (meth : Method) (c : Code) (D : va_G) (dA : Nat → Nat) (A : Nat → Prop) (ad0 : Nat → Nat) (n0 : Nat) (Q : State → Prop), zOK p s m args c own cc nL D dA A ∧ l.stackTraces = false ∧ zX s ∧ (∀ q, A q → ∀ cell, s.heap[q]? = some cell → cell.vm.isStatics = false) ∧ Z = Zof p l e R s m args below meth c nL D dA A ad0 n0 Q
theorem zgoodW {y : MethodName} {cc : ByteArray} {nL : Nat} {ret : Option FieldType} {hs : List Hrow} (h : Cond.codeWith y cc nL ret hs ∈ TT) : GoodIn TT (.codeWith y cc nL ret hs :: TT) := fun w hw => by
  rcases List.mem_cons.mp hw with rfl | hw
  · exact ⟨h, good_of_word (List.mem_filter.mp h).2⟩
  · exact ⟨hw, good_of_word (List.mem_filter.mp hw).2⟩
section ZT4
variable {Z : ZP} {own : String} {cc : ByteArray} {nL : Nat} {R : Room} {k n pc : Nat} {w : List va_E} {lv : List (Nat × Value)} {st : List Value}
variable {y : MethodName} {cy : ByteArray} {ny : Nat} {Ry : Room} {As : List Value} {wc : List va_E} {hs : List Hrow} {Post : Option Value → List va_E → Prop}
set_option maxHeartbeats 2000000 in
theorem z_cH (h : Cy Z own cc nL R) {stk : List Value} {ix : Nat} (hM : MH y cy ny hs Ry As wc Post) (f1 : Cond.codeWith y cy ny (some .int) hs ∈ TT) (f2 : Cond.initialized y.cls ∈ TT) (f3 : y.cls ≠ "java/lang/invoke/MethodHandle" ∧ y.cls ≠ "java/lang/invoke/VarHandle") (f4 : (parseMethodDescriptor y.desc).map (fun d => d.parameters.length) = some As.length) (f5 : Ry.frames + 1 ≤ R.frames) (f6 : 8 + (ny + 11) + Ry.locals ≤ R.locals) (hl : Cond.methodLink own ix y ∈ TT) (hs' : Cond.static y ∈ TT) (d : decode cc pc = .ok (.invokestatic ix, 3)) (hk : k + Ry.cells ≤ R.cells ∧ n + Ry.slots ≤ R.slots) (is : List Nat) (hnd : va_nd is = true) (hw : is.map (fun i => w[i]?) = wc.map (fun e => some (zE (fun i => i) (zfn is) e))) (hst : (st.map fun v => v.category).sum ≤ 8) (hstk : ((As.map (zV (zfn is))).reverse ++ st) = stk) (hlen : ∀ r w', Post r w' → w'.length = wc.length)
    (kk : ∀ r w', Post r w' → Z (k + Ry.cells) (n + Ry.slots) (zput w is (w'.map (zE (fun i => i) (zfn is)))) lv (pc + 3) ((r.map (zV (zfn is))).toList ++ st)) : Z k n w lv pc stk := by
  subst hstk
  obtain ⟨p, l, e, s, m, args, below, meth, c, D, dA, A, ad0, n0, Q, ⟨hx, hb, hml, ho, hts, hnt, hK, hA⟩, htr, hX, hnst, rfl⟩ := h
  intro ad H locs ls h1 h2 h3 h4 h5 h6
  have hpick := zpick (dA := dA) (ad := ad) (zfn_at (is := is)) hw
  have hPc : va_P D clz (zW dA (fun j => ad (zfn is j)) wc) H := h3.sub is (zmap_filter hpick)
  have hDc : va_D A (zW dA (fun j => ad (zfn is j)) wc) := h4.sub is hnd hpick
  have hpay := pay_in (args := args) (s := s) hts (zgoodW f1)
  obtain ⟨mk, methM, cM, hnamed, hmethM, -, -, -, -, -, -, hsigM⟩ := Cond.codeWith_spec (hts _ f1)
  have hstatic : methM.isStatic = true := Cond.static_spec hnamed hmethM (hts _ hs')
  obtain ⟨kP, hkP, -⟩ := className_of_methodNamed hnamed
  have hinitP : kP.init = .initialized := Cond.initialized_spec (findClass_of_methodNamed hnamed) hkP (hts _ f2)
  have hlenY : As.length = methM.sig.parameters.length := by
    rw [hsigM] at f4
    exact (Option.some.inj f4).symm
  have e0 : ((As.map (zV (zfn is))).reverse ++ st).map (zV ad) = (As.map (zV (fun j => ad (zfn is j)))).reverse ++ st.map (zV ad) := by
    simp only [List.map_append, List.map_reverse, List.map_map]
    congr 2
    apply List.map_congr_left
    intro v _
    exact zV_comp v
  rw [e0]
  have hB : Back l R p e below s args y 3 8 (PreOf R Ry.cells Ry.slots (va_Pc (As.map (zV (fun j => ad (zfn is j)))) (fun U => zPre D dA (fun j => ad (zfn is j)) H.size wc U ∧ zX U))) (PostOf (zQ D dA (va_A (zW dA (fun j => ad (zfn is j)) wc) H.size) (fun j => ad (zfn is j)) wc.length Post) Ry.cells Ry.slots (va_A (zW dA (fun j => ad (zfn is j)) wc) H.size)) := by
    refine Back.of_freeWith (bytes := cy) (maxL := ny) (ret := some .int) (handlers := hs) (E := fun a st o t L k n => k = Ry.cells ∧ n = Ry.slots ∧ ∀ q ∈ L, va_A (zW dA (fun j => ad (zfn is j)) wc) H.size q.base) (hM l D dA (fun j => ad (zfn is j)) H.size htr) f5 f6 ?_ ?_ (fun _ _ _ _ _ _ _ _ _ => trivial) ?_ ?_
    · intro m meth c A a X hp
      exact ⟨atoms_intro fun w hw => hpay w hw _ _ X.warmed, hpay _ List.mem_cons_self _ _ X.warmed, word_at X.warmed (good_of_word (List.mem_filter.mp f2).2) (hts _ f2), hp.1, hp.2.1⟩
    · intro m meth c A a g mk X hp
      exact ⟨hp.2.2.1, zblind (av := As.map (zV (fun j => ad (zfn is j)))) _ _ _ _ ⟨hp.2.2.1, hp.2.2.2.1⟩ |>.2, zX_blind hp.2.2.2.2⟩
    · intro a st o t ⟨hq, L, hF, hL⟩
      exact ⟨L, _, _, hF, rfl, rfl, hL⟩
    · intro m meth c A a g mk v t L k n X hp hq hF ⟨e1, e2, hL⟩
      subst e1; subst e2
      exact ⟨g, mk, t, L, rfl, rfl, hq.1, rfl, hL, rfl, rfl⟩
  have hrun : va_Run p l e R s m args below meth c H locs k n Ry.cells Ry.slots (F0 m pc ls ((As.map (zV (fun j => ad (zfn is j)))).reverse ++ st.map (zV ad))) (st.map (zV ad)) (zQ D dA (va_A (zW dA (fun j => ad (zfn is j)) wc) H.size) (fun j => ad (zfn is j)) wc.length Post (As.map (zV (fun j => ad (zfn is j)))).toArray) (va_A (zW dA (fun j => ad (zfn is j)) wc) H.size) := by
    intro T hT X
    subst hT
    obtain ⟨vm₁, X₁, st₁⟩ := X.invokestatic hx ho (hts _ hl) hnamed hmethM hstatic hkP hinitP f3 (g := F0 m pc ls ((As.map (zV (fun j => ad (zfn is j)))).reverse ++ st.map (zV ad))) rfl (argsL := As.map (zV (fun j => ad (zfn is j)))) (rest := st.map (zV ad)) (by rw [List.length_map]; exact hlenY) rfl (by rw [hb]; exact d)
    have hXT : zX (T.setVm vm₁) := zX_to (u := reS s T) (U := T.setVm vm₁) X₁.warmed (fun _ _ h _ => h) (zX_mid hX hnst h5)
    obtain ⟨v, ⟨U', l2, c2, s2⟩, X', ⟨g', mk', t, L, e1, e2, hq, b1, hL, b2, b3⟩, hst'⟩ := hB m meth c ⟨T.setVm vm₁, locs, k, n⟩ (F0 m pc ls (st.map (zV ad))) (.invokestatic ix) mk (As.map (zV (fun j => ad (zfn is j)))).toArray X₁ rfl (h6.1.trans hml.symm) (by rw [hb]; exact d) (lv_room (zcat hst)) (X₁.named hnamed)
      ⟨hk.1, hk.2, rfl, ⟨rfl, hPc, va_K.moved X₁.warmed.alike hK, nt_warm X₁.warmed hnt, hDc.weaken (fun _ _ _ _ => trivial)⟩, hXT⟩
    dsimp only [Pt.U, Pt.locs, Pt.cells, Pt.slots] at X' e1 e2 b1 b2 b3 hst' hq
    subst b1; subst b2; subst b3
    exact ⟨v, _, t, U', L, rfl, X', hL, e1, e2, hq, fun target hh => st₁ _ fun acts => by rw [doInvoke_state]; exact hst'.trans hh⟩
  exact zcore (f := zfn is) hrun (fun _ q => q) (zfn_at (is := is)) hnd hw hlen hA h1 h2 h3 h4 h5 h6 kk
end ZT4
