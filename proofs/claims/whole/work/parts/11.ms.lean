/-! CONTRACTS over the Z layer -/
def zQ (D : va_G) (dA : Nat → Nat) (A : Nat → Prop) (ad0 : Nat → Nat) (n0 : Nat) (Post : Option Value → List va_E → Prop) : Array Value → State → Outcome → State → Prop := fun _ st oc t =>
  (∃ (r : Option Value) (w : List va_E) (ad : Nat → Nat), oc = .returned (r.map (zV ad)) ∧ (∀ i, (i < n0 ∨ w.length ≤ i) → ad i = ad0 i) ∧ n0 ≤ w.length ∧ va_P D clz (zW dA ad w) t.heap ∧ va_D A (zW dA ad w) ∧ Post r w) ∧ va_F A st t
def zPre (D : va_G) (dA ad : Nat → Nat) (sz : Nat) (w : List va_E) (U : State) : Prop :=
  U.heap.size = sz ∧ va_P D clz (zW dA ad w) U.heap ∧ va_K D clz (ztys dA) U ∧ (∀ w ∈ NT, va_Nw w U) ∧ va_D (fun _ => True) (zW dA ad w)
/-- method y, from the world w at the arguments As, returns, and Post holds of its answer and its world -/
def MS (y : MethodName) (cc : ByteArray) (nL : Nat) (ret : Option FieldType) (R : Room) (As : List Value) (w : List va_E) (Post : Option Value → List va_E → Prop) : Prop :=
  ∀ (l : Launch) (D : va_G) (dA ad : Nat → Nat) (sz : Nat), Met l y (.code y cc nL ret :: TT) R (va_Pc (As.map (zV ad)) (zPre D dA ad sz w)) (zQ D dA (va_A (zW dA ad w) sz) ad w.length Post) R.cells R.slots (va_A (zW dA ad w) sz)
def Cr (Z : ZP) (cc : ByteArray) (ret : Option FieldType) (R : Room) (Post : Option Value → List va_E → Prop) : Prop :=
  (∀ k n w lv pc v, k ≤ R.cells → n ≤ R.slots → ret = some .int → decode cc pc = .ok (.ireturn, 1) → Post (some (.int v)) w → Z k n w lv pc [.int v]) ∧
  (∀ k n w lv pc v, k ≤ R.cells → n ≤ R.slots → ret = some .boolean → narrow .boolean (.int v) = .int v → decode cc pc = .ok (.ireturn, 1) → Post (some (.int v)) w → Z k n w lv pc [.int v]) ∧
  (∀ k n w lv pc v, k ≤ R.cells → n ≤ R.slots → ret = some .long → decode cc pc = .ok (.lreturn, 1) → Post (some (.long v)) w → Z k n w lv pc [.long v]) ∧
  (∀ k n w lv pc, k ≤ R.cells → n ≤ R.slots → ret = none → decode cc pc = .ok (.return_, 1) → Post none w → Z k n w lv pc []) ∧
  (∀ k n w lv pc v t, k ≤ R.cells → n ≤ R.slots → ret = some (.array t) → decode cc pc = .ok (.areturn, 1) → Post (some (.ref v)) w → Z k n w lv pc [.ref v])
theorem zl_args (ad : Nat → Nat) : ∀ (As : List Value) (i : Nat), lv_args i (As.map (zV ad)) = zL ad (lv_args i As)
  | [], i => rfl
  | v :: l, i => by
    show (i, zV ad v) :: lv_args (if (zV ad v).category = 2 then i + 2 else i + 1) (l.map (zV ad)) = (i, zV ad v) :: zL ad (lv_args (if v.category = 2 then i + 2 else i + 1) l)
    rw [zV_cat, zl_args ad l]
theorem nt_kind {w : Cond} (h : w ∈ NT) : (∃ a i b n d q, w = .fieldLinkNest a i b n d q) ∨ (∃ a i x q, w = .methodLinkNest a i x q) := by
  have h2 := (List.mem_filter.mp h).2
  cases w <;> first | (exact Or.inl ⟨_, _, _, _, _, _, rfl⟩) | (exact Or.inr ⟨_, _, _, _, rfl⟩) | (simp [zNest] at h2)
theorem nt_warm {s U : State} (hW : s.WarmedH U.vm) (h : ∀ w ∈ NT, va_Nw w s) : ∀ w ∈ NT, va_Nw w U := fun w hw => by
  rcases nt_kind hw with ⟨a, i, b, n, d, q, rfl⟩ | ⟨a, i, x, q, rfl⟩
  · exact va_Nw.warmF hW (h _ hw)
  · exact va_Nw.warmM hW (h _ hw)
theorem nt_same {s U : State} (hv : s.vm = U.vm) (h : ∀ w ∈ NT, va_Nw w s) : ∀ w ∈ NT, va_Nw w U := fun w hw => by
  rcases nt_kind hw with ⟨a, i, b, n, d, q, rfl⟩ | ⟨a, i, x, q, rfl⟩
  · exact va_Nw.same rfl hv (h _ hw)
  · exact va_Nw.same rfl hv (h _ hw)
theorem zgood {y : MethodName} {cc : ByteArray} {nL : Nat} {ret : Option FieldType} (h : Cond.code y cc nL ret ∈ TT) : GoodIn TT (.code y cc nL ret :: TT) := fun w hw => by
  rcases List.mem_cons.mp hw with rfl | hw
  · exact ⟨h, good_of_word (List.mem_filter.mp h).2⟩
  · exact ⟨hw, good_of_word (List.mem_filter.mp hw).2⟩
theorem zblind {av : List Value} {D : va_G} {dA ad : Nat → Nat} {sz : Nat} {w : List va_E} : FrameBlind (va_Pc av (zPre D dA ad sz w)) := fun a U g mk q => by
  obtain ⟨q0, q1, qP, qK, qN, qD⟩ := q
  exact ⟨q0, q1, qP, va_K.moved (u := U) (U := U.calling g mk a) (Vm.Alike.refl U.vm) qK, nt_same (s := U) (U := U.calling g mk a) rfl qN, qD⟩
set_option maxHeartbeats 1000000 in
theorem MS_of {y : MethodName} {cc : ByteArray} {nL : Nat} {ret : Option FieldType} {R : Room} {As : List Value} {w : List va_E} {Post : Option Value → List va_E → Prop} {own : String} (hy : plainName y.cls = true) (ho : y.cls = own) (hsl : ∀ ad : Nat → Nat, (lg_sl (As.map (zV ad))).length ≤ nL)
    (body : ∀ Z : ZP, Cb Z own cc nL R → Cr Z cc ret R Post → Z 0 0 w (lv_args 0 As) 0 []) : MS y cc nL ret R As w Post := by
  intro l D dA ad sz
  refine Met.ofW (cc := cc) (maxL := nL) (ret := ret) hy rfl ?_
  intro p e s m args below meth c s₁ B hml hv
  obtain ⟨rfl, hsz, hP, hK, hN, hD0⟩ := hv
  have hts := atoms_spec (ws := .code y cc nL ret :: TT) B.pre
  have hown : s.vm.findClass own = some m.cls := by rw [← ho]; exact findClass_of_methodNamed B.named
  have hlocks := B.notSynchronized
  subst hsz
  have hD := hD0.self (sz := s.heap.size)
  generalize hAe : va_A (zW dA ad w) s.heap.size = A at hD ⊢
  have hA : ∀ q : Nat, s.heap.size ≤ q → A q := fun q h => by rw [← hAe]; exact Or.inr h
  have hl := lv_entry (As.map (zV ad)) (n := nL) (hsl ad)
  rw [zl_args] at hl
  have key := body (Zof p l e R s m (As.map (zV ad)).toArray below meth c nL D dA A ad w.length (MQ below (zQ D dA A ad w.length Post) (As.map (zV ad)).toArray s R.cells R.slots A))
    ⟨p, l, e, s, m, (As.map (zV ad)).toArray, below, meth, c, D, dA, A, ad, w.length, _, ⟨B.exec, B.bytes, hml, hown, fun q hq => hts q (List.mem_cons_of_mem _ hq), hN, hK, hA⟩, rfl⟩
    ⟨fun k n w' lv pc v hk hn hr hd hp ad' H locs ls h1 h2 h3 h4 h5 h6 => W.widen hk hn (W.iret (v := v) B.exec B.bytes (B.returns.trans hr) (fun t ht hW => ⟨⟨some (.int v), w', ad', rfl, h1, h2, by rw [ht]; exact h3, h4, hp⟩, h5.F ht⟩) h5.2.2 hd),
     fun k n w' lv pc v hk hn hr hnr hd hp ad' H locs ls h1 h2 h3 h4 h5 h6 => W.widen hk hn (W.zret (v := v) (ty := .boolean) B.exec B.bytes (B.returns.trans hr) hnr (fun t ht hW => ⟨⟨some (.int v), w', ad', rfl, h1, h2, by rw [ht]; exact h3, h4, hp⟩, h5.F ht⟩) h5.2.2 hd),
     fun k n w' lv pc v hk hn hr hd hp ad' H locs ls h1 h2 h3 h4 h5 h6 => W.widen hk hn (W.lret (v := v) B.exec B.bytes (B.returns.trans hr) (fun t ht hW => ⟨⟨some (.long v), w', ad', rfl, h1, h2, by rw [ht]; exact h3, h4, hp⟩, h5.F ht⟩) h5.2.2 hd),
     fun k n w' lv pc hk hn hr hd hp ad' H locs ls h1 h2 h3 h4 h5 h6 => W.widen hk hn (W.vret B.exec B.bytes (B.returns.trans hr) (fun t ht hW => ⟨⟨none, w', ad', rfl, h1, h2, by rw [ht]; exact h3, h4, hp⟩, h5.F ht⟩) h5.2.2 hd),
     fun k n w' lv pc v ty hk hn hr hd hp ad' H locs ls h1 h2 h3 h4 h5 h6 => W.widen hk hn (W.aret (v := .ref (ad' v)) B.exec B.bytes (B.returns.trans hr) (Or.inr ⟨ty, rfl⟩) (Or.inr ⟨_, rfl⟩) (fun t ht hW => ⟨⟨some (.ref v), w', ad', rfl, h1, h2, by rw [ht]; exact h3, h4, hp⟩, h5.F ht⟩) h5.2.2 hd)⟩
  rw [lg_entry_eq]
  exact key ad s.heap [] _ (fun _ _ => rfl) (Nat.le_refl _) hP hD va_S.rf hl
/-- a contract's end may be weakened -/
theorem MS.mono {y : MethodName} {cc : ByteArray} {nL : Nat} {ret : Option FieldType} {R : Room} {As : List Value} {w : List va_E} {Post Post' : Option Value → List va_E → Prop} (h : MS y cc nL ret R As w Post) (hp : ∀ r w', Post r w' → Post' r w') : MS y cc nL ret R As w Post' := by
  intro l D dA ad sz p e ha hc hk s m args below hf happ hP hK
  obtain ⟨n, o, h1, h2, h3, ⟨⟨⟨r, w', ad', q1, q2, q3, q4, q5, q6⟩, hF⟩, hL⟩⟩ := h l D dA ad sz p e ha hc hk s m args below hf happ hP hK
  exact ⟨n, o, h1, h2, h3, ⟨⟨⟨r, w', ad', q1, q2, q3, q4, q5, hp _ _ q6⟩, hF⟩, hL⟩⟩
/-! cells of the callee laid back into the caller's world -/
def zput : List va_E → List Nat → List va_E → List va_E
  | w, i :: is, e :: es => zput (w.set i e) is es
  | w, _, _ => w
theorem zput_len : ∀ (is : List Nat) (w es : List va_E), (zput w is es).length = w.length
  | [], _, es => by cases es <;> rfl
  | _ :: _, _, [] => rfl
  | i :: is, w, e :: es => by
    show (zput (w.set i e) is es).length = w.length
    rw [zput_len is, List.length_set]
theorem zput_ne : ∀ (is : List Nat) (w es : List va_E) (k : Nat), k ∉ is → (zput w is es)[k]? = w[k]?
  | [], _, es, _, _ => by cases es <;> rfl
  | _ :: _, _, [], _, _ => rfl
  | i :: is, w, e :: es, k, h => by
    show (zput (w.set i e) is es)[k]? = w[k]?
    rw [zput_ne is _ _ k (fun q => h (List.mem_cons_of_mem _ q)), List.getElem?_set_ne (fun q => h (by rw [q]; exact List.mem_cons_self))]
theorem zput_at : ∀ (is : List Nat) (w es : List va_E) (j k : Nat) (e : va_E), (∀ i j a : Nat, is[i]? = some a → is[j]? = some a → i = j) → is[j]? = some k → es[j]? = some e → k < w.length → (zput w is es)[k]? = some e
  | [], _, _, j, k, e, _, h, _, _ => by simp at h
  | _ :: _, _, [], j, k, e, _, _, h, _ => by simp at h
  | i :: is, w, e0 :: es, 0, k, e, hn, h1, h2, h3 => by
    simp only [List.getElem?_cons_zero, Option.some.injEq] at h1 h2
    subst h1; subst h2
    show (zput (w.set i e0) is es)[i]? = some e0
    rw [zput_ne is _ _ i (fun q => by
      obtain ⟨j, hj⟩ := List.getElem?_of_mem q
      have := hn 0 (j + 1) i (by simp) (by simpa using hj)
      omega), List.getElem?_set_self h3]
  | i :: is, w, e0 :: es, j + 1, k, e, hn, h1, h2, h3 => by
    simp only [List.getElem?_cons_succ] at h1 h2
    show (zput (w.set i e0) is es)[k]? = some e
    exact zput_at is _ es j k e (fun a b c ha hb => by
      have := hn (a + 1) (b + 1) c (by simpa using ha) (by simpa using hb)
      omega) h1 h2 (by rw [List.length_set]; exact h3)
theorem zV_comp {ad f : Nat → Nat} (v : Value) : zV ad (zV f v) = zV (fun j => ad (f j)) v := by cases v <;> rfl
theorem zA_comp {ad f : Nat → Nat} (a : vp_A) : zA ad (zA f a) = zA (fun j => ad (f j)) a := by
  obtain ⟨n, g | g | g | g | g⟩ := a
  · rfl
  · rfl
  · rfl
  · rfl
  · simp only [zA, Option.map_map, Function.comp_def]
theorem zE_comp {dA ad f : Nat → Nat} (e : va_E) : zE dA ad (zE (fun i => i) f e) = zE dA (fun j => ad (f j)) e := by
  rcases e with q | q
  · show (.inl (dA q.1, zA ad (zA f q.2)) : va_E) = .inl (dA q.1, _)
    rw [zA_comp]
  · show (.inr (q.1, (q.2.map (zV f)).map (zV ad)) : va_E) = .inr (q.1, q.2.map _)
    rw [List.map_map]
    congr 2
    apply List.map_congr_left
    intro v _
    exact zV_comp v
theorem zmap_filter {α β : Type} {g : α → Option β} : ∀ {is : List α} {l : List β}, is.map g = l.map some → is.filterMap g = l
  | [], [], _ => rfl
  | [], _ :: _, h => by simp at h
  | _ :: _, [], h => by simp at h
  | i :: is, x :: l, h => by
    simp only [List.map_cons, List.cons.injEq] at h
    rw [List.filterMap_cons, h.1]
    show x :: List.filterMap g is = x :: l
    rw [zmap_filter h.2]
/-- the callee's world, among the caller's cells -/
theorem zpick {dA ad f : Nat → Nat} {w wc : List va_E} {is : List Nat} (hf : ∀ j a, is[j]? = some a → f j = a) (hw : is.map (fun i => w[i]?) = wc.map (fun e => some (zE (fun i => i) f e))) : is.map (fun i => (zW dA ad w)[i]?) = (zW dA (fun j => ad (f j)) wc).map some := by
  apply List.ext_getElem?
  intro j
  have h := congrArg (fun x : List (Option va_E) => x[j]?) hw
  simp only [List.getElem?_map] at h
  simp only [List.getElem?_map, zW, List.getElem?_mapIdx]
  cases hi : is[j]? with
  | none =>
    rw [hi] at h
    cases hc : wc[j]? with
    | none => rfl
    | some e => rw [hc] at h; cases h
  | some i =>
    rw [hi] at h
    cases hc : wc[j]? with
    | none => rw [hc] at h; cases h
    | some e =>
      rw [hc] at h
      have h2 : w[i]? = some (zE (fun i => i) f e) := Option.some.inj h
      simp only [Option.map_some, h2]
      rw [zE_comp, hf j i hi]
/-! CALLS -/
section ZCore
variable {p : Program} {l : Launch} {e : Env} {R : Room} {s : State} {m : MethodId} {args : Array Value} {below : List Frame} {meth : Method} {c : Code} {H : Heap} {locs : List Loc} {cells slots : Nat} {Q : State → Prop}
theorem zcore {D : va_G} {dA ad ad0 f : Nat → Nat} {A free : Nat → Prop} {w wc : List va_E} {is : List Nat} {pc mc ms n0 nL : Nat} {ls : Array Slot} {st st0 : List Value} {a : Array Value} {lv : List (Nat × Value)} {Post : Option Value → List va_E → Prop}
    (hr : va_Run p l e R s m args below meth c H locs cells slots mc ms (F0 m pc ls st0) (st.map (zV ad)) (zQ D dA (va_A (zW dA (fun j => ad (f j)) wc) H.size) (fun j => ad (f j)) wc.length Post a) free)
    (hfree : ∀ q, free q → va_A (zW dA (fun j => ad (f j)) wc) H.size q) (hf : ∀ j a, is[j]? = some a → f j = a) (hnd : va_nd is = true) (hw : is.map (fun i => w[i]?) = wc.map (fun e => some (zE (fun i => i) f e))) (hlen : ∀ r w', Post r w' → w'.length = wc.length)
    (hA : ∀ q, s.heap.size ≤ q → A q) (h1 : ∀ i, (i < n0 ∨ w.length ≤ i) → ad i = ad0 i) (h2 : n0 ≤ w.length) (h3 : va_P D clz (zW dA ad w) H) (h4 : va_D A (zW dA ad w)) (h5 : va_S A s.heap H locs) (h6 : lv_has ls nL (zL ad lv))
    (kk : ∀ r w', Post r w' → Zof p l e R s m args below meth c nL D dA A ad0 n0 Q (cells + mc) (slots + ms) (zput w is (w'.map (zE (fun i => i) f))) lv (pc + 3) ((r.map (zV f)).toList ++ st)) : W p l e R s m args below meth c H locs cells slots Q (F0 m pc ls st0) := by
  have hpick := zpick (dA := dA) (ad := ad) hf hw
  have hFc := va_free (wc := zW dA (fun j => ad (f j)) wc) h4 h5 hA is hpick
  have hinj := va_nd_inj is hnd
  have hislen : is.length = wc.length := by have := congrArg List.length hw; simpa using this
  intro T hT X
  obtain ⟨v, st₀, t, T', L, h0, X', hL, e1, e2, ⟨⟨r, w', ad', hv, hag, hn0, hP1, hD1, hp⟩, hz, hk⟩, go⟩ := hr T hT X
  have hl' := hlen r w' hp
  have had : ad' = fun j => ad (f j) := funext fun i => hag i (by rw [hl']; exact Nat.lt_or_ge i wc.length)
  subst had
  cases hv
  rw [h0] at hz hk
  have hsz : ∀ (k : Nat) (x : Nat × va_E), (zW dA ad w)[k]? = some x → x.1 < H.size := fun k x hx => (h3 k x hx).lt
  have hP' : va_P D clz (zW dA ad (zput w is (w'.map (zE (fun i => i) f)))) T'.heap := by
    intro k x hx
    have hkl : k < w.length := by
      have := (List.getElem?_eq_some_iff.mp hx).1
      rw [zW_len, zput_len] at this
      exact this
    by_cases hm : k ∈ is
    · obtain ⟨j, hj⟩ := List.getElem?_of_mem hm
      have hjl : j < w'.length := by rw [hl', ← hislen]; exact (List.getElem?_eq_some_iff.mp hj).1
      obtain ⟨e9, he9⟩ : ∃ e9, w'[j]? = some e9 := ⟨_, List.getElem?_eq_getElem hjl⟩
      have h9 : (zput w is (w'.map (zE (fun i => i) f)))[k]? = some (zE (fun i => i) f e9) := zput_at is w _ j k _ hinj hj (by rw [List.getElem?_map, he9]; rfl) hkl
      rw [zW_at h9] at hx
      cases hx
      have h10 := hP1 j _ (zW_at he9)
      rw [zE_comp, e1]
      rw [hf j k hj] at h10
      exact h10
    · obtain ⟨e9, he9⟩ : ∃ e9, w[k]? = some e9 := ⟨_, List.getElem?_eq_getElem hkl⟩
      have h9 : (zput w is (w'.map (zE (fun i => i) f)))[k]? = some e9 := by rw [zput_ne is w _ k hm]; exact he9
      rw [zW_at h9] at hx
      cases hx
      refine (h3 k _ (zW_at he9)).kept ?_
      show T'.heap[ad k]? = H[ad k]?
      rw [e1]
      refine hk (ad k) (hsz k _ (zW_at he9)) (fun q => ?_)
      rcases q with ⟨j, e8, h8⟩ | q
      · have h7 : (is.map (fun i => (zW dA ad w)[i]?))[j]? = some (some (ad k, e8)) := by rw [hpick, List.getElem?_map, h8]; rfl
        rw [List.getElem?_map] at h7
        cases hi : is[j]? with
        | none => rw [hi] at h7; cases h7
        | some i =>
          rw [hi] at h7
          have h6' : (zW dA ad w)[i]? = some (ad k, e8) := Option.some.inj h7
          have := h4.1 k i _ _ (zW_at he9) h6' rfl
          subst this
          exact hm (List.mem_of_getElem? hi)
      · have := hsz k _ (zW_at he9)
        exact absurd q (Nat.not_le.mpr this)
  have hD' : va_D A (zW dA ad (zput w is (w'.map (zE (fun i => i) f)))) := by
    have hz9 : ∀ (k : Nat) (x : Nat × va_E), (zW dA ad (zput w is (w'.map (zE (fun i => i) f))))[k]? = some x → ∃ e9 : va_E, (zW dA ad w)[k]? = some (x.1, e9) := by
      intro k x hx
      have hkl : k < w.length := by
        have := (List.getElem?_eq_some_iff.mp hx).1
        rw [zW_len, zput_len] at this
        exact this
      obtain ⟨e9, he9⟩ : ∃ e9, w[k]? = some e9 := ⟨_, List.getElem?_eq_getElem hkl⟩
      have hx2 : x.1 = ad k := by
        simp only [zW, List.getElem?_mapIdx] at hx
        cases hq : (zput w is (w'.map (zE (fun i => i) f)))[k]? with
        | none => rw [hq] at hx; cases hx
        | some e7 => rw [hq] at hx; cases hx; rfl
      exact ⟨_, by rw [hx2]; exact zW_at he9⟩
    refine ⟨fun i j x y hx hy hxy => ?_, fun k x hx => ?_⟩
    · obtain ⟨e8, h8⟩ := hz9 i x hx
      obtain ⟨e9, h9⟩ := hz9 j y hy
      exact h4.1 i j _ _ h8 h9 hxy
    · obtain ⟨e8, h8⟩ := hz9 k x hx
      exact h4.2 k (x.1, e8) h8
  have hS' : va_S A s.heap T'.heap (locs ++ L) := ⟨Nat.le_trans h5.1 (by rw [e1]; exact hz), fun q g1 g2 => by
      rw [e1, hk q (Nat.lt_of_lt_of_le g1 h5.1) (fun z => g2 (hFc q z))]
      exact h5.2.1 q g1 g2, fun q hq => by
      rcases List.mem_append.mp hq with h | h
      · exact h5.2.2 q h
      · exact hFc _ (hfree _ (hL q h))⟩
  obtain ⟨t2, a1, b1⟩ := kk r w' hp ad T'.heap (locs ++ L) ls (by rw [zput_len]; exact h1) (by rw [zput_len]; exact h2) hP' hD' hS' h6 T' rfl X'
  refine ⟨t2, go t2 ?_, b1⟩
  have e7 : (((r.map (zV f)).toList ++ st).map (zV ad)) = (r.map (zV (fun j => ad (f j)))).toList ++ st.map (zV ad) := by
    rw [List.map_append]
    congr 1
    cases r with
    | none => rfl
    | some x => show [zV ad (zV f x)] = [_]; rw [zV_comp]
  rw [← e7]
  exact a1
end ZCore
def zfn (is : List Nat) : Nat → Nat := fun j => is.getD j 0
theorem zfn_at {is : List Nat} : ∀ j a, is[j]? = some a → zfn is j = a := fun j a h => by simp [zfn, List.getD, h]
theorem zcat {ad : Nat → Nat} {st : List Value} (h : (st.map fun v => v.category).sum ≤ 8) : ((st.map (zV ad)).map fun v => v.category).sum ≤ 8 := by
  rw [List.map_map]
  have : ((fun v : Value => v.category) ∘ zV ad) = fun v : Value => v.category := funext fun v => zV_cat ad v
  rw [this]
  exact h
theorem zcat_eq {ad : Nat → Nat} {st : List Value} : ((st.map (zV ad)).map fun v => v.category).sum = (st.map fun v => v.category).sum := by
  rw [List.map_map]
  have : ((fun v : Value => v.category) ∘ zV ad) = fun v : Value => v.category := funext fun v => zV_cat ad v
  rw [this]
section ZCalls
variable {Z : ZP} {own : String} {cc : ByteArray} {nL : Nat} {R : Room} {k n pc : Nat} {w : List va_E} {lv : List (Nat × Value)} {st : List Value}
variable {y : MethodName} {cy : ByteArray} {ny : Nat} {ry : Option FieldType} {Ry : Room} {As : List Value} {wc : List va_E} {Post : Option Value → List va_E → Prop}
/-- what a call's site must say of the callee y (its code; its room within the caller's) -/
def zFit (y : MethodName) (cy : ByteArray) (ny : Nat) (ry : Option FieldType) (Ry R : Room) (np : Nat) : Prop :=
  Cond.code y cy ny ry ∈ TT ∧ Cond.initialized y.cls ∈ TT ∧ (y.cls ≠ "java/lang/invoke/MethodHandle" ∧ y.cls ≠ "java/lang/invoke/VarHandle") ∧ (parseMethodDescriptor y.desc).map (fun d => d.parameters.length) = some np ∧ Ry.frames + 1 ≤ R.frames ∧ 8 + (ny + 11) + Ry.locals ≤ R.locals
theorem z_callV (h : Cb Z own cc nL R) {stk : List Value} {b0 : Nat} {ix : Nat} (hM : MS y cy ny ry Ry (.ref b0 :: As) wc Post) (hF : zFit y cy ny ry Ry R As.length) (hl : Cond.methodLink own ix y ∈ TT) {C : String} {ci : Nat} {q9 : u_T × Nat} (hi : Cond.instanceMethod y ∈ TT) (hs : Cond.selects C y y ∈ TT) (hci : clz[ci]? = some (C, q9)) (hrc : ∃ fs : List Value, wc[b0]? = some (.inr (ci, fs))) (d : decode cc pc = .ok (.invokevirtual ix, 3)) (hk : k + Ry.cells ≤ R.cells ∧ n + Ry.slots ≤ R.slots) (is : List Nat) (hnd : va_nd is = true) (hw : is.map (fun i => w[i]?) = wc.map (fun e => some (zE (fun i => i) (zfn is) e))) (hst : (st.map fun v => v.category).sum ≤ 8) (hstk : ((As.map (zV (zfn is))).reverse ++ .ref (zfn is b0) :: st) = stk) (hlen : ∀ r w', Post r w' → w'.length = wc.length)
    (kk : ∀ r w', Post r w' → Z (k + Ry.cells) (n + Ry.slots) (zput w is (w'.map (zE (fun i => i) (zfn is)))) lv (pc + 3) ((r.map (zV (zfn is))).toList ++ st)) : Z k n w lv pc stk := by
  subst hstk
  obtain ⟨p, l, e, s, m, args, below, meth, c, D, dA, A, ad0, n0, Q, ⟨hx, hb, hml, ho, hts, hnt, hK, hA⟩, rfl⟩ := h
  intro ad H locs ls h1 h2 h3 h4 h5 h6
  obtain ⟨f1, f2, f3, f4, f5, f6⟩ := hF
  have hpick := zpick (dA := dA) (ad := ad) (zfn_at (is := is)) hw
  have hPc : va_P D clz (zW dA (fun j => ad (zfn is j)) wc) H := h3.sub is (zmap_filter hpick)
  have hDc : va_D A (zW dA (fun j => ad (zfn is j)) wc) := h4.sub is hnd hpick
  have hpay := pay_in (args := args) (s := s) hts (zgood f1)
  have hlenY : ∀ sig, parseMethodDescriptor y.desc = some sig → As.length = sig.parameters.length := fun sig hs => by
    rw [hs] at f4
    exact (Option.some.inj f4).symm
  have hc1 : (Cond.code y cy ny ry).before args s = true := hts _ f1
  have hmem : Cond.code y cy ny ry ∈ (Cond.code y cy ny ry :: TT) := List.mem_cons_self
  have hrecv : ∃ cellB : Cell, H[ad (zfn is b0)]? = some cellB ∧ cellB.vm.isStatics = false ∧ s.vm.findClass C = some cellB.cls := by
    obtain ⟨fs, hq⟩ := hrc
    exact va_recv (q := (C, q9)) hK hPc hci (zW_at hq)
  have e0 : ((As.map (zV (zfn is))).reverse ++ .ref (zfn is b0) :: st).map (zV ad) = (As.map (zV (fun j => ad (zfn is j)))).reverse ++ .ref (ad (zfn is b0)) :: st.map (zV ad) := by
    simp only [List.map_append, List.map_reverse, List.map_map, List.map_cons]
    congr 2
    apply List.map_congr_left
    intro v _
    exact zV_comp v
  rw [e0]
  refine zcore (f := zfn is) (va_runV (As := As.map (zV (fun j => ad (zfn is j)))) (rest := st.map (zV ad)) (n := As.length) ⟨hx, hb, hml, ho, hts⟩ (hM l D dA (fun j => ad (zfn is j)) H.size) ⟨⟨rfl, rfl, f5, f6, hpay, hmem, hc1, hts _ f2, f3, hlenY, hts _ hl⟩, hts _ hi, hts _ hs⟩ ⟨zblind, hrecv, fun U hU hW => ⟨rfl, by rw [hU], by rw [hU]; exact hPc, va_K.moved hW.alike hK, nt_warm hW hnt, hDc.weaken (fun _ _ _ _ => trivial)⟩⟩ rfl (by rw [List.length_map]) h6.1 rfl (lv_room (zcat hst)) d hk) (fun _ q => q) (zfn_at (is := is)) hnd hw hlen hA h1 h2 h3 h4 h5 h6 kk
theorem z_callVN (h : Cb Z own cc nL R) {stk : List Value} {b0 : Nat} {ix : Nat} (hM : MS y cy ny ry Ry (.ref b0 :: As) wc Post) (hF : zFit y cy ny ry Ry R As.length) {host : String} (hl : Cond.methodLinkNest own ix y host ∈ NT) {C : String} {ci : Nat} {q9 : u_T × Nat} (hi : Cond.instanceMethod y ∈ TT) (hs : Cond.selects C y y ∈ TT) (hci : clz[ci]? = some (C, q9)) (hrc : ∃ fs : List Value, wc[b0]? = some (.inr (ci, fs))) (d : decode cc pc = .ok (.invokevirtual ix, 3)) (hk : k + Ry.cells ≤ R.cells ∧ n + Ry.slots ≤ R.slots) (is : List Nat) (hnd : va_nd is = true) (hw : is.map (fun i => w[i]?) = wc.map (fun e => some (zE (fun i => i) (zfn is) e))) (hst : (st.map fun v => v.category).sum ≤ 8) (hstk : ((As.map (zV (zfn is))).reverse ++ .ref (zfn is b0) :: st) = stk) (hlen : ∀ r w', Post r w' → w'.length = wc.length)
    (kk : ∀ r w', Post r w' → Z (k + Ry.cells) (n + Ry.slots) (zput w is (w'.map (zE (fun i => i) (zfn is)))) lv (pc + 3) ((r.map (zV (zfn is))).toList ++ st)) : Z k n w lv pc stk := by
  subst hstk
  obtain ⟨p, l, e, s, m, args, below, meth, c, D, dA, A, ad0, n0, Q, ⟨hx, hb, hml, ho, hts, hnt, hK, hA⟩, rfl⟩ := h
  intro ad H locs ls h1 h2 h3 h4 h5 h6
  obtain ⟨f1, f2, f3, f4, f5, f6⟩ := hF
  have hpick := zpick (dA := dA) (ad := ad) (zfn_at (is := is)) hw
  have hPc : va_P D clz (zW dA (fun j => ad (zfn is j)) wc) H := h3.sub is (zmap_filter hpick)
  have hDc : va_D A (zW dA (fun j => ad (zfn is j)) wc) := h4.sub is hnd hpick
  have hpay := pay_in (args := args) (s := s) hts (zgood f1)
  have hlenY : ∀ sig, parseMethodDescriptor y.desc = some sig → As.length = sig.parameters.length := fun sig hs => by
    rw [hs] at f4
    exact (Option.some.inj f4).symm
  have hc1 : (Cond.code y cy ny ry).before args s = true := hts _ f1
  have hmem : Cond.code y cy ny ry ∈ (Cond.code y cy ny ry :: TT) := List.mem_cons_self
  have hrecv : ∃ cellB : Cell, H[ad (zfn is b0)]? = some cellB ∧ cellB.vm.isStatics = false ∧ s.vm.findClass C = some cellB.cls := by
    obtain ⟨fs, hq⟩ := hrc
    exact va_recv (q := (C, q9)) hK hPc hci (zW_at hq)
  have e0 : ((As.map (zV (zfn is))).reverse ++ .ref (zfn is b0) :: st).map (zV ad) = (As.map (zV (fun j => ad (zfn is j)))).reverse ++ .ref (ad (zfn is b0)) :: st.map (zV ad) := by
    simp only [List.map_append, List.map_reverse, List.map_map, List.map_cons]
    congr 2
    apply List.map_congr_left
    intro v _
    exact zV_comp v
  rw [e0]
  refine zcore (f := zfn is) (va_runVN (As := As.map (zV (fun j => ad (zfn is j)))) (rest := st.map (zV ad)) (n := As.length) ⟨hx, hb, hml, ho, hts⟩ (hM l D dA (fun j => ad (zfn is j)) H.size) ⟨⟨⟨rfl, rfl, f5, f6, hpay, hmem⟩, hc1, hts _ f2, f3, hlenY, va_Nw.use rfl (hnt _ hl)⟩, hts _ hi, hts _ hs⟩ ⟨zblind, hrecv, fun U hU hW => ⟨rfl, by rw [hU], by rw [hU]; exact hPc, va_K.moved hW.alike hK, nt_warm hW hnt, hDc.weaken (fun _ _ _ _ => trivial)⟩⟩ rfl (by rw [List.length_map]) h6.1 rfl (lv_room (zcat hst)) d hk) (fun _ q => q) (zfn_at (is := is)) hnd hw hlen hA h1 h2 h3 h4 h5 h6 kk
theorem z_callS (h : Cb Z own cc nL R) {stk : List Value} {ix : Nat} (hM : MS y cy ny ry Ry As wc Post) (hF : zFit y cy ny ry Ry R As.length) (hl : Cond.methodLink own ix y ∈ TT) (hs : Cond.static y ∈ TT) (d : decode cc pc = .ok (.invokestatic ix, 3)) (hk : k + Ry.cells ≤ R.cells ∧ n + Ry.slots ≤ R.slots) (is : List Nat) (hnd : va_nd is = true) (hw : is.map (fun i => w[i]?) = wc.map (fun e => some (zE (fun i => i) (zfn is) e))) (hst : (st.map fun v => v.category).sum ≤ 8) (hstk : ((As.map (zV (zfn is))).reverse ++ st) = stk) (hlen : ∀ r w', Post r w' → w'.length = wc.length)
    (kk : ∀ r w', Post r w' → Z (k + Ry.cells) (n + Ry.slots) (zput w is (w'.map (zE (fun i => i) (zfn is)))) lv (pc + 3) ((r.map (zV (zfn is))).toList ++ st)) : Z k n w lv pc stk := by
  subst hstk
  obtain ⟨p, l, e, s, m, args, below, meth, c, D, dA, A, ad0, n0, Q, ⟨hx, hb, hml, ho, hts, hnt, hK, hA⟩, rfl⟩ := h
  intro ad H locs ls h1 h2 h3 h4 h5 h6
  obtain ⟨f1, f2, f3, f4, f5, f6⟩ := hF
  have hpick := zpick (dA := dA) (ad := ad) (zfn_at (is := is)) hw
  have hPc : va_P D clz (zW dA (fun j => ad (zfn is j)) wc) H := h3.sub is (zmap_filter hpick)
  have hDc : va_D A (zW dA (fun j => ad (zfn is j)) wc) := h4.sub is hnd hpick
  have hpay := pay_in (args := args) (s := s) hts (zgood f1)
  have hlenY : ∀ sig, parseMethodDescriptor y.desc = some sig → As.length = sig.parameters.length := fun sig hs => by
    rw [hs] at f4
    exact (Option.some.inj f4).symm
  have hc1 : (Cond.code y cy ny ry).before args s = true := hts _ f1
  have hmem : Cond.code y cy ny ry ∈ (Cond.code y cy ny ry :: TT) := List.mem_cons_self
  have e0 : ((As.map (zV (zfn is))).reverse ++ st).map (zV ad) = (As.map (zV (fun j => ad (zfn is j)))).reverse ++ st.map (zV ad) := by
    simp only [List.map_append, List.map_reverse, List.map_map]
    congr 2
    apply List.map_congr_left
    intro v _
    exact zV_comp v
  rw [e0]
  refine zcore (f := zfn is) (va_runS (As := As.map (zV (fun j => ad (zfn is j)))) (rest := st.map (zV ad)) (n := As.length) ⟨hx, hb, hml, ho, hts⟩ (hM l D dA (fun j => ad (zfn is j)) H.size) ⟨⟨rfl, rfl, f5, f6, hpay, hmem, hc1, hts _ f2, f3, hlenY, hts _ hl⟩, hts _ hs⟩ ⟨zblind, fun U hU hW => ⟨rfl, by rw [hU], by rw [hU]; exact hPc, va_K.moved hW.alike hK, nt_warm hW hnt, hDc.weaken (fun _ _ _ _ => trivial)⟩⟩ rfl (by rw [List.length_map]) h6.1 rfl (lv_room (zcat hst)) d hk) (fun _ q => q) (zfn_at (is := is)) hnd hw hlen hA h1 h2 h3 h4 h5 h6 kk
theorem z_callSN (h : Cb Z own cc nL R) {stk : List Value} {ix : Nat} (hM : MS y cy ny ry Ry As wc Post) (hF : zFit y cy ny ry Ry R As.length) {host : String} (hl : Cond.methodLinkNest own ix y host ∈ NT) (hs : Cond.static y ∈ TT) (d : decode cc pc = .ok (.invokestatic ix, 3)) (hk : k + Ry.cells ≤ R.cells ∧ n + Ry.slots ≤ R.slots) (is : List Nat) (hnd : va_nd is = true) (hw : is.map (fun i => w[i]?) = wc.map (fun e => some (zE (fun i => i) (zfn is) e))) (hst : (st.map fun v => v.category).sum ≤ 8) (hstk : ((As.map (zV (zfn is))).reverse ++ st) = stk) (hlen : ∀ r w', Post r w' → w'.length = wc.length)
    (kk : ∀ r w', Post r w' → Z (k + Ry.cells) (n + Ry.slots) (zput w is (w'.map (zE (fun i => i) (zfn is)))) lv (pc + 3) ((r.map (zV (zfn is))).toList ++ st)) : Z k n w lv pc stk := by
  subst hstk
  obtain ⟨p, l, e, s, m, args, below, meth, c, D, dA, A, ad0, n0, Q, ⟨hx, hb, hml, ho, hts, hnt, hK, hA⟩, rfl⟩ := h
  intro ad H locs ls h1 h2 h3 h4 h5 h6
  obtain ⟨f1, f2, f3, f4, f5, f6⟩ := hF
  have hpick := zpick (dA := dA) (ad := ad) (zfn_at (is := is)) hw
  have hPc : va_P D clz (zW dA (fun j => ad (zfn is j)) wc) H := h3.sub is (zmap_filter hpick)
  have hDc : va_D A (zW dA (fun j => ad (zfn is j)) wc) := h4.sub is hnd hpick
  have hpay := pay_in (args := args) (s := s) hts (zgood f1)
  have hlenY : ∀ sig, parseMethodDescriptor y.desc = some sig → As.length = sig.parameters.length := fun sig hs => by
    rw [hs] at f4
    exact (Option.some.inj f4).symm
  have hc1 : (Cond.code y cy ny ry).before args s = true := hts _ f1
  have hmem : Cond.code y cy ny ry ∈ (Cond.code y cy ny ry :: TT) := List.mem_cons_self
  have e0 : ((As.map (zV (zfn is))).reverse ++ st).map (zV ad) = (As.map (zV (fun j => ad (zfn is j)))).reverse ++ st.map (zV ad) := by
    simp only [List.map_append, List.map_reverse, List.map_map]
    congr 2
    apply List.map_congr_left
    intro v _
    exact zV_comp v
  rw [e0]
  refine zcore (f := zfn is) (va_runSN (As := As.map (zV (fun j => ad (zfn is j)))) (rest := st.map (zV ad)) (n := As.length) ⟨hx, hb, hml, ho, hts⟩ (hM l D dA (fun j => ad (zfn is j)) H.size) ⟨⟨⟨rfl, rfl, f5, f6, hpay, hmem⟩, hc1, hts _ f2, f3, hlenY, va_Nw.use rfl (hnt _ hl)⟩, hts _ hs, trivial⟩ ⟨zblind, fun U hU hW => ⟨rfl, by rw [hU], by rw [hU]; exact hPc, va_K.moved hW.alike hK, nt_warm hW hnt, hDc.weaken (fun _ _ _ _ => trivial)⟩⟩ rfl (by rw [List.length_map]) h6.1 rfl (lv_room (zcat hst)) d hk) (fun _ q => q) (zfn_at (is := is)) hnd hw hlen hA h1 h2 h3 h4 h5 h6 kk
theorem z_mmin (h : Cb Z own cc nL R) {ix : Nat} {x y : Int32} (d : decode cc pc = .ok (.invokestatic ix, 3)) (hl : Cond.methodLink own ix Lib.Math.min.name ∈ TT) (hf : 1 ≤ R.frames) (hlo : (st.map fun v => v.category).sum + 13 ≤ R.locals) (hc : k ≤ R.cells) (hs : n ≤ R.slots) (kk : Z k n w lv (pc + 3) (.int (if y < x then y else x) :: st)) : Z k n w lv pc (.int y :: .int x :: st) := by
  obtain ⟨p, l, e, s, m, args, below, meth, c, D, dA, A, ad0, n0, Q, ⟨hx, hb, hml, ho, hts, hnt, hK, hA⟩, rfl⟩ := h
  intro ad H locs ls h1 h2 h3 h4 h5 h6
  exact va_mmin hx hb (hml.trans h6.1.symm) ho (hts _ hl) (hts _ wt_Min) (hts _ wn_JM) (hts _ wc_Min) hf (by rw [zcat_eq]; exact hlo) hc hs d (kk ad H locs ls h1 h2 h3 h4 h5 h6)
theorem z_mmax (h : Cb Z own cc nL R) {ix : Nat} {x y : Int32} (d : decode cc pc = .ok (.invokestatic ix, 3)) (hl : Cond.methodLink own ix Lib.Math.max.name ∈ TT) (hf : 1 ≤ R.frames) (hlo : (st.map fun v => v.category).sum + 13 ≤ R.locals) (hc : k ≤ R.cells) (hs : n ≤ R.slots) (kk : Z k n w lv (pc + 3) (.int (if x < y then y else x) :: st)) : Z k n w lv pc (.int y :: .int x :: st) := by
  obtain ⟨p, l, e, s, m, args, below, meth, c, D, dA, A, ad0, n0, Q, ⟨hx, hb, hml, ho, hts, hnt, hK, hA⟩, rfl⟩ := h
  intro ad H locs ls h1 h2 h3 h4 h5 h6
  exact va_mmax hx hb (hml.trans h6.1.symm) ho (hts _ hl) (hts _ wt_Max) (hts _ wn_JM) (hts _ wc_Max) hf (by rw [zcat_eq]; exact hlo) hc hs d (kk ad H locs ls h1 h2 h3 h4 h5 h6)
theorem z_mminl (h : Cb Z own cc nL R) {ix : Nat} {x y : Int64} (d : decode cc pc = .ok (.invokestatic ix, 3)) (hl : Cond.methodLink own ix Lib.MathLoose.min_long.x ∈ TT) (hf : 1 ≤ R.frames) (hlo : (st.map fun v => v.category).sum + 15 ≤ R.locals) (hc : k ≤ R.cells) (hs : n ≤ R.slots) (kk : Z k n w lv (pc + 3) (.long (if y < x then y else x) :: st)) : Z k n w lv pc (.long y :: .long x :: st) := by
  obtain ⟨p, l, e, s, m, args, below, meth, c, D, dA, A, ad0, n0, Q, ⟨hx, hb, hml, ho, hts, hnt, hK, hA⟩, rfl⟩ := h
  intro ad H locs ls h1 h2 h3 h4 h5 h6
  exact va_mmin_long hx hb (hml.trans h6.1.symm) ho (hts _ hl) (hts _ wt_MinL) (hts _ wn_JM) (hts _ wc_MinL) hf (by rw [zcat_eq]; exact hlo) hc hs d (kk ad H locs ls h1 h2 h3 h4 h5 h6)
theorem z_copy (h : Cb Z own cc nL R) {ix a b N0 N1 : Nat} {f g : Nat → Int32} {sp dp q : Int32} (d : decode cc pc = .ok (.invokestatic ix, 3)) (hl : Cond.methodLink own ix arraycopyName ∈ TT) (ha : w[a]? = some (.inl (0, N0, .inl f))) (hb9 : w[b]? = some (.inl (0, N1, .inl g))) (g1 : ¬ sp < 0) (g2 : ¬ dp < 0) (g3 : ¬ q < 0) (g4 : sp.toNatClampNeg + q.toNatClampNeg ≤ N0) (g5 : dp.toNatClampNeg + q.toNatClampNeg ≤ N1) (hf : 1 ≤ R.frames) (hlo : (st.map fun v => v.category).sum + (nativeFrameWords "java/lang/System" "arraycopy" 5 + 11) ≤ R.locals)
    (kk : Z k n (w.set b (.inl (0, N1, .inl (va_cpy f g sp.toNatClampNeg dp.toNatClampNeg q.toNatClampNeg)))) lv (pc + 3) st) : Z k n w lv pc (.int q :: .int dp :: .ref b :: .int sp :: .ref a :: st) := by
  obtain ⟨p, l, e, s, m, args, below, meth, c, D, dA, A, ad0, n0, Q, ⟨hx, hb, hml, ho, hts, hnt, hK, hA⟩, rfl⟩ := h
  intro ad H locs ls h1 h2 h3 h4 h5 h6
  refine va_copyi (ty := .int) hx hb (hml.trans h6.1.symm) ho (hts _ hl) (hts _ wz_copy) (hts _ wt_copy) (hts _ wn_Sys) hK h3 h4 h5 a b 0 0 (zW_at ha) (zW_at hb9) rfl rfl rfl g1 g2 g3 g4 g5 (fun _ _ => rfl) hf (by rw [zcat_eq]; exact hlo) d (fun H locs h3 h4 h5 => ?_)
  rw [show (.inl (dA 0, N1, .inl (va_cpy f g sp.toNatClampNeg dp.toNatClampNeg q.toNatClampNeg)) : va_E) = zE dA ad (.inl (0, N1, .inl (va_cpy f g sp.toNatClampNeg dp.toNatClampNeg q.toNatClampNeg))) from rfl, ← zW_set] at h3 h4
  exact kk ad H locs ls (by rw [List.length_set]; exact h1) (by rw [List.length_set]; exact h2) h3 h4 h5 h6
end ZCalls
