/-! calls that leave places out: a place that is not handed over stands for itself -/
def zfd (is : List Nat) : Nat → Nat := fun j => is.getD j j
theorem zfd_at {is : List Nat} : ∀ j a, is[j]? = some a → zfd is j = a := fun j a h => by simp [zfd, List.getD, h]
section ZCallsD
variable {Z : ZP} {own : String} {cc : ByteArray} {nL : Nat} {R : Room} {k n pc : Nat} {w : List va_E} {lv : List (Nat × Value)} {st : List Value}
variable {y : MethodName} {cy : ByteArray} {ny : Nat} {ry : Option FieldType} {Ry : Room} {As : List Value} {wc : List va_E} {Post : Option Value → List va_E → Prop}
theorem z_dV (h : Cb Z own cc nL R) {stk : List Value} {b0 : Nat} {ix : Nat} (hM : MS y cy ny ry Ry (.ref b0 :: As) wc Post) (hF : zFit y cy ny ry Ry R As.length) (hl : Cond.methodLink own ix y ∈ TT) {C : String} {ci : Nat} {q9 : u_T × Nat} (hi : Cond.instanceMethod y ∈ TT) (hs : Cond.selects C y y ∈ TT) (hci : clz[ci]? = some (C, q9)) (hrc : ∃ fs : List Value, wc[b0]? = some (.inr (ci, fs))) (d : decode cc pc = .ok (.invokevirtual ix, 3)) (hk : k + Ry.cells ≤ R.cells ∧ n + Ry.slots ≤ R.slots) (is : List Nat) (hnd : va_nd is = true) (hw : is.map (fun i => w[i]?) = wc.map (fun e => some (zE (fun i => i) (zfd is) e))) (hst : (st.map fun v => v.category).sum ≤ 8) (hstk : ((As.map (zV (zfd is))).reverse ++ .ref (zfd is b0) :: st) = stk) (hlen : ∀ r w', Post r w' → w'.length = wc.length)
    (kk : ∀ r w', Post r w' → Z (k + Ry.cells) (n + Ry.slots) (zput w is (w'.map (zE (fun i => i) (zfd is)))) lv (pc + 3) ((r.map (zV (zfd is))).toList ++ st)) : Z k n w lv pc stk := by
  subst hstk
  obtain ⟨p, l, e, s, m, args, below, meth, c, D, dA, A, ad0, n0, Q, ⟨hx, hb, hml, ho, hts, hnt, hK, hA⟩, rfl⟩ := h
  intro ad H locs ls h1 h2 h3 h4 h5 h6
  obtain ⟨f1, f2, f3, f4, f5, f6⟩ := hF
  have hpick := zpick (dA := dA) (ad := ad) (zfd_at (is := is)) hw
  have hPc : va_P D clz (zW dA (fun j => ad (zfd is j)) wc) H := h3.sub is (zmap_filter hpick)
  have hDc : va_D A (zW dA (fun j => ad (zfd is j)) wc) := h4.sub is hnd hpick
  have hpay := pay_in (args := args) (s := s) hts (zgood f1)
  have hlenY : ∀ sig, parseMethodDescriptor y.desc = some sig → As.length = sig.parameters.length := fun sig hs => by
    rw [hs] at f4
    exact (Option.some.inj f4).symm
  have hc1 : (Cond.code y cy ny ry).before args s = true := hts _ f1
  have hmem : Cond.code y cy ny ry ∈ (Cond.code y cy ny ry :: TT) := List.mem_cons_self
  have hrecv : ∃ cellB : Cell, H[ad (zfd is b0)]? = some cellB ∧ cellB.vm.isStatics = false ∧ s.vm.findClass C = some cellB.cls := by
    obtain ⟨fs, hq⟩ := hrc
    exact va_recv (q := (C, q9)) hK hPc hci (zW_at hq)
  have e0 : ((As.map (zV (zfd is))).reverse ++ .ref (zfd is b0) :: st).map (zV ad) = (As.map (zV (fun j => ad (zfd is j)))).reverse ++ .ref (ad (zfd is b0)) :: st.map (zV ad) := by
    simp only [List.map_append, List.map_reverse, List.map_map, List.map_cons]
    congr 2
    apply List.map_congr_left
    intro v _
    exact zV_comp v
  rw [e0]
  refine zcore (f := zfd is) (va_runV (As := As.map (zV (fun j => ad (zfd is j)))) (rest := st.map (zV ad)) (n := As.length) ⟨hx, hb, hml, ho, hts⟩ (hM l D dA (fun j => ad (zfd is j)) H.size) ⟨⟨rfl, rfl, f5, f6, hpay, hmem, hc1, hts _ f2, f3, hlenY, hts _ hl⟩, hts _ hi, hts _ hs⟩ ⟨zblind, hrecv, fun U hU hW => ⟨rfl, by rw [hU], by rw [hU]; exact hPc, va_K.moved hW.alike hK, nt_warm hW hnt, hDc.weaken (fun _ _ _ _ => trivial)⟩⟩ rfl (by rw [List.length_map]) h6.1 rfl (lv_room (zcat hst)) d hk) (fun _ q => q) (zfd_at (is := is)) hnd hw hlen hA h1 h2 h3 h4 h5 h6 kk
set_option maxHeartbeats 2000000 in
/-- a callee throws an E; the handler stores it, and answers r -/
theorem z_catchD {n0 : Nat} {hs : List Hrow} {E : String} {Post : Option Value → List va_E → Prop} {Post' : List va_E → Prop} (h : Cx Z own cc nL R n0 hs Post) {stk : List Value} {b0 ix : Nat} (hM : MT y cy ny ry Ry (.ref b0 :: As) wc E Post') (hF : zFit y cy ny ry Ry R As.length) (hl : Cond.methodLink own ix y ∈ TT) {C : String} {ci : Nat} {q9 : u_T × Nat} (hi : Cond.instanceMethod y ∈ TT) (hsel : Cond.selects C y y ∈ TT) (hci : clz[ci]? = some (C, q9)) (hrc : ∃ fs : List Value, wc[b0]? = some (.inr (ci, fs))) (d : decode cc pc = .ok (.invokevirtual ix, 3)) (hk : k + Ry.cells ≤ R.cells ∧ n + Ry.slots ≤ R.slots) (is : List Nat) (hnd : va_nd is = true) (hw : is.map (fun i => w[i]?) = wc.map (fun e => some (zE (fun i => i) (zfd is) e))) (hst : (st.map fun v => v.category).sum ≤ 8) (hstk : ((As.map (zV (zfd is))).reverse ++ .ref (zfd is b0) :: st) = stk) (hwl : w.length = n0)
    {hp r i lr : Nat} {v : Int32} (hc : zCatch own hs pc E hp) (d1 : (decode cc hp = .ok (.astore i, 2) ∧ lr = hp + 2) ∨ (∃ q : Fin 4, (q : Nat) = i ∧ decode cc hp = .ok (.astore_n q, 1) ∧ lr = hp + 1)) (hin : i < nL) {vi : Int} (d2 : decode cc lr = .ok (.iconst vi, 1)) (hv : Int32.ofInt vi = v) (d3 : decode cc (lr + 1) = .ok (.ireturn, 1))
    (kk : ∀ w', w'.length = wc.length → Post' w' → Post (some (.int v)) (zput w is (w'.map (zE (fun i => i) (zfd is))))) : Z k n w lv pc stk := by
  subst hstk
  obtain ⟨p, l, e, s, m, args, below, meth, c, D, dA, A, ad0, ⟨hx, hb, hml, ho, hts, hnt, hK, hA⟩, htr, hX, hnst, htab, hlocks, hret, rfl⟩ := h
  intro ad H locs ls h1 h2 h3 h4 h5 h6 T hT X
  have had : ad = ad0 := funext fun i => h1 i (by rw [hwl]; exact Nat.lt_or_ge i n0)
  subst had
  subst hT
  obtain ⟨f1, f2, f3, f4, f5, f6⟩ := hF
  have hpick := zpick (dA := dA) (ad := ad) (zfd_at (is := is)) hw
  have hPc : va_P D clz (zW dA (fun j => ad (zfd is j)) wc) T.heap := h3.sub is (zmap_filter hpick)
  have hDc : va_D A (zW dA (fun j => ad (zfd is j)) wc) := h4.sub is hnd hpick
  have hFc := va_free (wc := zW dA (fun j => ad (zfd is j)) wc) h4 h5 hA is hpick
  have hpay := pay_in (args := args) (s := s) hts (zgood f1)
  have hrecv : ∃ cellB : Cell, T.heap[ad (zfd is b0)]? = some cellB ∧ cellB.vm.isStatics = false ∧ s.vm.findClass C = some cellB.cls := by
    obtain ⟨fs, hq⟩ := hrc
    exact va_recv (q := (C, q9)) hK hPc hci (zW_at hq)
  obtain ⟨cellB, hcB, hoB, hclB⟩ := hrecv
  obtain ⟨mk, methM, hnamed, hmethM, hstM, habM⟩ := Cond.instanceMethod_spec (hts _ hi)
  obtain ⟨methM', cM, hmethM', -, -, -, -, -, -, hsigM⟩ := Cond.code_spec hnamed (hts _ f1)
  cases hmethM.symm.trans hmethM'
  obtain ⟨c2, r2, m2, q1, q2, q3, q4, kP, hkP, hkPi⟩ := Cond.selects_spec (hts _ hsel)
  cases hclB.symm.trans q1
  cases (State.methodFound?_of_named hnamed f3).symm.trans q2
  cases hnamed.symm.trans q3
  have hselP : selectMethod e.platform s.vm cellB.cls mk = .method mk := by rw [Launch.admits_selectMethod X.admits]; exact q4
  have hlenY : As.length = methM.sig.parameters.length := by
    rw [hsigM] at f4
    exact (Option.some.inj f4).symm
  have e0 : ((As.map (zV (zfd is))).reverse ++ .ref (zfd is b0) :: st).map (zV ad) = (As.map (zV (fun j => ad (zfd is j)))).reverse ++ .ref (ad (zfd is b0)) :: st.map (zV ad) := by
    simp only [List.map_append, List.map_reverse, List.map_map, List.map_cons]
    congr 2
    apply List.map_congr_left
    intro v _
    exact zV_comp v
  rw [e0]
  obtain ⟨vm₁, X₁, st₁⟩ := X.invokevirtual hx ho (hts _ hl) hnamed hmethM hstM hkP hkPi f3 hcB (VmData.ne_statics_of hoB) hselP hmethM habM hkP hkPi (g := F0 m pc ls ((As.map (zV (fun j => ad (zfd is j)))).reverse ++ .ref (ad (zfd is b0)) :: st.map (zV ad))) rfl (argsL := As.map (zV (fun j => ad (zfd is j)))) (rest := st.map (zV ad)) (by rw [List.length_map]; exact hlenY) rfl (by rw [hb]; exact d)
  have hini1 : (Cond.initialized y.cls).before #[] (T.setVm vm₁) = true := word_at (s := s) (U := T.setVm vm₁) X₁.warmed (good_of_word (List.mem_filter.mp f2).2) (hts _ f2)
  have hXT : zX (T.setVm vm₁) := zX_to (u := reS s T) (U := T.setVm vm₁) X₁.warmed (fun _ _ h _ => h) (zX_mid hX hnst h5)
  have hpre : va_Pc ((Value.ref b0 :: As).map (zV (fun j => ad (zfd is j)))) (fun U => zPre D dA (fun j => ad (zfd is j)) T.heap.size wc U ∧ zX U) ((Value.ref b0 :: As).map (zV (fun j => ad (zfd is j)))).toArray (T.setVm vm₁) :=
    ⟨rfl, ⟨rfl, hPc, va_K.moved X₁.warmed.alike hK, nt_warm X₁.warmed hnt, hDc.weaken (fun _ _ _ _ => trivial)⟩, hXT⟩
  obtain ⟨x, T', t, L, X', hL, e1, hq, hgo⟩ := st_out X₁ (g := F0 m pc ls (st.map (zV ad))) rfl (h6.1.trans hml.symm) (by rw [hb]; exact d) (lv_room (zcat hst)) (X₁.named hnamed) (hM l D dA (fun j => ad (zfd is j)) T.heap.size htr) hpay hini1 f5 f6 (by omega) (by omega) (a := ((Value.ref b0 :: As).map (zV (fun j => ad (zfd is j)))).toArray)
    ⟨hpre.1, zblind (av := (Value.ref b0 :: As).map (zV (fun j => ad (zfd is j)))) _ _ _ _ ⟨hpre.1, hpre.2.1⟩ |>.2, zX_blind hpre.2.2⟩ (fun o t h => by obtain ⟨x, -, -, h, -⟩ := h; exact ⟨x, h⟩)
  obtain ⟨x', w', ce, hx', q1, q2, q3, q4, q5, q6, q7, q8, q9⟩ := hq
  cases hx'
  have hj := zjoin (A := A) (H' := T'.heap) (zfd_at (is := is)) hnd hw q4 h3 h4 (by rw [e1]; exact q5) (fun q g1 g2 => by rw [e1]; exact q9 q g1 g2)
  have hS' : va_S A s.heap T'.heap (locs ++ L) := ⟨Nat.le_trans h5.1 (by rw [e1]; exact q8), fun q g1 g2 => by
      rw [e1, q9 q (Nat.lt_of_lt_of_le g1 h5.1) (fun z => g2 (hFc q z))]
      exact h5.2.1 q g1 g2, fun q hq => by
      rcases List.mem_append.mp hq with h | h
      · exact h5.2.2 q h
      · exact hFc _ (hL q h)⟩
  obtain ⟨vm', X2, st2⟩ := st_catchE X' (a := x) (g := F0 m pc ls (st.map (zV ad))) rfl ho hts hX htab hc (by rw [e1]; exact q1) q2 (by rw [← q3]; exact (X₁.warmed.alike.findClass E _).symm)
  have hbk : ∀ ls' : Array Slot, W p l e R s m args below meth c T'.heap (locs ++ L) (k + Ry.cells) (n + Ry.slots) (MQ below (zQ D dA A ad n0 Post) args s R.cells R.slots A) (F0 m lr ls' []) := fun ls' => by
    refine lv_iconst hx hb d2 hv ?_
    exact W.widen hk.1 hk.2 (W.iret (v := v) hx hb hret (fun t ht hW => ⟨⟨some (.int v), _, ad, rfl, fun _ _ => rfl, by rw [zput_len, hwl]; exact Nat.le_refl _, by rw [ht]; exact hj.1, hj.2, kk w' q4 q7⟩, hS'.F ht⟩) hS'.2.2 d3 hlocks)
  have hgo2 : W p l e R s m args below meth c T'.heap (locs ++ L) (k + Ry.cells) (n + Ry.slots) (MQ below (zQ D dA A ad n0 Post) args s R.cells R.slots A) (F0 m hp ls [.ref x]) := by
    rcases d1 with ⟨g1, rfl⟩ | ⟨q, g0, g1, rfl⟩
    · exact lv_astore hx hb g1 h6 hin rfl (fun ls' _ => hbk ls')
    · exact lv_astore_n hx hb g1 g0 h6 hin rfl (fun ls' _ => hbk ls')
  obtain ⟨t2, a1, b1⟩ := hgo2 (T'.setVm vm') rfl X2
  exact ⟨t2, st₁ _ (fun acts => (hgo acts).trans (st2 _ a1)), b1⟩
end ZCallsD
