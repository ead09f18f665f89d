/-! the same, over places -/
abbrev rowsAt (n : Nat) : Nat → Option Nat := fun j => if j < 5 then some (n + 1 + j) else none
abbrev six (n : Nat) : List va_E := [.inl (2, 5, .inr (.inr (.inr (.inr (rowsAt n))))), ar 705 (fun _ => 0), ar 705 (fun _ => 0), ar 705 (fun _ => 0), ar 705 (fun _ => 0), ar 705 (fun _ => 0)]
def ad6 (ad : Nat → Nat) (n q : Nat) : Nat → Nat := fun i => if n ≤ i ∧ i < n + 6 then q + (i - n) else ad i
theorem ad6_lt {ad : Nat → Nat} {n q i : Nat} (h : i < n) : ad i = ad6 ad n q i := by
  unfold ad6
  rw [if_neg (by omega)]
theorem ad6_at {ad : Nat → Nat} {n q j : Nat} (h : j < 6) : ad6 ad n q (n + j) = q + j := by
  unfold ad6
  rw [if_pos (by omega)]
  omega
theorem arr_rep (k : ClassId) (N : Nat) (v : Value) : ({ cls := k, slots := Array.replicate N v, vm := .none } : Cell) = arrV k N (fun _ => v) := by
  unfold arrV
  congr 1
  apply Array.ext
  · simp
  · intro i h1 h2
    simp
theorem r2i_cell {k : ClassId} : r2i k = vp_cell k (705, .inl (fun _ => nI 0)) := arr_rep k 705 (.int 0)
theorem r2o_cell {c : ClassId} {h : Nat} {f : Nat → Option Nat} (hf : ∀ j, j < 5 → f j = some (h + 1 + j)) : r2o c h 5 = vp_cell c (5, .inr (.inr (.inr (.inr f)))) := by
  show _ = arrV c 5 (fun j => va_rf (f j))
  unfold r2o arrV
  congr 1
  apply Array.ext
  · simp
  · intro i h1 h2
    have hi : i < 5 := by simpa using h1
    have e9 : va_rf (f i) = .ref (h + 1 + i) := by rw [hf i hi]; rfl
    simp only [Array.getElem_ofFn]
    rw [e9]
    rcases (show i = 0 ∨ i = 1 ∨ i = 2 ∨ i = 3 ∨ i = 4 by omega) with rfl | rfl | rfl | rfl | rfl <;> rfl
section ZM
variable {Z : ZP} {own : String} {cc : ByteArray} {nL : Nat} {R : Room} {k n pc : Nat} {w : List va_E} {lv : List (Nat × Value)} {st : List Value}
set_option maxHeartbeats 2000000 in
theorem z_multi (h : Ci Z own cc nL R) {ix : Nat} (d : decode cc pc = .ok (.multianewarray ix 2, 4)) (hcl : Cond.classLink own ix "[[I" ∈ TT) (hk : k + 6 ≤ R.cells) (hn : n + 3530 ≤ R.slots) (ww : wfW w.length w) (wl : wfL w.length lv) (ws : wfS w.length st) (kk : Z (k + 6) (n + 3530) (w ++ six w.length) lv (pc + 4) (.ref w.length :: st)) : Z k n w lv pc (.int (nI 705) :: .int (nI 5) :: st) := by
  obtain ⟨p, l, e, s, m, args, below, meth, c, D, dA, A, ad0, n0, Q, ⟨hx, hb, hml, ho, hts, hnt, hK, hA⟩, -, hX, -, hname, rfl⟩ := h
  intro ad H locs ls h1 h2 h3 h4 h5 h6
  obtain ⟨cA, cC, x, kA, kC, z1, z2, z3, z4, z5, z6⟩ := hX.2.2.2.2
  have eA : cA = dA 2 := Option.some.inj (z1.symm.trans (show s.vm.findClass "[[I" = some (dA 2) from (hK.2 2 (dA 2, .array .int) rfl).2))
  have eC : cC = dA 0 := Option.some.inj (z2.symm.trans (show s.vm.findClass "[I" = some (dA 0) from (hK.2 0 (dA 0, .int) rfl).2))
  intro T hT X
  subst hT; subst hb
  obtain ⟨vm₁, hw1, X1, step⟩ := st_multi X hx ho (hts _ hcl) z1 z3 z4 z5 z6 (g := F0 m pc ls (.int 705 :: .int 5 :: st.map (zV ad))) rfl d rfl hk hn
  obtain ⟨f1, f2, f3, f4⟩ := r2_facts (T.setVm vm₁) cA cC 5
  have fo : ∀ q, q < T.heap.size → (r2s (T.setVm vm₁) cA cC 5).heap[q]? = T.heap[q]? := fun q hq => r2_old (T.setVm vm₁) cA cC hq 5
  have fr : ∀ j, j < 5 → (r2s (T.setVm vm₁) cA cC 5).heap[T.heap.size + 1 + j]? = some (r2i cC) := fun j hj => r2_row (T.setVm vm₁) cA cC 5 j hj
  have f2' : (r2s (T.setVm vm₁) cA cC 5).heap[T.heap.size]? = some (r2o cA T.heap.size 5) := f2
  have f1' : (r2s (T.setVm vm₁) cA cC 5).heap.size = T.heap.size + 1 + 5 := f1
  generalize hq : T.heap.size = q at *
  generalize hTT : r2s (T.setVm vm₁) cA cC 5 = T2 at *
  have hag : ∀ i, i < w.length → ad i = ad6 ad w.length q i := fun i hi => ad6_lt hi
  have e2 : (Value.ref w.length :: st).map (zV (ad6 ad w.length q)) = .ref q :: st.map (zV ad) := by
    rw [List.map_cons, ← zS_agree hag ws]
    show Value.ref (ad6 ad w.length q w.length) :: _ = _
    rw [show ad6 ad w.length q w.length = q from (ad6_at (j := 0) (by decide)).trans (Nat.add_zero q)]
  have hnew : ∀ (j : Nat) (x : Nat × va_E), ((six w.length).mapIdx fun k e => (ad6 ad w.length q (w.length + k), zE dA (ad6 ad w.length q) e))[j]? = some x → x.1 = q + j ∧ j < 6 ∧ va_at D clz x T2.heap := by
    intro j x hj
    have hj6 : j < 6 := by
      have := (List.getElem?_eq_some_iff.mp hj).1
      simpa using this
    rw [List.getElem?_mapIdx] at hj
    refine ⟨?_, hj6, ?_⟩
    · obtain ⟨y, hy⟩ : ∃ y, (six w.length)[j]? = some y := ⟨_, List.getElem?_eq_getElem (by simpa using hj6)⟩
      rw [hy] at hj
      cases hj
      exact ad6_at hj6
    · have hw6 : ∀ i, i < 6 → ad6 ad w.length q (w.length + i) = q + i := fun i hi => ad6_at hi
      have row : ∀ i, i < 5 → va_at D clz (q + (i + 1), zE dA (ad6 ad w.length q) (ar 705 (fun _ => 0))) T2.heap := fun i hi => by
        show T2.heap[q + (i + 1)]? = some (vp_cell (dA 0) (705, .inl (fun _ => nI 0)))
        rw [← r2i_cell, ← eC, show q + (i + 1) = q + 1 + i by omega]
        exact fr i hi
      have e6 : ∀ i, i < 5 → ad6 ad w.length q (w.length + 1 + i) = q + 1 + i := fun i hi => by
        rw [show w.length + 1 + i = w.length + (i + 1) by omega, hw6 (i + 1) (by omega)]
        omega
      rcases (show j = 0 ∨ j = 1 ∨ j = 2 ∨ j = 3 ∨ j = 4 ∨ j = 5 by omega) with rfl | rfl | rfl | rfl | rfl | rfl
      · cases hj
        show T2.heap[ad6 ad w.length q (w.length + 0)]? = some (vp_cell (dA 2) (5, .inr (.inr (.inr (.inr (fun j => (rowsAt w.length j).map (ad6 ad w.length q)))))))
        rw [hw6 0 (by decide), Nat.add_zero, ← r2o_cell (h := q) (fun j hj => by
          show ((if j < 5 then some (w.length + 1 + j) else none : Option Nat)).map _ = _
          rw [if_pos hj]
          show some (ad6 ad w.length q (w.length + 1 + j)) = _
          rw [e6 j hj]), ← eA]
        exact f2'
      · cases hj
        rw [hw6 1 (by decide)]
        exact row 0 (by decide)
      · cases hj
        rw [hw6 2 (by decide)]
        exact row 1 (by decide)
      · cases hj
        rw [hw6 3 (by decide)]
        exact row 2 (by decide)
      · cases hj
        rw [hw6 4 (by decide)]
        exact row 3 (by decide)
      · cases hj
        rw [hw6 5 (by decide)]
        exact row 4 (by decide)
  have eW : zW dA (ad6 ad w.length q) (w ++ six w.length) = zW dA ad w ++ (six w.length).mapIdx fun k e => (ad6 ad w.length q (w.length + k), zE dA (ad6 ad w.length q) e) := by
    rw [zW_app, ← zW_agree hag ww]
  generalize hN : ((six w.length).mapIdx fun k e => (ad6 ad w.length q (w.length + k), zE dA (ad6 ad w.length q) e)) = nw at *
  have hold : ∀ (i : Nat) (x : Nat × va_E), (zW dA ad w)[i]? = some x → x.1 < q := fun i x hx => by
    have := (h3 i x hx).lt
    omega
  have hP2 : va_P D clz (zW dA ad w ++ nw) T2.heap := (h3.kept (fun i x hx => fo x.1 (hold i x hx))).app (fun j x hj => (hnew j x hj).2.2)
  have hcase : ∀ (i : Nat) (x : Nat × va_E), (zW dA ad w ++ nw)[i]? = some x → (i < w.length ∧ (zW dA ad w)[i]? = some x ∧ x.1 < q) ∨ (w.length ≤ i ∧ x.1 = q + (i - w.length)) := fun i x hx => by
    by_cases hl : i < w.length
    · rw [List.getElem?_append_left (by rw [zW_len]; exact hl)] at hx
      exact Or.inl ⟨hl, hx, hold i x hx⟩
    · rw [List.getElem?_append_right (by rw [zW_len]; omega), zW_len] at hx
      exact Or.inr ⟨by omega, (hnew _ x hx).1⟩
  have hD2 : va_D A (zW dA ad w ++ nw) := by
    refine ⟨fun i j x y hx hy hxy => ?_, fun i x hx => ?_⟩
    · rcases hcase i x hx with ⟨a1, a2, a3⟩ | ⟨a1, a2⟩ <;> rcases hcase j y hy with ⟨b1, b2, b3⟩ | ⟨b1, b2⟩
      · exact h4.1 i j x y a2 b2 hxy
      · omega
      · omega
      · omega
    · rcases hcase i x hx with ⟨a1, a2, a3⟩ | ⟨a1, a2⟩
      · exact h4.2 i x a2
      · have := h5.1
        exact hA _ (by omega)
  have hS2 : va_S A s.heap T2.heap (locs ++ (List.range 5).map fun j => ⟨q, j⟩) := by
    have h51 := h5.1
    refine ⟨by omega, fun y g1 g2 => ?_, fun y hy => ?_⟩
    · rw [fo y (by omega)]
      exact h5.2.1 y g1 g2
    · rcases List.mem_append.mp hy with g | g
      · exact h5.2.2 y g
      · obtain ⟨j, -, rfl⟩ := List.mem_map.mp g
        exact hA q (by omega)
  obtain ⟨t, a1, b1⟩ := kk (ad6 ad w.length q) T2.heap (locs ++ (List.range 5).map fun j => ⟨q, j⟩) ls (fun i hi => by
      rw [List.length_append] at hi
      have hl6 : (six w.length).length = 6 := rfl
      unfold ad6
      rw [if_neg (by omega)]
      exact h1 i (by omega)) (by rw [List.length_append]; omega) (by rw [eW]; exact hP2) (by rw [eW]; exact hD2) hS2 (by rw [← zL_agree hag wl]; exact h6) T2 rfl X1
  refine ⟨t, step t ?_, b1⟩
  rw [e2] at a1
  exact a1
end ZM
section ZIN
variable {Z : ZP} {own : String} {cc : ByteArray} {nL : Nat} {R : Room} {k n pc : Nat} {w : List va_E} {lv : List (Nat × Value)} {st : List Value}
variable {y : MethodName} {cy : ByteArray} {ny : Nat} {Ry : Room} {As : List Value} {wc : List va_E} {Post : Option Value → List va_E → Prop}
set_option maxHeartbeats 2000000 in
theorem z_cIN (h : Cy Z own cc nL R) {stk : List Value} {b0 ix : Nat} (hM : MI y cy ny Ry (.ref b0 :: As) wc Post) (hF : zFit y cy ny none Ry R As.length) (hyn : y.name = "<init>") {host : String} (hl : Cond.methodLinkNest own ix y host ∈ NT) (hi : Cond.instanceMethod y ∈ TT) (d : decode cc pc = .ok (.invokespecial ix, 3)) (hk : k + Ry.cells ≤ R.cells ∧ n + Ry.slots ≤ R.slots) (is : List Nat) (hnd : va_nd is = true) (hw : is.map (fun i => w[i]?) = wc.map (fun e => some (zE (fun i => i) (zfn is) e))) (hst : (st.map fun v => v.category).sum ≤ 8) (hstk : ((As.map (zV (zfn is))).reverse ++ .ref (zfn is b0) :: st) = stk) (hwf : ∀ r w', Post r w' → wfW w'.length w' ∧ ∀ v, r = some v → wfV w'.length v) (ww : wfW w.length w) (wl : wfL w.length lv) (wst : wfS w.length st)
    (kk : ∀ r w', Post r w' → wc.length ≤ w'.length → Z (k + Ry.cells) (n + Ry.slots) (zput w is (w'.map (zE (fun i => i) (zfx is w.length))) ++ (w'.drop wc.length).map (zE (fun i => i) (zfx is w.length))) lv (pc + 3) ((r.map (zV (zfx is w.length))).toList ++ st)) : Z k n w lv pc stk := by
  subst hstk
  obtain ⟨p, l, e, s, m, args, below, meth, c, D, dA, A, ad0, n0, Q, ⟨hx, hb, hml, ho, hts, hnt, hK, hA⟩, htr, hX, hnst, rfl⟩ := h
  intro ad H locs ls h1 h2 h3 h4 h5 h6
  obtain ⟨f1, f2, f3, f4, f5, f6⟩ := hF
  have hpick := zpick (dA := dA) (ad := ad) (zfn_at (is := is)) hw
  have hPc : va_P D clz (zW dA (fun j => ad (zfn is j)) wc) H := h3.sub is (zmap_filter hpick)
  have hDc : va_D A (zW dA (fun j => ad (zfn is j)) wc) := h4.sub is hnd hpick
  have hpay := pay_in (args := args) (s := s) hts (zgood f1)
  have hlenY : ∀ sig, parseMethodDescriptor y.desc = some sig → As.length = sig.parameters.length := fun sig hs => by
    rw [hs] at f4
    exact (Option.some.inj f4).symm
  have hc1 : (Cond.code y cy ny none).before args s = true := hts _ f1
  have hmem : Cond.code y cy ny none ∈ (Cond.code y cy ny none :: TT) := List.mem_cons_self
  have e0 : ((As.map (zV (zfn is))).reverse ++ .ref (zfn is b0) :: st).map (zV ad) = (As.map (zV (fun j => ad (zfn is j)))).reverse ++ .ref (ad (zfn is b0)) :: st.map (zV ad) := by
    simp only [List.map_append, List.map_reverse, List.map_map, List.map_cons]
    congr 2
    apply List.map_congr_left
    intro v _
    exact zV_comp v
  rw [e0]
  refine zcoreG (va_runIN (As := As.map (zV (fun j => ad (zfn is j)))) (rest := st.map (zV ad)) (n := As.length) ⟨hx, hb, hml, ho, hts⟩ (hM l D dA (fun j => ad (zfn is j)) H.size htr) ⟨⟨⟨rfl, rfl, f5, f6, hpay, hmem⟩, hc1, hts _ f2, f3, hlenY, va_Nw.use rfl (hnt _ hl)⟩, hyn, hts _ hi⟩ ⟨zblindX, fun U hU hW => ⟨rfl, ⟨by rw [hU], by rw [hU]; exact hPc, va_K.moved hW.alike hK, nt_warm hW hnt, hDc.weaken (fun _ _ _ _ => trivial)⟩, zX_to (u := s) hW (fun a cell hc hs => by
      have hna : ¬ A a := fun hA' => by rw [hnst a hA' cell hc] at hs; cases hs
      rw [hU, h5.2.1 a (Array.getElem?_eq_some_iff.mp hc).1 hna]
      exact hc) hX⟩⟩ rfl (by rw [List.length_map]) h6.1 rfl (lv_room (zcat hst)) d hk) (fun _ q => q) hnd hw hwf ww wl wst hA h1 h2 h3 h4 h5 h6 kk
end ZIN
