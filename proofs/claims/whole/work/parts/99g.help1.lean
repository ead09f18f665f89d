/-! law's helpers: a call of the object, the rest of the world standing beside it -/
def idL (is : List Nat) (N : Nat) : Prop := zfd is = (fun i => i) ∧ is.length = N ∧ (∀ k, k < N → is[k]? = some k) ∧ va_nd is = true
theorem idL18 : idL is18 18 := ⟨zfd18, rfl, by decide, by decide⟩
theorem idL28 : idL is28 28 := ⟨zfd28, rfl, by decide, by decide⟩
theorem idL_map {is : List Nat} {N : Nat} (h : idL is N) {w : List va_E} : w.map (zE (fun i => i) (zfd is)) = w := by
  conv => rhs; rw [← List.map_id w]
  exact List.map_congr_left fun x _ => by rw [h.1, zE_id]; rfl
theorem idL_hw {is : List Nat} {N : Nat} (h : idL is N) {w t : List va_E} (hw : w.length = N) : is.map (fun i => (w ++ t)[i]?) = w.map (fun e => some (zE (fun i => i) (zfd is) e)) := by
  rw [show w.map (fun e => some (zE (fun i => i) (zfd is) e)) = (w.map (zE (fun i => i) (zfd is))).map some by rw [List.map_map]; rfl, idL_map h]
  apply List.ext_getElem?
  intro k
  rw [List.getElem?_map, List.getElem?_map]
  by_cases hk : k < N
  · rw [h.2.2.1 k hk]
    show some ((w ++ t)[k]?) = Option.map some (w[k]?)
    rw [List.getElem?_append_left (by omega), List.getElem?_eq_getElem (by omega)]
    rfl
  · rw [List.getElem?_eq_none (by rw [h.2.1]; omega), List.getElem?_eq_none (by omega)]
    rfl
theorem idL_put {is : List Nat} {N : Nat} (h : idL is N) {w w' t : List va_E} (hw : w.length = N) (hw' : w'.length = N) : zput (w ++ t) is (w'.map (zE (fun i => i) (zfd is))) = w' ++ t := by
  rw [idL_map h]
  apply List.ext_getElem?
  intro k
  by_cases hk : k < N
  · obtain ⟨x, hx⟩ : ∃ x, w'[k]? = some x := ⟨_, List.getElem?_eq_getElem (by omega)⟩
    rw [zput_at is (w ++ t) w' k k x (va_nd_inj is h.2.2.2) (h.2.2.1 k hk) hx (by rw [List.length_append]; omega), List.getElem?_append_left (by omega), hx]
  · have hm : k ∉ is := fun hm => by
      obtain ⟨j, hj⟩ := List.getElem?_of_mem hm
      have hjl : j < N := by rw [← h.2.1]; exact (List.getElem?_eq_some_iff.mp hj).1
      rw [h.2.2.1 j hjl] at hj
      cases hj
      omega
    rw [zput_ne is (w ++ t) w' k hm, List.getElem?_append_right (by omega), List.getElem?_append_right (by omega), hw, hw']
theorem zV_map_id {is : List Nat} {N : Nat} (h : idL is N) {r : Option Value} : r.map (zV (zfd is)) = r := by
  rw [h.1]
  cases r with
  | none => rfl
  | some v => exact congrArg some (zV_id v)
section ZH
variable {Z : ZP} {own : String} {cc : ByteArray} {nL : Nat} {R : Room} {k n pc : Nat} {lv : List (Nat × Value)} {st : List Value}
variable {y : MethodName} {cy : ByteArray} {ny : Nat} {ry : Option FieldType} {Ry : Room} {As : List Value} {Post : Option Value → List va_E → Prop}
theorem z_dI {is : List Nat} {N : Nat} (hid : idL is N) {w t : List va_E} (h : Cb Z own cc nL R) {ix : Nat} (hM : MS y cy ny ry Ry (.ref 0 :: As) w Post) (hF : zFit y cy ny ry Ry R As.length) (hl : Cond.methodLink own ix y ∈ TT) {C : String} {ci : Nat} {q9 : u_T × Nat} (hi : Cond.instanceMethod y ∈ TT) (hs : Cond.selects C y y ∈ TT) (hci : clz[ci]? = some (C, q9)) (hrc : ∃ fs : List Value, w[0]? = some (.inr (ci, fs))) (d : decode cc pc = .ok (.invokevirtual ix, 3)) (hk : k + Ry.cells ≤ R.cells ∧ n + Ry.slots ≤ R.slots) (hw : w.length = N) (hst : (st.map fun v => v.category).sum ≤ 8) {stk : List Value} (hAs : As.map (zV (zfd is)) = As) (hstk : As.reverse ++ .ref 0 :: st = stk) (hlen : ∀ r w', Post r w' → w'.length = N)
    (kk : ∀ r w', Post r w' → Z (k + Ry.cells) (n + Ry.slots) (w' ++ t) lv (pc + 3) (r.toList ++ st)) : Z k n (w ++ t) lv pc stk :=
  z_dV (C := C) (ci := ci) h hM hF hl hi hs hci hrc d hk is hid.2.2.2 (idL_hw hid hw) hst (by rw [hAs, hid.1]; exact hstk) (fun r w' hp => (hlen r w' hp).trans hw.symm) (fun r w' hp => by
    rw [idL_put hid hw (hlen r w' hp), zV_map_id hid]
    exact kk r w' hp)
theorem z_catchI {is : List Nat} {N : Nat} (hid : idL is N) {w t : List va_E} {n0 : Nat} {hs : List Hrow} {E : String} {Post' : List va_E → Prop} (h : Cx Z own cc nL R n0 hs Post) {ix : Nat} (hM : MT y cy ny ry Ry (.ref 0 :: As) w E Post') (hF : zFit y cy ny ry Ry R As.length) (hl : Cond.methodLink own ix y ∈ TT) {C : String} {ci : Nat} {q9 : u_T × Nat} (hi : Cond.instanceMethod y ∈ TT) (hsel : Cond.selects C y y ∈ TT) (hci : clz[ci]? = some (C, q9)) (hrc : ∃ fs : List Value, w[0]? = some (.inr (ci, fs))) (d : decode cc pc = .ok (.invokevirtual ix, 3)) (hk : k + Ry.cells ≤ R.cells ∧ n + Ry.slots ≤ R.slots) (hw : w.length = N) (hst : (st.map fun v => v.category).sum ≤ 8) {stk : List Value} (hAs : As.map (zV (zfd is)) = As) (hstk : As.reverse ++ .ref 0 :: st = stk) (hwl : (w ++ t).length = n0)
    {hp r i lr : Nat} {v : Int32} (hc : zCatch own hs pc E hp) (d1 : (decode cc hp = .ok (.astore i, 2) ∧ lr = hp + 2) ∨ (∃ q : Fin 4, (q : Nat) = i ∧ decode cc hp = .ok (.astore_n q, 1) ∧ lr = hp + 1)) (hin : i < nL) {vi : Int} (d2 : decode cc lr = .ok (.iconst vi, 1)) (hv : Int32.ofInt vi = v) (d3 : decode cc (lr + 1) = .ok (.ireturn, 1))
    (kk : ∀ w', w'.length = N → Post' w' → Post (some (.int v)) (w' ++ t)) : Z k n (w ++ t) lv pc stk :=
  z_catchD (r := r) (C := C) (ci := ci) h hM hF hl hi hsel hci hrc d hk is hid.2.2.2 (idL_hw hid hw) hst (by rw [hAs, hid.1]; exact hstk) hwl hc d1 hin d2 hv d3 (fun w' hl' hp' => by
    rw [idL_put hid hw (hl'.trans hw)]
    exact kk w' (hl'.trans hw) hp')
theorem i2l_lI (a : Int32) : a.toInt64 = lI a.toInt := by
  have h1 : -2 ^ 31 ≤ a.toInt := Int32.le_toInt a
  have h2 : a.toInt < 2 ^ 31 := Int32.toInt_lt a
  have := iI_l h1 h2
  rw [iI_self] at this
  exact this
/-- the answer goes into the long array; 0 is answered -/
theorem help_end (h : Cb Z own cc nL (rmT 11)) (hr : Cr Z cc (some .int) (rmT 11) Post) {w : List va_E} {f : Nat → Int} {a : Int32} (hl : w.length = 28) {off : Int} {tgt : Nat} (d1 : decode cc pc = .ok (.i2l, 1)) (d2 : decode cc (pc + 1) = .ok (.lastore, 1)) (d3 : decode cc (pc + 1 + 1) = .ok (.goto off, 3)) (ht : ((pc + 1 + 1 : Nat) : Int) + off = (tgt : Int)) (d4 : decode cc tgt = .ok (.iconst 0, 1)) (d5 : decode cc (tgt + 1) = .ok (.ireturn, 1)) (kk : Post (some (.int (nI 0))) (w ++ [al 1 (ui f 0 a.toInt)])) : Z 0 0 (w ++ [al 1 f]) lv pc [.int a, .int (nI 0), .ref 28] := by
  have hat : (w ++ [al 1 f])[28]? = some (al 1 f) := by
    rw [List.getElem?_append_right (by omega), hl]
    rfl
  refine z_i2l h d1 ?_
  rw [i2l_lI]
  refine z_lastoreI h d2 hat (by decide) ?_
  have e : (w ++ [al 1 f]).set 28 (al 1 (ui f 0 a.toInt)) = w ++ [al 1 (ui f 0 a.toInt)] := by
    rw [List.set_append_right _ _ (by omega), hl]
    rfl
  rw [e]
  refine z_goto h d3 ht ?_
  refine z_iconst (v := nI 0) h d4 (by decide) ?_
  exact hr.1 _ _ _ _ _ _ (Nat.zero_le _) (Nat.zero_le _) rfl d5 kk
end ZH
/-- what the helpers see: the object, and the long array with o in it -/
def HW (Q : Nat) (c : Nat → Nat) (v b v2 b2 : Nat) (o : Int) (w : List va_E) : Prop := ∃ (w0 : List va_E) (f : Nat → Int), w = w0 ++ [al 1 f] ∧ DW Q c v b v2 b2 w0 ∧ f 0 = o
theorem HW_len {Q : Nat} {c : Nat → Nat} {v b v2 b2 : Nat} {o : Int} {w : List va_E} (h : HW Q c v b v2 b2 o w) : w.length = 29 := by
  obtain ⟨w0, f, rfl, h1, -⟩ := h
  rw [List.length_append, DW_len h1]
  rfl
theorem DS_recv {v b v2 b2 : Nat} {w : List va_E} (h : DS v b v2 b2 w) : ∃ fs : List Value, w[0]? = some (.inr (4, fs)) := by
  obtain ⟨gu, pg, dg, td, s, a, g, pw, gu2, pg2, dg2, td2, s2, a2, g2, pw2, sl, sr, sq, l, r, q, rfl, -⟩ := h
  exact ⟨_, rfl⟩
theorem DW_recv {Q : Nat} {c : Nat → Nat} {v b v2 b2 : Nat} {w : List va_E} (h : DW Q c v b v2 b2 w) : ∃ fs : List Value, w[0]? = some (.inr (4, fs)) := by
  obtain ⟨w0, D, r, dp, wk, sm, rfl, h1, -⟩ := h
  obtain ⟨fs, hfs⟩ := DS_recv h1
  exact ⟨fs, by rw [List.getElem?_append_left (by rw [DS_len h1]; decide)]; exact hfs⟩
theorem len28 {w : List va_E} {D : Nat} {r : Nat → Nat → Nat} {dp : Nat → Nat} {wk sm : Nat → Int} (h : w.length = 18) : (w ++ sS D r dp wk sm).length = 28 := by
  rw [List.length_append, h]
  rfl
