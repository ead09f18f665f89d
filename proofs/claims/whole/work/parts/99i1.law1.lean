/-! the law: its context, its rows, its world -/
def Cl (Z : ZP) (L : Nat) (xs : Nat → Int32) : Prop :=
  ∃ (p : Program) (l : Launch) (e : Env) (s : State) (m : MethodId) (args : Array Value) (below : List Frame) (meth : Method) (c : Code) (D : va_G) (dA : Nat → Nat) (b : Nat) (Q : State → Prop), zOK p s m args c R_L c_L_law 7 D dA (fun q => s.heap.size ≤ q) ∧ l.stackTraces = false ∧ zX s ∧ va_X b L xs s s.heap ∧ b < s.heap.size ∧
    (∀ (pc : Nat) (H : Heap) (locs : List Loc) (ls : Array Slot) (k n : Nat), decode c_L_law pc = .ok (.ireturn, 1) → (∀ q ∈ locs, s.heap.size ≤ q.base) → k ≤ 601024 → n ≤ 7293034 → W p l e room_1 s m args below meth c H locs k n Q (F0 m pc ls [.int 1])) ∧
    Z = Zof p l e room_1 s m args below meth c 7 D dA (fun q => s.heap.size ≤ q) (fun _ => b) 0 Q
section ZLw
variable {Z : ZP} {L : Nat} {xs : Nat → Int32} {k n pc : Nat} {w : List va_E} {lv : List (Nat × Value)} {st : List Value}
theorem Cl.b (h : Cl Z L xs) : Cb Z R_L c_L_law 7 room_1 := by
  obtain ⟨p, l, e, s, m, args, below, meth, c, D, dA, b, Q, h1, h2, h3, h4, h5, h6, h7⟩ := h
  exact ⟨p, l, e, s, m, args, below, meth, c, D, dA, _, _, 0, Q, h1, h7⟩
theorem Cl.y (h : Cl Z L xs) : Cy Z R_L c_L_law 7 room_1 := by
  obtain ⟨p, l, e, s, m, args, below, meth, c, D, dA, b, Q, h1, h2, h3, h4, h5, h6, h7⟩ := h
  exact ⟨p, l, e, s, m, args, below, meth, c, D, dA, _, _, 0, Q, h1, h2, h3, fun q hq cell hc => absurd (Array.getElem?_eq_some_iff.mp hc).1 (Nat.not_lt.mpr hq), h7⟩
theorem z_send (h : Cl Z L xs) (d : decode c_L_law pc = .ok (.ireturn, 1)) (hk : k ≤ 601024) (hn : n ≤ 7293034) : Z k n w lv pc [.int 1] := by
  obtain ⟨p, l, e, s, m, args, below, meth, c, D, dA, b, Q, h1, h2, h3, h4, h5, h6, rfl⟩ := h
  intro ad H locs ls g1 g2 g3 g4 g5 g6
  exact h6 pc H locs ls k n d g5.2.2 hk hn
theorem z_sld (h : Cl Z L xs) {i : Nat} (hw : w.length ≤ pS) (hi : i < L) (hL : L < 2 ^ 31) (d : decode c_L_law pc = .ok (.iaload, 1)) (kk : Z k n w lv (pc + 1) (.int (xs i) :: st)) : Z k n w lv pc (.int (nI i) :: .ref pS :: st) := by
  obtain ⟨p, l, e, s, m, args, below, meth, c, D, dA, b, Q, ⟨hx, hb, hml, ho, hts, hnt, hK, hA⟩, h2, h3, h4, h5, h6, rfl⟩ := h
  intro ad H locs ls g1 g2 g3 g4 g5 g6
  have e1 : ad pS = b := g1 pS (Or.inr hw)
  have e2 : (nI i).toNatClampNeg = i := nI_clamp (by omega)
  show W p l e room_1 s m args below meth c H locs k n Q (F0 m pc ls (.int (nI i) :: .ref (ad pS) :: st.map (zV ad)))
  rw [e1]
  refine va_sld hx hb h4 h5 (Nat.not_le.mpr h5) g5 (i := nI i) ?_ d ?_
  · intro q
    rcases q with q | q
    · exact nI_pos (by omega) q
    · rw [e2] at q; omega
  · rw [e2]
    exact kk ad H locs ls g1 g2 g3 g4 g5 g6
theorem z_slen (h : Cl Z L xs) (hw : w.length ≤ pS) (d : decode c_L_law pc = .ok (.arraylength, 1)) (kk : Z k n w lv (pc + 1) (.int (nI L) :: st)) : Z k n w lv pc (.ref pS :: st) := by
  obtain ⟨p, l, e, s, m, args, below, meth, c, D, dA, b, Q, ⟨hx, hb, hml, ho, hts, hnt, hK, hA⟩, h2, h3, h4, h5, h6, rfl⟩ := h
  intro ad H locs ls g1 g2 g3 g4 g5 g6
  have e1 : ad pS = b := g1 pS (Or.inr hw)
  show W p l e room_1 s m args below meth c H locs k n Q (F0 m pc ls (.ref (ad pS) :: st.map (zV ad)))
  rw [e1]
  exact va_slen hx hb h4 h5 (Nat.not_le.mpr h5) g5 d (kk ad H locs ls g1 g2 g3 g4 g5 g6)
/-- places renamed -/
theorem z_perm (h : Cl Z L xs) {w' : List va_E} {lv' : List (Nat × Value)} {st' : List Value} (f : Nat → Nat) (hl : w'.length = w.length) (hff : ∀ j, f (f j) = j) (hfl : ∀ j, w.length ≤ j → f j = j) (hw : ∀ j, w[f j]? = (w'[j]?).map (zE (fun i => i) f)) (hlv : lv'.map (fun q => (q.1, zV f q.2)) = lv) (hst : st'.map (zV f) = st) (kk : Z k n w' lv' pc st') : Z k n w lv pc st := by
  obtain ⟨p, l, e, s, m, args, below, meth, c, D, dA, b, Q, ⟨hx9, hb, hml, ho9, hts, hnt, hK, hA⟩, h2, h3, h4, h5, h6, rfl⟩ := h
  subst hlv; subst hst
  intro ad H locs ls g1 g2 g3 g4 g5 g6
  have key : ∀ j, (zW dA (fun j => ad (f j)) w')[j]? = (zW dA ad w)[f j]? := fun j => by
    simp only [zW, List.getElem?_mapIdx]
    rw [hw j]
    cases w'[j]? with
    | none => rfl
    | some x => show some (ad (f j), _) = some (ad (f j), _); rw [zE_comp]
  have e1 : (st'.map (zV f)).map (zV ad) = st'.map (zV (fun j => ad (f j))) := by
    rw [List.map_map]
    exact List.map_congr_left fun v _ => zV_comp v
  have e2 : zL ad (lv'.map (fun q => (q.1, zV f q.2))) = zL (fun j => ad (f j)) lv' := by
    unfold zL
    rw [List.map_map]
    exact List.map_congr_left fun q _ => by show (q.1, zV ad (zV f q.2)) = _; rw [zV_comp]
  rw [e1]
  refine kk (fun j => ad (f j)) H locs ls (fun i hi => ?_) (Nat.zero_le _) (fun j x hx => ?_) ⟨fun i j x y hx hy hxy => ?_, fun j x hx => ?_⟩ g5 (by rw [← e2]; exact g6)
  · rcases hi with hi | hi
    · exact absurd hi (Nat.not_lt_zero _)
    · rw [hl] at hi
      show ad (f i) = b
      rw [hfl i hi]
      exact g1 i (Or.inr hi)
  · rw [key] at hx
    exact g3 _ x hx
  · rw [key] at hx hy
    have := g4.1 _ _ x y hx hy hxy
    rw [← hff i, ← hff j, this]
  · rw [key] at hx
    exact g4.2 _ x hx
end ZLw
theorem zRm {y : MethodName} {c : ByteArray} {n np : Nat} {r : Option FieldType} {Ry : Room} (h : zFit y c n r Ry (rm 20) np) : zFit y c n r Ry room_1 np := by
  obtain ⟨h1, h2, h3, h4, h5, h6⟩ := h
  refine ⟨h1, h2, h3, h4, ?_, ?_⟩
  · exact Nat.le_trans h5 (by decide)
  · exact Nat.le_trans h6 (by decide)
abbrev is5 : List Nat := [28, 29, 30, 31, 32]
abbrev isH : List Nat := [0, 1, 2, 3, 4, 5, 6, 7, 8, 9, 10, 11, 12, 13, 14, 15, 16, 17, 18, 19, 20, 21, 22, 23, 24, 25, 26, 27, 33]
abbrev mSh (wM : List va_E) : List va_E := wM.map (zE (fun i => i) (zfd is5))
abbrev LW (wD wM : List va_E) (f : Nat → Int) : List va_E := wD ++ (mSh wM ++ [al 1 f])
theorem LW_len {wD wM : List va_E} {f : Nat → Int} (h1 : wD.length = 28) (h2 : wM.length = 5) : (LW wD wM f).length = 34 := by
  simp [h1, h2]
theorem five {w : List va_E} (h : w.length = 5) : ∃ a b c d e, w = [a, b, c, d, e] := by
  match w, h with
  | [a, b, c, d, e], _ => exact ⟨a, b, c, d, e, rfl⟩
theorem hw5 {wD wM : List va_E} {f : Nat → Int} (h1 : wD.length = 28) (h2 : wM.length = 5) : is5.map (fun i => (LW wD wM f)[i]?) = wM.map (fun e => some (zE (fun i => i) (zfd is5) e)) := by
  obtain ⟨a, b, c, d, e, rfl⟩ := five h2
  simp [List.getElem?_append_right, h1]
theorem put5L {wD wM w' : List va_E} {f : Nat → Int} (h1 : wD.length = 28) (h2 : wM.length = 5) (h3 : w'.length = 5) : zput (LW wD wM f) is5 (w'.map (zE (fun i => i) (zfd is5))) = LW wD w' f := by
  obtain ⟨a, b, c, d, e, rfl⟩ := five h2
  obtain ⟨a', b', c', d', e', rfl⟩ := five h3
  simp [zput, List.set_append, h1]
theorem wfE_R (e : va_E) : wfE 28 (zE (fun i => i) (zfn isR) e) := by
  have key : ∀ x, zfn isR x < 28 := fun x => by
    by_cases hx : x < 10
    · revert hx; revert x; decide
    · unfold zfn
      rw [List.getD_eq_getElem?_getD, List.getElem?_eq_none (by simpa using hx)]
      decide
  rcases e with ⟨c, N, g | g | g | g | g⟩ | q
  · trivial
  · trivial
  · trivial
  · trivial
  · intro j a hj
    cases hg : g j with
    | none => simp [hg] at hj
    | some x =>
      simp only [hg, Option.map_some, Option.some.injEq] at hj
      rw [← hj]
      exact key x
  · intro v hv
    obtain ⟨u, hu, rfl⟩ := List.mem_map.mp hv
    cases u <;> first | trivial | exact key _
theorem DW_wf {Q : Nat} {c : Nat → Nat} {v b v2 b2 : Nat} {w : List va_E} (h : DW Q c v b v2 b2 w) : wfW 28 w := by
  obtain ⟨w0, D, r, dp, wk, sm, rfl, ⟨gu, pg, dg, td, s, a, g, pw, gu2, pg2, dg2, td2, s2, a2, g2, pw2, sl, sr, sq, l, r9, q, rfl, -⟩, -⟩ := h
  intro e he
  rcases List.mem_append.mp he with h1 | h1
  · exact wfW_b (n := 28) rfl e h1
  · obtain ⟨x, hx, rfl⟩ := List.mem_map.mp h1
    exact wfE_R x
theorem isH_at : ∀ k, k < 28 → isH[k]? = some k := by decide
theorem zH_id {w : List va_E} (hw : wfW 28 w) : w.map (zE (fun i => i) (zfn isH)) = w := by
  conv => rhs; rw [← List.map_id w]
  refine List.map_congr_left fun e he => ?_
  rw [zE_agree (n := 28) (g := fun i => i) (fun i hi => zfn_at i i (isH_at i hi)) (hw e he), zE_id]
  rfl
theorem zH_out {w : List va_E} {f : Nat → Int} (hw : wfW 28 w) : (w ++ [al 1 f]).map (zE (fun i => i) (zfn isH)) = w ++ [al 1 f] := by
  rw [List.map_append, zH_id hw]
  rfl
theorem hwH {wD wM : List va_E} {f : Nat → Int} (h1 : wD.length = 28) (h2 : wM.length = 5) (hw : wfW 28 wD) : isH.map (fun i => (LW wD wM f)[i]?) = (wD ++ [al 1 f]).map (fun e => some (zE (fun i => i) (zfn isH) e)) := by
  rw [show (wD ++ [al 1 f]).map (fun e => some (zE (fun i => i) (zfn isH) e)) = ((wD ++ [al 1 f]).map (zE (fun i => i) (zfn isH))).map some by rw [List.map_map]; rfl, zH_out hw]
  apply List.ext_getElem?
  intro k
  rw [List.getElem?_map, List.getElem?_map]
  by_cases hk : k < 28
  · rw [isH_at k hk]
    show some ((LW wD wM f)[k]?) = _
    rw [List.getElem?_append_left (by omega), List.getElem?_append_left (by omega), List.getElem?_eq_getElem (by omega)]
    rfl
  · by_cases hk2 : k = 28
    · subst hk2
      obtain ⟨a, b, c, d, e, rfl⟩ := five h2
      simp [List.getElem?_append_right, h1]
    · rw [List.getElem?_eq_none (by show (29 : Nat) ≤ k; omega), List.getElem?_eq_none (by rw [List.length_append, h1]; show 28 + 1 ≤ k; omega)]
      rfl
theorem putH {wD wM wD' : List va_E} {f f' : Nat → Int} (h1 : wD.length = 28) (h2 : wM.length = 5) (h3 : wD'.length = 28) (hw : wfW 28 wD') : zput (LW wD wM f) isH ((wD' ++ [al 1 f']).map (zE (fun i => i) (zfn isH))) = LW wD' wM f' := by
  rw [zH_out hw]
  apply List.ext_getElem?
  intro k
  have hin := va_nd_inj isH (by decide)
  have hl := LW_len (f := f) h1 h2
  by_cases hk : k < 28
  · rw [zput_at isH _ _ k k wD'[k] hin (isH_at k hk) (by rw [List.getElem?_append_left (by omega), List.getElem?_eq_getElem (by omega)]) (by omega), List.getElem?_append_left (by omega), List.getElem?_eq_getElem (by omega)]
  · obtain ⟨a, b, c, d, e, rfl⟩ := five h2
    by_cases hk3 : k < 33
    · have : k = 28 ∨ k = 29 ∨ k = 30 ∨ k = 31 ∨ k = 32 := by omega
      rcases this with rfl | rfl | rfl | rfl | rfl <;> (rw [zput_ne isH _ _ _ (by decide)]; simp [List.getElem?_append_right, h1, h3])
    · by_cases hk4 : k = 33
      · subst hk4
        rw [zput_at isH _ _ 28 33 (al 1 f') hin rfl (by simp [List.getElem?_append_right, h3]) (by omega)]
        simp [List.getElem?_append_right, h3]
      · rw [List.getElem?_eq_none (by rw [zput_len]; omega), List.getElem?_eq_none (by rw [LW_len h3 rfl]; omega)]
