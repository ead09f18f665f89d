/-! making objects while a local holds the script: its place is far beyond the world -/
abbrev pS : Nat := 1000
def wfM (n : Nat) (lv : List (Nat × Value)) : Prop := ∀ q ∈ lv, wfV n q.2 ∨ q.2 = .ref pS
theorem zM_agree {n : Nat} {f g : Nat → Nat} (h : ∀ i, i < n → f i = g i) (h' : f pS = g pS) {lv : List (Nat × Value)} (hs : wfM n lv) : zL f lv = zL g lv := List.map_congr_left fun q hq => by
  rcases hs q hq with h1 | h1
  · rw [zV_agree h h1]
  · rw [h1]
    show (q.1, Value.ref (f pS)) = (q.1, Value.ref (g pS))
    rw [h']
def wbM (n : Nat) : Value → Bool
  | .ref k => Nat.blt k n || Nat.beq k pS
  | _ => true
theorem wfM_b {n : Nat} {lv : List (Nat × Value)} (h : lv.all (fun q => wbM n q.2) = true) : wfM n lv := fun q hq => by
  have h1 := List.all_eq_true.mp h q hq
  obtain ⟨i, v⟩ := q
  cases v <;> first | exact Or.inl trivial | skip
  rename_i k
  rcases Bool.or_eq_true _ _ ▸ h1 with h2 | h2
  · exact Or.inl (Nat.le_of_ble_eq_true h2)
  · exact Or.inr (by rw [show k = pS from Nat.eq_of_beq_eq_true h2])
section ZA2
variable {Z : ZP} {own : String} {cc : ByteArray} {nL : Nat} {R : Room} {k n pc : Nat} {w : List va_E} {lv : List (Nat × Value)} {st : List Value}
theorem z_grow2 {p : Program} {l : Launch} {e : Env} {s : State} {m : MethodId} {args : Array Value} {below : List Frame} {meth : Method} {c : Code} {D : va_G} {dA : Nat → Nat} {A : Nat → Prop} {ad0 ad : Nat → Nat} {n0 q : Nat} {Q : State → Prop} {x : va_E} {pc' : Nat} {H1 : Heap} {locs : List Loc} {ls : Array Slot}
    (ww : wfW w.length w) (wl : wfM w.length lv) (wN : w.length < 900) (ws : wfS w.length st) (wx : wfE w.length x) (h1 : ∀ i, (i < n0 ∨ w.length ≤ i) → ad i = ad0 i) (h2 : n0 ≤ w.length) (h6 : lv_has ls nL (zL ad lv)) (g3 : va_P D clz (zW dA ad w ++ [(q, zE dA ad x)]) H1) (g4 : va_D A (zW dA ad w ++ [(q, zE dA ad x)])) (g5 : va_S A s.heap H1 locs)
    (kk : Zof p l e R s m args below meth c nL D dA A ad0 n0 Q k n (w ++ [x]) lv pc' (.ref w.length :: st)) : W p l e R s m args below meth c H1 locs k n Q (F0 m pc' ls (.ref q :: st.map (zV ad))) := by
  have hag : ∀ i, i < w.length → ad i = adx ad w.length q i := fun i hi => adx_lt hi
  have e1 : zW dA (adx ad w.length q) (w ++ [x]) = zW dA ad w ++ [(q, zE dA ad x)] := by
    rw [zW_app, ← zW_agree hag ww, zE_agree hag wx]
    show _ ++ [(adx ad w.length q (w.length + 0), _)] = _
    rw [show adx ad w.length q (w.length + 0) = q from if_pos rfl]
  have e2 : (Value.ref w.length :: st).map (zV (adx ad w.length q)) = .ref q :: st.map (zV ad) := by
    rw [List.map_cons, ← zS_agree hag ws]
    show Value.ref (adx ad w.length q w.length) :: _ = _
    rw [show adx ad w.length q w.length = q from if_pos rfl]
  rw [← e2]
  refine kk (adx ad w.length q) H1 locs ls (fun i hi => ?_) (by rw [List.length_append]; omega) (by rw [e1]; exact g3) (by rw [e1]; exact g4) g5 (by rw [← zM_agree hag (by have g8 : pS = 1000 := rfl; unfold adx; rw [if_neg (by omega)]) wl]; exact h6)
  rw [List.length_append, List.length_singleton] at hi
  unfold adx
  rw [if_neg (by omega)]
  exact h1 i (by omega)
theorem z_new2 (h : Cb Z own cc nL R) {C : String} {T : u_T} {N ci ix : Nat} {ty0 : Nat → FieldType} {fs : List Value} (d : decode cc pc = .ok (.new ix, 3)) (hin : ∀ w ∈ u_ws C T N, w ∈ TT) (hty : ∀ k, k < N → parseFieldDescriptor (T k).2.2.1 = some (ty0 k)) (hcl : Cond.classLink own ix C ∈ TT) (hinst : Cond.instantiable C N ∈ TT) (hini : Cond.initialized C ∈ TT) (hc : clz[ci]? = some (C, T, N)) (hfs : ∀ j, j < N → defaultValue (ty0 j) = vp_V fs j) (hfw : ∀ v ∈ fs, ∀ a, v ≠ .ref a) (hk : k + 1 ≤ R.cells) (hn : n + N ≤ R.slots) (ww : wfW w.length w) (wl : wfM w.length lv) (wN : w.length < 900) (ws : wfS w.length st)
    (kk : Z (k + 1) (n + N) (w ++ [.inr (ci, fs)]) lv (pc + 3) (.ref w.length :: st)) : Z k n w lv pc st := by
  obtain ⟨p, l, e, s, m, args, below, meth, c, D, dA, A, ad0, n0, Q, ⟨hx, hb, hml, ho, hts, hnt, hK, hA⟩, rfl⟩ := h
  intro ad H locs ls h1 h2 h3 h4 h5 h6
  have hid : fs.map (zV ad) = fs := by
    conv => rhs; rw [← List.map_id fs]
    apply List.map_congr_left
    intro v hv
    cases v <;> first | rfl | exact absurd rfl (hfw _ hv _)
  refine va_new hx hb hts hin ty0 hty ho (hts _ hcl) (hts _ hinst) (hts _ hini) hK h3 h4 h5 hA hc hfs hk hn d (fun q H1 g3 g4 g5 => ?_)
  have e0 : (.inr (ci, fs) : va_E) = zE dA ad (.inr (ci, fs)) := by
    show _ = (.inr (ci, fs.map (zV ad)) : va_E)
    rw [hid]
  rw [e0] at g3 g4
  exact z_grow2 (x := .inr (ci, fs)) ww wl wN ws (fun v hv => by cases v <;> first | trivial | exact absurd rfl (hfw _ hv _)) h1 h2 h6 g3 g4 g5 kk
theorem z_newJ2 (h : Cb Z own cc nL R) {N : Nat} (d : decode cc pc = .ok (.newarray .long, 2)) (ha : Cond.arrayClass .long ∈ TT) (hN : N < 100000) (hk : k + 1 ≤ R.cells) (hn : n + N ≤ R.slots) (ww : wfW w.length w) (wl : wfM w.length lv) (wN : w.length < 900) (ws : wfS w.length st)
    (kk : Z (k + 1) (n + N) (w ++ [al N (fun _ => 0)]) lv (pc + 2) (.ref w.length :: st)) : Z k n w lv pc (.int (nI N) :: st) := by
  obtain ⟨p, l, e, s, m, args, below, meth, c, D, dA, A, ad0, n0, Q, ⟨hx, hb, hml, ho, hts, hnt, hK, hA⟩, rfl⟩ := h
  intro ad H locs ls h1 h2 h3 h4 h5 h6
  refine va_newa (ty := .long) (N' := N) (a0 := (N, .inr (.inl (fun _ => 0)))) hx hb (atype := .long) (hts _ ha) rfl hK h3 h4 h5 hA ?_ (nI_pos (by omega)) (nI_clamp (by omega)) (by show N * 8 ≤ 536870912; omega) hk hn d (fun q cA H1 gK g3 g4 g5 => ?_)
  · intro cA
    rfl
  · have e9 : cA = dA 1 := by
      have a1 := (gK.2 3 (cA, .long) (by simp)).2
      have a2 := (hK.2 1 (dA 1, .long) rfl).2
      exact Option.some.inj ((show s.vm.findClass _ = some cA from a1).symm.trans a2)
    subst e9
    exact z_grow2 (x := al N (fun _ => 0)) ww wl wN ws trivial h1 h2 h6 g3 g4 g5 kk
end ZA2
section ZCoreG2
variable {p : Program} {l : Launch} {e : Env} {R : Room} {s : State} {m : MethodId} {args : Array Value} {below : List Frame} {meth : Method} {c : Code} {H : Heap} {locs : List Loc} {cells slots : Nat} {Q : State → Prop}
set_option maxHeartbeats 2000000 in
theorem zcoreG2 {D : va_G} {dA ad ad0 : Nat → Nat} {A free : Nat → Prop} {w wc : List va_E} {is : List Nat} {pc mc ms n0 nL : Nat} {ls : Array Slot} {st st0 : List Value} {a : Array Value} {lv : List (Nat × Value)} {Post : Option Value → List va_E → Prop}
    (hr : va_Run p l e R s m args below meth c H locs cells slots mc ms (F0 m pc ls st0) (st.map (zV ad)) (zQ D dA (va_A (zW dA (fun j => ad (zfn is j)) wc) H.size) (fun j => ad (zfn is j)) wc.length Post a) free)
    (hfree : ∀ q, free q → va_A (zW dA (fun j => ad (zfn is j)) wc) H.size q) (hnd : va_nd is = true) (hw : is.map (fun i => w[i]?) = wc.map (fun e => some (zE (fun i => i) (zfn is) e))) (hwf : ∀ r w', Post r w' → wfW w'.length w' ∧ ∀ v, r = some v → wfV w'.length v) (ww : wfW w.length w) (wl : wfM w.length lv) (wN : w.length < 900) (wG : ∀ r w', Post r w' → w'.length ≤ wc.length + 50) (wst : wfS w.length st)
    (hA : ∀ q, s.heap.size ≤ q → A q) (h1 : ∀ i, (i < n0 ∨ w.length ≤ i) → ad i = ad0 i) (h2 : n0 ≤ w.length) (h3 : va_P D clz (zW dA ad w) H) (h4 : va_D A (zW dA ad w)) (h5 : va_S A s.heap H locs) (h6 : lv_has ls nL (zL ad lv))
    (kk : ∀ r w', Post r w' → wc.length ≤ w'.length → Zof p l e R s m args below meth c nL D dA A ad0 n0 Q (cells + mc) (slots + ms) (zput w is (w'.map (zE (fun i => i) (zfx is w.length))) ++ (w'.drop wc.length).map (zE (fun i => i) (zfx is w.length))) lv (pc + 3) ((r.map (zV (zfx is w.length))).toList ++ st)) : W p l e R s m args below meth c H locs cells slots Q (F0 m pc ls st0) := by
  have hpick := zpick (dA := dA) (ad := ad) (zfn_at (is := is)) hw
  have hFc := va_free (wc := zW dA (fun j => ad (zfn is j)) wc) h4 h5 hA is hpick
  have hinj := va_nd_inj is hnd
  have hislen : is.length = wc.length := by have := congrArg List.length hw; simpa using this
  intro T hT X
  obtain ⟨v, st₀, t, T', L, h0, X', hL, e1, e2, ⟨⟨r, w', ad', hv, hag, hn0, hP1, hD1, hp⟩, hz, hk⟩, go⟩ := hr T hT X
  cases hv
  rw [h0] at hz hk
  obtain ⟨hwf1, hwf2⟩ := hwf r w' hp
  have hsz : ∀ (k : Nat) (x : Nat × va_E), (zW dA ad w)[k]? = some x → x.1 < H.size := fun k x hx => (h3 k x hx).lt
  have hisl : ∀ (j i : Nat), is[j]? = some i → i < w.length := fun j i hj => by
    have h9 : (is.map (fun i => w[i]?))[j]? = some (w[i]?) := by rw [List.getElem?_map, hj]; rfl
    rw [hw, List.getElem?_map] at h9
    cases hq : wc[j]? with
    | none => rw [hq] at h9; cases h9
    | some x =>
      rw [hq] at h9
      have := (Option.some.inj h9).symm
      exact (List.getElem?_eq_some_iff.mp this).1
  generalize hNe : w.length = N at *
  generalize had2 : (fun i => if i < N then ad i else if i < N + (w'.length - wc.length) then ad' (wc.length + (i - N)) else ad i) = ad2
  have ad2o : ∀ i, i < N → ad i = ad2 i := fun i hi => by rw [← had2]; simp [hi]
  have ad2n : ∀ j, wc.length ≤ j → j < w'.length → ad2 (N + (j - wc.length)) = ad' j := fun j g1 g2 => by
    rw [← had2]
    simp only
    rw [if_neg (by omega), if_pos (by omega)]
    congr 1
    omega
  have hf' : ∀ j, j < w'.length → ad2 (zfx is N j) = ad' j := fun j hj => by
    unfold zfx
    by_cases hq : j < is.length
    · rw [if_pos hq]
      have hg : is[j]? = some (is.getD j 0) := by rw [List.getD_eq_getElem?_getD, List.getElem?_eq_getElem hq]; rfl
      rw [← ad2o _ (hisl j _ hg), hag j (Or.inl (by omega))]
      rfl
    · rw [if_neg hq, hislen]
      exact ad2n j (by omega) hj
  have hE : ∀ (j : Nat) (e9 : va_E), w'[j]? = some e9 → zE dA ad2 (zE (fun i => i) (zfx is N) e9) = zE dA ad' e9 := fun j e9 hj => by
    rw [zE_comp]
    exact zE_agree hf' (hwf1 e9 (List.mem_of_getElem? hj))
  have hnew : ∀ j, wc.length ≤ j → j < w'.length → H.size ≤ ad' j := fun j g1 g2 => by
    obtain ⟨e9, he9⟩ : ∃ e9, w'[j]? = some e9 := ⟨_, List.getElem?_eq_getElem g2⟩
    rcases hD1.2 j _ (zW_at he9) with ⟨k0, e8, h8⟩ | h
    · exfalso
      have hk0 : k0 < wc.length := by
        have := (List.getElem?_eq_some_iff.mp h8).1
        rw [zW_len] at this
        exact this
      obtain ⟨e7, he7⟩ : ∃ e7, wc[k0]? = some e7 := ⟨_, List.getElem?_eq_getElem hk0⟩
      rw [zW_at he7] at h8
      have h9 : ad (zfn is k0) = ad' j := congrArg Prod.fst (Option.some.inj h8)
      obtain ⟨e6, he6⟩ : ∃ e6, w'[k0]? = some e6 := ⟨_, List.getElem?_eq_getElem (by omega)⟩
      have := hD1.1 k0 j _ _ (zW_at he6) (zW_at he9) (by show ad' k0 = ad' j; rw [← h9]; exact hag k0 (Or.inl hk0))
      omega
    · exact h
  -- the new world, place by place
  generalize hW2 : zput w is (w'.map (zE (fun i => i) (zfx is N))) ++ (w'.drop wc.length).map (zE (fun i => i) (zfx is N)) = w2
  have hw2l : w2.length = N + (w'.length - wc.length) := by rw [← hW2, List.length_append, zput_len, hNe, List.length_map, List.length_drop]
  have hcase : ∀ (k : Nat) (x : Nat × va_E), (zW dA ad2 w2)[k]? = some x → (k < N ∧ x.1 = ad k ∧ ((k ∉ is ∧ (zW dA ad w)[k]? = some x) ∨ ∃ j : Nat, is[j]? = some k ∧ (zW dA ad' w')[j]? = some x)) ∨ (∃ j : Nat, wc.length ≤ j ∧ j < w'.length ∧ k = N + (j - wc.length) ∧ (zW dA ad' w')[j]? = some x) := by
    intro k x hx
    have hkl : k < w2.length := by
      have := (List.getElem?_eq_some_iff.mp hx).1
      rw [zW_len] at this
      exact this
    by_cases hkN : k < N
    · left
      have hg : w2[k]? = (zput w is (w'.map (zE (fun i => i) (zfx is N))))[k]? := by
        rw [← hW2, List.getElem?_append_left (by rw [zput_len, hNe]; exact hkN)]
      by_cases hm : k ∈ is
      · obtain ⟨j, hj⟩ := List.getElem?_of_mem hm
        have hjl : j < w'.length := by
          have := (List.getElem?_eq_some_iff.mp hj).1
          omega
        obtain ⟨e9, he9⟩ : ∃ e9, w'[j]? = some e9 := ⟨_, List.getElem?_eq_getElem hjl⟩
        have h9 := zput_at is w (w'.map (zE (fun i => i) (zfx is N))) j k (zE (fun i => i) (zfx is N) e9) hinj hj (by rw [List.getElem?_map, he9]; rfl) (by rw [hNe]; exact hkN)
        rw [← hg] at h9
        rw [zW_at h9] at hx
        cases hx
        have hz2 : ad' j = ad k := by
          rw [hag j (Or.inl (by rw [← hislen]; exact (List.getElem?_eq_some_iff.mp hj).1))]
          show ad (zfn is j) = ad k
          rw [zfn_at j k hj]
        refine ⟨hkN, (ad2o k hkN).symm, Or.inr ⟨j, hj, ?_⟩⟩
        rw [zW_at he9, hE j e9 he9, ← ad2o k hkN, hz2]
      · obtain ⟨e9, he9⟩ : ∃ e9, w[k]? = some e9 := ⟨_, List.getElem?_eq_getElem (by rw [hNe]; exact hkN)⟩
        have h9 : w2[k]? = some e9 := by rw [hg, zput_ne is w _ k hm]; exact he9
        rw [zW_at h9] at hx
        cases hx
        refine ⟨hkN, (ad2o k hkN).symm, Or.inl ⟨hm, ?_⟩⟩
        rw [zW_at he9, ← ad2o k hkN, zE_agree ad2o (ww e9 (List.mem_of_getElem? he9))]
    · right
      obtain ⟨j, hj⟩ : ∃ j, j = wc.length + (k - N) := ⟨_, rfl⟩
      have hjl : j < w'.length := by omega
      obtain ⟨e9, he9⟩ : ∃ e9, w'[j]? = some e9 := ⟨_, List.getElem?_eq_getElem hjl⟩
      have h9 : w2[k]? = some (zE (fun i => i) (zfx is N) e9) := by
        rw [← hW2, List.getElem?_append_right (by rw [zput_len, hNe]; omega), zput_len, hNe, List.getElem?_map, List.getElem?_drop, ← hj, he9]
        rfl
      rw [zW_at h9] at hx
      cases hx
      have hk9 : k = N + (j - wc.length) := by omega
      refine ⟨j, by omega, hjl, hk9, ?_⟩
      rw [zW_at he9, hE j e9 he9]
      congr 2
      rw [hk9]
      exact (ad2n j (by omega) hjl).symm
  have hP' : va_P D clz (zW dA ad2 w2) T'.heap := by
    intro k x hx
    rcases hcase k x hx with ⟨hkN, hxa, ⟨hm, hq⟩ | ⟨j, hj, hq⟩⟩ | ⟨j, -, -, -, hq⟩
    · refine (h3 k x hq).kept ?_
      rw [e1]
      refine hk x.1 (hsz k x hq) (fun q => ?_)
      rcases q with ⟨j, e8, h8⟩ | q
      · have h7 : (is.map (fun i => (zW dA ad w)[i]?))[j]? = some (some (x.1, e8)) := by rw [hpick, List.getElem?_map, h8]; rfl
        rw [List.getElem?_map] at h7
        cases hi : is[j]? with
        | none => rw [hi] at h7; cases h7
        | some i =>
          rw [hi] at h7
          have h6' : (zW dA ad w)[i]? = some (x.1, e8) := Option.some.inj h7
          have := h4.1 k i _ _ hq h6' rfl
          subst this
          exact hm (List.mem_of_getElem? hi)
      · exact absurd q (Nat.not_le.mpr (hsz k x hq))
    · rw [e1]; exact hP1 j x hq
    · rw [e1]; exact hP1 j x hq
  have hold : ∀ k x, k < N → x = ad k → x < H.size ∧ A x := fun k x hkN hxa => by
    obtain ⟨e9, he9⟩ : ∃ e9, w[k]? = some e9 := ⟨_, List.getElem?_eq_getElem (by rw [hNe]; exact hkN)⟩
    rw [hxa]
    exact ⟨hsz k _ (zW_at he9), h4.2 k _ (zW_at he9)⟩
  have hadd : ∀ (j : Nat) (x : Nat × va_E), (zW dA ad' w')[j]? = some x → x.1 = ad' j := fun j x hx => by
    have hjl : j < w'.length := by
      have := (List.getElem?_eq_some_iff.mp hx).1
      rw [zW_len] at this
      exact this
    obtain ⟨e9, he9⟩ : ∃ e9, w'[j]? = some e9 := ⟨_, List.getElem?_eq_getElem hjl⟩
    rw [zW_at he9] at hx
    exact (congrArg Prod.fst (Option.some.inj hx)).symm
  have hD' : va_D A (zW dA ad2 w2) := by
    refine ⟨fun i j x y hx hy hxy => ?_, fun k x hx => ?_⟩
    · rcases hcase i x hx with ⟨g1, g2, -⟩ | ⟨i', g1, g2, g3, g4⟩ <;> rcases hcase j y hy with ⟨f1, f2, -⟩ | ⟨j', f1, f2, f3, f4⟩
      · obtain ⟨e8, he8⟩ : ∃ e9, w[i]? = some e9 := ⟨_, List.getElem?_eq_getElem (by rw [hNe]; exact g1)⟩
        obtain ⟨e9, he9⟩ : ∃ e9, w[j]? = some e9 := ⟨_, List.getElem?_eq_getElem (by rw [hNe]; exact f1)⟩
        exact h4.1 i j _ _ (zW_at he8) (zW_at he9) (by show ad i = ad j; rw [← g2, ← f2]; exact hxy)
      · have := (hold i x.1 g1 g2).1
        have := hnew j' f1 f2
        have := hadd j' y f4
        omega
      · have := (hold j y.1 f1 f2).1
        have := hnew i' g1 g2
        have := hadd i' x g4
        omega
      · have := hD1.1 i' j' _ _ g4 f4 hxy
        omega
    · rcases hcase k x hx with ⟨g1, g2, -⟩ | ⟨i', g1, g2, g3, g4⟩
      · exact (hold k x.1 g1 g2).2
      · rw [hadd i' x g4]
        exact hA _ (Nat.le_trans h5.1 (hnew i' g1 g2))
  have hS' : va_S A s.heap T'.heap (locs ++ L) := ⟨Nat.le_trans h5.1 (by rw [e1]; exact hz), fun q g1 g2 => by
      rw [e1, hk q (Nat.lt_of_lt_of_le g1 h5.1) (fun z => g2 (hFc q z))]
      exact h5.2.1 q g1 g2, fun q hq => by
      rcases List.mem_append.mp hq with h | h
      · exact h5.2.2 q h
      · exact hFc _ (hfree _ (hL q h))⟩
  have kk1 := kk r w' hp hn0
  rw [hW2] at kk1
  obtain ⟨t2, a1, b1⟩ := kk1 ad2 T'.heap (locs ++ L) ls (fun i hi => by
      rcases hi with hi | hi
      · rw [← ad2o i (by omega)]
        exact h1 i (Or.inl hi)
      · rw [← had2]
        simp only
        rw [if_neg (by omega), if_neg (by omega)]
        exact h1 i (Or.inr (by omega))) (by omega) hP' hD' hS' (by rw [← zM_agree ad2o (by have g8 : pS = 1000 := rfl; rw [← had2]; simp only; have g9 := wG r w' hp; rw [if_neg (by omega), if_neg (by omega)]) wl]; exact h6) T' rfl X'
  refine ⟨t2, go t2 ?_, b1⟩
  have e7 : (((r.map (zV (zfx is N))).toList ++ st).map (zV ad2)) = (r.map (zV ad')).toList ++ st.map (zV ad) := by
    rw [List.map_append, zS_agree ad2o wst]
    congr 1
    cases r with
    | none => rfl
    | some x =>
      show [zV ad2 (zV (zfx is N) x)] = [zV ad' x]
      rw [zV_comp, zV_agree hf' (hwf2 x rfl)]
  rw [← e7]
  exact a1
end ZCoreG2
section ZI2
variable {Z : ZP} {own : String} {cc : ByteArray} {nL : Nat} {R : Room} {k n pc : Nat} {w : List va_E} {lv : List (Nat × Value)} {st : List Value}
variable {y : MethodName} {cy : ByteArray} {ny : Nat} {Ry : Room} {As : List Value} {wc : List va_E} {Post : Option Value → List va_E → Prop}
set_option maxHeartbeats 2000000 in
theorem z_cI2 (h : Cy Z own cc nL R) {stk : List Value} {b0 ix : Nat} (hM : MI y cy ny Ry (.ref b0 :: As) wc Post) (hF : zFit y cy ny none Ry R As.length) (hyn : y.name = "<init>") (hl : Cond.methodLink own ix y ∈ TT) (hi : Cond.instanceMethod y ∈ TT) (d : decode cc pc = .ok (.invokespecial ix, 3)) (hk : k + Ry.cells ≤ R.cells ∧ n + Ry.slots ≤ R.slots) (is : List Nat) (hnd : va_nd is = true) (hw : is.map (fun i => w[i]?) = wc.map (fun e => some (zE (fun i => i) (zfn is) e))) (hst : (st.map fun v => v.category).sum ≤ 8) (hstk : ((As.map (zV (zfn is))).reverse ++ .ref (zfn is b0) :: st) = stk) (hwf : ∀ r w', Post r w' → wfW w'.length w' ∧ ∀ v, r = some v → wfV w'.length v) (ww : wfW w.length w) (wl : wfM w.length lv) (wN : w.length < 900) (wG : ∀ r w', Post r w' → w'.length ≤ wc.length + 50) (wst : wfS w.length st)
    (kk : ∀ r w', Post r w' → wc.length ≤ w'.length → Z (k + Ry.cells) (n + Ry.slots) (zput w is (w'.map (zE (fun i => i) (zfx is w.length))) ++ (w'.drop wc.length).map (zE (fun i => i) (zfx is w.length))) lv (pc + 3) ((r.map (zV (zfx is w.length))).toList ++ st)) : Z k n w lv pc stk := by
  subst hstk
  obtain ⟨p, l, e, s, m, args, below, meth, c, D, dA, A, ad0, n0, Q, ⟨hx, hb, hml, ho, hts, hnt, hK, hA⟩, htr, hX, hnst, rfl⟩ := h
  intro ad H locs ls h1 h2 h3 h4 h5 h6
  obtain ⟨f1, f2, f3, f4, f5, f6⟩ := hF
  have hpick := zpick (dA := dA) (ad := ad) (zfn_at (is := is)) hw
  have hPc : va_P D clz (zW dA (fun j => ad (zfn is j)) wc) H := h3.sub is (zmap_filter hpick)
  have hDc : va_D A (zW dA (fun j => ad (zfn is j)) wc) := h4.sub is hnd hpick
  have hpay := pay_in (args := args) (s := s) hts (zgood f1)
  have hlenY : ∀ sig, parseMethodDescriptor y.desc = some sig → As.length = sig.parameters.length := fun sig hs => by
    rw [hs] at f4
    exact (Option.some.inj f4).symm
  have hc1 : (Cond.code y cy ny none).before args s = true := hts _ f1
  have hmem : Cond.code y cy ny none ∈ (Cond.code y cy ny none :: TT) := List.mem_cons_self
  have e0 : ((As.map (zV (zfn is))).reverse ++ .ref (zfn is b0) :: st).map (zV ad) = (As.map (zV (fun j => ad (zfn is j)))).reverse ++ .ref (ad (zfn is b0)) :: st.map (zV ad) := by
    simp only [List.map_append, List.map_reverse, List.map_map, List.map_cons]
    congr 2
    apply List.map_congr_left
    intro v _
    exact zV_comp v
  rw [e0]
  refine zcoreG2 (va_runI (As := As.map (zV (fun j => ad (zfn is j)))) (rest := st.map (zV ad)) (n := As.length) ⟨hx, hb, hml, ho, hts⟩ (hM l D dA (fun j => ad (zfn is j)) H.size htr) ⟨⟨rfl, rfl, f5, f6, hpay, hmem, hc1, hts _ f2, f3, hlenY, hts _ hl⟩, hyn, hts _ hi⟩ ⟨zblindX, fun U hU hW => ⟨rfl, ⟨by rw [hU], by rw [hU]; exact hPc, va_K.moved hW.alike hK, nt_warm hW hnt, hDc.weaken (fun _ _ _ _ => trivial)⟩, zX_to (u := s) hW (fun a cell hc hs => by
      have hna : ¬ A a := fun hA' => by rw [hnst a hA' cell hc] at hs; cases hs
      rw [hU, h5.2.1 a (Array.getElem?_eq_some_iff.mp hc).1 hna]
      exact hc) hX⟩⟩ rfl (by rw [List.length_map]) h6.1 rfl (lv_room (zcat hst)) d hk) (fun _ q => q) hnd hw hwf ww wl wN wG wst hA h1 h2 h3 h4 h5 h6 kk
end ZI2
