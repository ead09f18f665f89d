/-! the law: its calls, the script's values, the end of a case -/
theorem RS_len {v b v2 b2 t : Nat} {w : List va_E} (h : RS v b v2 b2 t w) : w.length = 5 := by
  obtain ⟨d, n, V, lf, m, kn, dg, wd, rfl, -⟩ := h
  rfl
theorem RS_recv {v b v2 b2 t : Nat} {w : List va_E} (h : RS v b v2 b2 t w) : ∃ fs : List Value, w[0]? = some (.inr (5, fs)) := by
  obtain ⟨d, n, V, lf, m, kn, dg, wd, rfl, -⟩ := h
  exact ⟨_, rfl⟩
theorem RS_thrown {v b v2 b2 t : Nat} {w : List va_E} (h : RS v b v2 b2 t w) : MS y_M_thrown c_M_thrown 1 (some .int) (rm 1) [.ref 0] w (RP (nI t) v b v2 b2 t) := by
  obtain ⟨d, n, V, lf, m, kn, dg, wd, rfl, h1⟩ := h
  refine (ms_M_thrown d n lf b b2 m kn t dg wd).mono (fun r w' hp => ?_)
  obtain ⟨_, rfl, rfl, -⟩ := hp
  exact ⟨rfl, d, n, V, lf, m, kn, dg, wd, rfl, h1⟩
theorem MH.mono {y : MethodName} {cc : ByteArray} {nL : Nat} {hs : List Hrow} {R : Room} {As : List Value} {w : List va_E} {Post Post' : Option Value → List va_E → Prop} (h : MH y cc nL hs R As w Post) (hp : ∀ r w', Post r w' → Post' r w') : MH y cc nL hs R As w Post' := by
  intro l D dA ad sz htr p e ha hc hk s m args below hf happ hP hK
  obtain ⟨n, o, h1, h2, h3, ⟨⟨⟨r, w', ad', q1, q2, q3, q4, q5, q6⟩, hF⟩, hL⟩⟩ := h l D dA ad sz htr p e ha hc hk s m args below hf happ hP hK
  exact ⟨n, o, h1, h2, h3, ⟨⟨⟨r, w', ad', q1, q2, q3, q4, q5, hp _ _ q6⟩, hF⟩, hL⟩⟩
abbrev HP (k v b v2 b2 : Nat) (o : Int) : Option Value → List va_E → Prop := fun r w' => r = some (.int (nI k)) ∧ HW qM cM v b v2 b2 o w'
section ZLc
variable {Z : ZP} {L : Nat} {xs : Nat → Int32} {k n pc : Nat} {w wD wM : List va_E} {f : Nat → Int} {lv : List (Nat × Value)} {st : List Value}
theorem z_help (h : Cl Z L xs) {y : MethodName} {cy : ByteArray} {ny : Nat} {hs : List Hrow} {As stk : List Value} {ix k9 v b v2 b2 v' b' v2' b2' : Nat} {o' : Int} (hM : MH y cy ny hs (rmT 11) As (wD ++ [al 1 f]) (HP k9 v' b' v2' b2' o')) (hD : DW qM cM v b v2 b2 wD) (hl5 : wM.length = 5) (f1 : Cond.codeWith y cy ny (some .int) hs ∈ TT) (hy : y.cls = R_L) (f4 : (parseMethodDescriptor y.desc).map (fun d => d.parameters.length) = some As.length) (f6 : ny ≤ 100) (hl : Cond.methodLink R_L ix y ∈ TT) (hs' : Cond.static y ∈ TT) (d : decode c_L_law pc = .ok (.invokestatic ix, 3)) (hk : k + 1 ≤ 601024) (hn : n + 6 ≤ 7293034) (hstk : (As.map (zV (zfn isH))).reverse = stk)
    (kk : ∀ wD' f', DW qM cM v' b' v2' b2' wD' → f' 0 = o' → Z (k + 1) (n + 6) (LW wD' wM f') lv (pc + 3) [.int (nI k9)]) : Z k n (LW wD wM f) lv pc stk := by
  have hwl := DW_len hD
  refine z_cH h.y hM f1 (by rw [hy]; exact wn_L) (by rw [hy]; decide) f4 (by decide) (by show 8 + (ny + 11) + 64 * 11 ≤ 84000; omega) hl hs' d ⟨hk, hn⟩ isH (by decide) (hwH hwl hl5 (DW_wf hD)) (st := []) (Nat.zero_le _) (by rw [List.append_nil]; exact hstk) (fun r w' hp => ?_) (fun r w' hp => ?_)
  · rw [HW_len hp.2, List.length_append, hwl]
    rfl
  · obtain ⟨rfl, w0, f', rfl, hd, hf⟩ := hp
    rw [putH hwl hl5 (DW_len hd) (DW_wf hd)]
    exact kk w0 f' hd hf
theorem z_mod (h : Cl Z L xs) {y : MethodName} {cy : ByteArray} {ny d9 : Nat} {As stk : List Value} {ix : Nat} {a : Int32} {v b v2 b2 t v' b' v2' b2' t' : Nat} (hM : MS y cy ny (some .int) (rm d9) (.ref 0 :: As) wM (RP a v' b' v2' b2' t')) (hD : wD.length = 28) (hR : RS v b v2 b2 t wM) (hF : zFit y cy ny (some .int) (rm d9) (rm 20) As.length) (hl : Cond.methodLink R_L ix y ∈ TT) (hi : Cond.instanceMethod y ∈ TT) (hs : Cond.selects R_M y y ∈ TT) (d : decode c_L_law pc = .ok (.invokevirtual ix, 3)) (hk : k ≤ 601024) (hn : n ≤ 7293034) (hAs : As.map (zV (zfd is5)) = As) (hst : (st.map fun v => v.category).sum ≤ 8) (hstk : As.reverse ++ .ref 28 :: st = stk)
    (kk : ∀ wM', RS v' b' v2' b2' t' wM' → Z k n (LW wD wM' f) lv (pc + 3) (.int a :: st)) : Z k n (LW wD wM f) lv pc stk := by
  have hl5 := RS_len hR
  refine z_dV (C := R_M) (ci := 5) h.b hM (zRm hF) hl hi hs rfl (RS_recv hR) d ⟨hk, hn⟩ is5 (by decide) (hw5 hD hl5) (st := st) hst (by rw [hAs]; exact hstk) (fun r w' hp => ?_) (fun r w' hp => ?_)
  · rw [RS_len hp.2, hl5]
  · obtain ⟨rfl, hR'⟩ := hp
    rw [put5L hD hl5 (RS_len hR')]
    exact kk w' hR'
abbrev lo2 (a b : Int32) : Int64 := a.toInt64 <<< ((nI 32).toInt64 &&& 63) ||| b.toInt64 &&& 4294967295
/-- a value of the script -/
theorem z_sc (h : Cl Z L xs) {i j : Nat} {J : Int} (hw : w.length ≤ pS) (hij : i + j < L) (hL : L < 2 ^ 31) (g0 : zg lv 0 = some (.ref pS)) (g4 : zg lv 4 = some (.int (nI i))) (hJ : Int32.ofInt J = nI j) (d0 : decode c_L_law pc = .ok (.aload_n 0, 1)) (d1 : decode c_L_law (pc + 1) = .ok (.iload 4, 2)) (d2 : decode c_L_law (pc + 3) = .ok (.iconst J, 1)) (d3 : decode c_L_law (pc + 4) = .ok (.iadd, 1)) (d4 : decode c_L_law (pc + 5) = .ok (.iaload, 1)) (kk : Z k n w lv (pc + 6) (.int (xs (i + j)) :: st)) : Z k n w lv pc st := by
  refine z_aload_n h.b d0 g0 ?_
  refine z_iload h.b d1 g4 ?_
  refine z_iconst (v := nI j) h.b d2 hJ ?_
  refine z_iadd h.b d3 ?_
  rw [show nI i + nI j = nI (i + j) from nI_add i j]
  exact z_sld h hw hij hL d4 kk
theorem z_sc6 (h : Cl Z L xs) {i : Nat} (hw : w.length ≤ pS) (hij : i + 6 < L) (hL : L < 2 ^ 31) (g0 : zg lv 0 = some (.ref pS)) (g4 : zg lv 4 = some (.int (nI i))) (d0 : decode c_L_law pc = .ok (.aload_n 0, 1)) (d1 : decode c_L_law (pc + 1) = .ok (.iload 4, 2)) (d2 : decode c_L_law (pc + 3) = .ok (.bipush 6, 2)) (d3 : decode c_L_law (pc + 5) = .ok (.iadd, 1)) (d4 : decode c_L_law (pc + 6) = .ok (.iaload, 1)) (kk : Z k n w lv (pc + 7) (.int (xs (i + 6)) :: st)) : Z k n w lv pc st := by
  refine z_aload_n h.b d0 g0 ?_
  refine z_iload h.b d1 g4 ?_
  refine z_bipush (v := nI 6) h.b d2 (by decide) ?_
  refine z_iadd h.b d3 ?_
  rw [show nI i + nI 6 = nI (i + 6) from nI_add i 6]
  exact z_sld h hw hij hL d4 kk
/-- two values of the script, as one long -/
theorem z_sl (h : Cl Z L xs) {i j : Nat} {J J1 : Int} (hw : w.length ≤ pS) (hij : i + (j + 1) < L) (hL : L < 2 ^ 31) (g0 : zg lv 0 = some (.ref pS)) (g4 : zg lv 4 = some (.int (nI i))) (hJ : Int32.ofInt J = nI j) (hJ1 : Int32.ofInt J1 = nI (j + 1)) (d0 : decode c_L_law pc = .ok (.aload_n 0, 1)) (d1 : decode c_L_law (pc + 1) = .ok (.iload 4, 2)) (d2 : decode c_L_law (pc + 3) = .ok (.iconst J, 1)) (d3 : decode c_L_law (pc + 4) = .ok (.iadd, 1)) (d4 : decode c_L_law (pc + 5) = .ok (.iaload, 1))
    (d5 : decode c_L_law (pc + 6) = .ok (.i2l, 1)) (d6 : decode c_L_law (pc + 7) = .ok (.bipush 32, 2)) (d7 : decode c_L_law (pc + 9) = .ok (.lshl, 1)) (e0 : decode c_L_law (pc + 10) = .ok (.aload_n 0, 1)) (e1 : decode c_L_law (pc + 11) = .ok (.iload 4, 2)) (e2 : decode c_L_law (pc + 13) = .ok (.iconst J1, 1)) (e3 : decode c_L_law (pc + 14) = .ok (.iadd, 1)) (e4 : decode c_L_law (pc + 15) = .ok (.iaload, 1))
    (e5 : decode c_L_law (pc + 16) = .ok (.i2l, 1)) (e6 : decode c_L_law (pc + 17) = .ok (.ldc2_w 78, 3)) (e7 : decode c_L_law (pc + 20) = .ok (.land, 1)) (e8 : decode c_L_law (pc + 21) = .ok (.lor, 1)) (kk : Z k n w lv (pc + 22) (.long (lo2 (xs (i + j)) (xs (i + (j + 1)))) :: st)) : Z k n w lv pc st := by
  refine z_sc h hw (by omega) hL g0 g4 hJ d0 d1 d2 d3 d4 ?_
  refine z_i2l h.b d5 ?_
  refine z_bipush (v := nI 32) h.b d6 (by decide) ?_
  refine z_lshl h.b d7 ?_
  refine z_sc h hw hij hL g0 g4 hJ1 e0 e1 e2 e3 e4 ?_
  refine z_i2l h.b e5 ?_
  refine z_ldc2_w h.b e6 wv_L_78 ?_
  refine z_land h.b e7 ?_
  exact z_lor h.b e8 kk
abbrev lv5 (i : Nat) : List (Nat × Value) := [(0, .ref pS), (1, .ref 0), (2, .ref 28), (3, .ref 33), (4, .int (nI i))]
abbrev lv6 (i : Nat) (a : Int32) : List (Nat × Value) := [(0, .ref pS), (1, .ref 0), (2, .ref 28), (3, .ref 33), (4, .int (nI i)), (5, .int a)]
abbrev lv7 (i : Nat) (a c : Int32) : List (Nat × Value) := [(0, .ref pS), (1, .ref 0), (2, .ref 28), (3, .ref 33), (4, .int (nI i)), (5, .int a), (6, .int c)]
theorem LW_out {f : Nat → Int} (h1 : wD.length = 28) (h2 : wM.length = 5) : (LW wD wM f)[33]? = some (al 1 f) := by
  obtain ⟨a, b, c, d, e, rfl⟩ := five h2
  simp [List.getElem?_append_right, h1]
/-- the end of a case: both sides are compared -/
theorem z_tail (h : Cl Z L xs) {i q : Nat} {a : Int32} {v b v2 b2 t : Nat} {off : Int} (hD : wD.length = 28) (hR : RS v b v2 b2 t wM) (ht : t ≤ 2) (ho : t = 0 → f 0 = a.toInt) (hk : k ≤ 601024) (hn : n ≤ 7293034)
    (d0 : decode c_L_law q = .ok (.aload_n 2, 1)) (d1 : decode c_L_law (q + 1) = .ok (.invokevirtual 75, 3)) (d2 : decode c_L_law (q + 4) = .ok (.iload 5, 2)) (d3 : decode c_L_law (q + 6) = .ok (.if_icmp .eq 5, 3)) (d4 : decode c_L_law (q + 11) = .ok (.iload 5, 2)) (d5 : decode c_L_law (q + 13) = .ok (.ifCond .ne 15, 3)) (d6 : decode c_L_law (q + 16) = .ok (.aload_n 3, 1)) (d7 : decode c_L_law (q + 17) = .ok (.iconst 0, 1)) (d8 : decode c_L_law (q + 18) = .ok (.laload, 1)) (d9 : decode c_L_law (q + 19) = .ok (.iload 6, 2)) (d10 : decode c_L_law (q + 21) = .ok (.i2l, 1)) (d11 : decode c_L_law (q + 22) = .ok (.lcmp, 1)) (d12 : decode c_L_law (q + 23) = .ok (.ifCond .eq 5, 3)) (d13 : decode c_L_law (q + 28) = .ok (.goto off, 3)) (hoff : ((q + 28 : Nat) : Int) + off = ((1220 : Nat) : Int))
    (kk : ∀ wM', RS v b v2 b2 t wM' → Z k n (LW wD wM' f) (lv5 i) 1220 []) : Z k n (LW wD wM f) (lv7 i (nI t) a) q [] := by
  refine z_aload_n h.b d0 rfl ?_
  refine z_mod h (RS_thrown hR) hD hR (zf_M_thrown (by decide)) wm_L_75 wi_M_thrown ws_M_thrown d1 hk hn rfl (Nat.zero_le _) rfl (fun wM' hR' => ?_)
  refine z_iload h.b d2 rfl ?_
  refine z_icmp_eq (tgt := q + 11) h.b d3 (by omega) (fun _ => ?_) (fun hne => absurd rfl hne)
  refine z_iload h.b d4 rfl ?_
  have hend : Z k n (LW wD wM' f) (lv7 i (nI t) a) (q + 28) [] := z_goto h.b d13 hoff (z_lv h.b rfl (kk wM' hR'))
  refine z_if_neN (tgt := q + 28) h.b d5 (by omega) (by omega) (fun _ => hend) (fun h0 => ?_)
  refine z_aload_n h.b d6 rfl ?_
  refine z_iconst (v := nI 0) h.b d7 (by decide) ?_
  refine z_laload h.b d8 (LW_out hD (RS_len hR')) (fun z => by
    rcases z with z | z
    · exact absurd z (by decide)
    · exact absurd z (by decide)) ?_
  refine z_iload h.b d9 rfl ?_
  refine z_i2l h.b d10 ?_
  refine z_lcmp h.b d11 ?_
  refine z_if_eq (tgt := q + 28) h.b d12 (by omega) (fun _ => hend) (fun hne => absurd ?_ hne)
  refine (lg_cmp_eq _ _).mpr ?_
  show lI (f (nI 0).toNatClampNeg) = a.toInt64
  rw [show (nI 0).toNatClampNeg = 0 from rfl, ho h0, i2l_lI]
end ZLc
