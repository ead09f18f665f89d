/-! DigitMill$Series: its world; long arrays; fill, fold, gather, lowest -/
def ui (a : Nat → Int) (i : Nat) (x : Int) : Nat → Int := fun j => if j = i then x else a j
theorem ui_eq {a : Nat → Int} {i : Nat} {x : Int} : ui a i x i = x := if_pos rfl
theorem ui_ne {a : Nat → Int} {i j : Nat} {x : Int} (h : j ≠ i) : ui a i x j = a j := if_neg h
theorem upd_lI (a : Nat → Int) (i : Nat) (x : Int) : vp_updL (fun j => lI (a j)) i (lI x) = fun j => lI (ui a i x j) := by
  funext j
  unfold vp_updL ui
  split <;> rfl
section ZS
variable {Z : ZP} {own : String} {cc : ByteArray} {nL : Nat} {R : Room} {k n pc : Nat} {w : List va_E} {lv : List (Nat × Value)} {st : List Value}
theorem z_laloadI (h : Cb Z own cc nL R) {a N i : Nat} {f : Nat → Int} (d : decode cc pc = .ok (.laload, 1)) (he : w[a]? = some (al N f)) (hs : i < N ∧ N < 2 ^ 31) (kk : Z k n w lv (pc + 1) (.long (lI (f i)) :: st)) : Z k n w lv pc (.int (nI i) :: .ref a :: st) := by
  refine z_laload h d he (vp_in_nI hs.1 hs.2) ?_
  rw [nI_clamp (by omega)]
  exact kk
theorem z_lastoreI (h : Cb Z own cc nL R) {a N i : Nat} {x : Int} {f : Nat → Int} (d : decode cc pc = .ok (.lastore, 1)) (he : w[a]? = some (al N f)) (hs : i < N ∧ N < 2 ^ 31) (kk : Z k n (w.set a (al N (ui f i x))) lv (pc + 1) st) : Z k n w lv pc (.long (lI x) :: .int (nI i) :: .ref a :: st) := by
  refine z_lastore h d he (vp_in_nI hs.1 hs.2) ?_
  rw [nI_clamp (by omega), upd_lI]
  exact kk
theorem lI_tdiv {a b : Int} (a1 : -2 ^ 62 ≤ a) (a2 : a ≤ 2 ^ 62) (b1 : 0 < b) (b2 : b < 2 ^ 62) : lI a / lI b = lI (a.tdiv b) := by
  rw [← lI_self (lI a / lI b), Int64.toInt_div, lI_t (by omega) (by omega), lI_t (by omega) (by omega)]
  have h1 : (a.tdiv b).natAbs ≤ a.natAbs := by rw [Int.natAbs_tdiv]; exact Nat.div_le_self _ _
  rw [Jvm.Kit.bmod64 (by omega) (by omega)]
theorem z_ldivI (h : Cb Z own cc nL R) {x y : Int} (d : decode cc pc = .ok (.ldiv, 1)) (hs : (-2 ^ 62 ≤ x ∧ x ≤ 2 ^ 62) ∧ 0 < y ∧ y < 2 ^ 62) (kk : Z k n w lv (pc + 1) (.long (lI (x.tdiv y)) :: st)) : Z k n w lv pc (.long (lI y) :: .long (lI x) :: st) := z_ldiv h d (fun q => by
    have := (lI_inj (a := y) (b := 0) (by omega) (by omega) (by omega) (by omega)).mp q
    omega) (by rw [lI_tdiv hs.1.1 hs.1.2 hs.2.1 hs.2.2]; exact kk)
theorem z_lshl30I (h : Cb Z own cc nL R) {x : Int} (d : decode cc pc = .ok (.lshl, 1)) (hs : -2 ^ 33 ≤ x ∧ x < 2 ^ 33) (kk : Z k n w lv (pc + 1) (.long (lI (x * 1073741824)) :: st)) : Z k n w lv pc (.int 30 :: .long (lI x) :: st) := z_lshl h d (z_topl (lI_shl30 hs.1 hs.2) kk)
theorem z_i2lZ (h : Cb Z own cc nL R) {x : Int} (d : decode cc pc = .ok (.i2l, 1)) (hs : -2 ^ 31 ≤ x ∧ x < 2 ^ 31) (kk : Z k n w lv (pc + 1) (.long (lI x) :: st)) : Z k n w lv pc (.int (iI x) :: st) := z_i2l h d (z_topl (iI_l hs.1 hs.2) kk)
end ZS
def fiJ (a : Nat → Int) (q : Nat) (x : Int) : Nat → Int := fun j => if j < q then x else a j
theorem fiJ_s {a : Nat → Int} {q : Nat} {x : Int} : ui (fiJ a q x) q x = fiJ a (q + 1) x := funext fun j => by
  unfold ui fiJ
  by_cases h : j = q
  · rw [if_pos h, if_pos (by omega)]
  · rw [if_neg h]
    by_cases h2 : j < q
    · rw [if_pos h2, if_pos (by omega)]
    · rw [if_neg h2, if_neg (by omega)]
theorem ms_JA_fillJ (N : Nat) (x : Int) (a : Nat → Int) (hN : N < 2 ^ 31) : MS y_JA_fillJ c_JA_fillJ 5 none (rm 2) [.ref 0, .long (lI x)] [al N a] (zP (X := Unit) (fun _ => none) (fun _ => [al N (fiJ a N x)]) (fun _ => True)) := by
  refine MS_of (own := "java/util/Arrays") (by decide) rfl (fun _ => Nat.le_of_ble_eq_true rfl) (fun Z h hr => ?_)
  have L : ∀ (m i : Nat), i + m = N → Z 0 0 [al N (fiJ a i x)] [(0, .ref 0), (1, .long (lI x)), (3, .int (nI i)), (4, .int (nI N))] 6 [] := by
    intro m
    induction m with
    | zero =>
      intro i him
      obtain rfl : i = N := by omega
      refine z_iload_n h d_JA_fillJ_6 rfl ?_
      refine z_iload h d_JA_fillJ_7 rfl ?_
      refine z_icmp_geN (tgt := 22) h d_JA_fillJ_9 (by decide) (by omega) (fun c_9 => ?_) (fun c_9 => ?_)
      · refine hr.2.2.2.1 _ _ _ _ _ (Nat.le_refl _) (Nat.le_refl _) rfl d_JA_fillJ_22 ?_
        exact ⟨(), rfl, rfl, trivial⟩
      · exact absurd c_9 (by omega)
    | succ m ih =>
      intro i him
      refine z_iload_n h d_JA_fillJ_6 rfl ?_
      refine z_iload h d_JA_fillJ_7 rfl ?_
      refine z_icmp_geN (tgt := 22) h d_JA_fillJ_9 (by decide) (by omega) (fun c_9 => ?_) (fun c_9 => ?_)
      · exact absurd c_9 (by omega)
      · refine z_aload_n h d_JA_fillJ_12 rfl ?_
        refine z_iload_n h d_JA_fillJ_13 rfl ?_
        refine z_lload_n h d_JA_fillJ_14 rfl ?_
        refine z_lastoreI h d_JA_fillJ_15 rfl (by omega) ?_
        refine z_iincN h 1 d_JA_fillJ_16 rfl (by decide) (by decide) ?_
        refine z_goto (tgt := 6) h d_JA_fillJ_19 (by decide) ?_
        have e9 := ih (i + 1) (by omega)
        rw [← fiJ_s] at e9
        exact z_lv h rfl e9
  refine z_iconst (v := nI 0) h d_JA_fillJ_0 (by decide) ?_
  refine z_istore_n h d_JA_fillJ_1 (by decide) ?_
  refine z_aload_n h d_JA_fillJ_2 rfl ?_
  refine z_alen h d_JA_fillJ_3 rfl (by decide) (show _ = nI N from rfl) ?_
  refine z_istore h d_JA_fillJ_4 (by decide) ?_
  exact z_lv h rfl (L N 0 (Nat.zero_add N))
def rowsF : Nat → Option Nat := fun j => if j < 5 then some (j + 2) else none
/-- the series' world -/
abbrev sX (D : Nat) (r : Nat → Nat → Nat) (dp : Nat → Nat) (wk sm : Nat → Int) : List va_E := [.inr (1, [.ref 1, .ref 7, .ref 8, .ref 9, .int (nI D)]), .inl (2, 5, .inr (.inr (.inr (.inr rowsF)))), ar 705 (r 0), ar 705 (r 1), ar 705 (r 2), ar 705 (r 3), ar 705 (r 4), ar 5 dp, al 705 wk, al 705 sm]
abbrev is10 : List Nat := [0, 1, 2, 3, 4, 5, 6, 7, 8, 9]
theorem rowsF_fix : (fun j => (rowsF j).map (zfn is10)) = rowsF := funext fun j => by
  unfold rowsF
  by_cases h : j < 5
  · rw [if_pos h]
    rcases (show j = 0 ∨ j = 1 ∨ j = 2 ∨ j = 3 ∨ j = 4 by omega) with rfl | rfl | rfl | rfl | rfl <;> rfl
  · rw [if_neg h]
    rfl
theorem sX_map {D : Nat} {r : Nat → Nat → Nat} {dp : Nat → Nat} {wk sm : Nat → Int} : (sX D r dp wk sm).map (zE (fun i => i) (zfn is10)) = sX D r dp wk sm := by
  show [_, (.inl (2, 5, .inr (.inr (.inr (.inr (fun j => (rowsF j).map (zfn is10)))))) : va_E), _, _, _, _, _, _, _, _] = _
  rw [rowsF_fix]
  rfl
theorem sX_fix {D : Nat} {r : Nat → Nat → Nat} {dp : Nat → Nat} {wk sm : Nat → Int} : is10.map (fun i => (sX D r dp wk sm)[i]?) = (sX D r dp wk sm).map (fun e => some (zE (fun i => i) (zfn is10) e)) := by
  rw [show (sX D r dp wk sm).map (fun e => some (zE (fun i => i) (zfn is10) e)) = ((sX D r dp wk sm).map (zE (fun i => i) (zfn is10))).map some by rw [List.map_map]; rfl, sX_map]
  rfl
theorem put10 {D D' : Nat} {r r' : Nat → Nat → Nat} {dp dp' : Nat → Nat} {wk sm wk' sm' : Nat → Int} : zput (sX D r dp wk sm) is10 ((sX D' r' dp' wk' sm').map (zE (fun i => i) (zfn is10))) = sX D' r' dp' wk' sm' := by
  rw [sX_map]
  rfl
/-- a call of one of the series' own methods, at the series' own world -/
theorem z_cR {Z : ZP} {own : String} {cc : ByteArray} {nL : Nat} {pc d' d0 : Nat} {lv : List (Nat × Value)} {st stk : List Value} {y : MethodName} {cy : ByteArray} {ny : Nat} {ry : Option FieldType} {As : List Value} {X : Type} {F : X → Option Value} {P : X → Prop} {D : Nat} {r : Nat → Nat → Nat} {dp : Nat → Nat} {wk sm : Nat → Int} {D' : X → Nat} {r' : X → Nat → Nat → Nat} {dp' : X → Nat → Nat} {wk' sm' : X → Nat → Int} (h : Cb Z own cc nL (rm d0)) {ix : Nat} (hM : MS y cy ny ry (rm d') (.ref 0 :: As) (sX D r dp wk sm) (zP F (fun x => sX (D' x) (r' x) (dp' x) (wk' x) (sm' x)) P)) (hF : zFit y cy ny ry (rm d') (rm d0) As.length) (hl : Cond.methodLink own ix y ∈ TT) (hi : Cond.instanceMethod y ∈ TT) (hs : Cond.selects R_S y y ∈ TT) (dd : decode cc pc = .ok (.invokevirtual ix, 3)) (hst : (st.map fun v => v.category).sum ≤ 8) (hstk : ((As.map (zV (zfn is10))).reverse ++ .ref 0 :: st) = stk)
    (kk : ∀ x, P x → Z 0 0 (sX (D' x) (r' x) (dp' x) (wk' x) (sm' x)) lv (pc + 3) (((F x).map (zV (zfn is10))).toList ++ st)) : Z 0 0 (sX D r dp wk sm) lv pc stk :=
  z_cV (C := R_S) (ci := 1) h hM hF hl hi hs rfl ⟨_, rfl⟩ dd is10 (by decide) sX_fix hst hstk (fun _ => rfl) (fun x hx => by rw [put10]; exact kk x hx)
theorem ms_S_bitsNeeded (D : Nat) (r : Nat → Nat → Nat) (dp : Nat → Nat) (wk sm : Nat → Int) : MS y_S_bitsNeeded c_S_bitsNeeded 1 (some .int) (rm 1) [.ref 0] (sX D r dp wk sm) (zP (X := Unit) (fun _ => some (.int (nI (D * 30 + 32)))) (fun _ => sX D r dp wk sm) (fun _ => True)) := by
  refine MS_of (own := R_S) (by decide) rfl (fun _ => Nat.le_of_ble_eq_true rfl) (fun Z h hr => ?_)
  refine z_aload_n h d_S_bitsNeeded_0 rfl ?_
  refine z_get (C := R_S) (T := F_S) (N := 5) h 4 d_S_bitsNeeded_1 in_S rfl (by decide) wf_S_36 rfl rfl ?_
  refine z_bipush (v := nI 30) h d_S_bitsNeeded_4 (by decide) ?_
  refine z_imulN h d_S_bitsNeeded_6 ?_
  refine z_bipush (v := nI 32) h d_S_bitsNeeded_7 (by decide) ?_
  refine z_iaddN h d_S_bitsNeeded_9 ?_
  refine hr.1 _ _ _ _ _ _ (Nat.le_refl _) (Nat.le_refl _) rfl d_S_bitsNeeded_10 ?_
  exact ⟨(), rfl, rfl, trivial⟩
theorem max1 {q : Nat} (hq : q < 2 ^ 30) : (if nI 0 < nI q - nI 1 then nI q - nI 1 else nI 0) = nI (q - 1) := max0 hq (by decide)
theorem ms_S_lowest (D q : Nat) (r : Nat → Nat → Nat) (dp : Nat → Nat) (wk sm : Nat → Int) (hD : D < 2 ^ 30) (hq : q < 2 ^ 30) : MS y_S_lowest c_S_lowest 2 (some .int) (rm 2) [.ref 0, .int (nI q)] (sX D r dp wk sm) (zP (X := Unit) (fun _ => some (.int (nI (min D (q / 30 - 1))))) (fun _ => sX D r dp wk sm) (fun _ => True)) := by
  refine MS_of (own := R_S) (by decide) rfl (fun _ => Nat.le_of_ble_eq_true rfl) (fun Z h hr => ?_)
  refine z_aload_n h d_S_lowest_0 rfl ?_
  refine z_get (C := R_S) (T := F_S) (N := 5) h 4 d_S_lowest_1 in_S rfl (by decide) wf_S_36 rfl rfl ?_
  refine z_iconst (v := nI 0) h d_S_lowest_4 (by decide) ?_
  refine z_iload_n h d_S_lowest_5 rfl ?_
  refine z_bipush (v := nI 30) h d_S_lowest_6 (by decide) ?_
  refine z_idivN h d_S_lowest_8 (by omega) ?_
  refine z_iconst (v := nI 1) h d_S_lowest_9 (by decide) ?_
  refine z_isub h d_S_lowest_10 ?_
  refine z_mmax h d_S_lowest_11 wq_S_27 (by decide) (Nat.le_of_ble_eq_true rfl) (by decide) (by decide) ?_
  rw [max1 (by omega)]
  refine z_mminN h d_S_lowest_14 wq_S_33 (by decide) (Nat.le_of_ble_eq_true rfl) (by decide) (by decide) (by omega) ?_
  refine hr.1 _ _ _ _ _ _ (Nat.le_refl _) (Nat.le_refl _) rfl d_S_lowest_17 ?_
  exact ⟨(), rfl, rfl, trivial⟩
theorem ms_S_begin (D : Nat) (r : Nat → Nat → Nat) (dp : Nat → Nat) (wk sm : Nat → Int) : MS y_S_begin c_S_begin 1 none (rm 3) [.ref 0] (sX D r dp wk sm) (zP (X := Unit) (fun _ => none) (fun _ => sX D r dp (fiJ wk 705 0) sm) (fun _ => True)) := by
  refine MS_of (own := R_S) (by decide) rfl (fun _ => Nat.le_of_ble_eq_true rfl) (fun Z h hr => ?_)
  refine z_aload_n h d_S_begin_0 rfl ?_
  refine z_get (C := R_S) (T := F_S) (N := 5) h 2 d_S_begin_1 in_S rfl (by decide) wf_S_20 rfl rfl ?_
  refine z_lconst (v := lN 0) h d_S_begin_4 (by decide) ?_
  refine z_cS h (ms_JA_fillJ 705 0 wk (by decide)) (zf_JA_fillJ (by decide)) wm_S_40 wt_JA_fillJ d_S_begin_5 [8] (by decide) rfl (Nat.le_of_ble_eq_true rfl) rfl (fun _ => rfl) (fun x_5 hx_5 => ?_)
  refine hr.2.2.2.1 _ _ _ _ _ (Nat.le_refl _) (Nat.le_refl _) rfl d_S_begin_8 ?_
  exact ⟨(), rfl, rfl, trivial⟩
/-- limbs from the top: D, D - 1, .. -/
def tv (w : Nat → Int) (D : Nat) : Nat → Int
  | 0 => 0
  | c + 1 => tv w D c * 1073741824 + w (D - c)
theorem tv_congr {w u : Nat → Int} {D : Nat} : ∀ {c : Nat}, c ≤ D + 1 → (∀ i, D + 1 - c ≤ i → i ≤ D → w i = u i) → tv w D c = tv u D c
  | 0, _, _ => rfl
  | c + 1, hc, h => by
    unfold tv
    rw [tv_congr (c := c) (by omega) (fun i h1 h2 => h i (by omega) h2), h (D - c) (by omega) (by omega)]
theorem i_lt1 {x l : Nat} (hx : x < 2 ^ 30) (hl : l < 2 ^ 30) : nI x - 1 < nI l ↔ x ≤ l := by
  rw [show (1 : Int32) = iI 1 from rfl, nI_iI, nI_iI, iI_sub, iI_lt (by omega) (by omega) (by omega) (by omega)]
  omega
theorem fold_b {q w now dv L P F : Int} (hq : -dv < q ∧ q < dv) (hd : 0 < dv) (hw : -L ≤ w ∧ w ≤ L) (hnow : now = q * 1073741824 + w) (hL : L ≤ dv * P) : -(1073741824 + P) ≤ now.tdiv dv ∧ now.tdiv dv ≤ 1073741824 + P := by
  have h1 : (now.tdiv dv).natAbs * dv.natAbs ≤ now.natAbs := by
    rw [Int.natAbs_tdiv]
    exact Nat.div_mul_le_self _ _
  have h2 : (now.natAbs : Int) ≤ dv * (1073741824 + P) := by
    rw [Int.mul_add]
    have e1 : q * 1073741824 ≤ dv * 1073741824 := by omega
    have e2 : -(dv * 1073741824) ≤ q * 1073741824 := by omega
    omega
  have h3 : ((now.tdiv dv).natAbs : Int) * dv ≤ dv * (1073741824 + P) := by
    have : (((now.tdiv dv).natAbs * dv.natAbs : Nat) : Int) ≤ (now.natAbs : Int) := by omega
    rw [Int.natCast_mul, show (dv.natAbs : Int) = dv by omega] at this
    exact Int.le_trans this h2
  have h4 : ((now.tdiv dv).natAbs : Int) ≤ 1073741824 + P := by
    rw [Int.mul_comm] at h3
    exact Int.le_of_mul_le_mul_left h3 hd
  omega
theorem tm_b {a b : Int} (hb : 0 < b) : -b < a.tmod b ∧ a.tmod b < b := by
  have h1 : (a.tmod b).natAbs < b.natAbs := by
    rw [Int.natAbs_tmod]
    exact Nat.mod_lt _ (by omega)
  omega
theorem mul_b {p f P : Int} {F : Nat} (hp : -P ≤ p ∧ p ≤ P) (hf : f.natAbs ≤ F) (hP : 0 ≤ P) : -(P * F) ≤ p * f ∧ p * f ≤ P * F := by
  have h1 : (p * f).natAbs ≤ P.natAbs * F := by
    rw [Int.natAbs_mul]
    exact Nat.mul_le_mul (by omega) hf
  have h2 : ((P.natAbs * F : Nat) : Int) = P * F := by rw [Int.natCast_mul, show (P.natAbs : Int) = P by omega]
  omega
set_option maxRecDepth 100000 in
set_option maxHeartbeats 4000000 in
/-- fold: all limbs from low on are divided and multiplied; the limbs are at most L, then at most (2^30 + P) F -/
theorem ms_S_fold (D dv low F : Nat) (fa L P : Int) (r : Nat → Nat → Nat) (dp : Nat → Nat) (wk sm : Nat → Int) (hD : D ≤ 704) (hdv : 0 < dv ∧ dv < 1073741824) (hlow : low ≤ D) (hfa : fa.natAbs ≤ F) (hF : F < 2147483648) (hwk : ∀ i, i ≤ D → -L ≤ wk i ∧ wk i ≤ L) (hL : L ≤ 2305843009213693952) (hP : 0 ≤ P ∧ L ≤ dv * P) : MS y_S_fold c_S_fold 11 none (rm 1) [.ref 0, .int (iI fa), .int (nI dv), .int (nI low)] (sX D r dp wk sm) (zP (X := (Nat → Int) × Int × Int) (fun _ => none) (fun q => sX D r dp q.1 sm) (fun q => (∀ i, i < low → q.1 i = wk i) ∧ (∀ i, low ≤ i → i ≤ D → -((1073741824 + P) * F) ≤ q.1 i ∧ q.1 i ≤ (1073741824 + P) * F) ∧ (-(dv : Int) < q.2.2 ∧ q.2.2 < dv) ∧ tv wk D (D + 1 - low) = q.2.1 * dv + q.2.2 ∧ tv q.1 D (D + 1 - low) = fa * q.2.1)) := by
  refine MS_of (own := R_S) (by decide) rfl (fun _ => Nat.le_of_ble_eq_true rfl) (fun Z h hr => ?_)
  have Lp : ∀ (f c : Nat) (u : Nat → Int) (pt q : Int), f + c = D + 1 - low → (∀ i, i < D + 1 - c → u i = wk i) → (∀ i, D + 1 - c ≤ i → i ≤ D → -((1073741824 + P) * F) ≤ u i ∧ u i ≤ (1073741824 + P) * F) → (-(dv : Int) < q ∧ q < dv) → tv wk D c = pt * dv + q → tv u D c = fa * pt → Z 0 0 (sX D r dp u sm) [(0, .ref 0), (1, .int (iI fa)), (2, .int (nI dv)), (3, .int (nI low)), (4, .long (lI q)), (6, .int (nI (D + 1 - c) - 1))] 9 [] := by
    intro f
    induction f with
    | zero =>
      intro c u pt q hf hu hb hq hv hw
      obtain rfl : c = D + 1 - low := by omega
      refine z_iload h d_S_fold_9 rfl ?_
      refine z_iload_n h d_S_fold_11 rfl ?_
      refine z_icmp_lt (tgt := 65) h d_S_fold_12 (by decide) (fun c_12 => ?_) (fun c_12 => ?_)
      · refine hr.2.2.2.1 _ _ _ _ _ (Nat.le_refl _) (Nat.le_refl _) rfl d_S_fold_65 ?_
        exact ⟨(u, pt, q), rfl, rfl, fun i hi => hu i (by omega), fun i h1 h2 => hb i (by omega) h2, hq, hv, hw⟩
      · exact absurd ((i_lt1 (by omega) (by omega)).mpr (by omega)) c_12
    | succ f ih =>
      intro c u pt q hf hu hb hq hv hw
      have e0 : nI (D + 1 - c) - 1 = nI (D - c) := by rw [show D + 1 - c = D - c + 1 by omega]; exact nI_pred _
      have huc : u (D - c) = wk (D - c) := hu _ (by omega)
      have hwc := hwk (D - c) (by omega)
      have hfb := fold_b (F := 0) hq (by omega) hwc rfl hP.2
      have htm := tm_b (a := q * 1073741824 + wk (D - c)) (b := (dv : Int)) (by omega)
      have hdm := Int.mul_tdiv_add_tmod (q * 1073741824 + wk (D - c)) (dv : Int)
      have hmb := mul_b hfb hfa (by omega)
      have hnow : -2 ^ 62 ≤ q * 1073741824 + wk (D - c) ∧ q * 1073741824 + wk (D - c) ≤ 2 ^ 62 := by omega
      have hdef : (q * 1073741824 + wk (D - c)) - (q * 1073741824 + wk (D - c)).tdiv dv * dv = (q * 1073741824 + wk (D - c)).tmod dv := by
        rw [Int.tmod_def, Int.mul_comm (dv : Int)]
      refine z_iload h d_S_fold_9 rfl ?_
      refine z_iload_n h d_S_fold_11 rfl ?_
      refine z_icmp_lt (tgt := 65) h d_S_fold_12 (by decide) (fun c_12 => ?_) (fun c_12 => ?_)
      · exact absurd ((i_lt1 (by omega) (by omega)).mp c_12) (by omega)
      · rw [e0]
        refine z_lload h d_S_fold_15 rfl ?_
        refine z_bipush (v := 30) h d_S_fold_17 (by decide) ?_
        refine z_lshl30I h d_S_fold_19 (by omega) ?_
        refine z_aload_n h d_S_fold_20 rfl ?_
        refine z_get (C := R_S) (T := F_S) (N := 5) h 2 d_S_fold_21 in_S rfl (by decide) wf_S_20 rfl rfl ?_
        refine z_iload h d_S_fold_24 rfl ?_
        refine z_laloadI h d_S_fold_26 rfl (by omega) ?_
        refine z_laddI h d_S_fold_27 ?_
        rw [huc]
        generalize hN : q * 1073741824 + wk (D - c) = now at *
        refine z_lstore h d_S_fold_28 (by decide) ?_
        refine z_lload h d_S_fold_30 rfl ?_
        refine z_iload_n h d_S_fold_32 rfl ?_
        refine z_i2lI h d_S_fold_33 (by omega) ?_
        refine z_ldivI h d_S_fold_34 (by omega) ?_
        refine z_lstore h d_S_fold_35 (by decide) ?_
        refine z_lload h d_S_fold_37 rfl ?_
        refine z_lload h d_S_fold_39 rfl ?_
        refine z_iload_n h d_S_fold_41 rfl ?_
        refine z_i2lI h d_S_fold_42 (by omega) ?_
        refine z_lmulI h d_S_fold_43 ?_
        refine z_lsubI h d_S_fold_44 ?_
        rw [hdef]
        refine z_lstore h d_S_fold_45 (by decide) ?_
        refine z_aload_n h d_S_fold_47 rfl ?_
        refine z_get (C := R_S) (T := F_S) (N := 5) h 2 d_S_fold_48 in_S rfl (by decide) wf_S_20 rfl rfl ?_
        refine z_iload h d_S_fold_51 rfl ?_
        refine z_lload h d_S_fold_53 rfl ?_
        refine z_iload_n h d_S_fold_55 rfl ?_
        refine z_i2lZ h d_S_fold_56 (by omega) ?_
        refine z_lmulI h d_S_fold_57 ?_
        refine z_lastoreI h d_S_fold_58 rfl (by omega) ?_
        rw [← nI_pred (D - c)]
        refine z_iincD h d_S_fold_59 rfl (by decide) ?_
        refine z_goto (tgt := 9) h d_S_fold_62 (by decide) ?_
        have e2 : nI (D - c) - 1 = nI (D + 1 - (c + 1)) - 1 := by rw [show D - c = D + 1 - (c + 1) by omega]
        refine z_lv (lv' := [(0, .ref 0), (1, .int (iI fa)), (2, .int (nI dv)), (3, .int (nI low)), (4, .long (lI (now.tmod dv))), (6, .int (nI (D - c) - 1))]) h rfl ?_
        rw [e2]
        refine ih (c + 1) (ui u (D - c) (now.tdiv dv * fa)) (pt * 1073741824 + now.tdiv dv) (now.tmod dv) (by omega) (fun i hi => ?_) (fun i h1 h2 => ?_) htm ?_ ?_
        · rw [ui_ne (by omega)]
          exact hu i (by omega)
        · by_cases e : i = D - c
          · subst e
            rw [ui_eq]
            exact hmb
          · rw [ui_ne e]
            exact hb i (by omega) h2
        · unfold tv
          rw [hv, Int.add_mul, Int.add_mul]
          have e3 : pt * (dv : Int) * 1073741824 = pt * 1073741824 * dv := Int.mul_right_comm _ _ _
          rw [Int.mul_comm (now.tdiv dv)]
          omega
        · unfold tv
          rw [ui_eq, tv_congr (u := u) (by omega) (fun i h1 h2 => ui_ne (by omega)), hw, Int.mul_add, Int.mul_comm (now.tdiv dv), Int.mul_assoc]
  refine z_lconst (v := lN 0) h d_S_fold_0 (by decide) ?_
  refine z_lstore h d_S_fold_1 (by decide) ?_
  refine z_aload_n h d_S_fold_3 rfl ?_
  refine z_get (C := R_S) (T := F_S) (N := 5) h 4 d_S_fold_4 in_S rfl (by decide) wf_S_36 rfl rfl ?_
  have e0 : nI (D + 1) - 1 = nI D := nI_pred D
  rw [← e0]
  refine z_istore h d_S_fold_7 (by decide) ?_
  exact z_lv h rfl (Lp (D + 1 - low) 0 wk 0 0 rfl (fun _ _ => rfl) (fun i h1 h2 => absurd h1 (by omega)) (by omega) (by show (0 : Int) = 0 * _ + 0; rw [Int.zero_mul, Int.add_zero]) (by show (0 : Int) = fa * 0; rw [Int.mul_zero]))
