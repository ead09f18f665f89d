/-! DigitMill's public methods: keep, swap, compare, number, convert -/
abbrev sW (b gu pg dg td s : Nat) (a g pw : Nat → Nat) (b2 gu2 pg2 dg2 td2 s2 : Nat) (a2 g2 pw2 : Nat → Nat) (sl sr sq : Nat) (l r q : Nat → Nat) (S : List va_E) : List va_E :=
  .inr (4, [.ref 6, .ref 1, .ref 11, .ref 18]) :: tx 2 b2 4 gu2 pg2 5 dg2 td2 :: wh 3 s2 :: ar 800 a2 :: ar 960 g2 :: ar 31 pw2 :: tx 7 b 9 gu pg 10 dg td :: wh 8 s :: ar 800 a :: ar 960 g :: ar 31 pw :: .inr (0, [.ref 12, .ref 14, .ref 16]) :: wh 13 sl :: ar 1400 l :: wh 15 sr :: ar 1400 r :: wh 17 sq :: ar 1400 q :: S
theorem put_perm {w es : List va_E} {is js : List Nat} (hnd : va_nd is = true) (h1 : w.length = is.length) (h2 : es.length = is.length) (h3 : js.length = is.length) (hinv : ∀ k, k < is.length → ∃ j, js[k]? = some j ∧ is[j]? = some k) : zput w is es = js.map (fun j => es.getD j (.inr (0, []))) := by
  apply List.ext_getElem?
  intro k
  by_cases hk : k < is.length
  · obtain ⟨j, g1, g2⟩ := hinv k hk
    have hj : j < es.length := by rw [h2]; exact (List.getElem?_eq_some_iff.mp g2).1
    rw [zput_at is w es j k es[j] (va_nd_inj is hnd) g2 (List.getElem?_eq_getElem hj) (by omega), List.getElem?_map, g1]
    show _ = some (es.getD j _)
    rw [List.getD_eq_getElem?_getD, List.getElem?_eq_getElem hj]
    rfl
  · rw [List.getElem?_eq_none (by rw [zput_len]; omega), List.getElem?_eq_none (by rw [List.length_map]; omega)]
abbrev isS : List Nat := [0, 6, 7, 8, 9, 10, 1, 2, 3, 4, 5, 11, 12, 13, 14, 15, 16, 17]
theorem isS_inv : ∀ k, k < isS.length → ∃ j, isS[k]? = some j ∧ isS[j]? = some k := by
  intro k hk
  have : k < 18 := hk
  have key : ∀ k, k < 18 → ((isS[k]?).bind fun j => isS[j]?) = some k := by decide
  have h := key k this
  cases hq : isS[k]? with
  | none => rw [hq] at h; cases h
  | some j => rw [hq] at h; exact ⟨j, rfl, h⟩
theorem putS {w w' : List va_E} (h : w.length = 18) (h' : w'.length = 18) : zput w isS (w'.map (zE (fun i => i) (zfd isS))) = isS.map (fun j => (w'.map (zE (fun i => i) (zfd isS))).getD j (.inr (0, []))) :=
  put_perm (by decide) h (by rw [List.length_map]; exact h') rfl isS_inv
/-- the two texts have changed places -/
def DX (v b v2 b2 : Nat) (w : List va_E) : Prop := ∃ (gu pg dg td s : Nat) (a g pw : Nat → Nat) (gu2 pg2 dg2 td2 s2 : Nat) (a2 g2 pw2 : Nat → Nat) (sl sr sq : Nat) (l r q : Nat → Nat), w = sW b gu pg dg td s a g pw b2 gu2 pg2 dg2 td2 s2 a2 g2 pw2 sl sr sq l r q [] ∧ TI b v s a gu pg dg td g pw ∧ TI b2 v2 s2 a2 gu2 pg2 dg2 td2 g2 pw2 ∧ okL sl l ∧ okL sr r ∧ okL sq q
set_option maxRecDepth 100000 in
set_option maxHeartbeats 4000000 in
theorem ms_D_keep (v b v2 b2 : Nat) (w : List va_E) (h0 : DS v b v2 b2 w) : MS y_D_keep c_D_keep 1 none (rm 6) [.ref 0] w (fun r w' => r = none ∧ DS v b v b w') := by
  obtain ⟨gu, pg, dg, td, s, a, g, pw, gu2, pg2, dg2, td2, s2, a2, g2, pw2, sl, sr, sq, l, r, q, rfl, h1, h2, h3, h4, h5⟩ := h0
  refine MS_of (own := R_D) (by decide) rfl (fun _ => Nat.le_of_ble_eq_true rfl) (fun Z h hr => ?_)
  refine z_aload_n h d_D_keep_0 rfl ?_
  refine z_get (C := R_D) (T := F_D) (N := 4) h 1 d_D_keep_1 in_D rfl (by decide) wf_D_16 rfl rfl ?_
  refine z_aload_n h d_D_keep_4 rfl ?_
  refine z_get (C := R_D) (T := F_D) (N := 4) h 0 d_D_keep_5 in_D rfl (by decide) wf_D_12 rfl rfl ?_
  refine z_cV (C := R_T) (ci := 2) h (ms_T_copyText b2 gu2 pg2 dg2 td2 s2 b v gu pg dg td s a2 g2 pw2 a g pw h2.1.2.1 h2.2.2.2.1 h2.2.2.2.2.1 h1) (zf_T_copyText (by decide)) wm_D_118 wi_T_copyText ws_T_copyText rfl ⟨_, rfl⟩ d_D_keep_8 [6, 7, 8, 9, 10, 1, 2, 3, 4, 5] (by decide) rfl (Nat.le_of_ble_eq_true rfl) rfl (fun _ => rfl) (fun x_8 hx_8 => ?_)
  refine hr.2.2.2.1 _ _ _ _ _ (Nat.le_refl _) (Nat.le_refl _) rfl d_D_keep_11 ?_
  exact ⟨rfl, _, _, _, _, _, _, _, _, _, _, _, _, _, _, _, _, _, _, _, _, _, _, rfl, h1, hx_8, h3, h4, h5⟩
set_option maxRecDepth 100000 in
set_option maxHeartbeats 4000000 in
theorem ms_D_swap (v b v2 b2 : Nat) (w : List va_E) (h0 : DS v b v2 b2 w) : MS y_D_swap c_D_swap 2 (some .int) (rm 6) [.ref 0] w (fun r w' => r = some (.int (nI (nd b2 v2))) ∧ DX v2 b2 v b w') := by
  obtain ⟨gu, pg, dg, td, s, a, g, pw, gu2, pg2, dg2, td2, s2, a2, g2, pw2, sl, sr, sq, l, r, q, rfl, h1, h2, h3, h4, h5⟩ := h0
  refine MS_of (own := R_D) (by decide) rfl (fun _ => Nat.le_of_ble_eq_true rfl) (fun Z h hr => ?_)
  refine z_aload_n h d_D_swap_0 rfl ?_
  refine z_get (C := R_D) (T := F_D) (N := 4) h 0 d_D_swap_1 in_D rfl (by decide) wf_D_12 rfl rfl ?_
  refine z_astore_n h d_D_swap_4 (by decide) ?_
  refine z_aload_n h d_D_swap_5 rfl ?_
  refine z_aload_n h d_D_swap_6 rfl ?_
  refine z_get (C := R_D) (T := F_D) (N := 4) h 1 d_D_swap_7 in_D rfl (by decide) wf_D_16 rfl rfl ?_
  refine z_put (C := R_D) (T := F_D) (N := 4) (ty := (.object "DigitMill$Text")) h 0 d_D_swap_10 in_D rfl ft_D_ok n_D (by decide) wf_D_12 rfl rfl rfl rfl rfl (Nat.le_of_ble_eq_true rfl) ?_
  refine z_aload_n h d_D_swap_13 rfl ?_
  refine z_aload_n h d_D_swap_14 rfl ?_
  refine z_put (C := R_D) (T := F_D) (N := 4) (ty := (.object "DigitMill$Text")) h 1 d_D_swap_15 in_D rfl ft_D_ok n_D (by decide) wf_D_16 rfl rfl rfl rfl rfl (Nat.le_of_ble_eq_true rfl) ?_
  refine z_aload_n h d_D_swap_18 rfl ?_
  refine z_dV (C := R_D) (ci := 4) h (ms_D_digits v2 b2 v b _ ⟨gu2, pg2, dg2, td2, s2, a2, g2, pw2, gu, pg, dg, td, s, a, g, pw, sl, sr, sq, l, r, q, rfl, h2, h1, h3, h4, h5⟩) (zf_D_digits (by decide)) wm_D_114 wi_D_digits ws_D_digits rfl ⟨_, rfl⟩ d_D_swap_19 (by decide) isS (by decide) rfl (Nat.le_of_ble_eq_true rfl) rfl (fun _ _ hp => DT_len hp.2) (fun r_19 w_19 hp_19 => ?_)
  rw [putS rfl (DT_len hp_19.2)]
  obtain ⟨rfl, gu', pg', dg', s', a', g', pw', gu2', pg2', dg2', td2', s2', a2', g2', pw2', sl', sr', sq', l', r', q', rfl, g1, rfl, g2, g3, g4, g5⟩ := hp_19
  refine hr.1 _ _ _ _ _ _ (Nat.le_refl _) (Nat.le_refl _) rfl d_D_swap_22 ?_
  exact ⟨rfl, gu', pg', nd b2 v2, 1, s', a', g', pw', gu2', pg2', dg2', td2', s2', a2', g2', pw2', sl', sr', sq', l', r', q', rfl, g1, g2, g3, g4, g5⟩
set_option maxRecDepth 100000 in
set_option maxHeartbeats 4000000 in
theorem ms_D_compare (v b v2 b2 : Nat) (w : List va_E) (h0 : DS v b v2 b2 w) : MS y_D_compare c_D_compare 1 (some .int) (rm 2) [.ref 0] w (fun r w' => r = some (.int (ordI v v2)) ∧ DS v b v2 b2 w') := by
  obtain ⟨gu, pg, dg, td, s, a, g, pw, gu2, pg2, dg2, td2, s2, a2, g2, pw2, sl, sr, sq, l, r, q, rfl, h1, h2, h3, h4, h5⟩ := h0
  refine MS_of (own := R_D) (by decide) rfl (fun _ => Nat.le_of_ble_eq_true rfl) (fun Z h hr => ?_)
  refine z_aload_n h d_D_compare_0 rfl ?_
  refine z_get (C := R_D) (T := F_D) (N := 4) h 0 d_D_compare_1 in_D rfl (by decide) wf_D_12 rfl rfl ?_
  refine z_getN (C := R_T) (T := F_T) (N := 8) h 0 d_D_compare_4 in_T rfl (by decide) wf_D_98 rfl rfl ?_
  refine z_aload_n h d_D_compare_7 rfl ?_
  refine z_get (C := R_D) (T := F_D) (N := 4) h 1 d_D_compare_8 in_D rfl (by decide) wf_D_16 rfl rfl ?_
  refine z_getN (C := R_T) (T := F_T) (N := 8) h 0 d_D_compare_11 in_T rfl (by decide) wf_D_98 rfl rfl ?_
  refine z_cV (C := R_H) (ci := 3) h (ms_H_order 800 s 800 s2 v v2 a a2 (by decide) (by decide) h1.1 h2.1) (zf_H_order (by decide)) wm_D_125 wi_H_order ws_H_order rfl ⟨_, rfl⟩ d_D_compare_14 [2, 3, 7, 8] (by decide) rfl (Nat.le_of_ble_eq_true rfl) rfl (fun _ => rfl) (fun x_14 hx_14 => ?_)
  refine hr.1 _ _ _ _ _ _ (Nat.le_refl _) (Nat.le_refl _) rfl d_D_compare_17 ?_
  exact ⟨rfl, _, _, _, _, _, _, _, _, _, _, _, _, _, _, _, _, _, _, _, _, _, _, rfl, h1, h2, h3, h4, h5⟩
theorem B800 {v : Nat} (h : v < 2 ^ 63) : v < 1073741824 ^ 800 := by
  rw [p30]
  exact Nat.lt_of_lt_of_le h (Nat.pow_le_pow_right (by decide) (by decide))
set_option maxRecDepth 100000 in
set_option maxHeartbeats 4000000 in
theorem ms_D_number (v b v2 b2 x b' : Nat) (w : List va_E) (h0 : DS v b v2 b2 w) (hx : x < 2 ^ 63) (hb : 2 ≤ b' ∧ b' < 37) : MS y_D_number c_D_number 4 (some .int) (rm 7) [.ref 0, .long (lN x), .int (nI b')] w (fun r w' => r = some (.int (nI (nd b' x))) ∧ DS x b' v2 b2 w') := by
  obtain ⟨gu, pg, dg, td, s, a, g, pw, gu2, pg2, dg2, td2, s2, a2, g2, pw2, sl, sr, sq, l, r, q, rfl, h1, h2, h3, h4, h5⟩ := h0
  refine MS_of (own := R_D) (by decide) rfl (fun _ => Nat.le_of_ble_eq_true rfl) (fun Z h hr => ?_)
  refine z_lload_n h d_D_number_0 rfl ?_
  refine z_lconst (v := lN 0) h d_D_number_1 (by decide) ?_
  refine z_lcmp_geN (tgt := 16) h d_D_number_2 d_D_number_3 (by decide) (by omega) (fun c_2 => ?_) (fun c_2 => ?_)
  · refine z_iload_n h d_D_number_16 rfl ?_
    refine z_cS h (ms_D_refuseWrongBase b' hb []) (zf_D_refuseWrongBase (by decide)) wm_D_88 wt_D_refuseWrongBase d_D_number_17 [] (by decide) rfl (Nat.le_of_ble_eq_true rfl) rfl (fun _ => rfl) (fun x_17 hx_17 => ?_)
    refine z_aload_n h d_D_number_20 rfl ?_
    refine z_get (C := R_D) (T := F_D) (N := 4) h 2 d_D_number_21 in_D rfl (by decide) wf_D_22 rfl rfl ?_
    refine z_getN (C := R_B) (T := F_B) (N := 3) h 2 d_D_number_24 in_B rfl (by decide) wf_D_54 rfl rfl ?_
    refine z_lload_n h d_D_number_27 rfl ?_
    refine z_cV (C := R_H) (ci := 3) h (ms_H_assign 1400 sq x q (by decide) h5.2 hx) (zf_H_assign (by decide)) wm_D_73 wi_H_assign ws_H_assign rfl ⟨_, rfl⟩ d_D_number_28 [16, 17] (by decide) rfl (Nat.le_of_ble_eq_true rfl) rfl (fun _ => rfl) (fun x_28 hx_28 => ?_)
    refine z_aload_n h d_D_number_31 rfl ?_
    refine z_aload_n h d_D_number_32 rfl ?_
    refine z_get (C := R_D) (T := F_D) (N := 4) h 2 d_D_number_33 in_D rfl (by decide) wf_D_22 rfl rfl ?_
    refine z_getN (C := R_B) (T := F_B) (N := 3) h 2 d_D_number_36 in_B rfl (by decide) wf_D_54 rfl rfl ?_
    refine z_iload_n h d_D_number_39 rfl ?_
    refine z_dV (C := R_D) (ci := 4) h (ms_D_retell v b v2 b2 b' x gu pg dg td s a g pw gu2 pg2 dg2 td2 s2 a2 g2 pw2 sl sr x_28.2 l r x_28.1 h1 h2 h3 h4 hx_28 (B800 hx) hb) (zf_D_retell (by decide)) wm_D_58 wi_D_retell ws_D_retell rfl ⟨_, rfl⟩ d_D_number_40 (by decide) is18 (by decide) rfl (Nat.le_of_ble_eq_true rfl) rfl (fun _ _ hp => DT_len hp.2) (fun r_40 w_40 hp_40 => ?_)
    obtain ⟨rfl, hT⟩ := hp_40
    rw [put18n (DT_len hT) rfl]
    refine hr.1 _ _ _ _ _ _ (Nat.le_refl _) (Nat.le_refl _) rfl d_D_number_43 ?_
    exact ⟨rfl, hT.ds⟩
  · exact absurd c_2 (by omega)
set_option maxRecDepth 100000 in
set_option maxHeartbeats 4000000 in
theorem ms_D_convert (v b v2 b2 b' : Nat) (w : List va_E) (h0 : DS v b v2 b2 w) (hb : 2 ≤ b' ∧ b' < 37) : MS y_D_convert c_D_convert 2 (some .int) (rm 7) [.ref 0, .int (nI b')] w (fun r w' => r = some (.int (nI (nd b' v))) ∧ DS v b' v2 b2 w') := by
  obtain ⟨gu, pg, dg, td, s, a, g, pw, gu2, pg2, dg2, td2, s2, a2, g2, pw2, sl, sr, sq, l, r, q, rfl, h1, h2, h3, h4, h5⟩ := h0
  refine MS_of (own := R_D) (by decide) rfl (fun _ => Nat.le_of_ble_eq_true rfl) (fun Z h hr => ?_)
  refine z_iload_n h d_D_convert_0 rfl ?_
  refine z_cS h (ms_D_refuseWrongBase b' hb []) (zf_D_refuseWrongBase (by decide)) wm_D_88 wt_D_refuseWrongBase d_D_convert_1 [] (by decide) rfl (Nat.le_of_ble_eq_true rfl) rfl (fun _ => rfl) (fun x_1 hx_1 => ?_)
  refine z_aload_n h d_D_convert_4 rfl ?_
  refine z_get (C := R_D) (T := F_D) (N := 4) h 0 d_D_convert_5 in_D rfl (by decide) wf_D_12 rfl rfl ?_
  refine z_iload_n h d_D_convert_8 rfl ?_
  refine z_cV (C := R_T) (ci := 2) h (ms_T_changeBase b b' gu pg dg td s a g pw) (zf_T_changeBase (by decide)) wm_D_161 wi_T_changeBase ws_T_changeBase rfl ⟨_, rfl⟩ d_D_convert_9 [1, 2, 3, 4, 5] (by decide) rfl (Nat.le_of_ble_eq_true rfl) rfl (fun _ => rfl) (fun x_9 hx_9 => ?_)
  refine z_aload_n h d_D_convert_12 rfl ?_
  refine z_dV (C := R_D) (ci := 4) h (ms_D_digits v b' v2 b2 _ ⟨gu, pg, dg, 0, s, a, g, pw, gu2, pg2, dg2, td2, s2, a2, g2, pw2, sl, sr, sq, l, r, q, rfl, TI0 h1 h1.1 hb, h2, h3, h4, h5⟩) (zf_D_digits (by decide)) wm_D_114 wi_D_digits ws_D_digits rfl ⟨_, rfl⟩ d_D_convert_13 (by decide) is18 (by decide) rfl (Nat.le_of_ble_eq_true rfl) rfl (fun _ _ hp => DT_len hp.2) (fun r_13 w_13 hp_13 => ?_)
  obtain ⟨rfl, hT⟩ := hp_13
  rw [put18n (DT_len hT) rfl]
  refine hr.1 _ _ _ _ _ _ (Nat.le_refl _) (Nat.le_refl _) rfl d_D_convert_16 ?_
  exact ⟨rfl, hT.ds⟩
theorem cmp_ge0 {x y : Int64} (h : 0 ≤ lg_cmp x y) : ¬ x < y := by
  exact Int64.not_lt.mpr ((lg_cmp_ge x y).mp h)
set_option maxRecDepth 100000 in
set_option maxHeartbeats 4000000 in
theorem mt_D_number (x : Int64) (y : Int32) (w : List va_E) (hx : x < 0 ∨ ¬ okB y) : MT y_D_number c_D_number 4 (some .int) (rmT 8) [.ref 0, .long x, .int y] w X_IAE (fun w' => w' = w) := by
  refine MT_of (own := R_D) (by decide) rfl (fun _ => Nat.le_of_ble_eq_true rfl) (fun Z h ht => ?_)
  refine z_lload_n h d_D_number_0 rfl ?_
  refine z_lconst (v := 0) h d_D_number_1 (by decide) ?_
  refine z_lcmp h d_D_number_2 ?_
  refine z_if_ge (tgt := 16) h d_D_number_3 (by decide) (fun c_3 => ?_) (fun c_3 => ?_)
  · have hy : ¬ okB y := hx.resolve_left (cmp_ge0 c_3)
    refine z_iload_n h d_D_number_16 rfl ?_
    refine z_tS ht (mt_D_refuseWrongBase y hy []) (zTT (zf_D_refuseWrongBase (by decide))) wm_D_88 wt_D_refuseWrongBase d_D_number_17 (by decide) [] (by decide) rfl (Nat.le_of_ble_eq_true rfl) rfl rfl (fun w_17 hl_17 hp_17 => ?_)
    exact zput_nil
  · refine z_throw (tx := "a is below 0") ht fit_IAE own_IAE wkx_IAE wnx_IAE wix_IAE (zStr_mem (by decide +kernel)) d_D_number_6 d_D_number_9 d_D_number_10 d_D_number_12 d_D_number_15 (by decide) (by decide) rfl rfl rfl ?_
    rfl
set_option maxRecDepth 100000 in
set_option maxHeartbeats 4000000 in
theorem mt_D_convert (y : Int32) (w : List va_E) (hy : ¬ okB y) : MT y_D_convert c_D_convert 2 (some .int) (rmT 8) [.ref 0, .int y] w X_IAE (fun w' => w' = w) := by
  refine MT_of (own := R_D) (by decide) rfl (fun _ => Nat.le_of_ble_eq_true rfl) (fun Z h ht => ?_)
  refine z_iload_n h d_D_convert_0 rfl ?_
  refine z_tS ht (mt_D_refuseWrongBase y hy []) (zTT (zf_D_refuseWrongBase (by decide))) wm_D_88 wt_D_refuseWrongBase d_D_convert_1 (by decide) [] (by decide) rfl (Nat.le_of_ble_eq_true rfl) rfl rfl (fun w_1 hl_1 hp_1 => ?_)
  exact zput_nil
