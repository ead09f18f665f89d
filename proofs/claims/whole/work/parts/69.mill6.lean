/-! DigitMill's public methods: root, over -/
theorem b_le_bl {b : Nat} (hb : 2 ≤ b) : b ≤ 2 ^ bl (b - 1) := by
  have := bl_ub (b - 1)
  omega
theorem bn_le {n b : Nat} (hb : 2 ≤ b) (h : n * bl (b - 1) ≤ 20000) : b ^ n ≤ 2 ^ 20000 := by
  have h1 : b ^ n ≤ (2 ^ bl (b - 1)) ^ n := Nat.pow_le_pow_left (b_le_bl hb) n
  rw [← Nat.pow_mul] at h1
  exact Nat.le_trans h1 (Nat.pow_le_pow_right (by decide) (by rw [Nat.mul_comm]; exact h))
theorem root_800 {x y n b a : Nat} (hx : x * x ≤ a * b ^ (2 * n)) (ha : a < 2 ^ 63) (hbn : b ^ n ≤ 2 ^ 20000) : x < 1073741824 ^ 800 := by
  rw [p30]
  exact sq_gen (C := 0) hx (pw_fit ha hbn rfl) (by decide)
set_option maxRecDepth 100000 in
set_option maxHeartbeats 4000000 in
theorem ms_D_root (v b v2 b2 x n b' : Nat) (w : List va_E) (h0 : DS v b v2 b2 w) (hx : x < 2 ^ 63) (hn : n ≤ 6000) (hb : 2 ≤ b' ∧ b' < 37) (hnb : n * bl (b' - 1) ≤ 20000) : MS y_D_root c_D_root 5 (some .int) (rm 7) [.ref 0, .long (lN x), .int (nI n), .int (nI b')] w (fun r w' => ∃ y, IsR (x * b' ^ (2 * n)) y ∧ r = some (.int (nI (nd b' y))) ∧ DS y b' v2 b2 w') := by
  obtain ⟨gu, pg, dg, td, s, a, g, pw, gu2, pg2, dg2, td2, s2, a2, g2, pw2, sl, sr, sq, l, r, q, rfl, h1, h2, h3, h4, h5⟩ := h0
  refine MS_of (own := R_D) (by decide) rfl (fun _ => Nat.le_of_ble_eq_true rfl) (fun Z h hr => ?_)
  refine z_lload_n h d_D_root_0 rfl ?_
  refine z_lconst (v := lN 0) h d_D_root_1 (by decide) ?_
  refine z_lcmp_geN (tgt := 16) h d_D_root_2 d_D_root_3 (by decide) (by omega) (fun c_2 => ?_) (fun c_2 => ?_)
  · refine z_iload_n h d_D_root_16 rfl ?_
    refine z_iload h d_D_root_17 rfl ?_
    refine z_cS h (ms_D_refuseWrongPlaces n b' hn hb []) (zf_D_refuseWrongPlaces (by decide)) wm_D_40 wt_D_refuseWrongPlaces d_D_root_19 [] (by decide) rfl (Nat.le_of_ble_eq_true rfl) rfl (fun _ => rfl) (fun x_19 hx_19 => ?_)
    refine z_iload_n h d_D_root_22 rfl ?_
    refine z_iload h d_D_root_23 rfl ?_
    refine z_cS h (ms_D_refuseTooManyPlaces n b' hn hb hnb) (zf_D_refuseTooManyPlaces (by decide)) wm_D_44 wt_D_refuseTooManyPlaces d_D_root_25 [] (by decide) rfl (Nat.le_of_ble_eq_true rfl) rfl (fun _ => rfl) (fun x_25 hx_25 => ?_)
    show Z 0 0 (dW b gu pg dg td s a g pw b2 gu2 pg2 dg2 td2 s2 a2 g2 pw2 sl sr sq l r q []) _ _ _
    refine z_aload_n h d_D_root_28 rfl ?_
    refine z_get (C := R_D) (T := F_D) (N := 4) h 2 d_D_root_29 in_D rfl (by decide) wf_D_22 rfl rfl ?_
    refine z_lload_n h d_D_root_32 rfl ?_
    refine z_iload_n h d_D_root_33 rfl ?_
    refine z_iload h d_D_root_34 rfl ?_
    refine z_cV (C := R_B) (ci := 0) h (ms_B_makeRoot x n b' sl sr sq l r q hx hn hb (bn_le hb.1 hnb) h3.2 h5.2 h5.1) (zf_B_makeRoot (by decide)) wm_D_64 wi_B_makeRoot ws_B_makeRoot rfl ⟨_, rfl⟩ d_D_root_36 [11, 12, 13, 14, 15, 16, 17] (by decide) rfl (Nat.le_of_ble_eq_true rfl) rfl (fun _ => rfl) (fun x_36 hx_36 => ?_)
    obtain ⟨k1, k2, k3⟩ := hx_36
    show Z 0 0 (dW b gu pg dg td s a g pw b2 gu2 pg2 dg2 td2 s2 a2 g2 pw2 x_36.1 sr x_36.2.1 x_36.2.2.1 r x_36.2.2.2.1 []) _ _ _
    refine z_aload_n h d_D_root_39 rfl ?_
    refine z_aload_n h d_D_root_40 rfl ?_
    refine z_get (C := R_D) (T := F_D) (N := 4) h 2 d_D_root_41 in_D rfl (by decide) wf_D_22 rfl rfl ?_
    refine z_getN (C := R_B) (T := F_B) (N := 3) h 2 d_D_root_44 in_B rfl (by decide) wf_D_54 rfl rfl ?_
    refine z_iload h d_D_root_47 rfl ?_
    refine z_dV (C := R_D) (ci := 4) h (ms_D_retell v b v2 b2 b' x_36.2.2.2.2 gu pg dg td s a g pw gu2 pg2 dg2 td2 s2 a2 g2 pw2 x_36.1 sr x_36.2.1 x_36.2.2.1 r x_36.2.2.2.1 h1 h2 k1 h4 k3 (root_800 (y := 0) k2.1 hx (bn_le hb.1 hnb)) hb) (zf_D_retell (by decide)) wm_D_58 wi_D_retell ws_D_retell rfl ⟨_, rfl⟩ d_D_root_49 (by decide) is18 (by decide) rfl (Nat.le_of_ble_eq_true rfl) rfl (fun _ _ hp => DT_len hp.2) (fun r_49 w_49 hp_49 => ?_)
    obtain ⟨rfl, hT⟩ := hp_49
    rw [put18n (DT_len hT) rfl]
    refine hr.1 _ _ _ _ _ _ (Nat.le_refl _) (Nat.le_refl _) rfl d_D_root_52 ?_
    exact ⟨_, k2, rfl, hT.ds⟩
  · exact absurd c_2 (by omega)
theorem over_fit {x n b : Nat} (hx : x < 2 ^ 63) (hbn : b ^ n ≤ 2 ^ 20000) {K : Nat} (hK : 20063 ≤ 30 * K) : x * b ^ n < 1073741824 ^ K := by
  rw [p30]
  exact Nat.lt_of_lt_of_le (mul_fit (B := 2) (M := 63) (N := 20000) (by decide) hx hbn) (Nat.pow_le_pow_right (by decide) hK)
set_option maxRecDepth 100000 in
set_option maxHeartbeats 4000000 in
theorem ms_D_over (v b v2 b2 x u n b' : Nat) (w : List va_E) (h0 : DS v b v2 b2 w) (hx : x < 2 ^ 63) (hu : u < 2 ^ 63) (hu0 : 0 < u) (hn : n ≤ 6000) (hb : 2 ≤ b' ∧ b' < 37) (hnb : n * bl (b' - 1) ≤ 20000) : MS y_D_over c_D_over 7 (some .int) (rm 7) [.ref 0, .long (lN x), .long (lN u), .int (nI n), .int (nI b')] w (fun r w' => r = some (.int (nI (nd b' (x * b' ^ n / u)))) ∧ DS (x * b' ^ n / u) b' v2 b2 w') := by
  obtain ⟨gu, pg, dg, td, s, a, g, pw, gu2, pg2, dg2, td2, s2, a2, g2, pw2, sl, sr, sq, l, r, q, rfl, h1, h2, h3, h4, h5⟩ := h0
  refine MS_of (own := R_D) (by decide) rfl (fun _ => Nat.le_of_ble_eq_true rfl) (fun Z h hr => ?_)
  refine z_lload_n h d_D_over_0 rfl ?_
  refine z_lconst (v := lN 0) h d_D_over_1 (by decide) ?_
  refine z_lcmp_ltN (tgt := 12) h d_D_over_2 d_D_over_3 (by decide) (by omega) (fun c_2 => ?_) (fun c_2 => ?_)
  · exact absurd c_2 (by omega)
  · refine z_lload_n h d_D_over_6 rfl ?_
    refine z_lconst (v := lN 1) h d_D_over_7 (by decide) ?_
    refine z_lcmp_geN (tgt := 22) h d_D_over_8 d_D_over_9 (by decide) (by omega) (fun c_8 => ?_) (fun c_8 => ?_)
    · refine z_iload h d_D_over_22 rfl ?_
      refine z_iload h d_D_over_24 rfl ?_
      refine z_cS h (ms_D_refuseWrongPlaces n b' hn hb []) (zf_D_refuseWrongPlaces (by decide)) wm_D_40 wt_D_refuseWrongPlaces d_D_over_26 [] (by decide) rfl (Nat.le_of_ble_eq_true rfl) rfl (fun _ => rfl) (fun x_26 hx_26 => ?_)
      refine z_iload h d_D_over_29 rfl ?_
      refine z_iload h d_D_over_31 rfl ?_
      refine z_cS h (ms_D_refuseTooManyPlaces n b' hn hb hnb) (zf_D_refuseTooManyPlaces (by decide)) wm_D_44 wt_D_refuseTooManyPlaces d_D_over_33 [] (by decide) rfl (Nat.le_of_ble_eq_true rfl) rfl (fun _ => rfl) (fun x_33 hx_33 => ?_)
      show Z 0 0 (dW b gu pg dg td s a g pw b2 gu2 pg2 dg2 td2 s2 a2 g2 pw2 sl sr sq l r q []) _ _ _
      refine z_aload_n h d_D_over_36 rfl ?_
      refine z_get (C := R_D) (T := F_D) (N := 4) h 2 d_D_over_37 in_D rfl (by decide) wf_D_22 rfl rfl ?_
      refine z_getN (C := R_B) (T := F_B) (N := 3) h 0 d_D_over_40 in_B rfl (by decide) wf_D_70 rfl rfl ?_
      refine z_lload_n h d_D_over_43 rfl ?_
      refine z_cV (C := R_H) (ci := 3) h (ms_H_assign 1400 sl x l (by decide) h3.2 hx) (zf_H_assign (by decide)) wm_D_73 wi_H_assign ws_H_assign rfl ⟨_, rfl⟩ d_D_over_44 [12, 13] (by decide) rfl (Nat.le_of_ble_eq_true rfl) rfl (fun _ => rfl) (fun x_44 hx_44 => ?_)
      show Z 0 0 (dW b gu pg dg td s a g pw b2 gu2 pg2 dg2 td2 s2 a2 g2 pw2 x_44.2 sr sq x_44.1 r q []) _ _ _
      refine z_aload_n h d_D_over_47 rfl ?_
      refine z_get (C := R_D) (T := F_D) (N := 4) h 2 d_D_over_48 in_D rfl (by decide) wf_D_22 rfl rfl ?_
      refine z_getN (C := R_B) (T := F_B) (N := 3) h 0 d_D_over_51 in_B rfl (by decide) wf_D_70 rfl rfl ?_
      refine z_iload h d_D_over_54 rfl ?_
      refine z_iload h d_D_over_56 rfl ?_
      refine z_cV (C := R_H) (ci := 3) h (ms_H_raise 1400 x_44.2 x b' n x_44.1 (by decide) hx_44 hb (by omega) (over_fit hx (bn_le hb.1 hnb) (by decide))) (zf_H_raise (by decide)) wm_D_79 wi_H_raise ws_H_raise rfl ⟨_, rfl⟩ d_D_over_58 [12, 13] (by decide) rfl (Nat.le_of_ble_eq_true rfl) rfl (fun _ => rfl) (fun x_58 hx_58 => ?_)
      show Z 0 0 (dW b gu pg dg td s a g pw b2 gu2 pg2 dg2 td2 s2 a2 g2 pw2 x_58.2 sr sq x_58.1 r q []) _ _ _
      refine z_aload_n h d_D_over_61 rfl ?_
      refine z_get (C := R_D) (T := F_D) (N := 4) h 2 d_D_over_62 in_D rfl (by decide) wf_D_22 rfl rfl ?_
      refine z_getN (C := R_B) (T := F_B) (N := 3) h 1 d_D_over_65 in_B rfl (by decide) wf_D_82 rfl rfl ?_
      refine z_lload_n h d_D_over_68 rfl ?_
      refine z_cV (C := R_H) (ci := 3) h (ms_H_assign 1400 sr u r (by decide) h4.2 hu) (zf_H_assign (by decide)) wm_D_73 wi_H_assign ws_H_assign rfl ⟨_, rfl⟩ d_D_over_69 [14, 15] (by decide) rfl (Nat.le_of_ble_eq_true rfl) rfl (fun _ => rfl) (fun x_69 hx_69 => ?_)
      show Z 0 0 (dW b gu pg dg td s a g pw b2 gu2 pg2 dg2 td2 s2 a2 g2 pw2 x_58.2 x_69.2 sq x_58.1 x_69.1 q []) _ _ _
      refine z_aload_n h d_D_over_72 rfl ?_
      refine z_get (C := R_D) (T := F_D) (N := 4) h 2 d_D_over_73 in_D rfl (by decide) wf_D_22 rfl rfl ?_
      refine z_cV (C := R_B) (ci := 0) h (ms_B_makeQuotient x_58.2 x_69.2 sq (x * b' ^ n) u x_58.1 x_69.1 q hx_58 hx_69 h5.2 hu0 (Rp_small (by decide) hx_58 (over_fit hx (bn_le hb.1 hnb) (by decide)))) (zf_B_makeQuotient (by decide)) wm_D_85 wi_B_makeQuotient ws_B_makeQuotient rfl ⟨_, rfl⟩ d_D_over_76 [11, 12, 13, 14, 15, 16, 17] (by decide) rfl (Nat.le_of_ble_eq_true rfl) rfl (fun _ => rfl) (fun x_76 hx_76 => ?_)
      obtain ⟨k1, k2, k3⟩ := hx_76
      show Z 0 0 (dW b gu pg dg td s a g pw b2 gu2 pg2 dg2 td2 s2 a2 g2 pw2 x_76.1 x_76.2.1 x_76.2.2.1 x_76.2.2.2.1 x_76.2.2.2.2.1 x_76.2.2.2.2.2 []) _ _ _
      refine z_aload_n h d_D_over_79 rfl ?_
      refine z_aload_n h d_D_over_80 rfl ?_
      refine z_get (C := R_D) (T := F_D) (N := 4) h 2 d_D_over_81 in_D rfl (by decide) wf_D_22 rfl rfl ?_
      refine z_getN (C := R_B) (T := F_B) (N := 3) h 2 d_D_over_84 in_B rfl (by decide) wf_D_54 rfl rfl ?_
      refine z_iload h d_D_over_87 rfl ?_
      refine z_dV (C := R_D) (ci := 4) h (ms_D_retell v b v2 b2 b' (x * b' ^ n / u) gu pg dg td s a g pw gu2 pg2 dg2 td2 s2 a2 g2 pw2 x_76.1 x_76.2.1 x_76.2.2.1 x_76.2.2.2.1 x_76.2.2.2.2.1 x_76.2.2.2.2.2 h1 h2 ⟨k1.1, k1.2.1⟩ k2 k3 (Nat.lt_of_le_of_lt (Nat.div_le_self _ _) (over_fit hx (bn_le hb.1 hnb) (by decide))) hb) (zf_D_retell (by decide)) wm_D_58 wi_D_retell ws_D_retell rfl ⟨_, rfl⟩ d_D_over_89 (by decide) is18 (by decide) rfl (Nat.le_of_ble_eq_true rfl) rfl (fun _ _ hp => DT_len hp.2) (fun r_89 w_89 hp_89 => ?_)
      obtain ⟨rfl, hT⟩ := hp_89
      rw [put18n (DT_len hT) rfl]
      refine hr.1 _ _ _ _ _ _ (Nat.le_refl _) (Nat.le_refl _) rfl d_D_over_92 ?_
      exact ⟨rfl, hT.ds⟩
    · exact absurd c_8 (by omega)
theorem cmp_nlt0 {x y : Int64} (h : ¬ lg_cmp x y < 0) : ¬ x < y := cmp_ge0 (Int32.not_lt.mp h)
set_option maxRecDepth 100000 in
set_option maxHeartbeats 4000000 in
theorem mt_D_root1 (a : Int64) (x y : Int32) (w : List va_E) (hx : a < 0 ∨ ¬ (okN x ∧ okB y)) : MT y_D_root c_D_root 5 (some .int) (rmT 8) [.ref 0, .long a, .int x, .int y] w X_IAE (fun w' => w' = w) := by
  refine MT_of (own := R_D) (by decide) rfl (fun _ => Nat.le_of_ble_eq_true rfl) (fun Z h ht => ?_)
  refine z_lload_n h d_D_root_0 rfl ?_
  refine z_lconst (v := 0) h d_D_root_1 (by decide) ?_
  refine z_lcmp h d_D_root_2 ?_
  refine z_if_ge (tgt := 16) h d_D_root_3 (by decide) (fun c_3 => ?_) (fun c_3 => ?_)
  · refine z_iload_n h d_D_root_16 rfl ?_
    refine z_iload h d_D_root_17 rfl ?_
    refine z_tS ht (mt_D_refuseWrongPlaces x y (hx.resolve_left (cmp_ge0 c_3)) []) (zTT (zf_D_refuseWrongPlaces (by decide))) wm_D_40 wt_D_refuseWrongPlaces d_D_root_19 (by decide) [] (by decide) rfl (Nat.le_of_ble_eq_true rfl) rfl rfl (fun w_19 hl_19 hp_19 => ?_)
    exact zput_nil
  · refine z_throw (tx := "a is below 0") ht fit_IAE own_IAE wkx_IAE wnx_IAE wix_IAE (zStr_mem (by decide +kernel)) d_D_root_6 d_D_root_9 d_D_root_10 d_D_root_12 d_D_root_15 (by decide) (by decide) rfl rfl rfl ?_
    rfl
set_option maxRecDepth 100000 in
set_option maxHeartbeats 4000000 in
theorem mt_D_root2 (x n b : Nat) (w : List va_E) (hx : x < 2 ^ 63) (hn : n ≤ 6000) (hb : 2 ≤ b ∧ b < 37) (hnb : ¬ n * bl (b - 1) ≤ 20000) : MT y_D_root c_D_root 5 (some .int) (rmT 8) [.ref 0, .long (lN x), .int (nI n), .int (nI b)] w X_UOE (fun w' => w' = w) := by
  refine MT_of (own := R_D) (by decide) rfl (fun _ => Nat.le_of_ble_eq_true rfl) (fun Z h ht => ?_)
  refine z_lload_n h d_D_root_0 rfl ?_
  refine z_lconst (v := lN 0) h d_D_root_1 (by decide) ?_
  refine z_lcmp_geN (tgt := 16) h d_D_root_2 d_D_root_3 (by decide) (by omega) (fun c_2 => ?_) (fun c_2 => ?_)
  · refine z_iload_n h d_D_root_16 rfl ?_
    refine z_iload h d_D_root_17 rfl ?_
    refine z_callS h (ms_D_refuseWrongPlaces n b hn hb []) (zT (zf_D_refuseWrongPlaces (by decide))) wm_D_40 wt_D_refuseWrongPlaces d_D_root_19 (by decide) [] (by decide) rfl (Nat.le_of_ble_eq_true rfl) rfl (fun _ _ hp => by obtain ⟨_, -, rfl, -⟩ := hp; rfl) (fun r_19 w_19 hp_19 => ?_)
    obtain ⟨x_19, rfl, rfl, hx_19⟩ := hp_19
    rw [zput_nil]
    refine z_iload_n h d_D_root_22 rfl ?_
    refine z_iload h d_D_root_23 rfl ?_
    refine z_tS ht (mt_D_refuseTooManyPlaces n b hn hb hnb) (zTT (zf_D_refuseTooManyPlaces (by decide))) wm_D_44 wt_D_refuseTooManyPlaces d_D_root_25 (by decide) [] (by decide) rfl (Nat.le_of_ble_eq_true rfl) rfl rfl (fun w_25 hl_25 hp_25 => ?_)
    exact zput_nil
  · exact absurd c_2 (by omega)
set_option maxRecDepth 100000 in
set_option maxHeartbeats 4000000 in
theorem mt_D_over1 (a c : Int64) (x y : Int32) (w : List va_E) (hx : a < 0 ∨ c < 1 ∨ ¬ (okN x ∧ okB y)) : MT y_D_over c_D_over 7 (some .int) (rmT 8) [.ref 0, .long a, .long c, .int x, .int y] w X_IAE (fun w' => w' = w) := by
  refine MT_of (own := R_D) (by decide) rfl (fun _ => Nat.le_of_ble_eq_true rfl) (fun Z h ht => ?_)
  refine z_lload_n h d_D_over_0 rfl ?_
  refine z_lconst (v := 0) h d_D_over_1 (by decide) ?_
  refine z_lcmp h d_D_over_2 ?_
  refine z_if_lt (tgt := 12) h d_D_over_3 (by decide) (fun c_3 => ?_) (fun c_3 => ?_)
  · refine z_throw (tx := "a is below 0 or b is below 1") ht fit_IAE own_IAE wkx_IAE wnx_IAE wix_IAE (zStr_mem (by decide +kernel)) d_D_over_12 d_D_over_15 d_D_over_16 d_D_over_18 d_D_over_21 (by decide) (by decide) rfl rfl rfl ?_
    rfl
  · refine z_lload_n h d_D_over_6 rfl ?_
    refine z_lconst (v := 1) h d_D_over_7 (by decide) ?_
    refine z_lcmp h d_D_over_8 ?_
    refine z_if_ge (tgt := 22) h d_D_over_9 (by decide) (fun c_9 => ?_) (fun c_9 => ?_)
    · refine z_iload h d_D_over_22 rfl ?_
      refine z_iload h d_D_over_24 rfl ?_
      refine z_tS ht (mt_D_refuseWrongPlaces x y ((hx.resolve_left (cmp_nlt0 c_3)).resolve_left (cmp_ge0 c_9)) []) (zTT (zf_D_refuseWrongPlaces (by decide))) wm_D_40 wt_D_refuseWrongPlaces d_D_over_26 (by decide) [] (by decide) rfl (Nat.le_of_ble_eq_true rfl) rfl rfl (fun w_26 hl_26 hp_26 => ?_)
      exact zput_nil
    · refine z_throw (tx := "a is below 0 or b is below 1") ht fit_IAE own_IAE wkx_IAE wnx_IAE wix_IAE (zStr_mem (by decide +kernel)) d_D_over_12 d_D_over_15 d_D_over_16 d_D_over_18 d_D_over_21 (by decide) (by decide) rfl rfl rfl ?_
      rfl
set_option maxRecDepth 100000 in
set_option maxHeartbeats 4000000 in
theorem mt_D_over2 (x u n b : Nat) (w : List va_E) (hx : x < 2 ^ 63) (hu : u < 2 ^ 63) (hu0 : 0 < u) (hn : n ≤ 6000) (hb : 2 ≤ b ∧ b < 37) (hnb : ¬ n * bl (b - 1) ≤ 20000) : MT y_D_over c_D_over 7 (some .int) (rmT 8) [.ref 0, .long (lN x), .long (lN u), .int (nI n), .int (nI b)] w X_UOE (fun w' => w' = w) := by
  refine MT_of (own := R_D) (by decide) rfl (fun _ => Nat.le_of_ble_eq_true rfl) (fun Z h ht => ?_)
  refine z_lload_n h d_D_over_0 rfl ?_
  refine z_lconst (v := lN 0) h d_D_over_1 (by decide) ?_
  refine z_lcmp_ltN (tgt := 12) h d_D_over_2 d_D_over_3 (by decide) (by omega) (fun c_2 => ?_) (fun c_2 => ?_)
  · exact absurd c_2 (by omega)
  · refine z_lload_n h d_D_over_6 rfl ?_
    refine z_lconst (v := lN 1) h d_D_over_7 (by decide) ?_
    refine z_lcmp_geN (tgt := 22) h d_D_over_8 d_D_over_9 (by decide) (by omega) (fun c_8 => ?_) (fun c_8 => ?_)
    · refine z_iload h d_D_over_22 rfl ?_
      refine z_iload h d_D_over_24 rfl ?_
      refine z_callS h (ms_D_refuseWrongPlaces n b hn hb []) (zT (zf_D_refuseWrongPlaces (by decide))) wm_D_40 wt_D_refuseWrongPlaces d_D_over_26 (by decide) [] (by decide) rfl (Nat.le_of_ble_eq_true rfl) rfl (fun _ _ hp => by obtain ⟨_, -, rfl, -⟩ := hp; rfl) (fun r_26 w_26 hp_26 => ?_)
      obtain ⟨x_26, rfl, rfl, hx_26⟩ := hp_26
      rw [zput_nil]
      refine z_iload h d_D_over_29 rfl ?_
      refine z_iload h d_D_over_31 rfl ?_
      refine z_tS ht (mt_D_refuseTooManyPlaces n b hn hb hnb) (zTT (zf_D_refuseTooManyPlaces (by decide))) wm_D_44 wt_D_refuseTooManyPlaces d_D_over_33 (by decide) [] (by decide) rfl (Nat.le_of_ble_eq_true rfl) rfl rfl (fun w_33 hl_33 hp_33 => ?_)
      exact zput_nil
    · exact absurd c_8 (by omega)
