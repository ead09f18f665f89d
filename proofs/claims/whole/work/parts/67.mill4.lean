/-! DigitMill's public methods: push, add, subtract, times, divide, rooted, root, over -/
theorem bl_B800 {v : Nat} (h : bl v ≤ 24000) : v < 1073741824 ^ 800 := by
  rw [p30]
  exact Nat.lt_of_lt_of_le (bl_ub v) (Nat.pow_le_pow_right (by decide) h)
theorem TI_lt {b v s gu pg dg td : Nat} {a g pw : Nat → Nat} (h : TI b v s a gu pg dg td g pw) : v < 1073741824 ^ 800 := by
  have h1 := Rp_lt h.1
  exact Nat.lt_of_lt_of_le h1 (Nat.pow_le_pow_right (by decide) h.1.1)
theorem TI_bl {b v s gu pg dg td : Nat} {a g pw : Nat → Nat} (h : TI b v s a gu pg dg td g pw) : bl v ≤ 24000 := by
  apply bl_lt
  have := TI_lt h
  rw [p30] at this
  exact this
theorem mul_fit {v x B M N : Nat} (hB : 0 < B) (h1 : v < B ^ M) (h2 : x ≤ B ^ N) : v * x < B ^ (M + N) := by
  rw [Nat.pow_add]
  exact Nat.lt_of_le_of_lt (Nat.mul_le_mul_left v h2) (Nat.mul_lt_mul_of_pos_right h1 (Nat.pow_pos hB))
theorem add_fit {v u B M N : Nat} (hB : 2 ≤ B) (h1 : v < B ^ M) (h2 : u < B ^ M) (h : M + 1 ≤ N) : v + u < B ^ N := by
  have h3 : B ^ (M + 1) ≤ B ^ N := Nat.pow_le_pow_right (by omega) h
  rw [Nat.pow_succ] at h3
  have h4 : B ^ M * 2 ≤ B ^ M * B := Nat.mul_le_mul_left _ hB
  omega
theorem pow_up {B M N : Nat} (hB : 0 < B) (h : M ≤ N) {v : Nat} (hv : v < B ^ M) : v < B ^ N := Nat.lt_of_lt_of_le hv (Nat.pow_le_pow_right hB h)
theorem sz_bl {N : Nat} {a : Nat → Nat} {s v : Nat} (h : Rp 1073741824 N a s v) : s * 30 ≤ bl v + 30 := by
  obtain ⟨h1, h2, h3, h4⟩ := h
  rcases h4 with h4 | h4
  · omega
  · rw [p30] at h4
    have h5 : 30 * (s - 1) < bl v := by
      apply Nat.lt_of_not_le
      intro q
      have := bl_ub v
      have h6 : (2 : Nat) ^ bl v ≤ 2 ^ (30 * (s - 1)) := Nat.pow_le_pow_right (by decide) q
      exact absurd (Nat.lt_of_lt_of_le this h6) (Nat.not_lt.mpr h4)
    omega
theorem sz_two {N M : Nat} {a c : Nat → Nat} {s t v u : Nat} (h : Rp 1073741824 N a s v) (g : Rp 1073741824 M c t u) (hl : bl v + bl u ≤ 24001) : s + t ≤ 1400 := by
  have := sz_bl h
  have := sz_bl g
  omega
set_option maxRecDepth 100000 in
set_option maxHeartbeats 4000000 in
theorem ms_D_add (v b v2 b2 : Nat) (w : List va_E) (h0 : DS v b v2 b2 w) (hl : bl (v + v2) ≤ 24000) : MS y_D_add c_D_add 2 (some .int) (rm 7) [.ref 0] w (fun r w' => r = some (.int (nI (nd b (v + v2)))) ∧ DS (v + v2) b v2 b2 w') := by
  obtain ⟨gu, pg, dg, td, s, a, g, pw, gu2, pg2, dg2, td2, s2, a2, g2, pw2, sl, sr, sq, l, r, q, rfl, h1, h2, h3, h4, h5⟩ := h0
  refine MS_of (own := R_D) (by decide) rfl (fun _ => Nat.le_of_ble_eq_true rfl) (fun Z h hr => ?_)
  have hfit : v + v2 < 1073741824 ^ 1400 := pow_up (by decide) (by decide) (bl_B800 hl)
  have hs : s ≤ 800 := h1.1.1
  have hs2 : s2 ≤ 800 := h2.1.1
  refine z_aload_n h d_D_add_0 rfl ?_
  refine z_get (C := R_D) (T := F_D) (N := 4) h 2 d_D_add_1 in_D rfl (by decide) wf_D_22 rfl rfl ?_
  refine z_getN (C := R_B) (T := F_B) (N := 3) h 2 d_D_add_4 in_B rfl (by decide) wf_D_54 rfl rfl ?_
  refine z_astore_n h d_D_add_7 (by decide) ?_
  refine z_aload_n h d_D_add_8 rfl ?_
  refine z_aload_n h d_D_add_9 rfl ?_
  refine z_get (C := R_D) (T := F_D) (N := 4) h 0 d_D_add_10 in_D rfl (by decide) wf_D_12 rfl rfl ?_
  refine z_getN (C := R_T) (T := F_T) (N := 8) h 0 d_D_add_13 in_T rfl (by decide) wf_D_98 rfl rfl ?_
  refine z_cV (C := R_H) (ci := 3) h (ms_H_copy 1400 sq 800 s v q a (by decide) (by decide) (by omega) h5.2 h1.1) (zf_H_copy (by decide)) wm_D_101 wi_H_copy ws_H_copy rfl ⟨_, rfl⟩ d_D_add_16 [16, 17, 2, 3] (by decide) rfl (Nat.le_of_ble_eq_true rfl) rfl (fun _ => rfl) (fun x_16 hx_16 => ?_)
  refine z_aload_n h d_D_add_19 rfl ?_
  refine z_aload_n h d_D_add_20 rfl ?_
  refine z_get (C := R_D) (T := F_D) (N := 4) h 1 d_D_add_21 in_D rfl (by decide) wf_D_16 rfl rfl ?_
  refine z_getN (C := R_T) (T := F_T) (N := 8) h 0 d_D_add_24 in_T rfl (by decide) wf_D_98 rfl rfl ?_
  refine z_cV (C := R_H) (ci := 3) h (ms_H_increase 1400 x_16.2 800 s2 v v2 x_16.1 a2 (by decide) (by decide) hx_16 h2.1 (by omega) hfit) (zf_H_increase (by decide)) wm_D_122 wi_H_increase ws_H_increase rfl ⟨_, rfl⟩ d_D_add_27 [16, 17, 7, 8] (by decide) rfl (Nat.le_of_ble_eq_true rfl) rfl (fun _ => rfl) (fun x_27 hx_27 => ?_)
  refine z_aload_n h d_D_add_30 rfl ?_
  refine z_cS h (ms_D_refuseTooLong x_27.2 (v + v2) x_27.1 hx_27 hl) (zf_D_refuseTooLong (by decide)) wm_D_108 wt_D_refuseTooLong d_D_add_31 [16, 17] (by decide) rfl (Nat.le_of_ble_eq_true rfl) rfl (fun _ => rfl) (fun x_31 hx_31 => ?_)
  refine z_aload_n h d_D_add_34 rfl ?_
  refine z_aload_n h d_D_add_35 rfl ?_
  refine z_aload_n h d_D_add_36 rfl ?_
  refine z_get (C := R_D) (T := F_D) (N := 4) h 0 d_D_add_37 in_D rfl (by decide) wf_D_12 rfl rfl ?_
  refine z_getN (C := R_T) (T := F_T) (N := 8) h 1 d_D_add_40 in_T rfl (by decide) wf_D_92 rfl rfl ?_
  show Z 0 0 (dW b gu pg dg td s a g pw b2 gu2 pg2 dg2 td2 s2 a2 g2 pw2 sl sr x_27.2 l r x_27.1 []) _ _ _
  refine z_dV (C := R_D) (ci := 4) h (ms_D_retell v b v2 b2 b (v + v2) gu pg dg td s a g pw gu2 pg2 dg2 td2 s2 a2 g2 pw2 sl sr x_27.2 l r x_27.1 h1 h2 h3 h4 hx_27 (bl_B800 hl) h1.2.1) (zf_D_retell (by decide)) wm_D_58 wi_D_retell ws_D_retell rfl ⟨_, rfl⟩ d_D_add_43 (by decide) is18 (by decide) rfl (Nat.le_of_ble_eq_true rfl) rfl (fun _ _ hp => DT_len hp.2) (fun r_43 w_43 hp_43 => ?_)
  obtain ⟨rfl, hT⟩ := hp_43
  rw [put18n (DT_len hT) rfl]
  refine hr.1 _ _ _ _ _ _ (Nat.le_refl _) (Nat.le_refl _) rfl d_D_add_46 ?_
  exact ⟨rfl, hT.ds⟩
set_option maxRecDepth 100000 in
set_option maxHeartbeats 4000000 in
theorem mt_D_add (v b v2 b2 : Nat) (w : List va_E) (h0 : DS v b v2 b2 w) (hl : ¬ bl (v + v2) ≤ 24000) : MT y_D_add c_D_add 2 (some .int) (rmT 8) [.ref 0] w X_UOE (fun w' => DS v b v2 b2 w') := by
  obtain ⟨gu, pg, dg, td, s, a, g, pw, gu2, pg2, dg2, td2, s2, a2, g2, pw2, sl, sr, sq, l, r, q, rfl, h1, h2, h3, h4, h5⟩ := h0
  refine MT_of (own := R_D) (by decide) rfl (fun _ => Nat.le_of_ble_eq_true rfl) (fun Z h ht => ?_)
  have hfit : v + v2 < 1073741824 ^ 1400 := add_fit (by decide) (TI_lt h1) (TI_lt h2) (by decide)
  have hs : s ≤ 800 := h1.1.1
  have hs2 : s2 ≤ 800 := h2.1.1
  refine z_aload_n h d_D_add_0 rfl ?_
  refine z_get (C := R_D) (T := F_D) (N := 4) h 2 d_D_add_1 in_D rfl (by decide) wf_D_22 rfl rfl ?_
  refine z_getN (C := R_B) (T := F_B) (N := 3) h 2 d_D_add_4 in_B rfl (by decide) wf_D_54 rfl rfl ?_
  refine z_astore_n h d_D_add_7 (by decide) ?_
  refine z_aload_n h d_D_add_8 rfl ?_
  refine z_aload_n h d_D_add_9 rfl ?_
  refine z_get (C := R_D) (T := F_D) (N := 4) h 0 d_D_add_10 in_D rfl (by decide) wf_D_12 rfl rfl ?_
  refine z_getN (C := R_T) (T := F_T) (N := 8) h 0 d_D_add_13 in_T rfl (by decide) wf_D_98 rfl rfl ?_
  refine z_callV (C := R_H) (ci := 3) h (ms_H_copy 1400 sq 800 s v q a (by decide) (by decide) (by omega) h5.2 h1.1) (zT (zf_H_copy (by decide))) wm_D_101 wi_H_copy ws_H_copy rfl ⟨_, rfl⟩ d_D_add_16 (by decide) [16, 17, 2, 3] (by decide) rfl (Nat.le_of_ble_eq_true rfl) rfl (fun _ _ hp => by obtain ⟨_, -, rfl, -⟩ := hp; rfl) (fun r_16 w_16 hp_16 => ?_)
  obtain ⟨x_16, rfl, rfl, hx_16⟩ := hp_16
  refine z_aload_n h d_D_add_19 rfl ?_
  refine z_aload_n h d_D_add_20 rfl ?_
  refine z_get (C := R_D) (T := F_D) (N := 4) h 1 d_D_add_21 in_D rfl (by decide) wf_D_16 rfl rfl ?_
  refine z_getN (C := R_T) (T := F_T) (N := 8) h 0 d_D_add_24 in_T rfl (by decide) wf_D_98 rfl rfl ?_
  refine z_callV (C := R_H) (ci := 3) h (ms_H_increase 1400 x_16.2 800 s2 v v2 x_16.1 a2 (by decide) (by decide) hx_16 h2.1 (by omega) hfit) (zT (zf_H_increase (by decide))) wm_D_122 wi_H_increase ws_H_increase rfl ⟨_, rfl⟩ d_D_add_27 (by decide) [16, 17, 7, 8] (by decide) rfl (Nat.le_of_ble_eq_true rfl) rfl (fun _ _ hp => by obtain ⟨_, -, rfl, -⟩ := hp; rfl) (fun r_27 w_27 hp_27 => ?_)
  obtain ⟨x_27, rfl, rfl, hx_27⟩ := hp_27
  refine z_aload_n h d_D_add_30 rfl ?_
  refine z_tS ht (mt_D_refuseTooLong x_27.2 (v + v2) x_27.1 hx_27 hl) (zTT (zf_D_refuseTooLong (by decide))) wm_D_108 wt_D_refuseTooLong d_D_add_31 (by decide) [16, 17] (by decide) rfl (Nat.le_of_ble_eq_true rfl) rfl rfl (fun w_31 hl_31 hp_31 => ?_)
  subst hp_31
  exact ⟨gu, pg, dg, td, s, a, g, pw, gu2, pg2, dg2, td2, s2, a2, g2, pw2, sl, sr, x_27.2, l, r, x_27.1, rfl, h1, h2, h3, h4, ⟨hx_27.1, hx_27.2.1⟩⟩
set_option maxRecDepth 100000 in
set_option maxHeartbeats 4000000 in
theorem ms_D_subtract (v b v2 b2 : Nat) (w : List va_E) (h0 : DS v b v2 b2 w) (hl : v2 ≤ v) : MS y_D_subtract c_D_subtract 2 (some .int) (rm 7) [.ref 0] w (fun r w' => r = some (.int (nI (nd b (v - v2)))) ∧ DS (v - v2) b v2 b2 w') := by
  obtain ⟨gu, pg, dg, td, s, a, g, pw, gu2, pg2, dg2, td2, s2, a2, g2, pw2, sl, sr, sq, l, r, q, rfl, h1, h2, h3, h4, h5⟩ := h0
  refine MS_of (own := R_D) (by decide) rfl (fun _ => Nat.le_of_ble_eq_true rfl) (fun Z h hr => ?_)
  have hs : s ≤ 800 := h1.1.1
  have hv8 : v - v2 < 1073741824 ^ 800 := Nat.lt_of_le_of_lt (Nat.sub_le _ _) (TI_lt h1)
  have ho : 0 ≤ ordI v v2 := by
    unfold ordI
    rw [if_neg (by omega)]
    split <;> decide
  refine z_aload_n h d_D_subtract_0 rfl ?_
  refine z_get (C := R_D) (T := F_D) (N := 4) h 0 d_D_subtract_1 in_D rfl (by decide) wf_D_12 rfl rfl ?_
  refine z_getN (C := R_T) (T := F_T) (N := 8) h 0 d_D_subtract_4 in_T rfl (by decide) wf_D_98 rfl rfl ?_
  refine z_aload_n h d_D_subtract_7 rfl ?_
  refine z_get (C := R_D) (T := F_D) (N := 4) h 1 d_D_subtract_8 in_D rfl (by decide) wf_D_16 rfl rfl ?_
  refine z_getN (C := R_T) (T := F_T) (N := 8) h 0 d_D_subtract_11 in_T rfl (by decide) wf_D_98 rfl rfl ?_
  refine z_cV (C := R_H) (ci := 3) h (ms_H_order 800 s 800 s2 v v2 a a2 (by decide) (by decide) h1.1 h2.1) (zf_H_order (by decide)) wm_D_125 wi_H_order ws_H_order rfl ⟨_, rfl⟩ d_D_subtract_14 [2, 3, 7, 8] (by decide) rfl (Nat.le_of_ble_eq_true rfl) rfl (fun _ => rfl) (fun x_14 hx_14 => ?_)
  refine z_if_ge (tgt := 30) h d_D_subtract_17 (by decide) (fun c_17 => ?_) (fun c_17 => ?_)
  · refine z_aload_n h d_D_subtract_30 rfl ?_
    refine z_get (C := R_D) (T := F_D) (N := 4) h 2 d_D_subtract_31 in_D rfl (by decide) wf_D_22 rfl rfl ?_
    refine z_getN (C := R_B) (T := F_B) (N := 3) h 2 d_D_subtract_34 in_B rfl (by decide) wf_D_54 rfl rfl ?_
    refine z_astore_n h d_D_subtract_37 (by decide) ?_
    refine z_aload_n h d_D_subtract_38 rfl ?_
    refine z_aload_n h d_D_subtract_39 rfl ?_
    refine z_get (C := R_D) (T := F_D) (N := 4) h 0 d_D_subtract_40 in_D rfl (by decide) wf_D_12 rfl rfl ?_
    refine z_getN (C := R_T) (T := F_T) (N := 8) h 0 d_D_subtract_43 in_T rfl (by decide) wf_D_98 rfl rfl ?_
    refine z_cV (C := R_H) (ci := 3) h (ms_H_copy 1400 sq 800 s v q a (by decide) (by decide) (by omega) h5.2 h1.1) (zf_H_copy (by decide)) wm_D_101 wi_H_copy ws_H_copy rfl ⟨_, rfl⟩ d_D_subtract_46 [16, 17, 2, 3] (by decide) rfl (Nat.le_of_ble_eq_true rfl) rfl (fun _ => rfl) (fun x_46 hx_46 => ?_)
    refine z_aload_n h d_D_subtract_49 rfl ?_
    refine z_aload_n h d_D_subtract_50 rfl ?_
    refine z_get (C := R_D) (T := F_D) (N := 4) h 1 d_D_subtract_51 in_D rfl (by decide) wf_D_16 rfl rfl ?_
    refine z_getN (C := R_T) (T := F_T) (N := 8) h 0 d_D_subtract_54 in_T rfl (by decide) wf_D_98 rfl rfl ?_
    refine z_cV (C := R_H) (ci := 3) h (ms_H_decrease 1400 x_46.2 800 s2 v v2 x_46.1 a2 (by decide) (by decide) hx_46 h2.1 hl) (zf_H_decrease (by decide)) wm_D_134 wi_H_decrease ws_H_decrease rfl ⟨_, rfl⟩ d_D_subtract_57 [16, 17, 7, 8] (by decide) rfl (Nat.le_of_ble_eq_true rfl) rfl (fun _ => rfl) (fun x_57 hx_57 => ?_)
    refine z_aload_n h d_D_subtract_60 rfl ?_
    refine z_aload_n h d_D_subtract_61 rfl ?_
    refine z_aload_n h d_D_subtract_62 rfl ?_
    refine z_get (C := R_D) (T := F_D) (N := 4) h 0 d_D_subtract_63 in_D rfl (by decide) wf_D_12 rfl rfl ?_
    refine z_getN (C := R_T) (T := F_T) (N := 8) h 1 d_D_subtract_66 in_T rfl (by decide) wf_D_92 rfl rfl ?_
    show Z 0 0 (dW b gu pg dg td s a g pw b2 gu2 pg2 dg2 td2 s2 a2 g2 pw2 sl sr x_57.2 l r x_57.1 []) _ _ _
    refine z_dV (C := R_D) (ci := 4) h (ms_D_retell v b v2 b2 b (v - v2) gu pg dg td s a g pw gu2 pg2 dg2 td2 s2 a2 g2 pw2 sl sr x_57.2 l r x_57.1 h1 h2 h3 h4 hx_57 hv8 h1.2.1) (zf_D_retell (by decide)) wm_D_58 wi_D_retell ws_D_retell rfl ⟨_, rfl⟩ d_D_subtract_69 (by decide) is18 (by decide) rfl (Nat.le_of_ble_eq_true rfl) rfl (fun _ _ hp => DT_len hp.2) (fun r_69 w_69 hp_69 => ?_)
    obtain ⟨rfl, hT⟩ := hp_69
    rw [put18n (DT_len hT) rfl]
    refine hr.1 _ _ _ _ _ _ (Nat.le_refl _) (Nat.le_refl _) rfl d_D_subtract_72 ?_
    exact ⟨rfl, hT.ds⟩
  · exact absurd ho c_17
set_option maxRecDepth 100000 in
set_option maxHeartbeats 4000000 in
theorem mt_D_subtract (v b v2 b2 : Nat) (w : List va_E) (h0 : DS v b v2 b2 w) (hl : ¬ v2 ≤ v) : MT y_D_subtract c_D_subtract 2 (some .int) (rmT 8) [.ref 0] w X_ARE (fun w' => DS v b v2 b2 w') := by
  obtain ⟨gu, pg, dg, td, s, a, g, pw, gu2, pg2, dg2, td2, s2, a2, g2, pw2, sl, sr, sq, l, r, q, rfl, h1, h2, h3, h4, h5⟩ := h0
  refine MT_of (own := R_D) (by decide) rfl (fun _ => Nat.le_of_ble_eq_true rfl) (fun Z h ht => ?_)
  have ho : ordI v v2 < 0 := by
    unfold ordI
    rw [if_pos (by omega)]
    decide
  refine z_aload_n h d_D_subtract_0 rfl ?_
  refine z_get (C := R_D) (T := F_D) (N := 4) h 0 d_D_subtract_1 in_D rfl (by decide) wf_D_12 rfl rfl ?_
  refine z_getN (C := R_T) (T := F_T) (N := 8) h 0 d_D_subtract_4 in_T rfl (by decide) wf_D_98 rfl rfl ?_
  refine z_aload_n h d_D_subtract_7 rfl ?_
  refine z_get (C := R_D) (T := F_D) (N := 4) h 1 d_D_subtract_8 in_D rfl (by decide) wf_D_16 rfl rfl ?_
  refine z_getN (C := R_T) (T := F_T) (N := 8) h 0 d_D_subtract_11 in_T rfl (by decide) wf_D_98 rfl rfl ?_
  refine z_callV (C := R_H) (ci := 3) h (ms_H_order 800 s 800 s2 v v2 a a2 (by decide) (by decide) h1.1 h2.1) (zT (zf_H_order (by decide))) wm_D_125 wi_H_order ws_H_order rfl ⟨_, rfl⟩ d_D_subtract_14 (by decide) [2, 3, 7, 8] (by decide) rfl (Nat.le_of_ble_eq_true rfl) rfl (fun _ _ hp => by obtain ⟨_, -, rfl, -⟩ := hp; rfl) (fun r_14 w_14 hp_14 => ?_)
  obtain ⟨x_14, rfl, rfl, hx_14⟩ := hp_14
  refine z_if_ge (tgt := 30) h d_D_subtract_17 (by decide) (fun c_17 => ?_) (fun c_17 => ?_)
  · exact absurd ho (Int32.not_lt.mpr c_17)
  · refine z_throw (tx := "the other is greater") ht fit_ARE own_ARE wkx_ARE wnx_ARE wix_ARE (zStr_mem (by decide +kernel)) d_D_subtract_20 d_D_subtract_23 d_D_subtract_24 d_D_subtract_26 d_D_subtract_29 (by decide) (by decide) rfl rfl rfl ?_
    exact ⟨gu, pg, dg, td, s, a, g, pw, gu2, pg2, dg2, td2, s2, a2, g2, pw2, sl, sr, sq, l, r, q, rfl, h1, h2, h3, h4, h5⟩
set_option maxRecDepth 100000 in
set_option maxHeartbeats 4000000 in
theorem ms_D_rooted (v b v2 b2 : Nat) (w : List va_E) (h0 : DS v b v2 b2 w) : MS y_D_rooted c_D_rooted 1 (some .int) (rm 7) [.ref 0] w (fun r w' => ∃ x, IsR v x ∧ r = some (.int (nI (nd b x))) ∧ DS x b v2 b2 w') := by
  obtain ⟨gu, pg, dg, td, s, a, g, pw, gu2, pg2, dg2, td2, s2, a2, g2, pw2, sl, sr, sq, l, r, q, rfl, h1, h2, h3, h4, h5⟩ := h0
  refine MS_of (own := R_D) (by decide) rfl (fun _ => Nat.le_of_ble_eq_true rfl) (fun Z h hr => ?_)
  have hs : s ≤ 800 := h1.1.1
  have hbl : bl v ≤ 41000 := Nat.le_trans (TI_bl h1) (by decide)
  refine z_aload_n h d_D_rooted_0 rfl ?_
  refine z_get (C := R_D) (T := F_D) (N := 4) h 2 d_D_rooted_1 in_D rfl (by decide) wf_D_22 rfl rfl ?_
  refine z_getN (C := R_B) (T := F_B) (N := 3) h 0 d_D_rooted_4 in_B rfl (by decide) wf_D_70 rfl rfl ?_
  refine z_aload_n h d_D_rooted_7 rfl ?_
  refine z_get (C := R_D) (T := F_D) (N := 4) h 0 d_D_rooted_8 in_D rfl (by decide) wf_D_12 rfl rfl ?_
  refine z_getN (C := R_T) (T := F_T) (N := 8) h 0 d_D_rooted_11 in_T rfl (by decide) wf_D_98 rfl rfl ?_
  refine z_cV (C := R_H) (ci := 3) h (ms_H_copy 1400 sl 800 s v l a (by decide) (by decide) (by omega) h3.2 h1.1) (zf_H_copy (by decide)) wm_D_101 wi_H_copy ws_H_copy rfl ⟨_, rfl⟩ d_D_rooted_14 [12, 13, 2, 3] (by decide) rfl (Nat.le_of_ble_eq_true rfl) rfl (fun _ => rfl) (fun x_14 hx_14 => ?_)
  refine z_aload_n h d_D_rooted_17 rfl ?_
  refine z_get (C := R_D) (T := F_D) (N := 4) h 2 d_D_rooted_18 in_D rfl (by decide) wf_D_22 rfl rfl ?_
  refine z_cV (C := R_B) (ci := 0) h (ms_B_extractRoot x_14.2 sr sq v x_14.1 r q hx_14 h5.2 h5.1 hbl) (zf_B_extractRoot (by decide)) wm_D_158 wi_B_extractRoot ws_B_extractRoot rfl ⟨_, rfl⟩ d_D_rooted_21 [11, 12, 13, 14, 15, 16, 17] (by decide) rfl (Nat.le_of_ble_eq_true rfl) rfl (fun _ => rfl) (fun x_21 hx_21 => ?_)
  obtain ⟨k1, k2, k3⟩ := hx_21
  have hx8 : x_21.2.2.2.2 < 1073741824 ^ 800 := by
    have e1 : x_21.2.2.2.2 ≤ v := Nat.le_trans (Nat.le_mul_self _) k2.1
    exact Nat.lt_of_le_of_lt e1 (TI_lt h1)
  refine z_aload_n h d_D_rooted_24 rfl ?_
  refine z_aload_n h d_D_rooted_25 rfl ?_
  refine z_get (C := R_D) (T := F_D) (N := 4) h 2 d_D_rooted_26 in_D rfl (by decide) wf_D_22 rfl rfl ?_
  refine z_getN (C := R_B) (T := F_B) (N := 3) h 2 d_D_rooted_29 in_B rfl (by decide) wf_D_54 rfl rfl ?_
  refine z_aload_n h d_D_rooted_32 rfl ?_
  refine z_get (C := R_D) (T := F_D) (N := 4) h 0 d_D_rooted_33 in_D rfl (by decide) wf_D_12 rfl rfl ?_
  refine z_getN (C := R_T) (T := F_T) (N := 8) h 1 d_D_rooted_36 in_T rfl (by decide) wf_D_92 rfl rfl ?_
  show Z 0 0 (dW b gu pg dg td s a g pw b2 gu2 pg2 dg2 td2 s2 a2 g2 pw2 x_21.1 sr x_21.2.1 x_21.2.2.1 r x_21.2.2.2.1 []) _ _ _
  refine z_dV (C := R_D) (ci := 4) h (ms_D_retell v b v2 b2 b x_21.2.2.2.2 gu pg dg td s a g pw gu2 pg2 dg2 td2 s2 a2 g2 pw2 x_21.1 sr x_21.2.1 x_21.2.2.1 r x_21.2.2.2.1 h1 h2 k1 h4 k3 hx8 h1.2.1) (zf_D_retell (by decide)) wm_D_58 wi_D_retell ws_D_retell rfl ⟨_, rfl⟩ d_D_rooted_39 (by decide) is18 (by decide) rfl (Nat.le_of_ble_eq_true rfl) rfl (fun _ _ hp => DT_len hp.2) (fun r_39 w_39 hp_39 => ?_)
  obtain ⟨rfl, hT⟩ := hp_39
  rw [put18n (DT_len hT) rfl]
  refine hr.1 _ _ _ _ _ _ (Nat.le_refl _) (Nat.le_refl _) rfl d_D_rooted_42 ?_
  exact ⟨_, k2, rfl, hT.ds⟩
set_option maxRecDepth 100000 in
set_option maxHeartbeats 4000000 in
theorem ms_D_times (v b v2 b2 : Nat) (w : List va_E) (h0 : DS v b v2 b2 w) (hl0 : bl v + bl v2 ≤ 24001) (hl : bl (v * v2) ≤ 24000) : MS y_D_times c_D_times 2 (some .int) (rm 7) [.ref 0] w (fun r w' => r = some (.int (nI (nd b (v * v2)))) ∧ DS (v * v2) b v2 b2 w') := by
  obtain ⟨gu, pg, dg, td, s, a, g, pw, gu2, pg2, dg2, td2, s2, a2, g2, pw2, sl, sr, sq, l, r, q, rfl, h1, h2, h3, h4, h5⟩ := h0
  refine MS_of (own := R_D) (by decide) rfl (fun _ => Nat.le_of_ble_eq_true rfl) (fun Z h hr => ?_)
  have hs : s + s2 ≤ 1400 := sz_two h1.1 h2.1 hl0
  refine z_aload_n h d_D_times_0 rfl ?_
  refine z_get (C := R_D) (T := F_D) (N := 4) h 0 d_D_times_1 in_D rfl (by decide) wf_D_12 rfl rfl ?_
  refine z_getN (C := R_T) (T := F_T) (N := 8) h 0 d_D_times_4 in_T rfl (by decide) wf_D_98 rfl rfl ?_
  refine z_cV (C := R_H) (ci := 3) h (ms_H_length 800 s v a (by decide) h1.1) (zf_H_length (by decide)) wm_D_137 wi_H_length ws_H_length rfl ⟨_, rfl⟩ d_D_times_7 [2, 3] (by decide) rfl (Nat.le_of_ble_eq_true rfl) rfl (fun _ => rfl) (fun x_7 hx_7 => ?_)
  refine z_aload_n h d_D_times_10 rfl ?_
  refine z_get (C := R_D) (T := F_D) (N := 4) h 1 d_D_times_11 in_D rfl (by decide) wf_D_16 rfl rfl ?_
  refine z_getN (C := R_T) (T := F_T) (N := 8) h 0 d_D_times_14 in_T rfl (by decide) wf_D_98 rfl rfl ?_
  refine z_cV (C := R_H) (ci := 3) h (ms_H_length 800 s2 v2 a2 (by decide) h2.1) (zf_H_length (by decide)) wm_D_137 wi_H_length ws_H_length rfl ⟨_, rfl⟩ d_D_times_17 [7, 8] (by decide) rfl (Nat.le_of_ble_eq_true rfl) rfl (fun _ => rfl) (fun x_17 hx_17 => ?_)
  refine z_iaddN h d_D_times_20 ?_
  refine z_sipush (v := nI 24001) h d_D_times_21 (by decide) ?_
  refine z_icmp_leN (tgt := 37) h d_D_times_24 (by decide) (by omega) (fun c_24 => ?_) (fun c_24 => ?_)
  · refine z_aload_n h d_D_times_37 rfl ?_
    refine z_get (C := R_D) (T := F_D) (N := 4) h 2 d_D_times_38 in_D rfl (by decide) wf_D_22 rfl rfl ?_
    refine z_getN (C := R_B) (T := F_B) (N := 3) h 2 d_D_times_41 in_B rfl (by decide) wf_D_54 rfl rfl ?_
    refine z_astore_n h d_D_times_44 (by decide) ?_
    refine z_aload_n h d_D_times_45 rfl ?_
    refine z_aload_n h d_D_times_46 rfl ?_
    refine z_get (C := R_D) (T := F_D) (N := 4) h 0 d_D_times_47 in_D rfl (by decide) wf_D_12 rfl rfl ?_
    refine z_getN (C := R_T) (T := F_T) (N := 8) h 0 d_D_times_50 in_T rfl (by decide) wf_D_98 rfl rfl ?_
    refine z_aload_n h d_D_times_53 rfl ?_
    refine z_get (C := R_D) (T := F_D) (N := 4) h 1 d_D_times_54 in_D rfl (by decide) wf_D_16 rfl rfl ?_
    refine z_getN (C := R_T) (T := F_T) (N := 8) h 0 d_D_times_57 in_T rfl (by decide) wf_D_98 rfl rfl ?_
    refine z_cV (C := R_H) (ci := 3) h (ms_H_multiply 1400 sq 0 s 800 s2 800 v v2 q a a2 (by decide) (by decide) (by decide) h5.2 h1.1 h2.1 hs) (zf_H_multiply (by decide)) wm_D_145 wi_H_multiply ws_H_multiply rfl ⟨_, rfl⟩ d_D_times_60 [16, 17, 2, 3, 7, 8] (by decide) rfl (Nat.le_of_ble_eq_true rfl) rfl (fun _ => rfl) (fun x_60 hx_60 => ?_)
    refine z_aload_n h d_D_times_63 rfl ?_
    refine z_cS h (ms_D_refuseTooLong x_60.2 (v * v2) x_60.1 hx_60 hl) (zf_D_refuseTooLong (by decide)) wm_D_108 wt_D_refuseTooLong d_D_times_64 [16, 17] (by decide) rfl (Nat.le_of_ble_eq_true rfl) rfl (fun _ => rfl) (fun x_64 hx_64 => ?_)
    refine z_aload_n h d_D_times_67 rfl ?_
    refine z_aload_n h d_D_times_68 rfl ?_
    refine z_aload_n h d_D_times_69 rfl ?_
    refine z_get (C := R_D) (T := F_D) (N := 4) h 0 d_D_times_70 in_D rfl (by decide) wf_D_12 rfl rfl ?_
    refine z_getN (C := R_T) (T := F_T) (N := 8) h 1 d_D_times_73 in_T rfl (by decide) wf_D_92 rfl rfl ?_
    show Z 0 0 (dW b gu pg dg td s a g pw b2 gu2 pg2 dg2 td2 s2 a2 g2 pw2 sl sr x_60.2 l r x_60.1 []) _ _ _
    refine z_dV (C := R_D) (ci := 4) h (ms_D_retell v b v2 b2 b (v * v2) gu pg dg td s a g pw gu2 pg2 dg2 td2 s2 a2 g2 pw2 sl sr x_60.2 l r x_60.1 h1 h2 h3 h4 hx_60 (bl_B800 hl) h1.2.1) (zf_D_retell (by decide)) wm_D_58 wi_D_retell ws_D_retell rfl ⟨_, rfl⟩ d_D_times_76 (by decide) is18 (by decide) rfl (Nat.le_of_ble_eq_true rfl) rfl (fun _ _ hp => DT_len hp.2) (fun r_76 w_76 hp_76 => ?_)
    obtain ⟨rfl, hT⟩ := hp_76
    rw [put18n (DT_len hT) rfl]
    refine hr.1 _ _ _ _ _ _ (Nat.le_refl _) (Nat.le_refl _) rfl d_D_times_79 ?_
    exact ⟨rfl, hT.ds⟩
  · exact absurd c_24 (by omega)
set_option maxRecDepth 100000 in
set_option maxHeartbeats 4000000 in
theorem mt_D_times (v b v2 b2 : Nat) (w : List va_E) (h0 : DS v b v2 b2 w) (hl : ¬ (bl v + bl v2 ≤ 24001 ∧ bl (v * v2) ≤ 24000)) : MT y_D_times c_D_times 2 (some .int) (rmT 8) [.ref 0] w X_UOE (fun w' => DS v b v2 b2 w') := by
  obtain ⟨gu, pg, dg, td, s, a, g, pw, gu2, pg2, dg2, td2, s2, a2, g2, pw2, sl, sr, sq, l, r, q, rfl, h1, h2, h3, h4, h5⟩ := h0
  refine MT_of (own := R_D) (by decide) rfl (fun _ => Nat.le_of_ble_eq_true rfl) (fun Z h ht => ?_)
  have e1 := TI_bl h1
  have e2 := TI_bl h2
  refine z_aload_n h d_D_times_0 rfl ?_
  refine z_get (C := R_D) (T := F_D) (N := 4) h 0 d_D_times_1 in_D rfl (by decide) wf_D_12 rfl rfl ?_
  refine z_getN (C := R_T) (T := F_T) (N := 8) h 0 d_D_times_4 in_T rfl (by decide) wf_D_98 rfl rfl ?_
  refine z_callV (C := R_H) (ci := 3) h (ms_H_length 800 s v a (by decide) h1.1) (zT (zf_H_length (by decide))) wm_D_137 wi_H_length ws_H_length rfl ⟨_, rfl⟩ d_D_times_7 (by decide) [2, 3] (by decide) rfl (Nat.le_of_ble_eq_true rfl) rfl (fun _ _ hp => by obtain ⟨_, -, rfl, -⟩ := hp; rfl) (fun r_7 w_7 hp_7 => ?_)
  obtain ⟨x_7, rfl, rfl, hx_7⟩ := hp_7
  refine z_aload_n h d_D_times_10 rfl ?_
  refine z_get (C := R_D) (T := F_D) (N := 4) h 1 d_D_times_11 in_D rfl (by decide) wf_D_16 rfl rfl ?_
  refine z_getN (C := R_T) (T := F_T) (N := 8) h 0 d_D_times_14 in_T rfl (by decide) wf_D_98 rfl rfl ?_
  refine z_callV (C := R_H) (ci := 3) h (ms_H_length 800 s2 v2 a2 (by decide) h2.1) (zT (zf_H_length (by decide))) wm_D_137 wi_H_length ws_H_length rfl ⟨_, rfl⟩ d_D_times_17 (by decide) [7, 8] (by decide) rfl (Nat.le_of_ble_eq_true rfl) rfl (fun _ _ hp => by obtain ⟨_, -, rfl, -⟩ := hp; rfl) (fun r_17 w_17 hp_17 => ?_)
  obtain ⟨x_17, rfl, rfl, hx_17⟩ := hp_17
  refine z_iaddN h d_D_times_20 ?_
  refine z_sipush (v := nI 24001) h d_D_times_21 (by decide) ?_
  refine z_icmp_leN (tgt := 37) h d_D_times_24 (by decide) (by omega) (fun c_24 => ?_) (fun c_24 => ?_)
  · have hs : s + s2 ≤ 1400 := sz_two h1.1 h2.1 c_24
    have hl' : ¬ bl (v * v2) ≤ 24000 := fun q => hl ⟨c_24, q⟩
    refine z_aload_n h d_D_times_37 rfl ?_
    refine z_get (C := R_D) (T := F_D) (N := 4) h 2 d_D_times_38 in_D rfl (by decide) wf_D_22 rfl rfl ?_
    refine z_getN (C := R_B) (T := F_B) (N := 3) h 2 d_D_times_41 in_B rfl (by decide) wf_D_54 rfl rfl ?_
    refine z_astore_n h d_D_times_44 (by decide) ?_
    refine z_aload_n h d_D_times_45 rfl ?_
    refine z_aload_n h d_D_times_46 rfl ?_
    refine z_get (C := R_D) (T := F_D) (N := 4) h 0 d_D_times_47 in_D rfl (by decide) wf_D_12 rfl rfl ?_
    refine z_getN (C := R_T) (T := F_T) (N := 8) h 0 d_D_times_50 in_T rfl (by decide) wf_D_98 rfl rfl ?_
    refine z_aload_n h d_D_times_53 rfl ?_
    refine z_get (C := R_D) (T := F_D) (N := 4) h 1 d_D_times_54 in_D rfl (by decide) wf_D_16 rfl rfl ?_
    refine z_getN (C := R_T) (T := F_T) (N := 8) h 0 d_D_times_57 in_T rfl (by decide) wf_D_98 rfl rfl ?_
    refine z_callV (C := R_H) (ci := 3) h (ms_H_multiply 1400 sq 0 s 800 s2 800 v v2 q a a2 (by decide) (by decide) (by decide) h5.2 h1.1 h2.1 hs) (zT (zf_H_multiply (by decide))) wm_D_145 wi_H_multiply ws_H_multiply rfl ⟨_, rfl⟩ d_D_times_60 (by decide) [16, 17, 2, 3, 7, 8] (by decide) rfl (Nat.le_of_ble_eq_true rfl) rfl (fun _ _ hp => by obtain ⟨_, -, rfl, -⟩ := hp; rfl) (fun r_60 w_60 hp_60 => ?_)
    obtain ⟨x_60, rfl, rfl, hx_60⟩ := hp_60
    refine z_aload_n h d_D_times_63 rfl ?_
    refine z_tS ht (mt_D_refuseTooLong x_60.2 (v * v2) x_60.1 hx_60 hl') (zTT (zf_D_refuseTooLong (by decide))) wm_D_108 wt_D_refuseTooLong d_D_times_64 (by decide) [16, 17] (by decide) rfl (Nat.le_of_ble_eq_true rfl) rfl rfl (fun w_64 hl_64 hp_64 => ?_)
    subst hp_64
    exact ⟨gu, pg, dg, td, s, a, g, pw, gu2, pg2, dg2, td2, s2, a2, g2, pw2, sl, sr, x_60.2, l, r, x_60.1, rfl, h1, h2, h3, h4, ⟨hx_60.1, hx_60.2.1⟩⟩
  · refine z_throw (tx := "the product is too long") ht fit_UOE own_UOE wkx_UOE wnx_UOE wix_UOE (zStr_mem (by decide +kernel)) d_D_times_27 d_D_times_30 d_D_times_31 d_D_times_33 d_D_times_36 (by decide) (by decide) rfl rfl rfl ?_
    exact ⟨gu, pg, dg, td, s, a, g, pw, gu2, pg2, dg2, td2, s2, a2, g2, pw2, sl, sr, sq, l, r, q, rfl, h1, h2, h3, h4, h5⟩
