/-! DigitMill's public methods: divide, push, root, over -/
set_option maxRecDepth 100000 in
set_option maxHeartbeats 4000000 in
theorem ms_D_divide (v b v2 b2 : Nat) (w : List va_E) (h0 : DS v b v2 b2 w) (hz : v2 ≠ 0) : MS y_D_divide c_D_divide 1 (some .int) (rm 7) [.ref 0] w (fun r w' => r = some (.int (nI (nd b (v / v2)))) ∧ DS (v / v2) b (v % v2) b2 w') := by
  obtain ⟨gu, pg, dg, td, s, a, g, pw, gu2, pg2, dg2, td2, s2, a2, g2, pw2, sl, sr, sq, l, r, q, rfl, h1, h2, h3, h4, h5⟩ := h0
  refine MS_of (own := R_D) (by decide) rfl (fun _ => Nat.le_of_ble_eq_true rfl) (fun Z h hr => ?_)
  have hs : s ≤ 800 := h1.1.1
  have hs2 : s2 ≤ 800 := h2.1.1
  have hs20 : s2 ≠ 0 := fun e => hz (by have := h2.1.2.2.1; rw [e] at this; exact this.symm)
  have hz0 : 0 < v2 := by omega
  refine z_aload_n h d_D_divide_0 rfl ?_
  refine z_get (C := R_D) (T := F_D) (N := 4) h 1 d_D_divide_1 in_D rfl (by decide) wf_D_16 rfl rfl ?_
  refine z_getN (C := R_T) (T := F_T) (N := 8) h 0 d_D_divide_4 in_T rfl (by decide) wf_D_98 rfl rfl ?_
  refine z_getN (C := R_H) (T := F_H) (N := 2) h 1 d_D_divide_7 in_H rfl (by decide) wf_D_149 rfl rfl ?_
  refine z_if_neN (tgt := 23) h d_D_divide_10 (by decide) (by omega) (fun c_10 => ?_) (fun c_10 => ?_)
  · refine z_aload_n h d_D_divide_23 rfl ?_
    refine z_get (C := R_D) (T := F_D) (N := 4) h 2 d_D_divide_24 in_D rfl (by decide) wf_D_22 rfl rfl ?_
    refine z_getN (C := R_B) (T := F_B) (N := 3) h 0 d_D_divide_27 in_B rfl (by decide) wf_D_70 rfl rfl ?_
    refine z_aload_n h d_D_divide_30 rfl ?_
    refine z_get (C := R_D) (T := F_D) (N := 4) h 0 d_D_divide_31 in_D rfl (by decide) wf_D_12 rfl rfl ?_
    refine z_getN (C := R_T) (T := F_T) (N := 8) h 0 d_D_divide_34 in_T rfl (by decide) wf_D_98 rfl rfl ?_
    refine z_cV (C := R_H) (ci := 3) h (ms_H_copy 1400 sl 800 s v l a (by decide) (by decide) (by omega) h3.2 h1.1) (zf_H_copy (by decide)) wm_D_101 wi_H_copy ws_H_copy rfl ⟨_, rfl⟩ d_D_divide_37 [12, 13, 2, 3] (by decide) rfl (Nat.le_of_ble_eq_true rfl) rfl (fun _ => rfl) (fun x_37 hx_37 => ?_)
    show Z 0 0 (dW b gu pg dg td s a g pw b2 gu2 pg2 dg2 td2 s2 a2 g2 pw2 x_37.2 sr sq x_37.1 r q []) _ _ _
    refine z_aload_n h d_D_divide_40 rfl ?_
    refine z_get (C := R_D) (T := F_D) (N := 4) h 2 d_D_divide_41 in_D rfl (by decide) wf_D_22 rfl rfl ?_
    refine z_getN (C := R_B) (T := F_B) (N := 3) h 1 d_D_divide_44 in_B rfl (by decide) wf_D_82 rfl rfl ?_
    refine z_aload_n h d_D_divide_47 rfl ?_
    refine z_get (C := R_D) (T := F_D) (N := 4) h 1 d_D_divide_48 in_D rfl (by decide) wf_D_16 rfl rfl ?_
    refine z_getN (C := R_T) (T := F_T) (N := 8) h 0 d_D_divide_51 in_T rfl (by decide) wf_D_98 rfl rfl ?_
    refine z_cV (C := R_H) (ci := 3) h (ms_H_copy 1400 sr 800 s2 v2 r a2 (by decide) (by decide) (by omega) h4.2 h2.1) (zf_H_copy (by decide)) wm_D_101 wi_H_copy ws_H_copy rfl ⟨_, rfl⟩ d_D_divide_54 [14, 15, 7, 8] (by decide) rfl (Nat.le_of_ble_eq_true rfl) rfl (fun _ => rfl) (fun x_54 hx_54 => ?_)
    show Z 0 0 (dW b gu pg dg td s a g pw b2 gu2 pg2 dg2 td2 s2 a2 g2 pw2 x_37.2 x_54.2 sq x_37.1 x_54.1 q []) _ _ _
    refine z_aload_n h d_D_divide_57 rfl ?_
    refine z_get (C := R_D) (T := F_D) (N := 4) h 2 d_D_divide_58 in_D rfl (by decide) wf_D_22 rfl rfl ?_
    refine z_cV (C := R_B) (ci := 0) h (ms_B_makeQuotient x_37.2 x_54.2 sq v v2 x_37.1 x_54.1 q hx_37 hx_54 h5.2 (by omega) (Nat.le_trans (Rp_small (by decide) hx_37 (TI_lt h1)) (by decide))) (zf_B_makeQuotient (by decide)) wm_D_85 wi_B_makeQuotient ws_B_makeQuotient rfl ⟨_, rfl⟩ d_D_divide_61 [11, 12, 13, 14, 15, 16, 17] (by decide) rfl (Nat.le_of_ble_eq_true rfl) rfl (fun _ => rfl) (fun x_61 hx_61 => ?_)
    obtain ⟨k1, k2, k3⟩ := hx_61
    show Z 0 0 (dW b gu pg dg td s a g pw b2 gu2 pg2 dg2 td2 s2 a2 g2 pw2 x_61.1 x_61.2.1 x_61.2.2.1 x_61.2.2.2.1 x_61.2.2.2.2.1 x_61.2.2.2.2.2 []) _ _ _
    refine z_aload_n h d_D_divide_64 rfl ?_
    refine z_get (C := R_D) (T := F_D) (N := 4) h 1 d_D_divide_65 in_D rfl (by decide) wf_D_16 rfl rfl ?_
    refine z_aload_n h d_D_divide_68 rfl ?_
    refine z_get (C := R_D) (T := F_D) (N := 4) h 2 d_D_divide_69 in_D rfl (by decide) wf_D_22 rfl rfl ?_
    refine z_getN (C := R_B) (T := F_B) (N := 3) h 0 d_D_divide_72 in_B rfl (by decide) wf_D_70 rfl rfl ?_
    refine z_aload_n h d_D_divide_75 rfl ?_
    refine z_get (C := R_D) (T := F_D) (N := 4) h 1 d_D_divide_76 in_D rfl (by decide) wf_D_16 rfl rfl ?_
    refine z_getN (C := R_T) (T := F_T) (N := 8) h 1 d_D_divide_79 in_T rfl (by decide) wf_D_92 rfl rfl ?_
    refine z_cV (C := R_T) (ci := 2) h (ms_T_replace b2 b2 gu2 pg2 dg2 td2 s2 1400 x_61.1 (v % v2) a2 g2 pw2 x_61.2.2.2.1 h2.1.2.1 (by decide) (Rp_small (by decide) k1 (Nat.lt_of_lt_of_le (Nat.mod_lt _ hz0) (Nat.le_of_lt (TI_lt h2)))) k1) (zf_T_replace (by decide)) wm_D_154 wi_T_replace ws_T_replace rfl ⟨_, rfl⟩ d_D_divide_82 [6, 7, 8, 9, 10, 12, 13] (by decide) rfl (Nat.le_of_ble_eq_true rfl) rfl (fun _ => rfl) (fun x_82 hx_82 => ?_)
    show Z 0 0 (dW b gu pg dg td s a g pw b2 gu2 pg2 dg2 0 x_82.2 x_82.1 g2 pw2 x_61.1 x_61.2.1 x_61.2.2.1 x_61.2.2.2.1 x_61.2.2.2.2.1 x_61.2.2.2.2.2 []) _ _ _
    refine z_aload_n h d_D_divide_85 rfl ?_
    refine z_aload_n h d_D_divide_86 rfl ?_
    refine z_get (C := R_D) (T := F_D) (N := 4) h 2 d_D_divide_87 in_D rfl (by decide) wf_D_22 rfl rfl ?_
    refine z_getN (C := R_B) (T := F_B) (N := 3) h 2 d_D_divide_90 in_B rfl (by decide) wf_D_54 rfl rfl ?_
    refine z_aload_n h d_D_divide_93 rfl ?_
    refine z_get (C := R_D) (T := F_D) (N := 4) h 0 d_D_divide_94 in_D rfl (by decide) wf_D_12 rfl rfl ?_
    refine z_getN (C := R_T) (T := F_T) (N := 8) h 1 d_D_divide_97 in_T rfl (by decide) wf_D_92 rfl rfl ?_
    refine z_dV (C := R_D) (ci := 4) h (ms_D_retell v b (v % v2) b2 b (v / v2) gu pg dg td s a g pw gu2 pg2 dg2 0 x_82.2 x_82.1 g2 pw2 x_61.1 x_61.2.1 x_61.2.2.1 x_61.2.2.2.1 x_61.2.2.2.2.1 x_61.2.2.2.2.2 h1 (TI0 h2 hx_82 h2.2.1) ⟨k1.1, k1.2.1⟩ k2 k3 (Nat.lt_of_le_of_lt (Nat.div_le_self _ _) (TI_lt h1)) h1.2.1) (zf_D_retell (by decide)) wm_D_58 wi_D_retell ws_D_retell rfl ⟨_, rfl⟩ d_D_divide_100 (by decide) is18 (by decide) rfl (Nat.le_of_ble_eq_true rfl) rfl (fun _ _ hp => DT_len hp.2) (fun r_100 w_100 hp_100 => ?_)
    obtain ⟨rfl, hT⟩ := hp_100
    rw [put18n (DT_len hT) rfl]
    refine hr.1 _ _ _ _ _ _ (Nat.le_refl _) (Nat.le_refl _) rfl d_D_divide_103 ?_
    exact ⟨rfl, hT.ds⟩
  · exact absurd c_10 (by omega)
set_option maxRecDepth 100000 in
set_option maxHeartbeats 4000000 in
theorem mt_D_divide (v b b2 : Nat) (w : List va_E) (h0 : DS v b 0 b2 w) : MT y_D_divide c_D_divide 1 (some .int) (rmT 8) [.ref 0] w X_ARE (fun w' => DS v b 0 b2 w') := by
  obtain ⟨gu, pg, dg, td, s, a, g, pw, gu2, pg2, dg2, td2, s2, a2, g2, pw2, sl, sr, sq, l, r, q, rfl, h1, h2, h3, h4, h5⟩ := h0
  refine MT_of (own := R_D) (by decide) rfl (fun _ => Nat.le_of_ble_eq_true rfl) (fun Z h ht => ?_)
  have hs2 : s2 = 0 := by
    rcases h2.1.2.2.2 with e | e
    · exact e
    · exact absurd e (by have : 0 < (1073741824 : Nat) ^ (s2 - 1) := Nat.pow_pos (by decide); omega)
  refine z_aload_n h d_D_divide_0 rfl ?_
  refine z_get (C := R_D) (T := F_D) (N := 4) h 1 d_D_divide_1 in_D rfl (by decide) wf_D_16 rfl rfl ?_
  refine z_getN (C := R_T) (T := F_T) (N := 8) h 0 d_D_divide_4 in_T rfl (by decide) wf_D_98 rfl rfl ?_
  refine z_getN (C := R_H) (T := F_H) (N := 2) h 1 d_D_divide_7 in_H rfl (by decide) wf_D_149 rfl rfl ?_
  refine z_if_neN (tgt := 23) h d_D_divide_10 (by decide) (by omega) (fun c_10 => ?_) (fun c_10 => ?_)
  · exact absurd c_10 (by omega)
  · refine z_throw (tx := "the other is 0") ht fit_ARE own_ARE wkx_ARE wnx_ARE wix_ARE (zStr_mem (by decide +kernel)) d_D_divide_13 d_D_divide_16 d_D_divide_17 d_D_divide_19 d_D_divide_22 (by decide) (by decide) rfl rfl rfl ?_
    exact ⟨gu, pg, dg, td, s, a, g, pw, gu2, pg2, dg2, td2, s2, a2, g2, pw2, sl, sr, sq, l, r, q, rfl, h1, h2, h3, h4, h5⟩
theorem push_fit {v b d : Nat} (hv : v < 1073741824 ^ 800) (hb : b < 37) (hd : d < b) : v * b + d < 1073741824 ^ 1400 := by
  have h1 : v * b + d < (v + 1) * 1073741824 := by
    have : v * b ≤ v * 1073741824 := Nat.mul_le_mul_left _ (by omega)
    rw [Nat.add_mul]
    omega
  have h2 : (v + 1) * 1073741824 ≤ 1073741824 ^ 800 * 1073741824 := Nat.mul_le_mul_right _ hv
  rw [← Nat.pow_succ] at h2
  exact Nat.lt_of_lt_of_le h1 (Nat.le_trans h2 (Nat.pow_le_pow_right (by decide) (by decide)))
set_option maxRecDepth 100000 in
set_option maxHeartbeats 4000000 in
theorem ms_D_push (v b v2 b2 d : Nat) (w : List va_E) (h0 : DS v b v2 b2 w) (hd : d < b) (hl : bl (v * b + d) ≤ 24000) : MS y_D_push c_D_push 3 (some .int) (rm 7) [.ref 0, .int (nI d)] w (fun r w' => r = some (.int (nI (nd b (v * b + d)))) ∧ DS (v * b + d) b v2 b2 w') := by
  obtain ⟨gu, pg, dg, td, s, a, g, pw, gu2, pg2, dg2, td2, s2, a2, g2, pw2, sl, sr, sq, l, r, q, rfl, h1, h2, h3, h4, h5⟩ := h0
  refine MS_of (own := R_D) (by decide) rfl (fun _ => Nat.le_of_ble_eq_true rfl) (fun Z h hr => ?_)
  have hs : s ≤ 800 := h1.1.1
  have hb := h1.2.1
  have htd : td ≤ 1 := h1.2.2.2.2.2.2.2.1
  refine z_iload_n h d_D_push_0 rfl ?_
  refine z_if_lt (tgt := 15) h d_D_push_1 (by decide) (fun c_1 => ?_) (fun c_1 => ?_)
  · exact absurd c_1 (nI_pos (by omega))
  · refine z_iload_n h d_D_push_4 rfl ?_
    refine z_aload_n h d_D_push_5 rfl ?_
    refine z_get (C := R_D) (T := F_D) (N := 4) h 0 d_D_push_6 in_D rfl (by decide) wf_D_12 rfl rfl ?_
    refine z_getN (C := R_T) (T := F_T) (N := 8) h 1 d_D_push_9 in_T rfl (by decide) wf_D_92 rfl rfl ?_
    refine z_icmp_ltN (tgt := 25) h d_D_push_12 (by decide) (by omega) (fun c_12 => ?_) (fun c_12 => ?_)
    · refine z_aload_n h d_D_push_25 rfl ?_
      refine z_get (C := R_D) (T := F_D) (N := 4) h 2 d_D_push_26 in_D rfl (by decide) wf_D_22 rfl rfl ?_
      refine z_getN (C := R_B) (T := F_B) (N := 3) h 2 d_D_push_29 in_B rfl (by decide) wf_D_54 rfl rfl ?_
      refine z_astore_n h d_D_push_32 (by decide) ?_
      refine z_aload_n h d_D_push_33 rfl ?_
      refine z_aload_n h d_D_push_34 rfl ?_
      refine z_get (C := R_D) (T := F_D) (N := 4) h 0 d_D_push_35 in_D rfl (by decide) wf_D_12 rfl rfl ?_
      refine z_getN (C := R_T) (T := F_T) (N := 8) h 0 d_D_push_38 in_T rfl (by decide) wf_D_98 rfl rfl ?_
      refine z_cV (C := R_H) (ci := 3) h (ms_H_copy 1400 sq 800 s v q a (by decide) (by decide) (by omega) h5.2 h1.1) (zf_H_copy (by decide)) wm_D_101 wi_H_copy ws_H_copy rfl ⟨_, rfl⟩ d_D_push_41 [16, 17, 2, 3] (by decide) rfl (Nat.le_of_ble_eq_true rfl) rfl (fun _ => rfl) (fun x_41 hx_41 => ?_)
      refine z_aload_n h d_D_push_44 rfl ?_
      refine z_aload_n h d_D_push_45 rfl ?_
      refine z_get (C := R_D) (T := F_D) (N := 4) h 0 d_D_push_46 in_D rfl (by decide) wf_D_12 rfl rfl ?_
      refine z_getN (C := R_T) (T := F_T) (N := 8) h 1 d_D_push_49 in_T rfl (by decide) wf_D_92 rfl rfl ?_
      refine z_iload_n h d_D_push_52 rfl ?_
      refine z_cV (C := R_H) (ci := 3) h (ms_H_scale 1400 x_41.2 v b d x_41.1 (by decide) hx_41 (by omega) hd (push_fit (TI_lt h1) hb.2 hd)) (zf_H_scale (by decide)) wm_D_105 wi_H_scale ws_H_scale rfl ⟨_, rfl⟩ d_D_push_53 [16, 17] (by decide) rfl (Nat.le_of_ble_eq_true rfl) rfl (fun _ => rfl) (fun x_53 hx_53 => ?_)
      refine z_aload_n h d_D_push_56 rfl ?_
      refine z_cS h (ms_D_refuseTooLong x_53.2 (v * b + d) x_53.1 hx_53 hl) (zf_D_refuseTooLong (by decide)) wm_D_108 wt_D_refuseTooLong d_D_push_57 [16, 17] (by decide) rfl (Nat.le_of_ble_eq_true rfl) rfl (fun _ => rfl) (fun x_57 hx_57 => ?_)
      refine z_aload_n h d_D_push_60 rfl ?_
      refine z_get (C := R_D) (T := F_D) (N := 4) h 0 d_D_push_61 in_D rfl (by decide) wf_D_12 rfl rfl ?_
      refine z_getN (C := R_T) (T := F_T) (N := 8) h 0 d_D_push_64 in_T rfl (by decide) wf_D_98 rfl rfl ?_
      refine z_aload_n h d_D_push_67 rfl ?_
      refine z_cV (C := R_H) (ci := 3) h (ms_H_copy 800 s 1400 x_53.2 (v * b + d) a x_53.1 (by decide) (by decide) (Rp_small (by decide) hx_53 (bl_B800 hl)) h1.1.2.1 hx_53) (zf_H_copy (by decide)) wm_D_101 wi_H_copy ws_H_copy rfl ⟨_, rfl⟩ d_D_push_68 [2, 3, 16, 17] (by decide) rfl (Nat.le_of_ble_eq_true rfl) rfl (fun _ => rfl) (fun x_68 hx_68 => ?_)
      refine z_aload_n h d_D_push_71 rfl ?_
      refine z_get (C := R_D) (T := F_D) (N := 4) h 0 d_D_push_72 in_D rfl (by decide) wf_D_12 rfl rfl ?_
      refine z_iload_n h d_D_push_75 rfl ?_
      show Z 0 0 (dW b gu pg dg td x_68.2 x_68.1 g pw b2 gu2 pg2 dg2 td2 s2 a2 g2 pw2 sl sr x_53.2 l r x_53.1 []) _ _ _
      refine z_cV (C := R_T) (ci := 2) h (ms_T_shiftIn b v (v * b + d) d gu pg dg td x_68.2 x_68.1 g pw (TI0 h1 hx_68 hb) htd h1.2.2.2.2.2.2.2.2 hd rfl) (zf_T_shiftIn (by decide)) wm_D_111 wi_T_shiftIn ws_T_shiftIn rfl ⟨_, rfl⟩ d_D_push_76 [1, 2, 3, 4, 5] (by decide) rfl (Nat.le_of_ble_eq_true rfl) rfl (fun _ => rfl) (fun x_76 hx_76 => ?_)
      refine z_aload_n h d_D_push_79 rfl ?_
      show Z 0 0 (dW b x_76.1 x_76.2.1 x_76.2.2.1 td x_68.2 x_68.1 x_76.2.2.2.1 x_76.2.2.2.2 b2 gu2 pg2 dg2 td2 s2 a2 g2 pw2 sl sr x_53.2 l r x_53.1 []) _ _ _
      refine z_dV (C := R_D) (ci := 4) h (ms_D_digits (v * b + d) b v2 b2 _ ⟨x_76.1, x_76.2.1, x_76.2.2.1, td, x_68.2, x_68.1, x_76.2.2.2.1, x_76.2.2.2.2, gu2, pg2, dg2, td2, s2, a2, g2, pw2, sl, sr, x_53.2, l, r, x_53.1, rfl, hx_76, h2, h3, h4, ⟨hx_53.1, hx_53.2.1⟩⟩) (zf_D_digits (by decide)) wm_D_114 wi_D_digits ws_D_digits rfl ⟨_, rfl⟩ d_D_push_80 (by decide) is18 (by decide) rfl (Nat.le_of_ble_eq_true rfl) rfl (fun _ _ hp => DT_len hp.2) (fun r_80 w_80 hp_80 => ?_)
      obtain ⟨rfl, hT⟩ := hp_80
      rw [put18n (DT_len hT) rfl]
      refine hr.1 _ _ _ _ _ _ (Nat.le_refl _) (Nat.le_refl _) rfl d_D_push_83 ?_
      exact ⟨rfl, hT.ds⟩
    · exact absurd c_12 (by omega)
set_option maxRecDepth 100000 in
set_option maxHeartbeats 4000000 in
theorem mt_D_push1 (v b v2 b2 : Nat) (x : Int32) (w : List va_E) (h0 : DS v b v2 b2 w) (hx : x < 0 ∨ ¬ x < nI b) : MT y_D_push c_D_push 3 (some .int) (rmT 8) [.ref 0, .int x] w X_IAE (fun w' => DS v b v2 b2 w') := by
  obtain ⟨gu, pg, dg, td, s, a, g, pw, gu2, pg2, dg2, td2, s2, a2, g2, pw2, sl, sr, sq, l, r, q, rfl, h1, h2, h3, h4, h5⟩ := h0
  refine MT_of (own := R_D) (by decide) rfl (fun _ => Nat.le_of_ble_eq_true rfl) (fun Z h ht => ?_)
  refine z_iload_n h d_D_push_0 rfl ?_
  refine z_if_lt (tgt := 15) h d_D_push_1 (by decide) (fun c_1 => ?_) (fun c_1 => ?_)
  · refine z_throw (tx := "no digit of the base") ht fit_IAE own_IAE wkx_IAE wnx_IAE wix_IAE (zStr_mem (by decide +kernel)) d_D_push_15 d_D_push_18 d_D_push_19 d_D_push_21 d_D_push_24 (by decide) (by decide) rfl rfl rfl ?_
    exact ⟨gu, pg, dg, td, s, a, g, pw, gu2, pg2, dg2, td2, s2, a2, g2, pw2, sl, sr, sq, l, r, q, rfl, h1, h2, h3, h4, h5⟩
  · refine z_iload_n h d_D_push_4 rfl ?_
    refine z_aload_n h d_D_push_5 rfl ?_
    refine z_get (C := R_D) (T := F_D) (N := 4) h 0 d_D_push_6 in_D rfl (by decide) wf_D_12 rfl rfl ?_
    refine z_getN (C := R_T) (T := F_T) (N := 8) h 1 d_D_push_9 in_T rfl (by decide) wf_D_92 rfl rfl ?_
    refine z_icmp_lt (tgt := 25) h d_D_push_12 (by decide) (fun c_12 => ?_) (fun c_12 => ?_)
    · exact absurd hx (fun q => q.elim c_1 (fun q => q c_12))
    · refine z_throw (tx := "no digit of the base") ht fit_IAE own_IAE wkx_IAE wnx_IAE wix_IAE (zStr_mem (by decide +kernel)) d_D_push_15 d_D_push_18 d_D_push_19 d_D_push_21 d_D_push_24 (by decide) (by decide) rfl rfl rfl ?_
      exact ⟨gu, pg, dg, td, s, a, g, pw, gu2, pg2, dg2, td2, s2, a2, g2, pw2, sl, sr, sq, l, r, q, rfl, h1, h2, h3, h4, h5⟩
set_option maxRecDepth 100000 in
set_option maxHeartbeats 4000000 in
theorem mt_D_push2 (v b v2 b2 d : Nat) (w : List va_E) (h0 : DS v b v2 b2 w) (hd : d < b) (hl : ¬ bl (v * b + d) ≤ 24000) : MT y_D_push c_D_push 3 (some .int) (rmT 8) [.ref 0, .int (nI d)] w X_UOE (fun w' => DS v b v2 b2 w') := by
  obtain ⟨gu, pg, dg, td, s, a, g, pw, gu2, pg2, dg2, td2, s2, a2, g2, pw2, sl, sr, sq, l, r, q, rfl, h1, h2, h3, h4, h5⟩ := h0
  refine MT_of (own := R_D) (by decide) rfl (fun _ => Nat.le_of_ble_eq_true rfl) (fun Z h ht => ?_)
  have hs : s ≤ 800 := h1.1.1
  have hb := h1.2.1
  refine z_iload_n h d_D_push_0 rfl ?_
  refine z_if_lt (tgt := 15) h d_D_push_1 (by decide) (fun c_1 => ?_) (fun c_1 => ?_)
  · exact absurd c_1 (nI_pos (by omega))
  · refine z_iload_n h d_D_push_4 rfl ?_
    refine z_aload_n h d_D_push_5 rfl ?_
    refine z_get (C := R_D) (T := F_D) (N := 4) h 0 d_D_push_6 in_D rfl (by decide) wf_D_12 rfl rfl ?_
    refine z_getN (C := R_T) (T := F_T) (N := 8) h 1 d_D_push_9 in_T rfl (by decide) wf_D_92 rfl rfl ?_
    refine z_icmp_ltN (tgt := 25) h d_D_push_12 (by decide) (by omega) (fun c_12 => ?_) (fun c_12 => ?_)
    · refine z_aload_n h d_D_push_25 rfl ?_
      refine z_get (C := R_D) (T := F_D) (N := 4) h 2 d_D_push_26 in_D rfl (by decide) wf_D_22 rfl rfl ?_
      refine z_getN (C := R_B) (T := F_B) (N := 3) h 2 d_D_push_29 in_B rfl (by decide) wf_D_54 rfl rfl ?_
      refine z_astore_n h d_D_push_32 (by decide) ?_
      refine z_aload_n h d_D_push_33 rfl ?_
      refine z_aload_n h d_D_push_34 rfl ?_
      refine z_get (C := R_D) (T := F_D) (N := 4) h 0 d_D_push_35 in_D rfl (by decide) wf_D_12 rfl rfl ?_
      refine z_getN (C := R_T) (T := F_T) (N := 8) h 0 d_D_push_38 in_T rfl (by decide) wf_D_98 rfl rfl ?_
      refine z_callV (C := R_H) (ci := 3) h (ms_H_copy 1400 sq 800 s v q a (by decide) (by decide) (by omega) h5.2 h1.1) (zT (zf_H_copy (by decide))) wm_D_101 wi_H_copy ws_H_copy rfl ⟨_, rfl⟩ d_D_push_41 (by decide) [16, 17, 2, 3] (by decide) rfl (Nat.le_of_ble_eq_true rfl) rfl (fun _ _ hp => by obtain ⟨_, -, rfl, -⟩ := hp; rfl) (fun r_41 w_41 hp_41 => ?_)
      obtain ⟨x_41, rfl, rfl, hx_41⟩ := hp_41
      refine z_aload_n h d_D_push_44 rfl ?_
      refine z_aload_n h d_D_push_45 rfl ?_
      refine z_get (C := R_D) (T := F_D) (N := 4) h 0 d_D_push_46 in_D rfl (by decide) wf_D_12 rfl rfl ?_
      refine z_getN (C := R_T) (T := F_T) (N := 8) h 1 d_D_push_49 in_T rfl (by decide) wf_D_92 rfl rfl ?_
      refine z_iload_n h d_D_push_52 rfl ?_
      refine z_callV (C := R_H) (ci := 3) h (ms_H_scale 1400 x_41.2 v b d x_41.1 (by decide) hx_41 (by omega) hd (push_fit (TI_lt h1) hb.2 hd)) (zT (zf_H_scale (by decide))) wm_D_105 wi_H_scale ws_H_scale rfl ⟨_, rfl⟩ d_D_push_53 (by decide) [16, 17] (by decide) rfl (Nat.le_of_ble_eq_true rfl) rfl (fun _ _ hp => by obtain ⟨_, -, rfl, -⟩ := hp; rfl) (fun r_53 w_53 hp_53 => ?_)
      obtain ⟨x_53, rfl, rfl, hx_53⟩ := hp_53
      refine z_aload_n h d_D_push_56 rfl ?_
      refine z_tS ht (mt_D_refuseTooLong x_53.2 (v * b + d) x_53.1 hx_53 hl) (zTT (zf_D_refuseTooLong (by decide))) wm_D_108 wt_D_refuseTooLong d_D_push_57 (by decide) [16, 17] (by decide) rfl (Nat.le_of_ble_eq_true rfl) rfl rfl (fun w_57 hl_57 hp_57 => ?_)
      subst hp_57
      exact ⟨gu, pg, dg, td, s, a, g, pw, gu2, pg2, dg2, td2, s2, a2, g2, pw2, sl, sr, x_53.2, l, r, x_53.1, rfl, h1, h2, h3, h4, ⟨hx_53.1, hx_53.2.1⟩⟩
    · exact absurd c_12 (by omega)
