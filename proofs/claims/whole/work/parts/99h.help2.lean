/-! law's helpers -/
set_option maxRecDepth 100000 in
set_option maxHeartbeats 4000000 in
theorem mh_root (Q : Nat) (c : Nat → Nat) (v b v2 b2 : Nat) (x n b' : Nat) (o : Int) (w : List va_E) (h0 : HW Q c v b v2 b2 o w) (hx : x < 2 ^ 63) (hn : n ≤ 6000) (hb : 2 ≤ b' ∧ b' < 37) (hnb : n * bl (b' - 1) ≤ 20000) : MH y_L_root c_L_root 7 hs_L_root (rmT 11) [.ref 0, .long (lN x), .int (nI n), .int (nI b'), .ref 28] w (fun r w' => ∃ y, IsR (x * b' ^ (2 * n)) y ∧ r = some (.int (nI 0)) ∧ HW Q c y b' v2 b2 (nI (nd b' y)).toInt w') := by
  obtain ⟨w1, f, rfl, ⟨w0, D, rr, dp, wk, sm, rfl, hds, hI⟩, hf⟩ := h0
  refine MH_of (own := R_L) (by decide) rfl (fun _ => Nat.le_of_ble_eq_true rfl) (fun Z h hr hx9 => ?_)
  refine z_aload h d_L_root_0 rfl ?_
  refine z_iconst (v := nI 0) h d_L_root_2 (by decide) ?_
  refine z_aload_n h d_L_root_3 rfl ?_
  refine z_lload_n h d_L_root_4 rfl ?_
  refine z_iload_n h d_L_root_5 rfl ?_
  refine z_iload h d_L_root_6 rfl ?_
  rw [List.append_assoc]
  refine z_dI (C := R_D) (ci := 4) idL18 h (ms_D_root v b v2 b2 x n b' w0 hds hx hn hb hnb) (zT (zf_D_root (by decide))) wm_L_17 wi_D_root ws_D_root rfl (DS_recv hds) d_L_root_8 (by decide) (DS_len hds) (Nat.le_of_ble_eq_true rfl) rfl rfl (fun _ _ hp => by obtain ⟨_, _, _, hp⟩ := hp; exact DS_len hp) (fun r_9 w_9 hp_9 => ?_)
  obtain ⟨y, hy, rfl, hd9⟩ := hp_9
  rw [← List.append_assoc]
  exact help_end h hr (len28 (DS_len hd9)) d_L_root_11 d_L_root_12 d_L_root_13 (tgt := 24) (by decide) d_L_root_24 d_L_root_25 ⟨y, hy, rfl, w_9 ++ sS D rr dp wk sm, ui f 0 _, rfl, ⟨w_9, D, rr, dp, wk, sm, rfl, hd9, hI⟩, ui_eq⟩
set_option maxRecDepth 100000 in
set_option maxHeartbeats 4000000 in
theorem mk_root1 (Q : Nat) (c : Nat → Nat) (v b v2 b2 : Nat) (a : Int64) (x y : Int32) (o : Int) (w : List va_E) (h0 : HW Q c v b v2 b2 o w) (hx : a < 0 ∨ ¬ (okN x ∧ okB y)) : MH y_L_root c_L_root 7 hs_L_root (rmT 11) [.ref 0, .long a, .int x, .int y, .ref 28] w (fun r w' => r = some (.int (nI 1)) ∧ HW Q c v b v2 b2 o w') := by
  obtain ⟨w1, f, rfl, ⟨w0, D, rr, dp, wk, sm, rfl, hds, hI⟩, hf⟩ := h0
  refine MH_of (own := R_L) (by decide) rfl (fun _ => Nat.le_of_ble_eq_true rfl) (fun Z h hr hx9 => ?_)
  refine z_aload h d_L_root_0 rfl ?_
  refine z_iconst (v := nI 0) h d_L_root_2 (by decide) ?_
  refine z_aload_n h d_L_root_3 rfl ?_
  refine z_lload_n h d_L_root_4 rfl ?_
  refine z_iload_n h d_L_root_5 rfl ?_
  refine z_iload h d_L_root_6 rfl ?_
  rw [List.append_assoc]
  exact z_catchI (r := 0) (v := nI 1) (C := R_D) (ci := 4) idL18 hx9 (mt_D_root1 a x y w0 hx) (zTT (zf_D_root (by decide))) wm_L_17 wi_D_root ws_D_root rfl (DS_recv hds) d_L_root_8 (by decide) (DS_len hds) (Nat.le_of_ble_eq_true rfl) rfl rfl (by rw [List.append_assoc]) (hp := 16) (i := 6) (lr := 18) (Or.inl ⟨0, 13, 13, _, rfl, by decide, by decide, wlx_IAE⟩) (Or.inl ⟨d_L_root_16, rfl⟩) (by decide) d_L_root_18 (by decide) d_L_root_19 (fun w9 hl9 hp9 => ⟨rfl, w9 ++ sS D rr dp wk sm, f, (List.append_assoc _ _ _).symm, ⟨w9, D, rr, dp, wk, sm, rfl, hp9.symm ▸ hds, hI⟩, hf⟩)
set_option maxRecDepth 100000 in
set_option maxHeartbeats 4000000 in
theorem mk_root2 (Q : Nat) (c : Nat → Nat) (v b v2 b2 : Nat) (x n b' : Nat) (o : Int) (w : List va_E) (h0 : HW Q c v b v2 b2 o w) (hx : x < 2 ^ 63) (hn : n ≤ 6000) (hb : 2 ≤ b' ∧ b' < 37) (hnb : ¬ n * bl (b' - 1) ≤ 20000) : MH y_L_root c_L_root 7 hs_L_root (rmT 11) [.ref 0, .long (lN x), .int (nI n), .int (nI b'), .ref 28] w (fun r w' => r = some (.int (nI 2)) ∧ HW Q c v b v2 b2 o w') := by
  obtain ⟨w1, f, rfl, ⟨w0, D, rr, dp, wk, sm, rfl, hds, hI⟩, hf⟩ := h0
  refine MH_of (own := R_L) (by decide) rfl (fun _ => Nat.le_of_ble_eq_true rfl) (fun Z h hr hx9 => ?_)
  refine z_aload h d_L_root_0 rfl ?_
  refine z_iconst (v := nI 0) h d_L_root_2 (by decide) ?_
  refine z_aload_n h d_L_root_3 rfl ?_
  refine z_lload_n h d_L_root_4 rfl ?_
  refine z_iload_n h d_L_root_5 rfl ?_
  refine z_iload h d_L_root_6 rfl ?_
  rw [List.append_assoc]
  exact z_catchI (r := 0) (v := nI 2) (C := R_D) (ci := 4) idL18 hx9 (mt_D_root2 x n b' w0 hx hn hb hnb) (zTT (zf_D_root (by decide))) wm_L_17 wi_D_root ws_D_root rfl (DS_recv hds) d_L_root_8 (by decide) (DS_len hds) (Nat.le_of_ble_eq_true rfl) rfl rfl (by rw [List.append_assoc]) (hp := 20) (i := 6) (lr := 22) (Or.inr ⟨0, 13, 16, 13, 0, 13, 15, _, rfl, by decide, by decide, by decide, by decide, rfl, wlx_IAE, wlx_UOE⟩) (Or.inl ⟨d_L_root_20, rfl⟩) (by decide) d_L_root_22 (by decide) d_L_root_23 (fun w9 hl9 hp9 => ⟨rfl, w9 ++ sS D rr dp wk sm, f, (List.append_assoc _ _ _).symm, ⟨w9, D, rr, dp, wk, sm, rfl, hp9.symm ▸ hds, hI⟩, hf⟩)
set_option maxRecDepth 100000 in
set_option maxHeartbeats 4000000 in
theorem mh_over (Q : Nat) (c : Nat → Nat) (v b v2 b2 : Nat) (x u n b' : Nat) (o : Int) (w : List va_E) (h0 : HW Q c v b v2 b2 o w) (hx : x < 2 ^ 63) (hu : u < 2 ^ 63) (hu0 : 0 < u) (hn : n ≤ 6000) (hb : 2 ≤ b' ∧ b' < 37) (hnb : n * bl (b' - 1) ≤ 20000) : MH y_L_over c_L_over 9 hs_L_over (rmT 11) [.ref 0, .long (lN x), .long (lN u), .int (nI n), .int (nI b'), .ref 28] w (fun r w' => r = some (.int (nI 0)) ∧ HW Q c (x * b' ^ n / u) b' v2 b2 (nI (nd b' (x * b' ^ n / u))).toInt w') := by
  obtain ⟨w1, f, rfl, ⟨w0, D, rr, dp, wk, sm, rfl, hds, hI⟩, hf⟩ := h0
  refine MH_of (own := R_L) (by decide) rfl (fun _ => Nat.le_of_ble_eq_true rfl) (fun Z h hr hx9 => ?_)
  refine z_aload h d_L_over_0 rfl ?_
  refine z_iconst (v := nI 0) h d_L_over_2 (by decide) ?_
  refine z_aload_n h d_L_over_3 rfl ?_
  refine z_lload_n h d_L_over_4 rfl ?_
  refine z_lload_n h d_L_over_5 rfl ?_
  refine z_iload h d_L_over_6 rfl ?_
  refine z_iload h d_L_over_8 rfl ?_
  rw [List.append_assoc]
  refine z_dI (C := R_D) (ci := 4) idL18 h (ms_D_over v b v2 b2 x u n b' w0 hds hx hu hu0 hn hb hnb) (zT (zf_D_over (by decide))) wm_L_21 wi_D_over ws_D_over rfl (DS_recv hds) d_L_over_10 (by decide) (DS_len hds) (Nat.le_of_ble_eq_true rfl) rfl rfl (fun _ _ hp => DS_len hp.2) (fun r_9 w_9 hp_9 => ?_)
  obtain ⟨rfl, hd9⟩ := hp_9
  rw [← List.append_assoc]
  exact help_end h hr (len28 (DS_len hd9)) d_L_over_13 d_L_over_14 d_L_over_15 (tgt := 26) (by decide) d_L_over_26 d_L_over_27 ⟨rfl, w_9 ++ sS D rr dp wk sm, ui f 0 _, rfl, ⟨w_9, D, rr, dp, wk, sm, rfl, hd9, hI⟩, ui_eq⟩
set_option maxRecDepth 100000 in
set_option maxHeartbeats 4000000 in
theorem mk_over1 (Q : Nat) (c : Nat → Nat) (v b v2 b2 : Nat) (a d : Int64) (x y : Int32) (o : Int) (w : List va_E) (h0 : HW Q c v b v2 b2 o w) (hx : a < 0 ∨ d < 1 ∨ ¬ (okN x ∧ okB y)) : MH y_L_over c_L_over 9 hs_L_over (rmT 11) [.ref 0, .long a, .long d, .int x, .int y, .ref 28] w (fun r w' => r = some (.int (nI 1)) ∧ HW Q c v b v2 b2 o w') := by
  obtain ⟨w1, f, rfl, ⟨w0, D, rr, dp, wk, sm, rfl, hds, hI⟩, hf⟩ := h0
  refine MH_of (own := R_L) (by decide) rfl (fun _ => Nat.le_of_ble_eq_true rfl) (fun Z h hr hx9 => ?_)
  refine z_aload h d_L_over_0 rfl ?_
  refine z_iconst (v := nI 0) h d_L_over_2 (by decide) ?_
  refine z_aload_n h d_L_over_3 rfl ?_
  refine z_lload_n h d_L_over_4 rfl ?_
  refine z_lload_n h d_L_over_5 rfl ?_
  refine z_iload h d_L_over_6 rfl ?_
  refine z_iload h d_L_over_8 rfl ?_
  rw [List.append_assoc]
  exact z_catchI (r := 0) (v := nI 1) (C := R_D) (ci := 4) idL18 hx9 (mt_D_over1 a d x y w0 hx) (zTT (zf_D_over (by decide))) wm_L_21 wi_D_over ws_D_over rfl (DS_recv hds) d_L_over_10 (by decide) (DS_len hds) (Nat.le_of_ble_eq_true rfl) rfl rfl (by rw [List.append_assoc]) (hp := 18) (i := 8) (lr := 20) (Or.inl ⟨0, 15, 13, _, rfl, by decide, by decide, wlx_IAE⟩) (Or.inl ⟨d_L_over_18, rfl⟩) (by decide) d_L_over_20 (by decide) d_L_over_21 (fun w9 hl9 hp9 => ⟨rfl, w9 ++ sS D rr dp wk sm, f, (List.append_assoc _ _ _).symm, ⟨w9, D, rr, dp, wk, sm, rfl, hp9.symm ▸ hds, hI⟩, hf⟩)
set_option maxRecDepth 100000 in
set_option maxHeartbeats 4000000 in
theorem mk_over2 (Q : Nat) (c : Nat → Nat) (v b v2 b2 : Nat) (x u n b' : Nat) (o : Int) (w : List va_E) (h0 : HW Q c v b v2 b2 o w) (hx : x < 2 ^ 63) (hu : u < 2 ^ 63) (hu0 : 0 < u) (hn : n ≤ 6000) (hb : 2 ≤ b' ∧ b' < 37) (hnb : ¬ n * bl (b' - 1) ≤ 20000) : MH y_L_over c_L_over 9 hs_L_over (rmT 11) [.ref 0, .long (lN x), .long (lN u), .int (nI n), .int (nI b'), .ref 28] w (fun r w' => r = some (.int (nI 2)) ∧ HW Q c v b v2 b2 o w') := by
  obtain ⟨w1, f, rfl, ⟨w0, D, rr, dp, wk, sm, rfl, hds, hI⟩, hf⟩ := h0
  refine MH_of (own := R_L) (by decide) rfl (fun _ => Nat.le_of_ble_eq_true rfl) (fun Z h hr hx9 => ?_)
  refine z_aload h d_L_over_0 rfl ?_
  refine z_iconst (v := nI 0) h d_L_over_2 (by decide) ?_
  refine z_aload_n h d_L_over_3 rfl ?_
  refine z_lload_n h d_L_over_4 rfl ?_
  refine z_lload_n h d_L_over_5 rfl ?_
  refine z_iload h d_L_over_6 rfl ?_
  refine z_iload h d_L_over_8 rfl ?_
  rw [List.append_assoc]
  exact z_catchI (r := 0) (v := nI 2) (C := R_D) (ci := 4) idL18 hx9 (mt_D_over2 x u n b' w0 hx hu hu0 hn hb hnb) (zTT (zf_D_over (by decide))) wm_L_21 wi_D_over ws_D_over rfl (DS_recv hds) d_L_over_10 (by decide) (DS_len hds) (Nat.le_of_ble_eq_true rfl) rfl rfl (by rw [List.append_assoc]) (hp := 22) (i := 8) (lr := 24) (Or.inr ⟨0, 15, 18, 13, 0, 15, 15, _, rfl, by decide, by decide, by decide, by decide, rfl, wlx_IAE, wlx_UOE⟩) (Or.inl ⟨d_L_over_22, rfl⟩) (by decide) d_L_over_24 (by decide) d_L_over_25 (fun w9 hl9 hp9 => ⟨rfl, w9 ++ sS D rr dp wk sm, f, (List.append_assoc _ _ _).symm, ⟨w9, D, rr, dp, wk, sm, rfl, hp9.symm ▸ hds, hI⟩, hf⟩)
set_option maxRecDepth 100000 in
set_option maxHeartbeats 4000000 in
theorem mh_number (Q : Nat) (c : Nat → Nat) (v b v2 b2 : Nat) (x b' : Nat) (o : Int) (w : List va_E) (h0 : HW Q c v b v2 b2 o w) (hx : x < 2 ^ 63) (hb : 2 ≤ b' ∧ b' < 37) : MH y_L_number c_L_number 6 hs_L_number (rmT 11) [.ref 0, .long (lN x), .int (nI b'), .ref 28] w (fun r w' => r = some (.int (nI 0)) ∧ HW Q c x b' v2 b2 (nI (nd b' x)).toInt w') := by
  obtain ⟨w1, f, rfl, ⟨w0, D, rr, dp, wk, sm, rfl, hds, hI⟩, hf⟩ := h0
  refine MH_of (own := R_L) (by decide) rfl (fun _ => Nat.le_of_ble_eq_true rfl) (fun Z h hr hx9 => ?_)
  refine z_aload h d_L_number_0 rfl ?_
  refine z_iconst (v := nI 0) h d_L_number_2 (by decide) ?_
  refine z_aload_n h d_L_number_3 rfl ?_
  refine z_lload_n h d_L_number_4 rfl ?_
  refine z_iload_n h d_L_number_5 rfl ?_
  rw [List.append_assoc]
  refine z_dI (C := R_D) (ci := 4) idL18 h (ms_D_number v b v2 b2 x b' w0 hds hx hb) (zT (zf_D_number (by decide))) wm_L_25 wi_D_number ws_D_number rfl (DS_recv hds) d_L_number_6 (by decide) (DS_len hds) (Nat.le_of_ble_eq_true rfl) rfl rfl (fun _ _ hp => DS_len hp.2) (fun r_9 w_9 hp_9 => ?_)
  obtain ⟨rfl, hd9⟩ := hp_9
  rw [← List.append_assoc]
  exact help_end h hr (len28 (DS_len hd9)) d_L_number_9 d_L_number_10 d_L_number_11 (tgt := 18) (by decide) d_L_number_18 d_L_number_19 ⟨rfl, w_9 ++ sS D rr dp wk sm, ui f 0 _, rfl, ⟨w_9, D, rr, dp, wk, sm, rfl, hd9, hI⟩, ui_eq⟩
set_option maxRecDepth 100000 in
set_option maxHeartbeats 4000000 in
theorem mk_number1 (Q : Nat) (c : Nat → Nat) (v b v2 b2 : Nat) (x : Int64) (y : Int32) (o : Int) (w : List va_E) (h0 : HW Q c v b v2 b2 o w) (hx : x < 0 ∨ ¬ okB y) : MH y_L_number c_L_number 6 hs_L_number (rmT 11) [.ref 0, .long x, .int y, .ref 28] w (fun r w' => r = some (.int (nI 1)) ∧ HW Q c v b v2 b2 o w') := by
  obtain ⟨w1, f, rfl, ⟨w0, D, rr, dp, wk, sm, rfl, hds, hI⟩, hf⟩ := h0
  refine MH_of (own := R_L) (by decide) rfl (fun _ => Nat.le_of_ble_eq_true rfl) (fun Z h hr hx9 => ?_)
  refine z_aload h d_L_number_0 rfl ?_
  refine z_iconst (v := nI 0) h d_L_number_2 (by decide) ?_
  refine z_aload_n h d_L_number_3 rfl ?_
  refine z_lload_n h d_L_number_4 rfl ?_
  refine z_iload_n h d_L_number_5 rfl ?_
  rw [List.append_assoc]
  exact z_catchI (r := 0) (v := nI 1) (C := R_D) (ci := 4) idL18 hx9 (mt_D_number x y w0 hx) (zTT (zf_D_number (by decide))) wm_L_25 wi_D_number ws_D_number rfl (DS_recv hds) d_L_number_6 (by decide) (DS_len hds) (Nat.le_of_ble_eq_true rfl) rfl rfl (by rw [List.append_assoc]) (hp := 14) (i := 5) (lr := 16) (Or.inl ⟨0, 11, 13, _, rfl, by decide, by decide, wlx_IAE⟩) (Or.inl ⟨d_L_number_14, rfl⟩) (by decide) d_L_number_16 (by decide) d_L_number_17 (fun w9 hl9 hp9 => ⟨rfl, w9 ++ sS D rr dp wk sm, f, (List.append_assoc _ _ _).symm, ⟨w9, D, rr, dp, wk, sm, rfl, hp9.symm ▸ hds, hI⟩, hf⟩)
set_option maxRecDepth 100000 in
set_option maxHeartbeats 4000000 in
theorem mh_push (Q : Nat) (c : Nat → Nat) (v b v2 b2 : Nat) (d : Nat) (o : Int) (w : List va_E) (h0 : HW Q c v b v2 b2 o w) (hd : d < b) (hl : bl (v * b + d) ≤ 24000) : MH y_L_push c_L_push 4 hs_L_push (rmT 11) [.ref 0, .int (nI d), .ref 28] w (fun r w' => r = some (.int (nI 0)) ∧ HW Q c (v * b + d) b v2 b2 (nI (nd b (v * b + d))).toInt w') := by
  obtain ⟨w1, f, rfl, ⟨w0, D, rr, dp, wk, sm, rfl, hds, hI⟩, hf⟩ := h0
  refine MH_of (own := R_L) (by decide) rfl (fun _ => Nat.le_of_ble_eq_true rfl) (fun Z h hr hx9 => ?_)
  refine z_aload_n h d_L_push_0 rfl ?_
  refine z_iconst (v := nI 0) h d_L_push_1 (by decide) ?_
  refine z_aload_n h d_L_push_2 rfl ?_
  refine z_iload_n h d_L_push_3 rfl ?_
  rw [List.append_assoc]
  refine z_dI (C := R_D) (ci := 4) idL18 h (ms_D_push v b v2 b2 d w0 hds hd hl) (zT (zf_D_push (by decide))) wm_L_29 wi_D_push ws_D_push rfl (DS_recv hds) d_L_push_4 (by decide) (DS_len hds) (Nat.le_of_ble_eq_true rfl) rfl rfl (fun _ _ hp => DS_len hp.2) (fun r_9 w_9 hp_9 => ?_)
  obtain ⟨rfl, hd9⟩ := hp_9
  rw [← List.append_assoc]
  exact help_end h hr (len28 (DS_len hd9)) d_L_push_7 d_L_push_8 d_L_push_9 (tgt := 18) (by decide) d_L_push_18 d_L_push_19 ⟨rfl, w_9 ++ sS D rr dp wk sm, ui f 0 _, rfl, ⟨w_9, D, rr, dp, wk, sm, rfl, hd9, hI⟩, ui_eq⟩
set_option maxRecDepth 100000 in
set_option maxHeartbeats 4000000 in
theorem mk_push1 (Q : Nat) (c : Nat → Nat) (v b v2 b2 : Nat) (x : Int32) (o : Int) (w : List va_E) (h0 : HW Q c v b v2 b2 o w) (hx : x < 0 ∨ ¬ x < nI b) : MH y_L_push c_L_push 4 hs_L_push (rmT 11) [.ref 0, .int x, .ref 28] w (fun r w' => r = some (.int (nI 1)) ∧ HW Q c v b v2 b2 o w') := by
  obtain ⟨w1, f, rfl, ⟨w0, D, rr, dp, wk, sm, rfl, hds, hI⟩, hf⟩ := h0
  refine MH_of (own := R_L) (by decide) rfl (fun _ => Nat.le_of_ble_eq_true rfl) (fun Z h hr hx9 => ?_)
  refine z_aload_n h d_L_push_0 rfl ?_
  refine z_iconst (v := nI 0) h d_L_push_1 (by decide) ?_
  refine z_aload_n h d_L_push_2 rfl ?_
  refine z_iload_n h d_L_push_3 rfl ?_
  rw [List.append_assoc]
  exact z_catchI (r := 0) (v := nI 1) (C := R_D) (ci := 4) idL18 hx9 (mt_D_push1 v b v2 b2 x w0 hds hx) (zTT (zf_D_push (by decide))) wm_L_29 wi_D_push ws_D_push rfl (DS_recv hds) d_L_push_4 (by decide) (DS_len hds) (Nat.le_of_ble_eq_true rfl) rfl rfl (by rw [List.append_assoc]) (hp := 12) (i := 3) (lr := 13) (Or.inl ⟨0, 9, 13, _, rfl, by decide, by decide, wlx_IAE⟩) (Or.inr ⟨3, rfl, d_L_push_12, rfl⟩) (by decide) d_L_push_13 (by decide) d_L_push_14 (fun w9 hl9 hp9 => ⟨rfl, w9 ++ sS D rr dp wk sm, f, (List.append_assoc _ _ _).symm, ⟨w9, D, rr, dp, wk, sm, rfl, hp9, hI⟩, hf⟩)
set_option maxRecDepth 100000 in
set_option maxHeartbeats 4000000 in
theorem mk_push2 (Q : Nat) (c : Nat → Nat) (v b v2 b2 : Nat) (d : Nat) (o : Int) (w : List va_E) (h0 : HW Q c v b v2 b2 o w) (hd : d < b) (hl : ¬ bl (v * b + d) ≤ 24000) : MH y_L_push c_L_push 4 hs_L_push (rmT 11) [.ref 0, .int (nI d), .ref 28] w (fun r w' => r = some (.int (nI 2)) ∧ HW Q c v b v2 b2 o w') := by
  obtain ⟨w1, f, rfl, ⟨w0, D, rr, dp, wk, sm, rfl, hds, hI⟩, hf⟩ := h0
  refine MH_of (own := R_L) (by decide) rfl (fun _ => Nat.le_of_ble_eq_true rfl) (fun Z h hr hx9 => ?_)
  refine z_aload_n h d_L_push_0 rfl ?_
  refine z_iconst (v := nI 0) h d_L_push_1 (by decide) ?_
  refine z_aload_n h d_L_push_2 rfl ?_
  refine z_iload_n h d_L_push_3 rfl ?_
  rw [List.append_assoc]
  exact z_catchI (r := 0) (v := nI 2) (C := R_D) (ci := 4) idL18 hx9 (mt_D_push2 v b v2 b2 d w0 hds hd hl) (zTT (zf_D_push (by decide))) wm_L_29 wi_D_push ws_D_push rfl (DS_recv hds) d_L_push_4 (by decide) (DS_len hds) (Nat.le_of_ble_eq_true rfl) rfl rfl (by rw [List.append_assoc]) (hp := 15) (i := 3) (lr := 16) (Or.inr ⟨0, 9, 12, 13, 0, 9, 15, _, rfl, by decide, by decide, by decide, by decide, rfl, wlx_IAE, wlx_UOE⟩) (Or.inr ⟨3, rfl, d_L_push_15, rfl⟩) (by decide) d_L_push_16 (by decide) d_L_push_17 (fun w9 hl9 hp9 => ⟨rfl, w9 ++ sS D rr dp wk sm, f, (List.append_assoc _ _ _).symm, ⟨w9, D, rr, dp, wk, sm, rfl, hp9, hI⟩, hf⟩)
set_option maxRecDepth 100000 in
set_option maxHeartbeats 4000000 in
theorem mh_add (Q : Nat) (c : Nat → Nat) (v b v2 b2 : Nat)  (o : Int) (w : List va_E) (h0 : HW Q c v b v2 b2 o w) (hl : bl (v + v2) ≤ 24000) : MH y_L_add c_L_add 3 hs_L_add (rmT 11) [.ref 0, .ref 28] w (fun r w' => r = some (.int (nI 0)) ∧ HW Q c (v + v2) b v2 b2 (nI (nd b (v + v2))).toInt w') := by
  obtain ⟨w1, f, rfl, ⟨w0, D, rr, dp, wk, sm, rfl, hds, hI⟩, hf⟩ := h0
  refine MH_of (own := R_L) (by decide) rfl (fun _ => Nat.le_of_ble_eq_true rfl) (fun Z h hr hx9 => ?_)
  refine z_aload_n h d_L_add_0 rfl ?_
  refine z_iconst (v := nI 0) h d_L_add_1 (by decide) ?_
  refine z_aload_n h d_L_add_2 rfl ?_
  rw [List.append_assoc]
  refine z_dI (C := R_D) (ci := 4) idL18 h (ms_D_add v b v2 b2 w0 hds hl) (zT (zf_D_add (by decide))) wm_L_33 wi_D_add ws_D_add rfl (DS_recv hds) d_L_add_3 (by decide) (DS_len hds) (Nat.le_of_ble_eq_true rfl) rfl rfl (fun _ _ hp => DS_len hp.2) (fun r_9 w_9 hp_9 => ?_)
  obtain ⟨rfl, hd9⟩ := hp_9
  rw [← List.append_assoc]
  exact help_end h hr (len28 (DS_len hd9)) d_L_add_6 d_L_add_7 d_L_add_8 (tgt := 14) (by decide) d_L_add_14 d_L_add_15 ⟨rfl, w_9 ++ sS D rr dp wk sm, ui f 0 _, rfl, ⟨w_9, D, rr, dp, wk, sm, rfl, hd9, hI⟩, ui_eq⟩
set_option maxRecDepth 100000 in
set_option maxHeartbeats 4000000 in
theorem mk_add1 (Q : Nat) (c : Nat → Nat) (v b v2 b2 : Nat)  (o : Int) (w : List va_E) (h0 : HW Q c v b v2 b2 o w) (hl : ¬ bl (v + v2) ≤ 24000) : MH y_L_add c_L_add 3 hs_L_add (rmT 11) [.ref 0, .ref 28] w (fun r w' => r = some (.int (nI 1)) ∧ HW Q c v b v2 b2 o w') := by
  obtain ⟨w1, f, rfl, ⟨w0, D, rr, dp, wk, sm, rfl, hds, hI⟩, hf⟩ := h0
  refine MH_of (own := R_L) (by decide) rfl (fun _ => Nat.le_of_ble_eq_true rfl) (fun Z h hr hx9 => ?_)
  refine z_aload_n h d_L_add_0 rfl ?_
  refine z_iconst (v := nI 0) h d_L_add_1 (by decide) ?_
  refine z_aload_n h d_L_add_2 rfl ?_
  rw [List.append_assoc]
  exact z_catchI (r := 0) (v := nI 1) (C := R_D) (ci := 4) idL18 hx9 (mt_D_add v b v2 b2 w0 hds hl) (zTT (zf_D_add (by decide))) wm_L_33 wi_D_add ws_D_add rfl (DS_recv hds) d_L_add_3 (by decide) (DS_len hds) (Nat.le_of_ble_eq_true rfl) rfl rfl (by rw [List.append_assoc]) (hp := 11) (i := 2) (lr := 12) (Or.inl ⟨0, 8, 15, _, rfl, by decide, by decide, wlx_UOE⟩) (Or.inr ⟨2, rfl, d_L_add_11, rfl⟩) (by decide) d_L_add_12 (by decide) d_L_add_13 (fun w9 hl9 hp9 => ⟨rfl, w9 ++ sS D rr dp wk sm, f, (List.append_assoc _ _ _).symm, ⟨w9, D, rr, dp, wk, sm, rfl, hp9, hI⟩, hf⟩)
set_option maxRecDepth 100000 in
set_option maxHeartbeats 4000000 in
theorem mh_subtract (Q : Nat) (c : Nat → Nat) (v b v2 b2 : Nat)  (o : Int) (w : List va_E) (h0 : HW Q c v b v2 b2 o w) (hl : v2 ≤ v) : MH y_L_subtract c_L_subtract 3 hs_L_subtract (rmT 11) [.ref 0, .ref 28] w (fun r w' => r = some (.int (nI 0)) ∧ HW Q c (v - v2) b v2 b2 (nI (nd b (v - v2))).toInt w') := by
  obtain ⟨w1, f, rfl, ⟨w0, D, rr, dp, wk, sm, rfl, hds, hI⟩, hf⟩ := h0
  refine MH_of (own := R_L) (by decide) rfl (fun _ => Nat.le_of_ble_eq_true rfl) (fun Z h hr hx9 => ?_)
  refine z_aload_n h d_L_subtract_0 rfl ?_
  refine z_iconst (v := nI 0) h d_L_subtract_1 (by decide) ?_
  refine z_aload_n h d_L_subtract_2 rfl ?_
  rw [List.append_assoc]
  refine z_dI (C := R_D) (ci := 4) idL18 h (ms_D_subtract v b v2 b2 w0 hds hl) (zT (zf_D_subtract (by decide))) wm_L_37 wi_D_subtract ws_D_subtract rfl (DS_recv hds) d_L_subtract_3 (by decide) (DS_len hds) (Nat.le_of_ble_eq_true rfl) rfl rfl (fun _ _ hp => DS_len hp.2) (fun r_9 w_9 hp_9 => ?_)
  obtain ⟨rfl, hd9⟩ := hp_9
  rw [← List.append_assoc]
  exact help_end h hr (len28 (DS_len hd9)) d_L_subtract_6 d_L_subtract_7 d_L_subtract_8 (tgt := 14) (by decide) d_L_subtract_14 d_L_subtract_15 ⟨rfl, w_9 ++ sS D rr dp wk sm, ui f 0 _, rfl, ⟨w_9, D, rr, dp, wk, sm, rfl, hd9, hI⟩, ui_eq⟩
set_option maxRecDepth 100000 in
set_option maxHeartbeats 4000000 in
theorem mk_subtract1 (Q : Nat) (c : Nat → Nat) (v b v2 b2 : Nat)  (o : Int) (w : List va_E) (h0 : HW Q c v b v2 b2 o w) (hl : ¬ v2 ≤ v) : MH y_L_subtract c_L_subtract 3 hs_L_subtract (rmT 11) [.ref 0, .ref 28] w (fun r w' => r = some (.int (nI 1)) ∧ HW Q c v b v2 b2 o w') := by
  obtain ⟨w1, f, rfl, ⟨w0, D, rr, dp, wk, sm, rfl, hds, hI⟩, hf⟩ := h0
  refine MH_of (own := R_L) (by decide) rfl (fun _ => Nat.le_of_ble_eq_true rfl) (fun Z h hr hx9 => ?_)
  refine z_aload_n h d_L_subtract_0 rfl ?_
  refine z_iconst (v := nI 0) h d_L_subtract_1 (by decide) ?_
  refine z_aload_n h d_L_subtract_2 rfl ?_
  rw [List.append_assoc]
  exact z_catchI (r := 0) (v := nI 1) (C := R_D) (ci := 4) idL18 hx9 (mt_D_subtract v b v2 b2 w0 hds hl) (zTT (zf_D_subtract (by decide))) wm_L_37 wi_D_subtract ws_D_subtract rfl (DS_recv hds) d_L_subtract_3 (by decide) (DS_len hds) (Nat.le_of_ble_eq_true rfl) rfl rfl (by rw [List.append_assoc]) (hp := 11) (i := 2) (lr := 12) (Or.inl ⟨0, 8, 40, _, rfl, by decide, by decide, wlx_ARE⟩) (Or.inr ⟨2, rfl, d_L_subtract_11, rfl⟩) (by decide) d_L_subtract_12 (by decide) d_L_subtract_13 (fun w9 hl9 hp9 => ⟨rfl, w9 ++ sS D rr dp wk sm, f, (List.append_assoc _ _ _).symm, ⟨w9, D, rr, dp, wk, sm, rfl, hp9, hI⟩, hf⟩)
set_option maxRecDepth 100000 in
set_option maxHeartbeats 4000000 in
theorem mh_times (Q : Nat) (c : Nat → Nat) (v b v2 b2 : Nat)  (o : Int) (w : List va_E) (h0 : HW Q c v b v2 b2 o w) (hl0 : bl v + bl v2 ≤ 24001) (hl : bl (v * v2) ≤ 24000) : MH y_L_times c_L_times 3 hs_L_times (rmT 11) [.ref 0, .ref 28] w (fun r w' => r = some (.int (nI 0)) ∧ HW Q c (v * v2) b v2 b2 (nI (nd b (v * v2))).toInt w') := by
  obtain ⟨w1, f, rfl, ⟨w0, D, rr, dp, wk, sm, rfl, hds, hI⟩, hf⟩ := h0
  refine MH_of (own := R_L) (by decide) rfl (fun _ => Nat.le_of_ble_eq_true rfl) (fun Z h hr hx9 => ?_)
  refine z_aload_n h d_L_times_0 rfl ?_
  refine z_iconst (v := nI 0) h d_L_times_1 (by decide) ?_
  refine z_aload_n h d_L_times_2 rfl ?_
  rw [List.append_assoc]
  refine z_dI (C := R_D) (ci := 4) idL18 h (ms_D_times v b v2 b2 w0 hds hl0 hl) (zT (zf_D_times (by decide))) wm_L_42 wi_D_times ws_D_times rfl (DS_recv hds) d_L_times_3 (by decide) (DS_len hds) (Nat.le_of_ble_eq_true rfl) rfl rfl (fun _ _ hp => DS_len hp.2) (fun r_9 w_9 hp_9 => ?_)
  obtain ⟨rfl, hd9⟩ := hp_9
  rw [← List.append_assoc]
  exact help_end h hr (len28 (DS_len hd9)) d_L_times_6 d_L_times_7 d_L_times_8 (tgt := 14) (by decide) d_L_times_14 d_L_times_15 ⟨rfl, w_9 ++ sS D rr dp wk sm, ui f 0 _, rfl, ⟨w_9, D, rr, dp, wk, sm, rfl, hd9, hI⟩, ui_eq⟩
set_option maxRecDepth 100000 in
set_option maxHeartbeats 4000000 in
theorem mk_times1 (Q : Nat) (c : Nat → Nat) (v b v2 b2 : Nat)  (o : Int) (w : List va_E) (h0 : HW Q c v b v2 b2 o w) (hl : ¬ (bl v + bl v2 ≤ 24001 ∧ bl (v * v2) ≤ 24000)) : MH y_L_times c_L_times 3 hs_L_times (rmT 11) [.ref 0, .ref 28] w (fun r w' => r = some (.int (nI 1)) ∧ HW Q c v b v2 b2 o w') := by
  obtain ⟨w1, f, rfl, ⟨w0, D, rr, dp, wk, sm, rfl, hds, hI⟩, hf⟩ := h0
  refine MH_of (own := R_L) (by decide) rfl (fun _ => Nat.le_of_ble_eq_true rfl) (fun Z h hr hx9 => ?_)
  refine z_aload_n h d_L_times_0 rfl ?_
  refine z_iconst (v := nI 0) h d_L_times_1 (by decide) ?_
  refine z_aload_n h d_L_times_2 rfl ?_
  rw [List.append_assoc]
  exact z_catchI (r := 0) (v := nI 1) (C := R_D) (ci := 4) idL18 hx9 (mt_D_times v b v2 b2 w0 hds hl) (zTT (zf_D_times (by decide))) wm_L_42 wi_D_times ws_D_times rfl (DS_recv hds) d_L_times_3 (by decide) (DS_len hds) (Nat.le_of_ble_eq_true rfl) rfl rfl (by rw [List.append_assoc]) (hp := 11) (i := 2) (lr := 12) (Or.inl ⟨0, 8, 15, _, rfl, by decide, by decide, wlx_UOE⟩) (Or.inr ⟨2, rfl, d_L_times_11, rfl⟩) (by decide) d_L_times_12 (by decide) d_L_times_13 (fun w9 hl9 hp9 => ⟨rfl, w9 ++ sS D rr dp wk sm, f, (List.append_assoc _ _ _).symm, ⟨w9, D, rr, dp, wk, sm, rfl, hp9, hI⟩, hf⟩)
set_option maxRecDepth 100000 in
set_option maxHeartbeats 4000000 in
theorem mh_divide (Q : Nat) (c : Nat → Nat) (v b v2 b2 : Nat)  (o : Int) (w : List va_E) (h0 : HW Q c v b v2 b2 o w) (hz : v2 ≠ 0) : MH y_L_divide c_L_divide 3 hs_L_divide (rmT 11) [.ref 0, .ref 28] w (fun r w' => r = some (.int (nI 0)) ∧ HW Q c (v / v2) b (v % v2) b2 (nI (nd b (v / v2))).toInt w') := by
  obtain ⟨w1, f, rfl, ⟨w0, D, rr, dp, wk, sm, rfl, hds, hI⟩, hf⟩ := h0
  refine MH_of (own := R_L) (by decide) rfl (fun _ => Nat.le_of_ble_eq_true rfl) (fun Z h hr hx9 => ?_)
  refine z_aload_n h d_L_divide_0 rfl ?_
  refine z_iconst (v := nI 0) h d_L_divide_1 (by decide) ?_
  refine z_aload_n h d_L_divide_2 rfl ?_
  rw [List.append_assoc]
  refine z_dI (C := R_D) (ci := 4) idL18 h (ms_D_divide v b v2 b2 w0 hds hz) (zT (zf_D_divide (by decide))) wm_L_45 wi_D_divide ws_D_divide rfl (DS_recv hds) d_L_divide_3 (by decide) (DS_len hds) (Nat.le_of_ble_eq_true rfl) rfl rfl (fun _ _ hp => DS_len hp.2) (fun r_9 w_9 hp_9 => ?_)
  obtain ⟨rfl, hd9⟩ := hp_9
  rw [← List.append_assoc]
  exact help_end h hr (len28 (DS_len hd9)) d_L_divide_6 d_L_divide_7 d_L_divide_8 (tgt := 14) (by decide) d_L_divide_14 d_L_divide_15 ⟨rfl, w_9 ++ sS D rr dp wk sm, ui f 0 _, rfl, ⟨w_9, D, rr, dp, wk, sm, rfl, hd9, hI⟩, ui_eq⟩
set_option maxRecDepth 100000 in
set_option maxHeartbeats 4000000 in
theorem mk_divide1 (Q : Nat) (c : Nat → Nat) (v b v2 b2 : Nat)  (o : Int) (w : List va_E) (h0 : HW Q c v b v2 b2 o w) (hz : v2 = 0) : MH y_L_divide c_L_divide 3 hs_L_divide (rmT 11) [.ref 0, .ref 28] w (fun r w' => r = some (.int (nI 1)) ∧ HW Q c v b v2 b2 o w') := by
  obtain ⟨w1, f, rfl, ⟨w0, D, rr, dp, wk, sm, rfl, hds, hI⟩, hf⟩ := h0
  refine MH_of (own := R_L) (by decide) rfl (fun _ => Nat.le_of_ble_eq_true rfl) (fun Z h hr hx9 => ?_)
  refine z_aload_n h d_L_divide_0 rfl ?_
  refine z_iconst (v := nI 0) h d_L_divide_1 (by decide) ?_
  refine z_aload_n h d_L_divide_2 rfl ?_
  rw [List.append_assoc]
  exact z_catchI (r := 0) (v := nI 1) (C := R_D) (ci := 4) idL18 hx9 (mt_D_divide v b b2 w0 (hz ▸ hds)) (zTT (zf_D_divide (by decide))) wm_L_45 wi_D_divide ws_D_divide rfl (DS_recv hds) d_L_divide_3 (by decide) (DS_len hds) (Nat.le_of_ble_eq_true rfl) rfl rfl (by rw [List.append_assoc]) (hp := 11) (i := 2) (lr := 12) (Or.inl ⟨0, 8, 40, _, rfl, by decide, by decide, wlx_ARE⟩) (Or.inr ⟨2, rfl, d_L_divide_11, rfl⟩) (by decide) d_L_divide_12 (by decide) d_L_divide_13 (fun w9 hl9 hp9 => ⟨rfl, w9 ++ sS D rr dp wk sm, f, (List.append_assoc _ _ _).symm, ⟨w9, D, rr, dp, wk, sm, rfl, hz ▸ hp9, hI⟩, hf⟩)
set_option maxRecDepth 100000 in
set_option maxHeartbeats 4000000 in
theorem mh_convert (Q : Nat) (c : Nat → Nat) (v b v2 b2 : Nat) (b' : Nat) (o : Int) (w : List va_E) (h0 : HW Q c v b v2 b2 o w) (hb : 2 ≤ b' ∧ b' < 37) : MH y_L_convert c_L_convert 4 hs_L_convert (rmT 11) [.ref 0, .int (nI b'), .ref 28] w (fun r w' => r = some (.int (nI 0)) ∧ HW Q c v b' v2 b2 (nI (nd b' v)).toInt w') := by
  obtain ⟨w1, f, rfl, ⟨w0, D, rr, dp, wk, sm, rfl, hds, hI⟩, hf⟩ := h0
  refine MH_of (own := R_L) (by decide) rfl (fun _ => Nat.le_of_ble_eq_true rfl) (fun Z h hr hx9 => ?_)
  refine z_aload_n h d_L_convert_0 rfl ?_
  refine z_iconst (v := nI 0) h d_L_convert_1 (by decide) ?_
  refine z_aload_n h d_L_convert_2 rfl ?_
  refine z_iload_n h d_L_convert_3 rfl ?_
  rw [List.append_assoc]
  refine z_dI (C := R_D) (ci := 4) idL18 h (ms_D_convert v b v2 b2 b' w0 hds hb) (zT (zf_D_convert (by decide))) wm_L_48 wi_D_convert ws_D_convert rfl (DS_recv hds) d_L_convert_4 (by decide) (DS_len hds) (Nat.le_of_ble_eq_true rfl) rfl rfl (fun _ _ hp => DS_len hp.2) (fun r_9 w_9 hp_9 => ?_)
  obtain ⟨rfl, hd9⟩ := hp_9
  rw [← List.append_assoc]
  exact help_end h hr (len28 (DS_len hd9)) d_L_convert_7 d_L_convert_8 d_L_convert_9 (tgt := 15) (by decide) d_L_convert_15 d_L_convert_16 ⟨rfl, w_9 ++ sS D rr dp wk sm, ui f 0 _, rfl, ⟨w_9, D, rr, dp, wk, sm, rfl, hd9, hI⟩, ui_eq⟩
set_option maxRecDepth 100000 in
set_option maxHeartbeats 4000000 in
theorem mk_convert1 (Q : Nat) (c : Nat → Nat) (v b v2 b2 : Nat) (y : Int32) (o : Int) (w : List va_E) (h0 : HW Q c v b v2 b2 o w) (hy : ¬ okB y) : MH y_L_convert c_L_convert 4 hs_L_convert (rmT 11) [.ref 0, .int y, .ref 28] w (fun r w' => r = some (.int (nI 1)) ∧ HW Q c v b v2 b2 o w') := by
  obtain ⟨w1, f, rfl, ⟨w0, D, rr, dp, wk, sm, rfl, hds, hI⟩, hf⟩ := h0
  refine MH_of (own := R_L) (by decide) rfl (fun _ => Nat.le_of_ble_eq_true rfl) (fun Z h hr hx9 => ?_)
  refine z_aload_n h d_L_convert_0 rfl ?_
  refine z_iconst (v := nI 0) h d_L_convert_1 (by decide) ?_
  refine z_aload_n h d_L_convert_2 rfl ?_
  refine z_iload_n h d_L_convert_3 rfl ?_
  rw [List.append_assoc]
  exact z_catchI (r := 0) (v := nI 1) (C := R_D) (ci := 4) idL18 hx9 (mt_D_convert y w0 hy) (zTT (zf_D_convert (by decide))) wm_L_48 wi_D_convert ws_D_convert rfl (DS_recv hds) d_L_convert_4 (by decide) (DS_len hds) (Nat.le_of_ble_eq_true rfl) rfl rfl (by rw [List.append_assoc]) (hp := 12) (i := 3) (lr := 13) (Or.inl ⟨0, 9, 13, _, rfl, by decide, by decide, wlx_IAE⟩) (Or.inr ⟨3, rfl, d_L_convert_12, rfl⟩) (by decide) d_L_convert_13 (by decide) d_L_convert_14 (fun w9 hl9 hp9 => ⟨rfl, w9 ++ sS D rr dp wk sm, f, (List.append_assoc _ _ _).symm, ⟨w9, D, rr, dp, wk, sm, rfl, hp9.symm ▸ hds, hI⟩, hf⟩)
set_option maxRecDepth 100000 in
set_option maxHeartbeats 4000000 in
theorem mh_digit (Q : Nat) (c : Nat → Nat) (v b v2 b2 : Nat) (i : Nat) (o : Int) (w : List va_E) (h0 : HW Q c v b v2 b2 o w) (hi : i < nd b v) (hnd : nd b v < 2 ^ 31) : MH y_L_digit c_L_digit 4 hs_L_digit (rmT 11) [.ref 0, .int (nI i), .ref 28] w (fun r w' => r = some (.int (nI 0)) ∧ HW Q c v b v2 b2 (nI (dgt b v i)).toInt w') := by
  obtain ⟨w1, f, rfl, ⟨w0, D, rr, dp, wk, sm, rfl, hds, hI⟩, hf⟩ := h0
  refine MH_of (own := R_L) (by decide) rfl (fun _ => Nat.le_of_ble_eq_true rfl) (fun Z h hr hx9 => ?_)
  refine z_aload_n h d_L_digit_0 rfl ?_
  refine z_iconst (v := nI 0) h d_L_digit_1 (by decide) ?_
  refine z_aload_n h d_L_digit_2 rfl ?_
  refine z_iload_n h d_L_digit_3 rfl ?_
  rw [List.append_assoc]
  refine z_dI (C := R_D) (ci := 4) idL18 h (ms_D_digit v b v2 b2 i w0 hds hi hnd) (zT (zf_D_digit (by decide))) wm_L_51 wi_D_digit ws_D_digit rfl (DS_recv hds) d_L_digit_4 (by decide) (DS_len hds) (Nat.le_of_ble_eq_true rfl) rfl rfl (fun _ _ hp => DS_len hp.2) (fun r_9 w_9 hp_9 => ?_)
  obtain ⟨rfl, hd9⟩ := hp_9
  rw [← List.append_assoc]
  exact help_end h hr (len28 (DS_len hd9)) d_L_digit_7 d_L_digit_8 d_L_digit_9 (tgt := 15) (by decide) d_L_digit_15 d_L_digit_16 ⟨rfl, w_9 ++ sS D rr dp wk sm, ui f 0 _, rfl, ⟨w_9, D, rr, dp, wk, sm, rfl, hd9, hI⟩, ui_eq⟩
set_option maxRecDepth 100000 in
set_option maxHeartbeats 4000000 in
theorem mk_digit1 (Q : Nat) (c : Nat → Nat) (v b v2 b2 : Nat) (x : Int32) (o : Int) (w : List va_E) (h0 : HW Q c v b v2 b2 o w) (hx : x < 0 ∨ ¬ x < nI (nd b v)) : MH y_L_digit c_L_digit 4 hs_L_digit (rmT 11) [.ref 0, .int x, .ref 28] w (fun r w' => r = some (.int (nI 1)) ∧ HW Q c v b v2 b2 o w') := by
  obtain ⟨w1, f, rfl, ⟨w0, D, rr, dp, wk, sm, rfl, hds, hI⟩, hf⟩ := h0
  refine MH_of (own := R_L) (by decide) rfl (fun _ => Nat.le_of_ble_eq_true rfl) (fun Z h hr hx9 => ?_)
  refine z_aload_n h d_L_digit_0 rfl ?_
  refine z_iconst (v := nI 0) h d_L_digit_1 (by decide) ?_
  refine z_aload_n h d_L_digit_2 rfl ?_
  refine z_iload_n h d_L_digit_3 rfl ?_
  rw [List.append_assoc]
  exact z_catchI (r := 0) (v := nI 1) (C := R_D) (ci := 4) idL18 hx9 (mt_D_digit v b v2 b2 x w0 hds hx) (zTT (zf_D_digit (by decide))) wm_L_51 wi_D_digit ws_D_digit rfl (DS_recv hds) d_L_digit_4 (by decide) (DS_len hds) (Nat.le_of_ble_eq_true rfl) rfl rfl (by rw [List.append_assoc]) (hp := 12) (i := 3) (lr := 13) (Or.inl ⟨0, 9, 54, _, rfl, by decide, by decide, wlx_IOE⟩) (Or.inr ⟨3, rfl, d_L_digit_12, rfl⟩) (by decide) d_L_digit_13 (by decide) d_L_digit_14 (fun w9 hl9 hp9 => ⟨rfl, w9 ++ sS D rr dp wk sm, f, (List.append_assoc _ _ _).symm, ⟨w9, D, rr, dp, wk, sm, rfl, hp9, hI⟩, hf⟩)
set_option maxRecDepth 100000 in
set_option maxHeartbeats 4000000 in
theorem mh_about (Q : Nat) (c : Nat → Nat) (v b v2 b2 : Nat) (i : Nat) (o : Int) (w : List va_E) (h0 : HW Q c v b v2 b2 o w) (hi : i < 4) : MH y_L_about c_L_about 4 hs_L_about (rmT 11) [.ref 0, .int (nI i), .ref 28] w (fun r w' => r = some (.int (nI 0)) ∧ HW Q c v b v2 b2 (nI (if i = 0 then nd b v else if i = 1 then bl v else if i = 2 then b else dsm b v (nd b v))).toInt w') := by
  obtain ⟨w1, f, rfl, ⟨w0, D, rr, dp, wk, sm, rfl, hds, hI⟩, hf⟩ := h0
  refine MH_of (own := R_L) (by decide) rfl (fun _ => Nat.le_of_ble_eq_true rfl) (fun Z h hr hx9 => ?_)
  refine z_aload_n h d_L_about_0 rfl ?_
  refine z_iconst (v := nI 0) h d_L_about_1 (by decide) ?_
  refine z_aload_n h d_L_about_2 rfl ?_
  refine z_iload_n h d_L_about_3 rfl ?_
  rw [List.append_assoc]
  refine z_dI (C := R_D) (ci := 4) idL18 h (ms_D_about v b v2 b2 i w0 hds hi) (zT (zf_D_about (by decide))) wm_L_56 wi_D_about ws_D_about rfl (DS_recv hds) d_L_about_4 (by decide) (DS_len hds) (Nat.le_of_ble_eq_true rfl) rfl rfl (fun _ _ hp => DS_len hp.2) (fun r_9 w_9 hp_9 => ?_)
  obtain ⟨rfl, hd9⟩ := hp_9
  rw [← List.append_assoc]
  exact help_end h hr (len28 (DS_len hd9)) d_L_about_7 d_L_about_8 d_L_about_9 (tgt := 15) (by decide) d_L_about_15 d_L_about_16 ⟨rfl, w_9 ++ sS D rr dp wk sm, ui f 0 _, rfl, ⟨w_9, D, rr, dp, wk, sm, rfl, hd9, hI⟩, ui_eq⟩
set_option maxRecDepth 100000 in
set_option maxHeartbeats 4000000 in
theorem mk_about1 (Q : Nat) (c : Nat → Nat) (v b v2 b2 : Nat) (x : Int32) (o : Int) (w : List va_E) (h0 : HW Q c v b v2 b2 o w) (hx : x.toInt < 0 ∨ 3 < x.toInt) : MH y_L_about c_L_about 4 hs_L_about (rmT 11) [.ref 0, .int x, .ref 28] w (fun r w' => r = some (.int (nI 1)) ∧ HW Q c v b v2 b2 o w') := by
  obtain ⟨w1, f, rfl, ⟨w0, D, rr, dp, wk, sm, rfl, hds, hI⟩, hf⟩ := h0
  refine MH_of (own := R_L) (by decide) rfl (fun _ => Nat.le_of_ble_eq_true rfl) (fun Z h hr hx9 => ?_)
  refine z_aload_n h d_L_about_0 rfl ?_
  refine z_iconst (v := nI 0) h d_L_about_1 (by decide) ?_
  refine z_aload_n h d_L_about_2 rfl ?_
  refine z_iload_n h d_L_about_3 rfl ?_
  rw [List.append_assoc]
  exact z_catchI (r := 0) (v := nI 1) (C := R_D) (ci := 4) idL18 hx9 (mt_D_about x w0 hx) (zTT (zf_D_about (by decide))) wm_L_56 wi_D_about ws_D_about rfl (DS_recv hds) d_L_about_4 (by decide) (DS_len hds) (Nat.le_of_ble_eq_true rfl) rfl rfl (by rw [List.append_assoc]) (hp := 12) (i := 3) (lr := 13) (Or.inl ⟨0, 9, 13, _, rfl, by decide, by decide, wlx_IAE⟩) (Or.inr ⟨3, rfl, d_L_about_12, rfl⟩) (by decide) d_L_about_13 (by decide) d_L_about_14 (fun w9 hl9 hp9 => ⟨rfl, w9 ++ sS D rr dp wk sm, f, (List.append_assoc _ _ _).symm, ⟨w9, D, rr, dp, wk, sm, rfl, hp9.symm ▸ hds, hI⟩, hf⟩)
set_option maxRecDepth 100000 in
set_option maxHeartbeats 4000000 in
theorem mh_count (Q : Nat) (c : Nat → Nat) (v b v2 b2 : Nat) (i : Nat) (x z : Int32) (o : Int) (w : List va_E) (h0 : HW Q c v b v2 b2 o w) (hi : i < 2 ^ 31) (hz : z < nI (nd b v)) (hnd : nd b v < 2 ^ 30) : MH y_L_count c_L_count 6 hs_L_count (rmT 11) [.ref 0, .int x, .int (nI i), .int z, .ref 28] w (fun r w' => r = some (.int (nI 0)) ∧ HW Q c v b v2 b2 (nI (cnt (dgt b v) x i (z.toInt + 1 - i).toNat)).toInt w') := by
  obtain ⟨w1, f, rfl, ⟨w0, D, rr, dp, wk, sm, rfl, hds, hI⟩, hf⟩ := h0
  refine MH_of (own := R_L) (by decide) rfl (fun _ => Nat.le_of_ble_eq_true rfl) (fun Z h hr hx9 => ?_)
  refine z_aload h d_L_count_0 rfl ?_
  refine z_iconst (v := nI 0) h d_L_count_2 (by decide) ?_
  refine z_aload_n h d_L_count_3 rfl ?_
  refine z_iload_n h d_L_count_4 rfl ?_
  refine z_iload_n h d_L_count_5 rfl ?_
  refine z_iload_n h d_L_count_6 rfl ?_
  rw [List.append_assoc]
  refine z_dI (C := R_D) (ci := 4) idL18 h (ms_D_count v b v2 b2 i x z w0 hds hi hz hnd) (zT (zf_D_count (by decide))) wm_L_59 wi_D_count ws_D_count rfl (DS_recv hds) d_L_count_7 (by decide) (DS_len hds) (Nat.le_of_ble_eq_true rfl) rfl rfl (fun _ _ hp => DS_len hp.2) (fun r_9 w_9 hp_9 => ?_)
  obtain ⟨rfl, hd9⟩ := hp_9
  rw [← List.append_assoc]
  exact help_end h hr (len28 (DS_len hd9)) d_L_count_10 d_L_count_11 d_L_count_12 (tgt := 19) (by decide) d_L_count_19 d_L_count_20 ⟨rfl, w_9 ++ sS D rr dp wk sm, ui f 0 _, rfl, ⟨w_9, D, rr, dp, wk, sm, rfl, hd9, hI⟩, ui_eq⟩
set_option maxRecDepth 100000 in
set_option maxHeartbeats 4000000 in
theorem mk_count1 (Q : Nat) (c : Nat → Nat) (v b v2 b2 : Nat) (x y z : Int32) (o : Int) (w : List va_E) (h0 : HW Q c v b v2 b2 o w) (hx : y < 0 ∨ ¬ z < nI (nd b v)) : MH y_L_count c_L_count 6 hs_L_count (rmT 11) [.ref 0, .int x, .int y, .int z, .ref 28] w (fun r w' => r = some (.int (nI 1)) ∧ HW Q c v b v2 b2 o w') := by
  obtain ⟨w1, f, rfl, ⟨w0, D, rr, dp, wk, sm, rfl, hds, hI⟩, hf⟩ := h0
  refine MH_of (own := R_L) (by decide) rfl (fun _ => Nat.le_of_ble_eq_true rfl) (fun Z h hr hx9 => ?_)
  refine z_aload h d_L_count_0 rfl ?_
  refine z_iconst (v := nI 0) h d_L_count_2 (by decide) ?_
  refine z_aload_n h d_L_count_3 rfl ?_
  refine z_iload_n h d_L_count_4 rfl ?_
  refine z_iload_n h d_L_count_5 rfl ?_
  refine z_iload_n h d_L_count_6 rfl ?_
  rw [List.append_assoc]
  exact z_catchI (r := 0) (v := nI 1) (C := R_D) (ci := 4) idL18 hx9 (mt_D_count v b v2 b2 x y z w0 hds hx) (zTT (zf_D_count (by decide))) wm_L_59 wi_D_count ws_D_count rfl (DS_recv hds) d_L_count_7 (by decide) (DS_len hds) (Nat.le_of_ble_eq_true rfl) rfl rfl (by rw [List.append_assoc]) (hp := 15) (i := 5) (lr := 17) (Or.inl ⟨0, 12, 54, _, rfl, by decide, by decide, wlx_IOE⟩) (Or.inl ⟨d_L_count_15, rfl⟩) (by decide) d_L_count_17 (by decide) d_L_count_18 (fun w9 hl9 hp9 => ⟨rfl, w9 ++ sS D rr dp wk sm, f, (List.append_assoc _ _ _).symm, ⟨w9, D, rr, dp, wk, sm, rfl, hp9, hI⟩, hf⟩)
set_option maxRecDepth 100000 in
set_option maxHeartbeats 4000000 in
theorem mh_find (Q : Nat) (c : Nat → Nat) (v b v2 b2 : Nat) (x n i : Nat) (o : Int) (w : List va_E) (h0 : HW Q c v b v2 b2 o w) (hx : x < b ^ n) (hn : 1 ≤ n ∧ n ≤ 12) (hi : i < 2 ^ 31) (hnd : nd b v < 2 ^ 30) : MH y_L_find c_L_find 7 hs_L_find (rmT 11) [.ref 0, .long (lN x), .int (nI n), .int (nI i), .ref 28] w (fun r w' => r = some (.int (nI 0)) ∧ HW Q c v b v2 b2 (fndI (fnd (fun p => win b v (nd b v) n p = x) i (nd b v + 1 - n - i))).toInt w') := by
  obtain ⟨w1, f, rfl, ⟨w0, D, rr, dp, wk, sm, rfl, hds, hI⟩, hf⟩ := h0
  refine MH_of (own := R_L) (by decide) rfl (fun _ => Nat.le_of_ble_eq_true rfl) (fun Z h hr hx9 => ?_)
  refine z_aload h d_L_find_0 rfl ?_
  refine z_iconst (v := nI 0) h d_L_find_2 (by decide) ?_
  refine z_aload_n h d_L_find_3 rfl ?_
  refine z_lload_n h d_L_find_4 rfl ?_
  refine z_iload_n h d_L_find_5 rfl ?_
  refine z_iload h d_L_find_6 rfl ?_
  rw [List.append_assoc]
  refine z_dI (C := R_D) (ci := 4) idL18 h (ms_D_find v b v2 b2 x n i w0 hds hx hn hi hnd) (zT (zf_D_find (by decide))) wm_L_62 wi_D_find ws_D_find rfl (DS_recv hds) d_L_find_8 (by decide) (DS_len hds) (Nat.le_of_ble_eq_true rfl) rfl rfl (fun _ _ hp => DS_len hp.2) (fun r_9 w_9 hp_9 => ?_)
  obtain ⟨rfl, hd9⟩ := hp_9
  rw [← List.append_assoc]
  exact help_end h hr (len28 (DS_len hd9)) d_L_find_11 d_L_find_12 d_L_find_13 (tgt := 20) (by decide) d_L_find_20 d_L_find_21 ⟨rfl, w_9 ++ sS D rr dp wk sm, ui f 0 _, rfl, ⟨w_9, D, rr, dp, wk, sm, rfl, hd9, hI⟩, ui_eq⟩
set_option maxRecDepth 100000 in
set_option maxHeartbeats 4000000 in
theorem mk_find1 (Q : Nat) (c : Nat → Nat) (v b v2 b2 : Nat) (a : Int64) (x y : Int32) (o : Int) (w : List va_E) (h0 : HW Q c v b v2 b2 o w) (hx : x < 1 ∨ 12 < x ∨ a < 0 ∨ y < 0) : MH y_L_find c_L_find 7 hs_L_find (rmT 11) [.ref 0, .long a, .int x, .int y, .ref 28] w (fun r w' => r = some (.int (nI 1)) ∧ HW Q c v b v2 b2 o w') := by
  obtain ⟨w1, f, rfl, ⟨w0, D, rr, dp, wk, sm, rfl, hds, hI⟩, hf⟩ := h0
  refine MH_of (own := R_L) (by decide) rfl (fun _ => Nat.le_of_ble_eq_true rfl) (fun Z h hr hx9 => ?_)
  refine z_aload h d_L_find_0 rfl ?_
  refine z_iconst (v := nI 0) h d_L_find_2 (by decide) ?_
  refine z_aload_n h d_L_find_3 rfl ?_
  refine z_lload_n h d_L_find_4 rfl ?_
  refine z_iload_n h d_L_find_5 rfl ?_
  refine z_iload h d_L_find_6 rfl ?_
  rw [List.append_assoc]
  exact z_catchI (r := 0) (v := nI 1) (C := R_D) (ci := 4) idL18 hx9 (mt_D_find1 a x y w0 hx) (zTT (zf_D_find (by decide))) wm_L_62 wi_D_find ws_D_find rfl (DS_recv hds) d_L_find_8 (by decide) (DS_len hds) (Nat.le_of_ble_eq_true rfl) rfl rfl (by rw [List.append_assoc]) (hp := 16) (i := 6) (lr := 18) (Or.inl ⟨0, 13, 13, _, rfl, by decide, by decide, wlx_IAE⟩) (Or.inl ⟨d_L_find_16, rfl⟩) (by decide) d_L_find_18 (by decide) d_L_find_19 (fun w9 hl9 hp9 => ⟨rfl, w9 ++ sS D rr dp wk sm, f, (List.append_assoc _ _ _).symm, ⟨w9, D, rr, dp, wk, sm, rfl, hp9.symm ▸ hds, hI⟩, hf⟩)
set_option maxRecDepth 100000 in
set_option maxHeartbeats 4000000 in
theorem mk_find2 (Q : Nat) (c : Nat → Nat) (v b v2 b2 : Nat) (x n i : Nat) (o : Int) (w : List va_E) (h0 : HW Q c v b v2 b2 o w) (hx : b ^ n ≤ x) (hx63 : x < 2 ^ 63) (hn : 1 ≤ n ∧ n ≤ 12) (hi : i < 2 ^ 31) : MH y_L_find c_L_find 7 hs_L_find (rmT 11) [.ref 0, .long (lN x), .int (nI n), .int (nI i), .ref 28] w (fun r w' => r = some (.int (nI 1)) ∧ HW Q c v b v2 b2 o w') := by
  obtain ⟨w1, f, rfl, ⟨w0, D, rr, dp, wk, sm, rfl, hds, hI⟩, hf⟩ := h0
  refine MH_of (own := R_L) (by decide) rfl (fun _ => Nat.le_of_ble_eq_true rfl) (fun Z h hr hx9 => ?_)
  refine z_aload h d_L_find_0 rfl ?_
  refine z_iconst (v := nI 0) h d_L_find_2 (by decide) ?_
  refine z_aload_n h d_L_find_3 rfl ?_
  refine z_lload_n h d_L_find_4 rfl ?_
  refine z_iload_n h d_L_find_5 rfl ?_
  refine z_iload h d_L_find_6 rfl ?_
  rw [List.append_assoc]
  exact z_catchI (r := 0) (v := nI 1) (C := R_D) (ci := 4) idL18 hx9 (mt_D_find2 v b v2 b2 x n i w0 hds hx hx63 hn hi) (zTT (zf_D_find (by decide))) wm_L_62 wi_D_find ws_D_find rfl (DS_recv hds) d_L_find_8 (by decide) (DS_len hds) (Nat.le_of_ble_eq_true rfl) rfl rfl (by rw [List.append_assoc]) (hp := 16) (i := 6) (lr := 18) (Or.inl ⟨0, 13, 13, _, rfl, by decide, by decide, wlx_IAE⟩) (Or.inl ⟨d_L_find_16, rfl⟩) (by decide) d_L_find_18 (by decide) d_L_find_19 (fun w9 hl9 hp9 => ⟨rfl, w9 ++ sS D rr dp wk sm, f, (List.append_assoc _ _ _).symm, ⟨w9, D, rr, dp, wk, sm, rfl, hp9, hI⟩, hf⟩)
set_option maxRecDepth 100000 in
set_option maxHeartbeats 4000000 in
theorem mk_mill1 (Q : Nat) (c : Nat → Nat) (v b v2 b2 : Nat) (a x y : Int32) (o : Int) (w : List va_E) (h0 : HW Q c v b v2 b2 o w) (hx : a < 0 ∨ ¬ a < 5 ∨ ¬ (okN x ∧ okB y)) : MH y_L_mill c_L_mill 6 hs_L_mill (rmT 11) [.ref 0, .int a, .int x, .int y, .ref 28] w (fun r w' => r = some (.int (nI 1)) ∧ HW Q c v b v2 b2 o w') := by
  obtain ⟨w1, f, rfl, ⟨w0, D, rr, dp, wk, sm, rfl, hds, hI⟩, hf⟩ := h0
  refine MH_of (own := R_L) (by decide) rfl (fun _ => Nat.le_of_ble_eq_true rfl) (fun Z h hr hx9 => ?_)
  refine z_aload h d_L_mill_0 rfl ?_
  refine z_iconst (v := nI 0) h d_L_mill_2 (by decide) ?_
  refine z_aload_n h d_L_mill_3 rfl ?_
  refine z_iload_n h d_L_mill_4 rfl ?_
  refine z_iload_n h d_L_mill_5 rfl ?_
  refine z_iload_n h d_L_mill_6 rfl ?_
  rw [List.append_assoc]
  exact z_catchI (r := 0) (v := nI 1) (C := R_D) (ci := 4) idL18 hx9 (mt_D_mill1 a x y w0 hx) (zTT (zf_D_mill (by decide))) wm_L_7 wi_D_mill ws_D_mill rfl (DS_recv hds) d_L_mill_7 (by decide) (DS_len hds) (Nat.le_of_ble_eq_true rfl) rfl rfl (by rw [List.append_assoc]) (hp := 15) (i := 5) (lr := 17) (Or.inl ⟨0, 12, 13, _, rfl, by decide, by decide, wlx_IAE⟩) (Or.inl ⟨d_L_mill_15, rfl⟩) (by decide) d_L_mill_17 (by decide) d_L_mill_18 (fun w9 hl9 hp9 => ⟨rfl, w9 ++ sS D rr dp wk sm, f, (List.append_assoc _ _ _).symm, ⟨w9, D, rr, dp, wk, sm, rfl, hp9.symm ▸ hds, hI⟩, hf⟩)
set_option maxRecDepth 100000 in
set_option maxHeartbeats 4000000 in
theorem mk_mill2 (Q : Nat) (c : Nat → Nat) (v b v2 b2 : Nat) (wh n b' : Nat) (o : Int) (w : List va_E) (h0 : HW Q c v b v2 b2 o w) (hw : wh < 5) (hn : n ≤ 6000) (hb : 2 ≤ b' ∧ b' < 37) (hnb : ¬ n * bl (b' - 1) ≤ 20000) : MH y_L_mill c_L_mill 6 hs_L_mill (rmT 11) [.ref 0, .int (nI wh), .int (nI n), .int (nI b'), .ref 28] w (fun r w' => r = some (.int (nI 2)) ∧ HW Q c v b v2 b2 o w') := by
  obtain ⟨w1, f, rfl, ⟨w0, D, rr, dp, wk, sm, rfl, hds, hI⟩, hf⟩ := h0
  refine MH_of (own := R_L) (by decide) rfl (fun _ => Nat.le_of_ble_eq_true rfl) (fun Z h hr hx9 => ?_)
  refine z_aload h d_L_mill_0 rfl ?_
  refine z_iconst (v := nI 0) h d_L_mill_2 (by decide) ?_
  refine z_aload_n h d_L_mill_3 rfl ?_
  refine z_iload_n h d_L_mill_4 rfl ?_
  refine z_iload_n h d_L_mill_5 rfl ?_
  refine z_iload_n h d_L_mill_6 rfl ?_
  rw [List.append_assoc]
  exact z_catchI (r := 0) (v := nI 2) (C := R_D) (ci := 4) idL18 hx9 (mt_D_mill2 wh n b' w0 hw hn hb hnb) (zTT (zf_D_mill (by decide))) wm_L_7 wi_D_mill ws_D_mill rfl (DS_recv hds) d_L_mill_7 (by decide) (DS_len hds) (Nat.le_of_ble_eq_true rfl) rfl rfl (by rw [List.append_assoc]) (hp := 19) (i := 5) (lr := 21) (Or.inr ⟨0, 12, 15, 13, 0, 12, 15, _, rfl, by decide, by decide, by decide, by decide, rfl, wlx_IAE, wlx_UOE⟩) (Or.inl ⟨d_L_mill_19, rfl⟩) (by decide) d_L_mill_21 (by decide) d_L_mill_22 (fun w9 hl9 hp9 => ⟨rfl, w9 ++ sS D rr dp wk sm, f, (List.append_assoc _ _ _).symm, ⟨w9, D, rr, dp, wk, sm, rfl, hp9.symm ▸ hds, hI⟩, hf⟩)
theorem DW_app {w0 t : List va_E} {D : Nat} {r : Nat → Nat → Nat} {dp : Nat → Nat} {wk sm : Nat → Int} : (w0 ++ sS D r dp wk sm) ++ t = w0 ++ (sS D r dp wk sm ++ t) := List.append_assoc _ _ _
set_option maxRecDepth 100000 in
set_option maxHeartbeats 4000000 in
theorem mh_mill (v b v2 b2 wh n b' : Nat) (o : Int) (w : List va_E) (h0 : HW qM cM v b v2 b2 o w) (hw : wh = 0 ∨ wh = 1 ∨ wh = 3 ∨ wh = 4) (hn : n ≤ 6000) (hb : 2 ≤ b' ∧ b' < 37) (hnb : n * bl (b' - 1) ≤ 20000) : MH y_L_mill c_L_mill 6 hs_L_mill (rmT 11) [.ref 0, .int (nI wh), .int (nI n), .int (nI b'), .ref 28] w (fun r w' => r = some (.int (nI 0)) ∧ HW qM cM (ansM wh b' n) b' v2 b2 (nI (nd b' (ansM wh b' n))).toInt w') := by
  obtain ⟨w1, f, rfl, hdw, hf⟩ := h0
  refine MH_of (own := R_L) (by decide) rfl (fun _ => Nat.le_of_ble_eq_true rfl) (fun Z h hr hx9 => ?_)
  have hMS : MS y_D_mill c_D_mill 4 (some .int) (rm 9) [.ref 0, .int (nI wh), .int (nI n), .int (nI b')] w1 (fun r w' => r = some (.int (nI (nd b' (ansM wh b' n)))) ∧ DW qM cM (ansM wh b' n) b' v2 b2 w') := by
    rcases hw with rfl | rfl | rfl | rfl
    · exact ms_D_mill0 v b v2 b2 n b' _ qM cM _ _ _ _ _ w1 Mst_ok hdw hn hb hnb (con_bl (by decide) hb hnb) (con_cls (by decide) hb hn hnb)
    · exact ms_D_mill1 v b v2 b2 n b' _ qM cM _ _ _ _ _ w1 Mst_ok hdw hn hb hnb (con_bl (by decide) hb hnb) (con_cls (by decide) hb hn hnb)
    · exact ms_D_mill3 v b v2 b2 n b' _ qM cM _ _ _ _ _ w1 Mst_ok hdw hn hb hnb (con_bl (by decide) hb hnb) (con_cls (by decide) hb hn hnb)
    · exact ms_D_mill4 v b v2 b2 n b' _ qM cM _ _ _ _ _ w1 Mst_ok hdw hn hb hnb (con_bl (by decide) hb hnb) (con_cls (by decide) hb hn hnb)
  refine z_aload h d_L_mill_0 rfl ?_
  refine z_iconst (v := nI 0) h d_L_mill_2 (by decide) ?_
  refine z_aload_n h d_L_mill_3 rfl ?_
  refine z_iload_n h d_L_mill_4 rfl ?_
  refine z_iload_n h d_L_mill_5 rfl ?_
  refine z_iload_n h d_L_mill_6 rfl ?_
  refine z_dI (C := R_D) (ci := 4) idL28 h hMS (zT (zf_D_mill (by decide))) wm_L_7 wi_D_mill ws_D_mill rfl (DW_recv hdw) d_L_mill_7 (by decide) (DW_len hdw) (Nat.le_of_ble_eq_true rfl) rfl rfl (fun _ _ hp => DW_len hp.2) (fun r_9 w_9 hp_9 => ?_)
  obtain ⟨rfl, hd9⟩ := hp_9
  exact help_end h hr (DW_len hd9) d_L_mill_10 d_L_mill_11 d_L_mill_12 (tgt := 23) (by decide) d_L_mill_23 d_L_mill_24 ⟨rfl, w_9, ui f 0 _, rfl, hd9, ui_eq⟩
set_option maxRecDepth 100000 in
set_option maxHeartbeats 4000000 in
theorem mh_golden (Q : Nat) (c : Nat → Nat) (v b v2 b2 n b' : Nat) (o : Int) (w : List va_E) (h0 : HW Q c v b v2 b2 o w) (hn : n ≤ 6000) (hb : 2 ≤ b' ∧ b' < 37) (hnb : n * bl (b' - 1) ≤ 20000) : MH y_L_mill c_L_mill 6 hs_L_mill (rmT 11) [.ref 0, .int (nI 2), .int (nI n), .int (nI b'), .ref 28] w (fun r w' => ∃ x, IsR (5 * b' ^ (2 * n)) x ∧ r = some (.int (nI 0)) ∧ HW Q c ((x + b' ^ n) / 2) b' v2 b2 (nI (nd b' ((x + b' ^ n) / 2))).toInt w') := by
  obtain ⟨w1, f, rfl, hdw, hf⟩ := h0
  refine MH_of (own := R_L) (by decide) rfl (fun _ => Nat.le_of_ble_eq_true rfl) (fun Z h hr hx9 => ?_)
  refine z_aload h d_L_mill_0 rfl ?_
  refine z_iconst (v := nI 0) h d_L_mill_2 (by decide) ?_
  refine z_aload_n h d_L_mill_3 rfl ?_
  refine z_iload_n h d_L_mill_4 rfl ?_
  refine z_iload_n h d_L_mill_5 rfl ?_
  refine z_iload_n h d_L_mill_6 rfl ?_
  refine z_dI (C := R_D) (ci := 4) idL28 h (ms_D_mill2 v b v2 b2 n b' Q c w1 hdw hn hb hnb) (zT (zf_D_mill (by decide))) wm_L_7 wi_D_mill ws_D_mill rfl (DW_recv hdw) d_L_mill_7 (by decide) (DW_len hdw) (Nat.le_of_ble_eq_true rfl) rfl rfl (fun _ _ hp => by obtain ⟨_, _, _, hp⟩ := hp; exact DW_len hp) (fun r_9 w_9 hp_9 => ?_)
  obtain ⟨x, hx, rfl, hd9⟩ := hp_9
  exact help_end h hr (DW_len hd9) d_L_mill_10 d_L_mill_11 d_L_mill_12 (tgt := 23) (by decide) d_L_mill_23 d_L_mill_24 ⟨x, hx, rfl, w_9, ui f 0 _, rfl, hd9, ui_eq⟩
