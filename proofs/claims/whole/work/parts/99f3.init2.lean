/-! constructors of a text and of DigitMill -/
set_option maxRecDepth 100000 in
set_option maxHeartbeats 4000000 in
theorem mi_T : MI y_T_init c_T_init 1 (rmA 3 4 1793) [.ref 0] [.inr (2, [.null, .int 0, .null, .int 0, .int 0, .null, .int 0, .int 0])] (fun r w' => r = none ∧ (∃ pw : Nat → Nat, w' = tW 10 1 (dpg 10) 1 1 0 (fun _ => 0) (fun _ => 0) pw ∧ (∀ j, pw j < 2 ^ 31) ∧ ∀ j, j ≤ dpg 10 → pw j = 10 ^ j) ∧ wfW w'.length w' ∧ ∀ v, r = some v → wfV w'.length v) := by
  refine MI_of (own := R_T) (by decide) rfl rfl (fun _ => Nat.le_of_ble_eq_true rfl) (fun Z h hr hI => ?_)
  refine z_aload_n h d_T_init_0 rfl ?_
  refine z_objInit h d_T_init_1 wm_T_3 wi_obj wc_obj (by decide) (Nat.le_of_ble_eq_true rfl) ?_
  refine z_aload_n h d_T_init_4 rfl ?_
  refine z_new (C := R_H) (T := F_H) (N := 2) (ci := 3) (ty0 := ft_H) (fs := [.null, .int 0]) h d_T_init_5 in_H ft_H_ok wk_T_9 wni_H wn_H rfl (by decide +kernel) (fun v hv a q => by subst q; simp at hv) (by decide) (by decide) (wfW_b rfl) (wfL_b rfl) (wfS_b rfl) ?_
  refine z_dup h d_T_init_8 rfl ?_
  refine z_sipush (v := nI 800) h d_T_init_9 (by decide) ?_
  show Z 1 2 [.inr (2, [.null, .int 0, .null, .int 0, .int 0, .null, .int 0, .int 0]), .inr (3, [.null, .int 0])] _ _ [.int (nI 800), .ref 1, .ref 1, .ref 0]
  refine z_cI hI.y (mi_H 800 (by decide)) (zf_H_init (by decide)) rfl wm_T_11 wi_H_init d_T_init_12 (by decide) [1] (by decide) rfl (Nat.le_of_ble_eq_true rfl) rfl (fun _ _ hp => hp.2.2) (wfW_b rfl) (wfL_b rfl) (wfS_b rfl) (fun r_12 w_12 hp_12 hl_12 => ?_)
  obtain ⟨rfl, rfl, -, -⟩ := hp_12
  show Z 2 802 [.inr (2, [.null, .int 0, .null, .int 0, .int 0, .null, .int 0, .int 0]), wh 2 0, ar 800 (fun _ => 0)] _ _ [.ref 1, .ref 0]
  refine z_putF (C := R_T) (T := F_T) (N := 8) (ty := (.object "DigitMill$Whole")) hI 0 d_T_init_15 in_T rfl ft_T_ok n_T (by decide) wf_T_14 rfl rfl rfl rfl rfl rfl (Nat.le_of_ble_eq_true rfl) ?_
  refine z_aload_n h d_T_init_18 rfl ?_
  refine z_bipush (v := nI 10) h d_T_init_19 (by decide) ?_
  refine z_put (C := R_T) (T := F_T) (N := 8) (ty := .int) h 1 d_T_init_21 in_T rfl ft_T_ok n_T (by decide) wf_T_20 rfl rfl rfl rfl rfl (Nat.le_of_ble_eq_true rfl) ?_
  refine z_aload_n h d_T_init_24 rfl ?_
  refine z_sipush (v := nI 960) h d_T_init_25 (by decide) ?_
  refine z_newI h d_T_init_28 wa_int (by decide) (by decide) (by decide) (wfW_b rfl) (wfL_b rfl) (wfS_b rfl) ?_
  show Z 3 1762 [.inr (2, [.ref 1, .int (nI 10), .null, .int 0, .int 0, .null, .int 0, .int 0]), wh 2 0, ar 800 (fun _ => 0), ar 960 (fun _ => 0)] _ _ [.ref 3, .ref 0]
  refine z_putF (C := R_T) (T := F_T) (N := 8) (ty := (.array .int)) hI 2 d_T_init_30 in_T rfl ft_T_ok n_T (by decide) wf_T_24 rfl rfl rfl rfl rfl rfl (Nat.le_of_ble_eq_true rfl) ?_
  refine z_aload_n h d_T_init_33 rfl ?_
  refine z_bipush (v := nI 31) h d_T_init_34 (by decide) ?_
  refine z_newI h d_T_init_36 wa_int (by decide) (by decide) (by decide) (wfW_b rfl) (wfL_b rfl) (wfS_b rfl) ?_
  show Z 4 1793 [.inr (2, [.ref 1, .int (nI 10), .ref 3, .int 0, .int 0, .null, .int 0, .int 0]), wh 2 0, ar 800 (fun _ => 0), ar 960 (fun _ => 0), ar 31 (fun _ => 0)] _ _ [.ref 4, .ref 0]
  refine z_putF (C := R_T) (T := F_T) (N := 8) (ty := (.array .int)) hI 5 d_T_init_38 in_T rfl ft_T_ok n_T (by decide) wf_T_28 rfl rfl rfl rfl rfl rfl (Nat.le_of_ble_eq_true rfl) ?_
  show Z 4 1793 (tW 10 0 0 0 0 0 (fun _ => 0) (fun _ => 0) (fun _ => 0)) _ _ []
  refine z_aload_n h d_T_init_41 rfl ?_
  refine z_callV (C := R_T) (ci := 2) h (ms_T_setPowers 10 0 0 0 0 0 (fun _ => 0) (fun _ => 0) (fun _ => 0) (by decide) (fun _ => by decide)) (zf_T_setPowers (by decide)) wm_T_31 wi_T_setPowers ws_T_setPowers rfl ⟨_, rfl⟩ d_T_init_42 (by decide) [0, 1, 2, 3, 4] (by decide) rfl (Nat.le_of_ble_eq_true rfl) rfl (fun _ _ hp => by obtain ⟨_, -, rfl, -⟩ := hp; rfl) (fun r_42 w_42 hp_42 => ?_)
  obtain ⟨pw, rfl, rfl, hpw⟩ := hp_42
  show Z 4 1793 (tW 10 0 (dpg 10) 0 0 0 (fun _ => 0) (fun _ => 0) pw) _ _ []
  refine z_aload_n h d_T_init_45 rfl ?_
  refine z_iconst (v := nI 1) h d_T_init_46 (by decide) ?_
  refine z_put (C := R_T) (T := F_T) (N := 8) (ty := .int) h 3 d_T_init_47 in_T rfl ft_T_ok n_T (by decide) wf_T_34 rfl rfl rfl rfl rfl (Nat.le_of_ble_eq_true rfl) ?_
  refine z_aload_n h d_T_init_50 rfl ?_
  refine z_iconst (v := nI 1) h d_T_init_51 (by decide) ?_
  refine z_put (C := R_T) (T := F_T) (N := 8) (ty := .int) h 6 d_T_init_52 in_T rfl ft_T_ok n_T (by decide) wf_T_37 rfl rfl rfl rfl rfl (Nat.le_of_ble_eq_true rfl) ?_
  refine z_aload_n h d_T_init_55 rfl ?_
  refine z_iconst (v := nI 1) h d_T_init_56 (by decide) ?_
  refine z_put (C := R_T) (T := F_T) (N := 8) (ty := .boolean) h 7 d_T_init_57 in_T rfl ft_T_ok n_T (by decide) wf_T_40 rfl rfl (by decide) (by decide) rfl (Nat.le_of_ble_eq_true rfl) ?_
  refine hr.2.2.2.1 _ _ _ _ _ (Nat.le_refl _) (Nat.le_refl _) rfl d_T_init_60 ?_
  exact ⟨rfl, ⟨pw, rfl, hpw⟩, wfW_b rfl, fun v q => by cases q⟩
