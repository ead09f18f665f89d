/-! constructors of a text and of DigitMill -/
set_option maxRecDepth 100000 in
set_option maxHeartbeats 4000000 in
theorem mi_T : MI y_T_init c_T_init 1 (rmA 3 4 1793) [.ref 0] [.inr (2, [.null, .int 0, .null, .int 0, .int 0, .null, .int 0, .int 0])] (fun r w' => r = none ∧ (∃ pw : Nat → Nat, w' = tW 10 1 (dpg 10) 1 1 0 (fun _ => 0) (fun _ => 0) pw ∧ (∀ j, pw j < 2 ^ 31) ∧ ∀ j, j ≤ dpg 10 → pw j = 10 ^ j) ∧ wfW w'.length w' ∧ ∀ v, r = some v → wfV w'.length v) := by
  refine MI_of (own := R_T) (by decide) rfl rfl (fun _ => Nat.le_of_ble_eq_true rfl) (fun Z h hr hI => ?_)
  refine z_aload_n h d_T_init_0 rfl ?_
  refine z_objInit h d_T_init_1 wm_T_3 wi_obj wc_obj (by decide) (Nat.le_of_ble_eq_true rfl) ?_
  refine z_aload_n h d_T_init_4 rfl ?_
  refine z_new (C := R_H) (T := F_H) (N := 2) (ci := 3) (ty0 := ft_H) (fs := [.null, .int 0]) h d_T_init_5 in_H ft_H_ok wk_T_9 wni_H wn_H rfl (by decide +kernel) (fun v hv a q => by subst q; simp at hv) (by decide) (by decide) (wfW_b rfl) (wfL_b rfl) (wfS_b rfl) ?_
  refine z_dup h d_T_init_8 rfl ?_
  refine z_sipush (v := nI 800) h d_T_init_9 (by decide) ?_
  show Z 1 2 [.inr (2, [.null, .int 0, .null, .int 0, .int 0, .null, .int 0, .int 0]), .inr (3, [.null, .int 0])] _ _ [.int (nI 800), .ref 1, .ref 1, .ref 0]
  refine z_cI hI.y (mi_H 800 (by decide)) (zf_H_init (by decide)) rfl wm_T_11 wi_H_init d_T_init_12 (by decide) [1] (by decide) rfl (Nat.le_of_ble_eq_true rfl) rfl (fun _ _ hp => hp.2.2) (wfW_b rfl) (wfL_b rfl) (wfS_b rfl) (fun r_12 w_12 hp_12 hl_12 => ?_)
  obtain ⟨rfl, rfl, -, -⟩ := hp_12
  show Z 2 802 [.inr (2, [.null, .int 0, .null, .int 0, .int 0, .null, .int 0, .int 0]), wh 2 0, ar 800 (fun _ => 0)] _ _ [.ref 1, .ref 0]
  refine z_putF (C := R_T) (T := F_T) (N := 8) (ty := (.object "DigitMill$Whole")) hI 0 d_T_init_15 in_T rfl ft_T_ok n_T (by decide) wf_T_14 rfl rfl rfl rfl rfl rfl (Nat.le_of_ble_eq_true rfl) ?_
  refine z_aload_n h d_T_init_18 rfl ?_
  refine z_bipush (v := nI 10) h d_T_init_19 (by decide) ?_
  refine z_put (C := R_T) (T := F_T) (N := 8) (ty := .int) h 1 d_T_init_21 in_T rfl ft_T_ok n_T (by decide) wf_T_20 rfl rfl rfl rfl rfl (Nat.le_of_ble_eq_true rfl) ?_
  refine z_aload_n h d_T_init_24 rfl ?_
  refine z_sipush (v := nI 960) h d_T_init_25 (by decide) ?_
  refine z_newI h d_T_init_28 wa_int (by decide) (by decide) (by decide) (wfW_b rfl) (wfL_b rfl) (wfS_b rfl) ?_
  show Z 3 1762 [.inr (2, [.ref 1, .int (nI 10), .null, .int 0, .int 0, .null, .int 0, .int 0]), wh 2 0, ar 800 (fun _ => 0), ar 960 (fun _ => 0)] _ _ [.ref 3, .ref 0]
  refine z_putF (C := R_T) (T := F_T) (N := 8) (ty := (.array .int)) hI 2 d_T_init_30 in_T rfl ft_T_ok n_T (by decide) wf_T_24 rfl rfl rfl rfl rfl rfl (Nat.le_of_ble_eq_true rfl) ?_
  refine z_aload_n h d_T_init_33 rfl ?_
  refine z_bipush (v := nI 31) h d_T_init_34 (by decide) ?_
  refine z_newI h d_T_init_36 wa_int (by decide) (by decide) (by decide) (wfW_b rfl) (wfL_b rfl) (wfS_b rfl) ?_
  show Z 4 1793 [.inr (2, [.ref 1, .int (nI 10), .ref 3, .int 0, .int 0, .null, .int 0, .int 0]), wh 2 0, ar 800 (fun _ => 0), ar 960 (fun _ => 0), ar 31 (fun _ => 0)] _ _ [.ref 4, .ref 0]
  refine z_putF (C := R_T) (T := F_T) (N := 8) (ty := (.array .int)) hI 5 d_T_init_38 in_T rfl ft_T_ok n_T (by decide) wf_T_28 rfl rfl rfl rfl rfl rfl (Nat.le_of_ble_eq_true rfl) ?_
  show Z 4 1793 (tW 10 0 0 0 0 0 (fun _ => 0) (fun _ => 0) (fun _ => 0)) _ _ []
  refine z_aload_n h d_T_init_41 rfl ?_
  refine z_callV (C := R_T) (ci := 2) h (ms_T_setPowers 10 0 0 0 0 0 (fun _ => 0) (fun _ => 0) (fun _ => 0) (by decide) (fun _ => by decide)) (zf_T_setPowers (by decide)) wm_T_31 wi_T_setPowers ws_T_setPowers rfl ⟨_, rfl⟩ d_T_init_42 (by decide) [0, 1, 2, 3, 4] (by decide) rfl (Nat.le_of_ble_eq_true rfl) rfl (fun _ _ hp => by obtain ⟨_, -, rfl, -⟩ := hp; rfl) (fun r_42 w_42 hp_42 => ?_)
  obtain ⟨pw, rfl, rfl, hpw⟩ := hp_42
  show Z 4 1793 (tW 10 0 (dpg 10) 0 0 0 (fun _ => 0) (fun _ => 0) pw) _ _ []
  refine z_aload_n h d_T_init_45 rfl ?_
  refine z_iconst (v := nI 1) h d_T_init_46 (by decide) ?_
  refine z_put (C := R_T) (T := F_T) (N := 8) (ty := .int) h 3 d_T_init_47 in_T rfl ft_T_ok n_T (by decide) wf_T_34 rfl rfl rfl rfl rfl (Nat.le_of_ble_eq_true rfl) ?_
  refine z_aload_n h d_T_init_50 rfl ?_
  refine z_iconst (v := nI 1) h d_T_init_51 (by decide) ?_
  refine z_put (C := R_T) (T := F_T) (N := 8) (ty := .int) h 6 d_T_init_52 in_T rfl ft_T_ok n_T (by decide) wf_T_37 rfl rfl rfl rfl rfl (Nat.le_of_ble_eq_true rfl) ?_
  refine z_aload_n h d_T_init_55 rfl ?_
  refine z_iconst (v := nI 1) h d_T_init_56 (by decide) ?_
  refine z_put (C := R_T) (T := F_T) (N := 8) (ty := .boolean) h 7 d_T_init_57 in_T rfl ft_T_ok n_T (by decide) wf_T_40 rfl rfl (by decide) (by decide) rfl (Nat.le_of_ble_eq_true rfl) ?_
  refine hr.2.2.2.1 _ _ _ _ _ (Nat.le_refl _) (Nat.le_refl _) rfl d_T_init_60 ?_
  exact ⟨rfl, ⟨pw, rfl, hpw⟩, wfW_b rfl, fun v q => by cases q⟩
theorem rowsD : (fun j => (rowsAt 1 j).map (zfx [18] 19)) = fun j => (rowsF j).map (zfn isR) := funext fun j => by
  unfold rowsF
  show ((if j < 5 then some (1 + 1 + j) else none : Option Nat)).map _ = _
  by_cases h : j < 5
  · rw [if_pos h, if_pos h]
    rcases (show j = 0 ∨ j = 1 ∨ j = 2 ∨ j = 3 ∨ j = 4 by omega) with rfl | rfl | rfl | rfl | rfl <;> rfl
  · rw [if_neg h, if_neg h]
    rfl
theorem wf_mid {n : Nat} {a b : List va_E} {f : Nat → Option Nat} (ha : a.all (wbE n) = true) (hb : b.all (wbE n) = true) (hf : ∀ j q, f j = some q → q < n) : wfW n (a ++ .inl (2, 5, .inr (.inr (.inr (.inr f)))) :: b) := by
  intro e he
  rcases List.mem_append.mp he with he | he
  · exact wfW_b ha e he
  · rcases List.mem_cons.mp he with rfl | he
    · exact hf
    · exact wfW_b hb e he
theorem rows28 : ∀ j q, (rowsF j).map (zfn isR) = some q → q < 28 := by
  intro j q hj
  unfold rowsF at hj
  by_cases h : j < 5
  · rw [if_pos h] at hj
    rcases (show j = 0 ∨ j = 1 ∨ j = 2 ∨ j = 3 ∨ j = 4 by omega) with rfl | rfl | rfl | rfl | rfl <;> (cases hj; decide)
  · rw [if_neg h] at hj
    cases hj
theorem nd10 : nd 10 0 = 1 := by decide
theorem TI_new {pw : Nat → Nat} (h1 : ∀ j, pw j < 2 ^ 31) (h2 : ∀ j, j ≤ dpg 10 → pw j = 10 ^ j) : TI 10 0 0 (fun _ => 0) 1 (dpg 10) 1 1 (fun _ => 0) pw := by
  refine ⟨⟨by decide, fun _ => Nat.le_of_ble_eq_true rfl, rfl, Or.inl rfl⟩, by decide, by decide, fun _ => Nat.le_of_ble_eq_true rfl, h1, by decide, by decide, by decide, fun _ => ⟨rfl, h2, by decide, fun _ _ => Nat.pow_pos (by decide), rfl, Or.inl rfl, nd10.symm⟩⟩
set_option maxRecDepth 100000 in
set_option maxHeartbeats 4000000 in
theorem mi_D (Q : Nat) (c : Nat → Nat) : MI y_D_init c_D_init 1 (rmA 4 27 12761) [.ref 0] [.inr (4, [.null, .null, .null, .null])] (fun r w' => r = none ∧ DW Q c 0 10 0 10 w' ∧ wfW w'.length w' ∧ ∀ v, r = some v → wfV w'.length v) := by
  refine MI_of (own := R_D) (by decide) rfl rfl (fun _ => Nat.le_of_ble_eq_true rfl) (fun Z h hr hI => ?_)
  refine z_aload_n h d_D_init_0 rfl ?_
  refine z_objInit h d_D_init_1 wm_D_3 wi_obj wc_obj (by decide) (Nat.le_of_ble_eq_true rfl) ?_
  refine z_aload_n h d_D_init_4 rfl ?_
  refine z_new (C := R_T) (T := F_T) (N := 8) (ci := 2) (ty0 := ft_T) (fs := [.null, .int 0, .null, .int 0, .int 0, .null, .int 0, .int 0]) h d_D_init_5 in_T ft_T_ok wk_D_9 wni_T wn_T rfl (by decide +kernel) (fun v hv a q => by subst q; simp at hv) (by decide) (by decide) (wfW_b rfl) (wfL_b rfl) (wfS_b rfl) ?_
  refine z_dup h d_D_init_8 rfl ?_
  show Z 1 8 [.inr (4, [.null, .null, .null, .null]), .inr (2, [.null, .int 0, .null, .int 0, .int 0, .null, .int 0, .int 0])] _ _ [.ref 1, .ref 1, .ref 0]
  refine z_cI hI.y (mi_T) (zf_T_init (by decide)) rfl wm_D_11 wi_T_init d_D_init_9 (by decide) [1] (by decide) rfl (Nat.le_of_ble_eq_true rfl) rfl (fun _ _ hp => hp.2.2) (wfW_b rfl) (wfL_b rfl) (wfS_b rfl) (fun r_9 w_9 hp_9 hl_9 => ?_)
  obtain ⟨rfl, ⟨pw, rfl, p1, p2⟩, -, -⟩ := hp_9
  show Z 5 1801 [.inr (4, [.null, .null, .null, .null]), tx 2 10 4 1 (dpg 10) 5 1 1, wh 3 0, ar 800 (fun _ => 0), ar 960 (fun _ => 0), ar 31 pw] _ _ [.ref 1, .ref 0]
  refine z_put (C := R_D) (T := F_D) (N := 4) (ty := (.object "DigitMill$Text")) h 0 d_D_init_12 in_D rfl ft_D_ok n_D (by decide) wf_D_12 rfl rfl rfl rfl rfl (Nat.le_of_ble_eq_true rfl) ?_
  refine z_aload_n h d_D_init_15 rfl ?_
  refine z_new (C := R_T) (T := F_T) (N := 8) (ci := 2) (ty0 := ft_T) (fs := [.null, .int 0, .null, .int 0, .int 0, .null, .int 0, .int 0]) h d_D_init_16 in_T ft_T_ok wk_D_9 wni_T wn_T rfl (by decide +kernel) (fun v hv a q => by subst q; simp at hv) (by decide) (by decide) (wfW_b rfl) (wfL_b rfl) (wfS_b rfl) ?_
  refine z_dup h d_D_init_19 rfl ?_
  show Z 6 1809 [.inr (4, [.ref 1, .null, .null, .null]), tx 2 10 4 1 (dpg 10) 5 1 1, wh 3 0, ar 800 (fun _ => 0), ar 960 (fun _ => 0), ar 31 pw, .inr (2, [.null, .int 0, .null, .int 0, .int 0, .null, .int 0, .int 0])] _ _ [.ref 6, .ref 6, .ref 0]
  refine z_cI hI.y (mi_T) (zf_T_init (by decide)) rfl wm_D_11 wi_T_init d_D_init_20 (by decide) [6] (by decide) rfl (Nat.le_of_ble_eq_true rfl) rfl (fun _ _ hp => hp.2.2) (wfW_b rfl) (wfL_b rfl) (wfS_b rfl) (fun r_20 w_20 hp_20 hl_20 => ?_)
  obtain ⟨rfl, ⟨pw2, rfl, p3, p4⟩, -, -⟩ := hp_20
  show Z 10 3602 [.inr (4, [.ref 1, .null, .null, .null]), tx 2 10 4 1 (dpg 10) 5 1 1, wh 3 0, ar 800 (fun _ => 0), ar 960 (fun _ => 0), ar 31 pw, tx 7 10 9 1 (dpg 10) 10 1 1, wh 8 0, ar 800 (fun _ => 0), ar 960 (fun _ => 0), ar 31 pw2] _ _ [.ref 6, .ref 0]
  refine z_put (C := R_D) (T := F_D) (N := 4) (ty := (.object "DigitMill$Text")) h 1 d_D_init_23 in_D rfl ft_D_ok n_D (by decide) wf_D_16 rfl rfl rfl rfl rfl (Nat.le_of_ble_eq_true rfl) ?_
  refine z_aload_n h d_D_init_26 rfl ?_
  refine z_new (C := R_B) (T := F_B) (N := 3) (ci := 0) (ty0 := ft_B) (fs := [.null, .null, .null]) h d_D_init_27 in_B ft_B_ok wk_D_19 wni_B wn_B rfl (by decide +kernel) (fun v hv a q => by subst q; simp at hv) (by decide) (by decide) (wfW_b rfl) (wfL_b rfl) (wfS_b rfl) ?_
  refine z_dup h d_D_init_30 rfl ?_
  show Z 11 3605 [.inr (4, [.ref 1, .ref 6, .null, .null]), tx 2 10 4 1 (dpg 10) 5 1 1, wh 3 0, ar 800 (fun _ => 0), ar 960 (fun _ => 0), ar 31 pw, tx 7 10 9 1 (dpg 10) 10 1 1, wh 8 0, ar 800 (fun _ => 0), ar 960 (fun _ => 0), ar 31 pw2, .inr (0, [.null, .null, .null])] _ _ [.ref 11, .ref 11, .ref 0]
  refine z_cIN hI.y (mi_B) (zf_B_init (by decide)) rfl wm_D_21 wi_B_init d_D_init_31 (by decide) [11] (by decide) rfl (Nat.le_of_ble_eq_true rfl) rfl (fun _ _ hp => hp.2.2) (wfW_b rfl) (wfL_b rfl) (wfS_b rfl) (fun r_31 w_31 hp_31 hl_31 => ?_)
  obtain ⟨rfl, rfl, -, -⟩ := hp_31
  show Z 17 7811 [.inr (4, [.ref 1, .ref 6, .null, .null]), tx 2 10 4 1 (dpg 10) 5 1 1, wh 3 0, ar 800 (fun _ => 0), ar 960 (fun _ => 0), ar 31 pw, tx 7 10 9 1 (dpg 10) 10 1 1, wh 8 0, ar 800 (fun _ => 0), ar 960 (fun _ => 0), ar 31 pw2, .inr (0, [.ref 12, .ref 14, .ref 16]), wh 13 0, ar 1400 (fun _ => 0), wh 15 0, ar 1400 (fun _ => 0), wh 17 0, ar 1400 (fun _ => 0)] _ _ [.ref 11, .ref 0]
  refine z_putF (C := R_D) (T := F_D) (N := 4) (ty := (.object "DigitMill$Bench")) hI 2 d_D_init_34 in_D rfl ft_D_ok n_D (by decide) wf_D_22 rfl rfl rfl rfl rfl rfl (Nat.le_of_ble_eq_true rfl) ?_
  refine z_aload_n h d_D_init_37 rfl ?_
  refine z_new (C := R_S) (T := F_S) (N := 5) (ci := 1) (ty0 := ft_S) (fs := [.null, .null, .null, .null, .int 0]) h d_D_init_38 in_S ft_S_ok wk_D_26 wni_S wn_S rfl (by decide +kernel) (fun v hv a q => by subst q; simp at hv) (by decide) (by decide) (wfW_b rfl) (wfL_b rfl) (wfS_b rfl) ?_
  refine z_dup h d_D_init_41 rfl ?_
  show Z 18 7816 [.inr (4, [.ref 1, .ref 6, .ref 11, .null]), tx 2 10 4 1 (dpg 10) 5 1 1, wh 3 0, ar 800 (fun _ => 0), ar 960 (fun _ => 0), ar 31 pw, tx 7 10 9 1 (dpg 10) 10 1 1, wh 8 0, ar 800 (fun _ => 0), ar 960 (fun _ => 0), ar 31 pw2, .inr (0, [.ref 12, .ref 14, .ref 16]), wh 13 0, ar 1400 (fun _ => 0), wh 15 0, ar 1400 (fun _ => 0), wh 17 0, ar 1400 (fun _ => 0), .inr (1, [.null, .null, .null, .null, .int 0])] _ _ [.ref 18, .ref 18, .ref 0]
  refine z_cIN hI.y (mi_S) (zf_S_init (by decide)) rfl wm_D_28 wi_S_init d_D_init_42 (by decide) [18] (by decide) rfl (Nat.le_of_ble_eq_true rfl) rfl (fun _ _ hp => hp.2.2) (wfW_b rfl) (wfL_b rfl) (wfS_b rfl) (fun r_42 w_42 hp_42 hl_42 => ?_)
  obtain ⟨rfl, rfl, -, -⟩ := hp_42
  show Z 27 12761 [.inr (4, [.ref 1, .ref 6, .ref 11, .null]), tx 2 10 4 1 (dpg 10) 5 1 1, wh 3 0, ar 800 (fun _ => 0), ar 960 (fun _ => 0), ar 31 pw, tx 7 10 9 1 (dpg 10) 10 1 1, wh 8 0, ar 800 (fun _ => 0), ar 960 (fun _ => 0), ar 31 pw2, .inr (0, [.ref 12, .ref 14, .ref 16]), wh 13 0, ar 1400 (fun _ => 0), wh 15 0, ar 1400 (fun _ => 0), wh 17 0, ar 1400 (fun _ => 0), .inr (1, [.ref 19, .ref 25, .ref 26, .ref 27, .int 0]), .inl (2, 5, .inr (.inr (.inr (.inr (fun j => (rowsAt 1 j).map (zfx [18] 19)))))), ar 705 (fun _ => 0), ar 705 (fun _ => 0), ar 705 (fun _ => 0), ar 705 (fun _ => 0), ar 705 (fun _ => 0), ar 5 (fun _ => 0), al 705 (fun _ => 0), al 705 (fun _ => 0)] _ _ [.ref 18, .ref 0]
  rw [rowsD]
  refine z_putF (C := R_D) (T := F_D) (N := 4) (ty := (.object "DigitMill$Series")) hI 3 d_D_init_45 in_D rfl ft_D_ok n_D (by decide) wf_D_29 rfl rfl rfl rfl rfl rfl (Nat.le_of_ble_eq_true rfl) ?_
  refine hr.2.2.2.1 _ _ _ _ _ (Nat.le_refl _) (Nat.le_refl _) rfl d_D_init_48 ?_
  refine ⟨rfl, ⟨dW 10 1 (dpg 10) 1 1 0 (fun _ => 0) (fun _ => 0) pw 10 1 (dpg 10) 1 1 0 (fun _ => 0) (fun _ => 0) pw2 0 0 0 (fun _ => 0) (fun _ => 0) (fun _ => 0) [], 0, fun _ _ => 0, fun _ => 0, fun _ => 0, fun _ => 0, rfl, ?_, ?_⟩, ?_, fun v q => by cases q⟩
  · exact ⟨1, dpg 10, 1, 1, 0, fun _ => 0, fun _ => 0, pw, 1, dpg 10, 1, 1, 0, fun _ => 0, fun _ => 0, pw2, 0, 0, 0, fun _ => 0, fun _ => 0, fun _ => 0, rfl, TI_new p1 p2, TI_new p3 p4, ⟨by decide, fun _ => Nat.le_of_ble_eq_true rfl⟩, ⟨by decide, fun _ => Nat.le_of_ble_eq_true rfl⟩, ⟨by decide, fun _ => Nat.le_of_ble_eq_true rfl⟩⟩
  · intro W _
    exact ⟨Nat.zero_le _, fun _ => Nat.le_of_ble_eq_true rfl, fun q => absurd rfl q⟩
  · exact wf_mid (n := 28) (a := [.inr (4, [.ref 1, .ref 6, .ref 11, .ref 18]), tx 2 10 4 1 (dpg 10) 5 1 1, wh 3 0, ar 800 (fun _ => 0), ar 960 (fun _ => 0), ar 31 pw, tx 7 10 9 1 (dpg 10) 10 1 1, wh 8 0, ar 800 (fun _ => 0), ar 960 (fun _ => 0), ar 31 pw2, .inr (0, [.ref 12, .ref 14, .ref 16]), wh 13 0, ar 1400 (fun _ => 0), wh 15 0, ar 1400 (fun _ => 0), wh 17 0, ar 1400 (fun _ => 0), .inr (1, [.ref 19, .ref 25, .ref 26, .ref 27, .int 0])]) (b := [ar 705 (fun _ => 0), ar 705 (fun _ => 0), ar 705 (fun _ => 0), ar 705 (fun _ => 0), ar 705 (fun _ => 0), ar 5 (fun _ => 0), al 705 (fun _ => 0), al 705 (fun _ => 0)]) rfl rfl rows28
