/-! DigitMill$Whole: the small ones -/
set_option maxRecDepth 100000 in
set_option maxHeartbeats 4000000 in
theorem ms_H_limbAt (N s i : Nat) (a : Nat → Nat) (hN : N < 2 ^ 31) (hs : s ≤ N) (hi : i < 2 ^ 31) : MS y_H_limbAt c_H_limbAt 2 (some .int) (rm 1) [.ref 0, .int (nI i)] [wh 1 s, ar N a] (zP (X := Unit) (fun _ => some (.int (nI (if i < s then a i else 0)))) (fun _ => [wh 1 s, ar N a]) (fun _ => True)) := by
  refine MS_of (own := R_H) (by decide) rfl (fun _ => Nat.le_of_ble_eq_true rfl) (fun Z h hr => ?_)
  refine z_iload_n h d_H_limbAt_0 rfl ?_
  refine z_aload_n h d_H_limbAt_1 rfl ?_
  refine z_get (C := R_H) (T := F_H) (N := 2) h 1 d_H_limbAt_2 in_H rfl (by decide) wf_H_15 rfl rfl ?_
  refine z_icmp_geN (tgt := 17) h d_H_limbAt_5 (by decide) (by omega) (fun c_5 => ?_) (fun c_5 => ?_)
  · refine z_iconst (v := nI 0) h d_H_limbAt_17 (by decide) ?_
    refine hr.1 _ _ _ _ _ _ (Nat.le_refl _) (Nat.le_refl _) rfl d_H_limbAt_18 ?_
    exact ⟨(), by rw [if_neg (by omega)], rfl, trivial⟩
  · refine z_aload_n h d_H_limbAt_8 rfl ?_
    refine z_get (C := R_H) (T := F_H) (N := 2) h 0 d_H_limbAt_9 in_H rfl (by decide) wf_H_9 rfl rfl ?_
    refine z_iload_n h d_H_limbAt_12 rfl ?_
    refine z_ialoadN h d_H_limbAt_13 rfl (by omega) ?_
    refine z_goto (tgt := 18) h d_H_limbAt_14 (by decide) ?_
    refine hr.1 _ _ _ _ _ _ (Nat.le_refl _) (Nat.le_refl _) rfl d_H_limbAt_18 ?_
    exact ⟨(), by rw [if_pos (by omega)], rfl, trivial⟩
set_option maxRecDepth 100000 in
set_option maxHeartbeats 4000000 in
theorem ms_H_trim (N s : Nat) (a : Nat → Nat) (hN : N < 2 ^ 31) (hs : s ≤ N) (ha : ∀ j, a j < 2 ^ 31) : MS y_H_trim c_H_trim 1 none (rm 1) [.ref 0] [wh 1 s, ar N a] (zP (X := Unit) (fun _ => none) (fun _ => [wh 1 (trm a s), ar N a]) (fun _ => True)) := by
  refine MS_of (own := R_H) (by decide) rfl (fun _ => Nat.le_of_ble_eq_true rfl) (fun Z h hr => ?_)
  show Z 0 0 [wh 1 s, ar N a] [(0, .ref 0)] 0 []
  induction s with
  | zero =>
    refine z_aload_n h d_H_trim_0 rfl ?_
    refine z_get (C := R_H) (T := F_H) (N := 2) h 1 d_H_trim_1 in_H rfl (by decide) wf_H_15 rfl rfl ?_
    refine z_if_leN (tgt := 34) h d_H_trim_4 (by decide) (by omega) (fun c_4 => ?_) (fun c_4 => ?_)
    · refine hr.2.2.2.1 _ _ _ _ _ (Nat.le_refl _) (Nat.le_refl _) rfl d_H_trim_34 ?_
      exact ⟨(), rfl, rfl, trivial⟩
    · exact absurd c_4 (by omega)
  | succ s ih =>
    refine z_aload_n h d_H_trim_0 rfl ?_
    refine z_get (C := R_H) (T := F_H) (N := 2) h 1 d_H_trim_1 in_H rfl (by decide) wf_H_15 rfl rfl ?_
    refine z_if_leN (tgt := 34) h d_H_trim_4 (by decide) (by omega) (fun c_4 => ?_) (fun c_4 => ?_)
    · exact absurd c_4 (by omega)
    · refine z_aload_n h d_H_trim_7 rfl ?_
      refine z_get (C := R_H) (T := F_H) (N := 2) h 0 d_H_trim_8 in_H rfl (by decide) wf_H_9 rfl rfl ?_
      refine z_aload_n h d_H_trim_11 rfl ?_
      refine z_get (C := R_H) (T := F_H) (N := 2) h 1 d_H_trim_12 in_H rfl (by decide) wf_H_15 rfl rfl ?_
      refine z_iconst (v := nI 1) h d_H_trim_15 (by decide) ?_
      refine z_isubN h d_H_trim_16 (by omega) ?_
      refine z_ialoadN h d_H_trim_17 rfl (by omega) ?_
      rw [Nat.add_sub_cancel]
      have hs18 := ha s
      refine z_if_neN (tgt := 34) h d_H_trim_18 (by decide) (by omega) (fun c_18 => ?_) (fun c_18 => ?_)
      · refine hr.2.2.2.1 _ _ _ _ _ (Nat.le_refl _) (Nat.le_refl _) rfl d_H_trim_34 ?_
        refine ⟨(), rfl, ?_, trivial⟩
        show [wh 1 (s + 1), ar N a] = [wh 1 (if a s = 0 then trm a s else s + 1), ar N a]
        rw [if_neg c_18]
      · refine z_aload_n h d_H_trim_21 rfl ?_
        refine z_dup h d_H_trim_22 rfl ?_
        refine z_get (C := R_H) (T := F_H) (N := 2) h 1 d_H_trim_23 in_H rfl (by decide) wf_H_15 rfl rfl ?_
        refine z_iconst (v := nI 1) h d_H_trim_26 (by decide) ?_
        refine z_isubN h d_H_trim_27 (by omega) ?_
        refine z_put (C := R_H) (T := F_H) (N := 2) (ty := .int) h 1 d_H_trim_28 in_H rfl ft_H_ok n_H (by decide) wf_H_15 rfl rfl rfl rfl rfl (Nat.le_of_ble_eq_true rfl) ?_
        refine z_goto (tgt := 0) h d_H_trim_31 (by decide) ?_
        have et : trm a (s + 1) = trm a s := by show (if a s = 0 then trm a s else s + 1) = _; rw [if_pos c_18]
        rw [et] at hr
        rw [Nat.add_sub_cancel]
        exact ih (by omega) hr
set_option maxRecDepth 100000 in
set_option maxHeartbeats 4000000 in
theorem ms_H_append (N s x : Nat) (a : Nat → Nat) (hN : N < 2 ^ 31) (hs : s ≤ N) (hx : x < 2 ^ 31) : MS y_H_append c_H_append 2 none (rm 1) [.ref 0, .int (nI x)] [wh 1 s, ar N a] (zP (X := Unit) (fun _ => none) (fun _ => [wh 1 (if x = 0 ∨ N ≤ s then s else s + 1), ar N (if x = 0 ∨ N ≤ s then a else un a s x)]) (fun _ => True)) := by
  refine MS_of (own := R_H) (by decide) rfl (fun _ => Nat.le_of_ble_eq_true rfl) (fun Z h hr => ?_)
  refine z_iload_n h d_H_append_0 rfl ?_
  refine z_if_eqN (tgt := 36) h d_H_append_1 (by decide) (by omega) (fun c_1 => ?_) (fun c_1 => ?_)
  · refine hr.2.2.2.1 _ _ _ _ _ (Nat.le_refl _) (Nat.le_refl _) rfl d_H_append_36 ?_
    exact ⟨(), rfl, by rw [if_pos (Or.inl c_1), if_pos (Or.inl c_1)], trivial⟩
  · refine z_aload_n h d_H_append_4 rfl ?_
    refine z_get (C := R_H) (T := F_H) (N := 2) h 1 d_H_append_5 in_H rfl (by decide) wf_H_15 rfl rfl ?_
    refine z_aload_n h d_H_append_8 rfl ?_
    refine z_get (C := R_H) (T := F_H) (N := 2) h 0 d_H_append_9 in_H rfl (by decide) wf_H_9 rfl rfl ?_
    refine z_alenN h d_H_append_12 rfl ?_
    refine z_icmp_geN (tgt := 36) h d_H_append_13 (by decide) (by omega) (fun c_13 => ?_) (fun c_13 => ?_)
    · refine hr.2.2.2.1 _ _ _ _ _ (Nat.le_refl _) (Nat.le_refl _) rfl d_H_append_36 ?_
      exact ⟨(), rfl, by rw [if_pos (Or.inr c_13), if_pos (Or.inr c_13)], trivial⟩
    · refine z_aload_n h d_H_append_16 rfl ?_
      refine z_get (C := R_H) (T := F_H) (N := 2) h 0 d_H_append_17 in_H rfl (by decide) wf_H_9 rfl rfl ?_
      refine z_aload_n h d_H_append_20 rfl ?_
      refine z_get (C := R_H) (T := F_H) (N := 2) h 1 d_H_append_21 in_H rfl (by decide) wf_H_15 rfl rfl ?_
      refine z_iload_n h d_H_append_24 rfl ?_
      refine z_iastoreN h d_H_append_25 rfl (by omega) ?_
      refine z_aload_n h d_H_append_26 rfl ?_
      refine z_dup h d_H_append_27 rfl ?_
      refine z_get (C := R_H) (T := F_H) (N := 2) h 1 d_H_append_28 in_H rfl (by decide) wf_H_15 rfl rfl ?_
      refine z_iconst (v := nI 1) h d_H_append_31 (by decide) ?_
      refine z_iaddN h d_H_append_32 ?_
      refine z_put (C := R_H) (T := F_H) (N := 2) (ty := .int) h 1 d_H_append_33 in_H rfl ft_H_ok n_H (by decide) wf_H_15 rfl rfl rfl rfl rfl (Nat.le_of_ble_eq_true rfl) ?_
      refine hr.2.2.2.1 _ _ _ _ _ (Nat.le_refl _) (Nat.le_refl _) rfl d_H_append_36 ?_
      exact ⟨(), rfl, by rw [if_neg (by omega), if_neg (by omega)]; rfl, trivial⟩
set_option maxRecDepth 100000 in
set_option maxHeartbeats 4000000 in
theorem ms_H_openTop (N s : Nat) (a : Nat → Nat) (hN : N < 2 ^ 31) (hs : s < N) : MS y_H_openTop c_H_openTop 1 none (rm 1) [.ref 0] [wh 1 s, ar N a] (zP (X := Unit) (fun _ => none) (fun _ => [wh 1 s, ar N (un a s 0)]) (fun _ => True)) := by
  refine MS_of (own := R_H) (by decide) rfl (fun _ => Nat.le_of_ble_eq_true rfl) (fun Z h hr => ?_)
  refine z_aload_n h d_H_openTop_0 rfl ?_
  refine z_get (C := R_H) (T := F_H) (N := 2) h 1 d_H_openTop_1 in_H rfl (by decide) wf_H_15 rfl rfl ?_
  refine z_aload_n h d_H_openTop_4 rfl ?_
  refine z_get (C := R_H) (T := F_H) (N := 2) h 0 d_H_openTop_5 in_H rfl (by decide) wf_H_9 rfl rfl ?_
  refine z_alenN h d_H_openTop_8 rfl ?_
  refine z_icmp_geN (tgt := 22) h d_H_openTop_9 (by decide) (by omega) (fun c_9 => ?_) (fun c_9 => ?_)
  · exact absurd c_9 (by omega)
  · refine z_aload_n h d_H_openTop_12 rfl ?_
    refine z_get (C := R_H) (T := F_H) (N := 2) h 0 d_H_openTop_13 in_H rfl (by decide) wf_H_9 rfl rfl ?_
    refine z_aload_n h d_H_openTop_16 rfl ?_
    refine z_get (C := R_H) (T := F_H) (N := 2) h 1 d_H_openTop_17 in_H rfl (by decide) wf_H_15 rfl rfl ?_
    refine z_iconst (v := nI 0) h d_H_openTop_20 (by decide) ?_
    refine z_iastoreN h d_H_openTop_21 rfl (by omega) ?_
    refine hr.2.2.2.1 _ _ _ _ _ (Nat.le_refl _) (Nat.le_refl _) rfl d_H_openTop_22 ?_
    exact ⟨(), rfl, rfl, trivial⟩
set_option maxRecDepth 100000 in
set_option maxHeartbeats 4000000 in
/-- load: limbs of a row, trimmed -/
theorem ms_H_load (N s M t : Nat) (a b : Nat → Nat) (hN : N < 2 ^ 31) (hM : M < 2 ^ 31) (ht : t ≤ M ∧ t ≤ N) (ha : ∀ j, a j < 2 ^ 31) (hb : ∀ j, b j < 2 ^ 31) : MS y_H_load c_H_load 3 none (rm 2) [.ref 0, .ref 2, .int (nI t)] [wh 1 s, ar N a, ar M b] (zP (X := Unit) (fun _ => none) (fun _ => [wh 1 (trm (va_cpy b a 0 0 t) t), ar N (va_cpy b a 0 0 t), ar M b]) (fun _ => True)) := by
  refine MS_of (own := R_H) (by decide) rfl (fun _ => Nat.le_of_ble_eq_true rfl) (fun Z h hr => ?_)
  have e : min t (min M N) = t := by omega
  refine z_aload_n h d_H_load_0 rfl ?_
  refine z_iload_n h d_H_load_1 rfl ?_
  refine z_aload_n h d_H_load_2 rfl ?_
  refine z_alenN h d_H_load_3 rfl ?_
  refine z_aload_n h d_H_load_4 rfl ?_
  refine z_get (C := R_H) (T := F_H) (N := 2) h 0 d_H_load_5 in_H rfl (by decide) wf_H_9 rfl rfl ?_
  refine z_alenN h d_H_load_8 rfl ?_
  refine z_mminN h d_H_load_9 wq_H_25 (by decide) (Nat.le_of_ble_eq_true rfl) (by decide) (by decide) (by omega) ?_
  refine z_mminN h d_H_load_12 wq_H_25 (by decide) (Nat.le_of_ble_eq_true rfl) (by decide) (by decide) (by omega) ?_
  rw [e]
  refine z_put (C := R_H) (T := F_H) (N := 2) (ty := .int) h 1 d_H_load_15 in_H rfl ft_H_ok n_H (by decide) wf_H_15 rfl rfl rfl rfl rfl (Nat.le_of_ble_eq_true rfl) ?_
  refine z_aload_n h d_H_load_18 rfl ?_
  refine z_iconst (v := nI 0) h d_H_load_19 (by decide) ?_
  refine z_aload_n h d_H_load_20 rfl ?_
  refine z_get (C := R_H) (T := F_H) (N := 2) h 0 d_H_load_21 in_H rfl (by decide) wf_H_9 rfl rfl ?_
  refine z_iconst (v := nI 0) h d_H_load_24 (by decide) ?_
  refine z_aload_n h d_H_load_25 rfl ?_
  refine z_get (C := R_H) (T := F_H) (N := 2) h 1 d_H_load_26 in_H rfl (by decide) wf_H_15 rfl rfl ?_
  refine z_copyN h d_H_load_29 wm_H_31 rfl rfl (by omega) (by decide) (Nat.le_of_ble_eq_true rfl) ?_
  refine z_aload_n h d_H_load_32 rfl ?_
  refine z_cV (C := R_H) (ci := 3) h (ms_H_trim N t (va_cpy b a 0 0 t) hN ht.2 (fun j => by unfold va_cpy; split; exact hb _; exact ha _)) (zf_H_trim (by decide)) wm_H_37 wi_H_trim ws_H_trim rfl ⟨_, rfl⟩ d_H_load_33 [0, 1] (by decide) rfl (Nat.le_of_ble_eq_true rfl) rfl (fun _ => rfl) (fun x_33 hx_33 => ?_)
  refine hr.2.2.2.1 _ _ _ _ _ (Nat.le_refl _) (Nat.le_refl _) rfl d_H_load_36 ?_
  exact ⟨(), rfl, rfl, trivial⟩
