/-! DigitMill$Text -/
abbrev tW (b gu pg dg td s : Nat) (a g pw : Nat → Nat) : List va_E := [tx 1 b 3 gu pg 4 dg td, wh 2 s, ar 800 a, ar 960 g, ar 31 pw]
set_option maxRecDepth 100000 in
set_option maxHeartbeats 4000000 in
theorem ms_T_changeBase (b b' gu pg dg td s : Nat) (a g pw : Nat → Nat) : MS y_T_changeBase c_T_changeBase 2 none (rm 1) [.ref 0, .int (nI b')] (tW b gu pg dg td s a g pw) (zP (X := Unit) (fun _ => none) (fun _ => tW b' gu pg dg 0 s a g pw) (fun _ => True)) := by
  refine MS_of (own := R_T) (by decide) rfl (fun _ => Nat.le_of_ble_eq_true rfl) (fun Z h hr => ?_)
  refine z_aload_n h d_T_changeBase_0 rfl ?_
  refine z_iload_n h d_T_changeBase_1 rfl ?_
  refine z_put (C := R_T) (T := F_T) (N := 8) (ty := .int) h 1 d_T_changeBase_2 in_T rfl ft_T_ok n_T (by decide) wf_T_20 rfl rfl rfl rfl rfl (Nat.le_of_ble_eq_true rfl) ?_
  refine z_aload_n h d_T_changeBase_5 rfl ?_
  refine z_iconst (v := nI 0) h d_T_changeBase_6 (by decide) ?_
  refine z_put (C := R_T) (T := F_T) (N := 8) (ty := .boolean) h 7 d_T_changeBase_7 in_T rfl ft_T_ok n_T (by decide) wf_T_40 rfl rfl (by decide) (by decide) rfl (Nat.le_of_ble_eq_true rfl) ?_
  refine hr.2.2.2.1 _ _ _ _ _ (Nat.le_refl _) (Nat.le_refl _) rfl d_T_changeBase_10 ?_
  exact ⟨(), rfl, rfl, trivial⟩
set_option maxRecDepth 100000 in
set_option maxHeartbeats 4000000 in
theorem ms_T_setPowers (b gu pg dg td s : Nat) (a g pw : Nat → Nat) (hb : 2 ≤ b ∧ b < 37) (hp : ∀ j, pw j < 2 ^ 31) : MS y_T_setPowers c_T_setPowers 2 none (rm 2) [.ref 0] (tW b gu pg dg td s a g pw) (zP (X := Nat → Nat) (fun _ => none) (fun x => tW b gu (dpg b) dg td s a g x) (fun x => (∀ j, x j < 2 ^ 31) ∧ ∀ j, j ≤ dpg b → x j = b ^ j)) := by
  refine MS_of (own := R_T) (by decide) rfl (fun _ => Nat.le_of_ble_eq_true rfl) (fun Z h hr => ?_)
  obtain ⟨hg1, hg2, hg3⟩ := dpg_ok b hb.2 hb.1
  have hbk : ∀ k, k ≤ dpg b → b ^ k ≤ 1073741824 := fun k hk => Nat.le_trans (Nat.pow_le_pow_right (by omega) hk) hg3
  have L : ∀ (m i : Nat) (x : Nat → Nat), i + m = dpg b + 1 → 1 ≤ i → (∀ j, x j < 2 ^ 31) → (∀ j, j < i → x j = b ^ j) → Z 0 0 (tW b gu (dpg b) dg td s a g x) [(0, .ref 0), (1, .int (nI i))] 20 [] := by
    intro m
    induction m with
    | zero =>
      intro i x him hi hx hj
      refine z_iload_n h d_T_setPowers_20 rfl ?_
      refine z_aload_n h d_T_setPowers_21 rfl ?_
      refine z_get (C := R_T) (T := F_T) (N := 8) h 4 d_T_setPowers_22 in_T rfl (by decide) wf_T_61 rfl rfl ?_
      refine z_icmp_gtN (tgt := 53) h d_T_setPowers_25 (by decide) (by omega) (fun c_25 => ?_) (fun c_25 => ?_)
      · refine hr.2.2.2.1 _ _ _ _ _ (Nat.le_refl _) (Nat.le_refl _) rfl d_T_setPowers_53 ?_
        exact ⟨x, rfl, rfl, hx, fun j q => hj j (by omega)⟩
      · exact absurd c_25 (by omega)
    | succ m ih =>
      intro i x him hi hx hj
      obtain ⟨i, rfl⟩ : ∃ k, i = k + 1 := ⟨i - 1, by omega⟩
      have e := hj i (by omega)
      have e2 := hbk (i + 1) (by omega)
      refine z_iload_n h d_T_setPowers_20 rfl ?_
      refine z_aload_n h d_T_setPowers_21 rfl ?_
      refine z_get (C := R_T) (T := F_T) (N := 8) h 4 d_T_setPowers_22 in_T rfl (by decide) wf_T_61 rfl rfl ?_
      refine z_icmp_gtN (tgt := 53) h d_T_setPowers_25 (by decide) (by omega) (fun c_25 => ?_) (fun c_25 => ?_)
      · exact absurd c_25 (by omega)
      · refine z_aload_n h d_T_setPowers_28 rfl ?_
        refine z_get (C := R_T) (T := F_T) (N := 8) h 5 d_T_setPowers_29 in_T rfl (by decide) wf_T_28 rfl rfl ?_
        refine z_iload_n h d_T_setPowers_32 rfl ?_
        refine z_aload_n h d_T_setPowers_33 rfl ?_
        refine z_get (C := R_T) (T := F_T) (N := 8) h 5 d_T_setPowers_34 in_T rfl (by decide) wf_T_28 rfl rfl ?_
        refine z_iload_n h d_T_setPowers_37 rfl ?_
        refine z_iconst (v := nI 1) h d_T_setPowers_38 (by decide) ?_
        refine z_isubN h d_T_setPowers_39 (by omega) ?_
        refine z_ialoadN h d_T_setPowers_40 rfl (by omega) ?_
        rw [Nat.add_sub_cancel, e]
        refine z_aload_n h d_T_setPowers_41 rfl ?_
        refine z_get (C := R_T) (T := F_T) (N := 8) h 1 d_T_setPowers_42 in_T rfl (by decide) wf_T_20 rfl rfl ?_
        refine z_imulN h d_T_setPowers_45 ?_
        rw [← Nat.pow_succ]
        refine z_iastoreN h d_T_setPowers_46 rfl (by omega) ?_
        refine z_iincN h 1 d_T_setPowers_47 rfl (by decide) (by decide) ?_
        refine z_goto (tgt := 20) h d_T_setPowers_50 (by decide) ?_
        refine z_lv h rfl (ih (i + 1 + 1) (un x (i + 1) (b ^ (i + 1))) (by omega) (by omega) (un_lt hx (by omega)) (fun j q => ?_))
        by_cases e3 : j = i + 1
        · rw [e3, un_eq]
        · rw [un_ne e3]
          exact hj j (by omega)
  refine z_aload_n h d_T_setPowers_0 rfl ?_
  refine z_aload_n h d_T_setPowers_1 rfl ?_
  refine z_get (C := R_T) (T := F_T) (N := 8) h 1 d_T_setPowers_2 in_T rfl (by decide) wf_T_20 rfl rfl ?_
  refine z_cSN h (ms_D_digitsPerGroup b hb.2) (zf_D_digitsPerGroup (by decide)) wm_T_80 wt_D_digitsPerGroup d_T_setPowers_5 [] (by decide) rfl (Nat.le_of_ble_eq_true rfl) rfl (fun _ => rfl) (fun x_5 hx_5 => ?_)
  refine z_put (C := R_T) (T := F_T) (N := 8) (ty := .int) h 4 d_T_setPowers_8 in_T rfl ft_T_ok n_T (by decide) wf_T_61 rfl rfl rfl rfl rfl (Nat.le_of_ble_eq_true rfl) ?_
  refine z_aload_n h d_T_setPowers_11 rfl ?_
  refine z_get (C := R_T) (T := F_T) (N := 8) h 5 d_T_setPowers_12 in_T rfl (by decide) wf_T_28 rfl rfl ?_
  refine z_iconst (v := nI 0) h d_T_setPowers_15 (by decide) ?_
  refine z_iconst (v := nI 1) h d_T_setPowers_16 (by decide) ?_
  refine z_iastoreN h d_T_setPowers_17 rfl (by omega) ?_
  refine z_iconst (v := nI 1) h d_T_setPowers_18 (by decide) ?_
  refine z_istore_n h d_T_setPowers_19 (by decide) ?_
  refine z_lv (lv' := [(0, .ref 0), (1, .int (nI 1))]) h rfl (L (dpg b) 1 (un pw 0 1) (by omega) (Nat.le_refl 1) (un_lt hp (by decide)) (fun j q => ?_))
  rw [show j = 0 by omega, un_eq, Nat.pow_zero]
theorem meas_val {b p gu v i : Nat} {g : Nat → Nat} (hb : 2 ≤ b) (hg : ∀ j, j < gu + 1 → g j < b ^ p) (hv : nv (b ^ p) g (gu + 1) = v) (ht : gu + 1 = 1 ∨ g gu ≠ 0) (h1 : 1 ≤ i) (h2 : g gu < b ^ i) (h3 : i = 1 ∨ b ^ (i - 1) ≤ g gu) : gu * p + i = nd b v := by
  have e1 : v = nv (b ^ p) g gu + g gu * (b ^ p) ^ gu := hv.symm
  have e2 : nv (b ^ p) g gu < (b ^ p) ^ gu := nv_lt fun j hj => hg j (by omega)
  rw [← Nat.pow_mul] at e1 e2
  have hpp : 0 < b ^ (p * gu) := Nat.pow_pos (by omega)
  apply nd_uniq hb (by omega)
  · rw [Nat.mul_comm gu p, Nat.pow_add]
    have : (g gu + 1) * b ^ (p * gu) ≤ b ^ i * b ^ (p * gu) := Nat.mul_le_mul_right _ h2
    rw [Nat.add_mul] at this
    rw [Nat.mul_comm (b ^ (p * gu))]
    omega
  · rcases h3 with h3 | h3
    · subst h3
      rcases ht with ht | ht
      · refine Or.inl ?_
        rw [show gu = 0 by omega]
        omega
      · refine Or.inr ?_
        have : 1 * b ^ (p * gu) ≤ g gu * b ^ (p * gu) := Nat.mul_le_mul_right _ (by omega)
        rw [Nat.add_sub_cancel, Nat.mul_comm gu p]
        omega
    · refine Or.inr ?_
      have : b ^ (i - 1) * b ^ (p * gu) ≤ g gu * b ^ (p * gu) := Nat.mul_le_mul_right _ h3
      rw [← Nat.pow_add] at this
      rw [show gu * p + i - 1 = i - 1 + p * gu by rw [Nat.mul_comm]; omega]
      omega
set_option maxRecDepth 100000 in
set_option maxHeartbeats 4000000 in
theorem ms_T_measure (b v gu dg td s : Nat) (a g pw : Nat → Nat) (hb : 2 ≤ b ∧ b < 37) (hgu : gu < 960) (hg : ∀ j, j < gu + 1 → g j < b ^ dpg b) (hv : nv (b ^ dpg b) g (gu + 1) = v) (ht : gu + 1 = 1 ∨ g gu ≠ 0) (hpw : ∀ j, j ≤ dpg b → pw j = b ^ j) : MS y_T_measure c_T_measure 3 none (rm 1) [.ref 0] (tW b (gu + 1) (dpg b) dg td s a g pw) (zP (X := Unit) (fun _ => none) (fun _ => tW b (gu + 1) (dpg b) (nd b v) td s a g pw) (fun _ => True)) := by
  refine MS_of (own := R_T) (by decide) rfl (fun _ => Nat.le_of_ble_eq_true rfl) (fun Z h hr => ?_)
  obtain ⟨hg1, hg2, hg3⟩ := dpg_ok b hb.2 hb.1
  have hbk : ∀ k, k ≤ dpg b → b ^ k ≤ 1073741824 := fun k hk => Nat.le_trans (Nat.pow_le_pow_right (by omega) hk) hg3
  have hgg := hg gu (by omega)
  have E : ∀ i, 1 ≤ i → g gu < b ^ i → (i = 1 ∨ b ^ (i - 1) ≤ g gu) → Z 0 0 (tW b (gu + 1) (dpg b) dg td s a g pw) [(0, .ref 0), (1, .int (nI (g gu))), (2, .int (nI i))] 38 [] := by
    intro i h1 h2 h3
    refine z_aload_n h d_T_measure_38 rfl ?_
    refine z_aload_n h d_T_measure_39 rfl ?_
    refine z_get (C := R_T) (T := F_T) (N := 8) h 3 d_T_measure_40 in_T rfl (by decide) wf_T_34 rfl rfl ?_
    refine z_iconst (v := nI 1) h d_T_measure_43 (by decide) ?_
    refine z_isubN h d_T_measure_44 (by omega) ?_
    refine z_aload_n h d_T_measure_45 rfl ?_
    rw [Nat.add_sub_cancel]
    refine z_get (C := R_T) (T := F_T) (N := 8) h 4 d_T_measure_46 in_T rfl (by decide) wf_T_61 rfl rfl ?_
    refine z_imulN h d_T_measure_49 ?_
    refine z_iload_n h d_T_measure_50 rfl ?_
    refine z_iaddN h d_T_measure_51 ?_
    refine z_put (C := R_T) (T := F_T) (N := 8) (ty := .int) h 6 d_T_measure_52 in_T rfl ft_T_ok n_T (by decide) wf_T_37 rfl rfl rfl rfl rfl (Nat.le_of_ble_eq_true rfl) ?_
    refine hr.2.2.2.1 _ _ _ _ _ (Nat.le_refl _) (Nat.le_refl _) rfl d_T_measure_55 ?_
    exact ⟨(), rfl, by rw [← meas_val hb.1 hg hv ht h1 h2 h3]; rfl, trivial⟩
  have L : ∀ (m i : Nat), i + m = dpg b → 1 ≤ i → (i = 1 ∨ b ^ (i - 1) ≤ g gu) → Z 0 0 (tW b (gu + 1) (dpg b) dg td s a g pw) [(0, .ref 0), (1, .int (nI (g gu))), (2, .int (nI i))] 14 [] := by
    intro m
    induction m with
    | zero =>
      intro i him hi hlo
      refine z_iload_n h d_T_measure_14 rfl ?_
      refine z_aload_n h d_T_measure_15 rfl ?_
      refine z_get (C := R_T) (T := F_T) (N := 8) h 4 d_T_measure_16 in_T rfl (by decide) wf_T_61 rfl rfl ?_
      refine z_icmp_geN (tgt := 38) h d_T_measure_19 (by decide) (by omega) (fun c_19 => ?_) (fun c_19 => ?_)
      · exact E i hi (by rw [show i = dpg b by omega]; exact hgg) hlo
      · exact absurd c_19 (by omega)
    | succ m ih =>
      intro i him hi hlo
      have e := hpw i (by omega)
      have e2 := hbk i (by omega)
      refine z_iload_n h d_T_measure_14 rfl ?_
      refine z_aload_n h d_T_measure_15 rfl ?_
      refine z_get (C := R_T) (T := F_T) (N := 8) h 4 d_T_measure_16 in_T rfl (by decide) wf_T_61 rfl rfl ?_
      refine z_icmp_geN (tgt := 38) h d_T_measure_19 (by decide) (by omega) (fun c_19 => ?_) (fun c_19 => ?_)
      · exact absurd c_19 (by omega)
      · refine z_iload_n h d_T_measure_22 rfl ?_
        refine z_aload_n h d_T_measure_23 rfl ?_
        refine z_get (C := R_T) (T := F_T) (N := 8) h 5 d_T_measure_24 in_T rfl (by decide) wf_T_28 rfl rfl ?_
        refine z_iload_n h d_T_measure_27 rfl ?_
        refine z_ialoadN h d_T_measure_28 rfl (by omega) ?_
        rw [e]
        refine z_icmp_ltN (tgt := 38) h d_T_measure_29 (by decide) (by omega) (fun c_29 => ?_) (fun c_29 => ?_)
        · exact E i hi c_29 hlo
        · refine z_iincN h 1 d_T_measure_32 rfl (by decide) (by decide) ?_
          refine z_goto (tgt := 14) h d_T_measure_35 (by decide) ?_
          refine z_lv h rfl (ih (i + 1) (by omega) (by omega) (Or.inr ?_))
          rw [Nat.add_sub_cancel]
          exact c_29
  refine z_aload_n h d_T_measure_0 rfl ?_
  refine z_get (C := R_T) (T := F_T) (N := 8) h 2 d_T_measure_1 in_T rfl (by decide) wf_T_24 rfl rfl ?_
  refine z_aload_n h d_T_measure_4 rfl ?_
  refine z_get (C := R_T) (T := F_T) (N := 8) h 3 d_T_measure_5 in_T rfl (by decide) wf_T_34 rfl rfl ?_
  refine z_iconst (v := nI 1) h d_T_measure_8 (by decide) ?_
  refine z_isubN h d_T_measure_9 (by omega) ?_
  refine z_ialoadN h d_T_measure_10 rfl (by omega) ?_
  rw [Nat.add_sub_cancel]
  refine z_istore_n h d_T_measure_11 (by decide) ?_
  refine z_iconst (v := nI 1) h d_T_measure_12 (by decide) ?_
  refine z_istore_n h d_T_measure_13 (by decide) ?_
  exact z_lv h rfl (L (dpg b - 1) 1 (by omega) (Nat.le_refl 1) (Or.inl rfl))
set_option maxRecDepth 100000 in
set_option maxHeartbeats 4000000 in
/-- the number and the base are new; nothing is told -/
theorem ms_T_replace (b b' gu pg dg td s M t v : Nat) (a g pw c : Nat → Nat) (ha : ∀ j, a j < 1073741824) (hM : M < 2 ^ 31) (ht : t ≤ 800) (hc : Rp 1073741824 M c t v) : MS y_T_replace c_T_replace 3 none (rm 4) [.ref 0, .ref 5, .int (nI b')] (tW b gu pg dg td s a g pw ++ [wh 6 t, ar M c]) (zP (X := (Nat → Nat) × Nat) (fun _ => none) (fun x => tW b' gu pg dg 0 x.2 x.1 g pw ++ [wh 6 t, ar M c]) (fun x => Rp 1073741824 800 x.1 x.2 v)) := by
  refine MS_of (own := R_T) (by decide) rfl (fun _ => Nat.le_of_ble_eq_true rfl) (fun Z h hr => ?_)
  refine z_aload_n h d_T_replace_0 rfl ?_
  refine z_get (C := R_T) (T := F_T) (N := 8) h 0 d_T_replace_1 in_T rfl (by decide) wf_T_14 rfl rfl ?_
  refine z_aload_n h d_T_replace_4 rfl ?_
  refine z_cV (C := R_H) (ci := 3) h (ms_H_copy 800 s M t v a c (by decide) hM ht ha hc) (zf_H_copy (by decide)) wm_T_44 wi_H_copy ws_H_copy rfl ⟨_, rfl⟩ d_T_replace_5 [1, 2, 5, 6] (by decide) rfl (Nat.le_of_ble_eq_true rfl) rfl (fun _ => rfl) (fun x_5 hx_5 => ?_)
  refine z_aload_n h d_T_replace_8 rfl ?_
  refine z_iload_n h d_T_replace_9 rfl ?_
  refine z_cV (C := R_T) (ci := 2) h (ms_T_changeBase b b' gu pg dg td x_5.2 x_5.1 g pw) (zf_T_changeBase (by decide)) wm_T_48 wi_T_changeBase ws_T_changeBase rfl ⟨_, rfl⟩ d_T_replace_10 [0, 1, 2, 3, 4] (by decide) rfl (Nat.le_of_ble_eq_true rfl) rfl (fun _ => rfl) (fun x_10 hx_10 => ?_)
  refine hr.2.2.2.1 _ _ _ _ _ (Nat.le_refl _) (Nat.le_refl _) rfl d_T_replace_13 ?_
  exact ⟨x_5, rfl, rfl, hx_5⟩
theorem G960 {b : Nat} (hb : 2 ≤ b ∧ b < 37) : (1073741824 : Nat) ^ 800 ≤ (b ^ dpg b) ^ 960 := by
  have h1 : (33554432 : Nat) ^ 960 ≤ (b ^ dpg b) ^ 960 := Nat.pow_le_pow_left (dpg_lo b hb.2 hb.1) 960
  have h2 : (1073741824 : Nat) ^ 800 = 33554432 ^ 960 := by rw [show (1073741824 : Nat) = 2 ^ 30 by decide, show (33554432 : Nat) = 2 ^ 25 by decide, ← Nat.pow_mul, ← Nat.pow_mul]
  rw [h2]
  exact h1
theorem tell_step {v n r G P : Nat} (h : v = n + r * P) : v = (n + r % G * P) + r / G * (P * G) := by
  have e := Nat.mod_add_div r G
  have e2 : (n + r % G * P) + r / G * (P * G) = n + (r % G + G * (r / G)) * P := by grind
  rw [e2, e]
  exact h
set_option maxRecDepth 100000 in
set_option maxHeartbeats 8000000 in
/-- the digits are made if they aren't known; the scratch is used up -/
theorem ms_T_tell (b v gu pg dg td s t : Nat) (a g pw c : Nat → Nat) (hT : TI b v s a gu pg dg td g pw) (hc : ∀ j, c j < 1073741824) (ht : t ≤ 1400) : MS y_T_tell c_T_tell 3 none (rm 4) [.ref 0, .ref 5] (tW b gu pg dg td s a g pw ++ [wh 6 t, ar 1400 c]) (zP (X := Nat × Nat × (Nat → Nat) × (Nat → Nat) × Nat × (Nat → Nat)) (fun _ => none) (fun x => tW b x.1 x.2.1 (nd b v) 1 s a x.2.2.1 x.2.2.2.1 ++ [wh 6 x.2.2.2.2.1, ar 1400 x.2.2.2.2.2]) (fun x => TI b v s a x.1 x.2.1 (nd b v) 1 x.2.2.1 x.2.2.2.1 ∧ (∀ j, x.2.2.2.2.2 j < 1073741824) ∧ x.2.2.2.2.1 ≤ 1400)) := by
  refine MS_of (own := R_T) (by decide) rfl (fun _ => Nat.le_of_ble_eq_true rfl) (fun Z h hr => ?_)
  obtain ⟨hR, hb, hgu, hg31, hpw31, hpg, hdg, htd, htl⟩ := id hT
  obtain ⟨hg1, hg2, hg3⟩ := dpg_ok b hb.2 hb.1
  have hG0 : 0 < b ^ dpg b := Nat.pow_pos (by omega)
  have hvlt : v < (b ^ dpg b) ^ 960 := by
    have h1 := Rp_lt hR
    have h2 : (1073741824 : Nat) ^ s ≤ 1073741824 ^ 800 := Nat.pow_le_pow_right (by decide) hR.1
    have h3 := G960 hb
    omega
  have hnd : nd b v < 2 ^ 31 := by
    obtain ⟨n1, n2, n3⟩ := nd_spec hb.1 v
    rcases n3 with n3 | n3
    · omega
    · apply Nat.lt_of_not_le
      intro q
      have h4 : b ^ (30 * 960) ≤ b ^ (nd b v - 1) := Nat.pow_le_pow_right (by omega) (by omega)
      have h5 : (b ^ dpg b) ^ 960 ≤ b ^ (30 * 960) := by rw [← Nat.pow_mul]; exact Nat.pow_le_pow_right (by omega) (Nat.mul_le_mul_right _ hg2)
      omega
  refine z_aload_n h d_T_tell_0 rfl ?_
  refine z_get (C := R_T) (T := F_T) (N := 8) h 7 d_T_tell_1 in_T rfl (by decide) wf_T_40 rfl rfl ?_
  refine z_if_eqN (tgt := 8) h d_T_tell_4 (by decide) (by omega) (fun c_4 => ?_) (fun c_4 => ?_)
  · subst c_4
    have L : ∀ (m i r sz : Nat) (g' cc pw' : Nat → Nat), i + m = 960 → (∀ j, pw' j < 2 ^ 31) → (∀ j, j ≤ dpg b → pw' j = b ^ j) → (∀ j, g' j < 2 ^ 31) → (∀ j, j < i → g' j < b ^ dpg b) → (i = 0 → g' 0 = 0) → Rp 1073741824 1400 cc sz r → v = nv (b ^ dpg b) g' i + r * (b ^ dpg b) ^ i → (i = 0 ∨ r ≠ 0 ∨ g' (i - 1) ≠ 0) → Z 0 0 (tW b i (dpg b) dg 0 s a g' pw' ++ [wh 6 sz, ar 1400 cc]) [(0, .ref 0), (1, .ref 5), (2, .int (nI (b ^ dpg b)))] 42 [] := by
      intro m
      have E : ∀ (i r sz : Nat) (g' cc pw' : Nat → Nat), i ≤ 960 → (∀ j, pw' j < 2 ^ 31) → (∀ j, j ≤ dpg b → pw' j = b ^ j) → (∀ j, g' j < 2 ^ 31) → (∀ j, j < i → g' j < b ^ dpg b) → (i = 0 → g' 0 = 0) → Rp 1073741824 1400 cc sz r → r = 0 → v = nv (b ^ dpg b) g' i + r * (b ^ dpg b) ^ i → (i = 0 ∨ r ≠ 0 ∨ g' (i - 1) ≠ 0) → Z 0 0 (tW b i (dpg b) dg 0 s a g' pw' ++ [wh 6 sz, ar 1400 cc]) [(0, .ref 0), (1, .ref 5), (2, .int (nI (b ^ dpg b)))] 88 [] := by
        intro i r sz g' cc pw' hi hp1 hp2 hg1' hg2' hg0 hRc hr0 hval htop
        subst hr0
        rw [Nat.zero_mul, Nat.add_zero] at hval
        obtain ⟨q, hq, hq2, hq3, hq4, hq5⟩ : ∃ q, max 1 i = q + 1 ∧ q < 960 ∧ (∀ j, j < q + 1 → g' j < b ^ dpg b) ∧ nv (b ^ dpg b) g' (q + 1) = v ∧ (q + 1 = 1 ∨ g' q ≠ 0) := by
          rcases Nat.eq_zero_or_pos i with e | e
          · subst e
            refine ⟨0, rfl, by omega, fun j hj => by rw [show j = 0 by omega, hg0 rfl]; exact hG0, ?_, Or.inl rfl⟩
            show 0 + g' 0 * (b ^ dpg b) ^ 0 = v
            rw [hg0 rfl, hval]
            simp [nv]
          · refine ⟨i - 1, by omega, by omega, fun j hj => hg2' j (by omega), by rw [show i - 1 + 1 = i by omega]; exact hval.symm, ?_⟩
            rcases htop with e1 | e1 | e1
            · omega
            · exact absurd rfl e1
            · exact Or.inr e1
        refine z_aload_n h d_T_tell_88 rfl ?_
        refine z_iconst (v := nI 1) h d_T_tell_89 (by decide) ?_
        refine z_aload_n h d_T_tell_90 rfl ?_
        refine z_get (C := R_T) (T := F_T) (N := 8) h 3 d_T_tell_91 in_T rfl (by decide) wf_T_34 rfl rfl ?_
        refine z_mmaxN h d_T_tell_94 wq_T_71 (by decide) (Nat.le_of_ble_eq_true rfl) (by decide) (by decide) (by omega) ?_
        rw [hq]
        refine z_put (C := R_T) (T := F_T) (N := 8) (ty := .int) h 3 d_T_tell_97 in_T rfl ft_T_ok n_T (by decide) wf_T_34 rfl rfl rfl rfl rfl (Nat.le_of_ble_eq_true rfl) ?_
        refine z_aload_n h d_T_tell_100 rfl ?_
        refine z_cV (C := R_T) (ci := 2) h (ms_T_measure b v q dg 0 s a g' pw' hb hq2 hq3 hq4 hq5 hp2) (zf_T_measure (by decide)) wm_T_77 wi_T_measure ws_T_measure rfl ⟨_, rfl⟩ d_T_tell_101 [0, 1, 2, 3, 4] (by decide) rfl (Nat.le_of_ble_eq_true rfl) rfl (fun _ => rfl) (fun x_101 hx_101 => ?_)
        refine z_aload_n h d_T_tell_104 rfl ?_
        refine z_iconst (v := nI 1) h d_T_tell_105 (by decide) ?_
        refine z_put (C := R_T) (T := F_T) (N := 8) (ty := .boolean) h 7 d_T_tell_106 in_T rfl ft_T_ok n_T (by decide) wf_T_40 rfl rfl (by decide) (by decide) rfl (Nat.le_of_ble_eq_true rfl) ?_
        refine hr.2.2.2.1 _ _ _ _ _ (Nat.le_refl _) (Nat.le_refl _) rfl d_T_tell_109 ?_
        exact ⟨(q + 1, dpg b, g', pw', sz, cc), rfl, rfl, ⟨hR, hb, (show q + 1 ≤ 960 by omega), hg1', hp1, (show dpg b < 2 ^ 31 by omega), hnd, Nat.le_refl 1, fun _ => ⟨rfl, hp2, (show 1 ≤ q + 1 by omega), hq3, hq4, hq5, rfl⟩⟩, hRc.2.1, hRc.1⟩
      induction m with
      | zero =>
        intro i r sz g' cc pw' him hp1 hp2 hg1' hg2' hg0 hRc hval htop
        have hr0 : r = 0 := by
          rcases Nat.eq_zero_or_pos r with e | e
          · exact e
          · have h5 : 1 * (b ^ dpg b) ^ i ≤ r * (b ^ dpg b) ^ i := Nat.mul_le_mul_right _ e
            rw [show i = 960 by omega] at h5 hval
            omega
        have hsz := hRc.1
        refine z_aload_n h d_T_tell_42 rfl ?_
        refine z_getN (C := R_H) (T := F_H) (N := 2) h 1 d_T_tell_43 in_H rfl (by decide) wf_T_64 rfl rfl ?_
        refine z_if_leN (tgt := 88) h d_T_tell_46 (by decide) (by omega) (fun c_46 => ?_) (fun c_46 => ?_)
        · exact E i r sz g' cc pw' (by omega) hp1 hp2 hg1' hg2' hg0 hRc hr0 hval htop
        · refine z_aload_n h d_T_tell_49 rfl ?_
          refine z_get (C := R_T) (T := F_T) (N := 8) h 3 d_T_tell_50 in_T rfl (by decide) wf_T_34 rfl rfl ?_
          refine z_aload_n h d_T_tell_53 rfl ?_
          refine z_get (C := R_T) (T := F_T) (N := 8) h 2 d_T_tell_54 in_T rfl (by decide) wf_T_24 rfl rfl ?_
          refine z_alenN h d_T_tell_57 rfl ?_
          refine z_icmp_geN (tgt := 88) h d_T_tell_58 (by decide) (by omega) (fun c_58 => ?_) (fun c_58 => ?_)
          · exact E i r sz g' cc pw' (by omega) hp1 hp2 hg1' hg2' hg0 hRc hr0 hval htop
          · exact absurd c_58 (by omega)
      | succ m ih =>
        intro i r sz g' cc pw' him hp1 hp2 hg1' hg2' hg0 hRc hval htop
        have hsz := hRc.1
        refine z_aload_n h d_T_tell_42 rfl ?_
        refine z_getN (C := R_H) (T := F_H) (N := 2) h 1 d_T_tell_43 in_H rfl (by decide) wf_T_64 rfl rfl ?_
        refine z_if_leN (tgt := 88) h d_T_tell_46 (by decide) (by omega) (fun c_46 => ?_) (fun c_46 => ?_)
        · have hr0 : r = 0 := by have := hRc.2.2.1; rw [c_46] at this; exact this.symm
          exact E i r sz g' cc pw' (by omega) hp1 hp2 hg1' hg2' hg0 hRc hr0 hval htop
        · have hr0 : 0 < r := by
            obtain ⟨z, rfl⟩ : ∃ z, sz = z + 1 := ⟨sz - 1, by omega⟩
            rcases hRc.2.2.2 with e | e
            · omega
            · exact Nat.lt_of_lt_of_le (Nat.pow_pos (by decide)) e
          have hml := Nat.mod_lt r hG0
          refine z_aload_n h d_T_tell_49 rfl ?_
          refine z_get (C := R_T) (T := F_T) (N := 8) h 3 d_T_tell_50 in_T rfl (by decide) wf_T_34 rfl rfl ?_
          refine z_aload_n h d_T_tell_53 rfl ?_
          refine z_get (C := R_T) (T := F_T) (N := 8) h 2 d_T_tell_54 in_T rfl (by decide) wf_T_24 rfl rfl ?_
          refine z_alenN h d_T_tell_57 rfl ?_
          refine z_icmp_geN (tgt := 88) h d_T_tell_58 (by decide) (by omega) (fun c_58 => ?_) (fun c_58 => ?_)
          · exact absurd c_58 (by omega)
          · refine z_aload_n h d_T_tell_61 rfl ?_
            refine z_get (C := R_T) (T := F_T) (N := 8) h 2 d_T_tell_62 in_T rfl (by decide) wf_T_24 rfl rfl ?_
            refine z_aload_n h d_T_tell_65 rfl ?_
            refine z_get (C := R_T) (T := F_T) (N := 8) h 3 d_T_tell_66 in_T rfl (by decide) wf_T_34 rfl rfl ?_
            refine z_aload_n h d_T_tell_69 rfl ?_
            refine z_iload_n h d_T_tell_70 rfl ?_
            refine z_cV (C := R_H) (ci := 3) h (ms_H_shrink 1400 sz r (b ^ dpg b) cc (by decide) hsz hRc.2.1 hRc.2.2.1 ⟨hG0, hg3⟩) (zf_H_shrink (by decide)) wm_T_67 wi_H_shrink ws_H_shrink rfl ⟨_, rfl⟩ d_T_tell_71 [5, 6] (by decide) rfl (Nat.le_of_ble_eq_true rfl) rfl (fun _ => rfl) (fun x_71 hx_71 => ?_)
            refine z_iastoreN h d_T_tell_74 rfl (by omega) ?_
            refine z_aload_n h d_T_tell_75 rfl ?_
            refine z_dup h d_T_tell_76 rfl ?_
            refine z_get (C := R_T) (T := F_T) (N := 8) h 3 d_T_tell_77 in_T rfl (by decide) wf_T_34 rfl rfl ?_
            refine z_iconst (v := nI 1) h d_T_tell_80 (by decide) ?_
            refine z_iaddN h d_T_tell_81 ?_
            refine z_put (C := R_T) (T := F_T) (N := 8) (ty := .int) h 3 d_T_tell_82 in_T rfl ft_T_ok n_T (by decide) wf_T_34 rfl rfl rfl rfl rfl (Nat.le_of_ble_eq_true rfl) ?_
            refine z_goto (tgt := 42) h d_T_tell_85 (by decide) ?_
            refine ih (i + 1) (r / b ^ dpg b) x_71.2 (un g' i (r % b ^ dpg b)) x_71.1 pw' (by omega) hp1 hp2 (un_lt hg1' (by omega)) (fun j hj => ?_) (fun e => by omega) hx_71 ?_ (Or.inr ?_)
            · by_cases e : j = i
              · rw [e, un_eq]; exact hml
              · rw [un_ne e]; exact hg2' j (by omega)
            · rw [nv_put, Nat.pow_succ]
              exact tell_step hval
            · rw [Nat.add_sub_cancel, un_eq]
              have e := Nat.div_add_mod r (b ^ dpg b)
              rcases Nat.eq_zero_or_pos (r / b ^ dpg b) with e1 | e1
              · refine Or.inr ?_
                rw [e1, Nat.mul_zero] at e
                omega
              · exact Or.inl (by omega)
    refine z_aload_n h d_T_tell_8 rfl ?_
    refine z_cV (C := R_T) (ci := 2) h (ms_T_setPowers b gu pg dg 0 s a g pw hb hpw31) (zf_T_setPowers (by decide)) wm_T_31 wi_T_setPowers ws_T_setPowers rfl ⟨_, rfl⟩ d_T_tell_9 [0, 1, 2, 3, 4] (by decide) rfl (Nat.le_of_ble_eq_true rfl) rfl (fun _ => rfl) (fun x_9 hx_9 => ?_)
    have e9 := hx_9.2 (dpg b) (Nat.le_refl _)
    refine z_aload_n h d_T_tell_12 rfl ?_
    refine z_get (C := R_T) (T := F_T) (N := 8) h 5 d_T_tell_13 in_T rfl (by decide) wf_T_28 rfl rfl ?_
    refine z_aload_n h d_T_tell_16 rfl ?_
    refine z_get (C := R_T) (T := F_T) (N := 8) h 4 d_T_tell_17 in_T rfl (by decide) wf_T_61 rfl rfl ?_
    refine z_ialoadN h d_T_tell_20 rfl (by omega) ?_
    rw [e9]
    refine z_istore_n h d_T_tell_21 (by decide) ?_
    refine z_aload_n h d_T_tell_22 rfl ?_
    refine z_aload_n h d_T_tell_23 rfl ?_
    refine z_get (C := R_T) (T := F_T) (N := 8) h 0 d_T_tell_24 in_T rfl (by decide) wf_T_14 rfl rfl ?_
    refine z_cV (C := R_H) (ci := 3) h (ms_H_copy 1400 t 800 s v c a (by decide) (by decide) (Nat.le_trans hR.1 (by decide)) hc hR) (zf_H_copy (by decide)) wm_T_44 wi_H_copy ws_H_copy rfl ⟨_, rfl⟩ d_T_tell_27 [5, 6, 1, 2] (by decide) rfl (Nat.le_of_ble_eq_true rfl) rfl (fun _ => rfl) (fun x_27 hx_27 => ?_)
    refine z_aload_n h d_T_tell_30 rfl ?_
    refine z_get (C := R_T) (T := F_T) (N := 8) h 2 d_T_tell_31 in_T rfl (by decide) wf_T_24 rfl rfl ?_
    refine z_iconst (v := nI 0) h d_T_tell_34 (by decide) ?_
    refine z_iconst (v := nI 0) h d_T_tell_35 (by decide) ?_
    refine z_iastoreN h d_T_tell_36 rfl (by omega) ?_
    refine z_aload_n h d_T_tell_37 rfl ?_
    refine z_iconst (v := nI 0) h d_T_tell_38 (by decide) ?_
    refine z_put (C := R_T) (T := F_T) (N := 8) (ty := .int) h 3 d_T_tell_39 in_T rfl ft_T_ok n_T (by decide) wf_T_34 rfl rfl rfl rfl rfl (Nat.le_of_ble_eq_true rfl) ?_
    refine z_lv (lv' := [(0, .ref 0), (1, .ref 5), (2, .int (nI (b ^ dpg b)))]) h rfl ?_
    exact L 960 0 v x_27.2 (un g 0 0) x_27.1 x_9 (by omega) hx_9.1 hx_9.2 (un_lt hg31 (by decide)) (fun j hj => absurd hj (by omega)) (fun _ => un_eq) hx_27 (by simp [nv]) (Or.inl rfl)
  · have e1 : td = 1 := by omega
    subst e1
    have e2 : dg = nd b v := (htl rfl).2.2.2.2.2.2
    subst e2
    refine hr.2.2.2.1 _ _ _ _ _ (Nat.le_refl _) (Nat.le_refl _) rfl d_T_tell_7 ?_
    exact ⟨(gu, pg, g, pw, t, c), rfl, rfl, hT, hc, ht⟩
