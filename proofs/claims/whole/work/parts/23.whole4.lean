/-! bits; powers -/
set_option maxRecDepth 100000 in
set_option maxHeartbeats 4000000 in
theorem ms_JI_nlz (x : Nat) (hx : x < 2 ^ 31) : MS y_JI_numberOfLeadingZeros c_JI_numberOfLeadingZeros 2 (some .int) (rm 1) [.int (nI x)] [] (zP (X := Unit) (fun _ => some (.int (nI (32 - bl x)))) (fun _ => []) (fun _ => True)) := by
  refine MS_of (own := "java/lang/Integer") (by decide) rfl (fun _ => Nat.le_of_ble_eq_true rfl) (fun Z h hr => ?_)
  show Z 0 0 [] [(0, .int (nI x))] 0 []
  have J73 : ∀ y q, 0 < y → y < 4 → q ≤ 31 → bl y ≤ q + 1 → bl x = bl y + (31 - q) → Z 0 0 [] [(0, .int (nI y)), (1, .int (nI q))] 73 [] := by
    intro y q h1 h2 h3 h4 h5
    have h6 := bl_small y h1 h2
    refine z_iload_n h d_JI_numberOfLeadingZeros_73 rfl ?_
    refine z_iload_n h d_JI_numberOfLeadingZeros_74 rfl ?_
    refine z_iconst (v := nI 1) h d_JI_numberOfLeadingZeros_75 (by decide) ?_
    refine z_iushrN h d_JI_numberOfLeadingZeros_76 (by omega) ?_
    refine z_isubN h d_JI_numberOfLeadingZeros_77 (by omega) ?_
    refine hr.1 _ _ _ _ _ _ (Nat.le_refl _) (Nat.le_refl _) rfl d_JI_numberOfLeadingZeros_78 ?_
    exact ⟨(), by rw [show q - y / 2 ^ 1 = 32 - bl x by omega], rfl, trivial⟩
  have J61 : ∀ y q, 0 < y → y < 16 → q ≤ 31 → bl y ≤ q + 1 → bl x = bl y + (31 - q) → Z 0 0 [] [(0, .int (nI y)), (1, .int (nI q))] 61 [] := by
    intro y q h1 h2 h3 h4 h5
    refine z_iload_n h d_JI_numberOfLeadingZeros_61 rfl ?_
    refine z_iconst (v := nI 4) h d_JI_numberOfLeadingZeros_62 (by decide) ?_
    refine z_icmp_ltN (tgt := 73) h d_JI_numberOfLeadingZeros_63 (by decide) (by omega) (fun c_63 => ?_) (fun c_63 => ?_)
    · exact J73 y q h1 c_63 h3 h4 h5
    · have e := bl_div (x := y) (k := 2) c_63
      have e2 : 0 < y / 2 ^ 2 := by omega
      have e3 := bl_ge1 e2
      refine z_iincS h 2 d_JI_numberOfLeadingZeros_66 rfl (by decide) (by decide) (by omega) ?_
      refine z_iload_n h d_JI_numberOfLeadingZeros_69 rfl ?_
      refine z_iconst (v := nI 2) h d_JI_numberOfLeadingZeros_70 (by decide) ?_
      refine z_iushrN h d_JI_numberOfLeadingZeros_71 (by omega) ?_
      refine z_istore_n h d_JI_numberOfLeadingZeros_72 (by decide) ?_
      exact z_lv h rfl (J73 (y / 2 ^ 2) (q - 2) e2 (by omega) (by omega) (by omega) (by omega))
  have J48 : ∀ y q, 0 < y → y < 256 → q ≤ 31 → bl y ≤ q + 1 → bl x = bl y + (31 - q) → Z 0 0 [] [(0, .int (nI y)), (1, .int (nI q))] 48 [] := by
    intro y q h1 h2 h3 h4 h5
    refine z_iload_n h d_JI_numberOfLeadingZeros_48 rfl ?_
    refine z_bipush (v := nI 16) h d_JI_numberOfLeadingZeros_49 (by decide) ?_
    refine z_icmp_ltN (tgt := 61) h d_JI_numberOfLeadingZeros_51 (by decide) (by omega) (fun c_51 => ?_) (fun c_51 => ?_)
    · exact J61 y q h1 c_51 h3 h4 h5
    · have e := bl_div (x := y) (k := 4) c_51
      have e2 : 0 < y / 2 ^ 4 := by omega
      have e3 := bl_ge1 e2
      refine z_iincS h 4 d_JI_numberOfLeadingZeros_54 rfl (by decide) (by decide) (by omega) ?_
      refine z_iload_n h d_JI_numberOfLeadingZeros_57 rfl ?_
      refine z_iconst (v := nI 4) h d_JI_numberOfLeadingZeros_58 (by decide) ?_
      refine z_iushrN h d_JI_numberOfLeadingZeros_59 (by omega) ?_
      refine z_istore_n h d_JI_numberOfLeadingZeros_60 (by decide) ?_
      exact z_lv h rfl (J61 (y / 2 ^ 4) (q - 4) e2 (by omega) (by omega) (by omega) (by omega))
  have J33 : ∀ y q, 0 < y → y < 65536 → q ≤ 31 → bl y ≤ q + 1 → bl x = bl y + (31 - q) → Z 0 0 [] [(0, .int (nI y)), (1, .int (nI q))] 33 [] := by
    intro y q h1 h2 h3 h4 h5
    refine z_iload_n h d_JI_numberOfLeadingZeros_33 rfl ?_
    refine z_sipush (v := nI 256) h d_JI_numberOfLeadingZeros_34 (by decide) ?_
    refine z_icmp_ltN (tgt := 48) h d_JI_numberOfLeadingZeros_37 (by decide) (by omega) (fun c_37 => ?_) (fun c_37 => ?_)
    · exact J48 y q h1 c_37 h3 h4 h5
    · have e := bl_div (x := y) (k := 8) c_37
      have e2 : 0 < y / 2 ^ 8 := by omega
      have e3 := bl_ge1 e2
      refine z_iincS h 8 d_JI_numberOfLeadingZeros_40 rfl (by decide) (by decide) (by omega) ?_
      refine z_iload_n h d_JI_numberOfLeadingZeros_43 rfl ?_
      refine z_bipush (v := nI 8) h d_JI_numberOfLeadingZeros_44 (by decide) ?_
      refine z_iushrN h d_JI_numberOfLeadingZeros_46 (by omega) ?_
      refine z_istore_n h d_JI_numberOfLeadingZeros_47 (by decide) ?_
      exact z_lv h rfl (J48 (y / 2 ^ 8) (q - 8) e2 (by omega) (by omega) (by omega) (by omega))
  refine z_iload_n h d_JI_numberOfLeadingZeros_0 rfl ?_
  refine z_if_gtN (tgt := 15) h d_JI_numberOfLeadingZeros_1 (by decide) (by omega) (fun c_1 => ?_) (fun c_1 => ?_)
  · have hb := bl_lt hx
    refine z_bipush (v := nI 31) h d_JI_numberOfLeadingZeros_15 (by decide) ?_
    refine z_istore_n h d_JI_numberOfLeadingZeros_17 (by decide) ?_
    refine z_iload_n h d_JI_numberOfLeadingZeros_18 rfl ?_
    refine z_ldc_w (v := nI 65536) h d_JI_numberOfLeadingZeros_19 wv_JI_264 ?_
    refine z_icmp_ltN (tgt := 33) h d_JI_numberOfLeadingZeros_22 (by decide) (by omega) (fun c_22 => ?_) (fun c_22 => ?_)
    · exact z_lv h rfl (J33 x 31 c_1 c_22 (by omega) (by omega) (by omega))
    · have e := bl_div (x := x) (k := 16) c_22
      have e2 : 0 < x / 2 ^ 16 := by omega
      have e3 := bl_ge1 e2
      refine z_iincS h 16 d_JI_numberOfLeadingZeros_25 rfl (by decide) (by decide) (by omega) ?_
      refine z_iload_n h d_JI_numberOfLeadingZeros_28 rfl ?_
      refine z_bipush (v := nI 16) h d_JI_numberOfLeadingZeros_29 (by decide) ?_
      refine z_iushrN h d_JI_numberOfLeadingZeros_31 (by omega) ?_
      refine z_istore_n h d_JI_numberOfLeadingZeros_32 (by decide) ?_
      exact z_lv h rfl (J33 (x / 2 ^ 16) (31 - 16) e2 (by omega) (by omega) (by omega) (by omega))
  · subst c_1
    refine z_iload_n h d_JI_numberOfLeadingZeros_4 rfl ?_
    refine z_if_neN (tgt := 13) h d_JI_numberOfLeadingZeros_5 (by decide) (by omega) (fun c_5 => ?_) (fun c_5 => ?_)
    · exact absurd rfl c_5
    · refine z_bipush (v := nI 32) h d_JI_numberOfLeadingZeros_8 (by decide) ?_
      refine z_goto (tgt := 14) h d_JI_numberOfLeadingZeros_10 (by decide) ?_
      refine hr.1 _ _ _ _ _ _ (Nat.le_refl _) (Nat.le_refl _) rfl d_JI_numberOfLeadingZeros_14 ?_
      exact ⟨(), rfl, rfl, trivial⟩
set_option maxRecDepth 100000 in
set_option maxHeartbeats 4000000 in
theorem ms_D_bitsOf (x : Nat) (hx : x < 2 ^ 31) : MS y_D_bitsOf c_D_bitsOf 1 (some .int) (rm 2) [.int (nI x)] [] (zP (X := Unit) (fun _ => some (.int (nI (bl x)))) (fun _ => []) (fun _ => True)) := by
  refine MS_of (own := R_D) (by decide) rfl (fun _ => Nat.le_of_ble_eq_true rfl) (fun Z h hr => ?_)
  have hb := bl_lt hx
  refine z_bipush (v := nI 32) h d_D_bitsOf_0 (by decide) ?_
  refine z_iload_n h d_D_bitsOf_2 rfl ?_
  refine z_cS h (ms_JI_nlz x hx) (zf_JI_numberOfLeadingZeros (by decide)) wm_D_202 wt_JI_numberOfLeadingZeros d_D_bitsOf_3 [] (by decide) rfl (Nat.le_of_ble_eq_true rfl) rfl (fun _ => rfl) (fun x_3 hx_3 => ?_)
  refine z_isubN h d_D_bitsOf_6 (by omega) ?_
  refine hr.1 _ _ _ _ _ _ (Nat.le_refl _) (Nat.le_refl _) rfl d_D_bitsOf_7 ?_
  exact ⟨(), by rw [show 32 - (32 - bl x) = bl x by omega], rfl, trivial⟩
set_option maxRecDepth 100000 in
set_option maxHeartbeats 4000000 in
theorem ms_D_bitsPerDigit (b : Nat) (hb : 1 ≤ b ∧ b < 2 ^ 31) : MS y_D_bitsPerDigit c_D_bitsPerDigit 1 (some .int) (rm 3) [.int (nI b)] [] (zP (X := Unit) (fun _ => some (.int (nI (bl (b - 1))))) (fun _ => []) (fun _ => True)) := by
  refine MS_of (own := R_D) (by decide) rfl (fun _ => Nat.le_of_ble_eq_true rfl) (fun Z h hr => ?_)
  refine z_iload_n h d_D_bitsPerDigit_0 rfl ?_
  refine z_iconst (v := nI 1) h d_D_bitsPerDigit_1 (by decide) ?_
  refine z_isubN h d_D_bitsPerDigit_2 (by omega) ?_
  refine z_cS h (ms_D_bitsOf (b - 1) (by omega)) (zf_D_bitsOf (by decide)) wm_D_199 wt_D_bitsOf d_D_bitsPerDigit_3 [] (by decide) rfl (Nat.le_of_ble_eq_true rfl) rfl (fun _ => rfl) (fun x_3 hx_3 => ?_)
  refine hr.1 _ _ _ _ _ _ (Nat.le_refl _) (Nat.le_refl _) rfl d_D_bitsPerDigit_6 ?_
  exact ⟨(), rfl, rfl, trivial⟩
set_option maxRecDepth 100000 in
set_option maxHeartbeats 4000000 in
theorem ms_D_power (b e : Nat) (hb : b < 2 ^ 31) (he : e < 2 ^ 31) : MS y_D_power c_D_power 5 (some .long) (rm 1) [.int (nI b), .int (nI e)] [] (zP (X := Unit) (fun _ => some (.long (lN (b ^ e)))) (fun _ => []) (fun _ => True)) := by
  refine MS_of (own := R_D) (by decide) rfl (fun _ => Nat.le_of_ble_eq_true rfl) (fun Z h hr => ?_)
  have L : ∀ (m i : Nat), i + m = e → Z 0 0 [] [(0, .int (nI b)), (1, .int (nI e)), (2, .long (lN (b ^ i))), (4, .int (nI i))] 5 [] := by
    intro m
    induction m with
    | zero =>
      intro i him
      obtain rfl : i = e := by omega
      refine z_iload h d_D_power_5 rfl ?_
      refine z_iload_n h d_D_power_7 rfl ?_
      refine z_icmp_geN (tgt := 22) h d_D_power_8 (by decide) (by omega) (fun c_8 => ?_) (fun c_8 => ?_)
      · refine z_lload_n h d_D_power_22 rfl ?_
        refine hr.2.2.1 _ _ _ _ _ _ (Nat.le_refl _) (Nat.le_refl _) rfl d_D_power_23 ?_
        exact ⟨(), rfl, rfl, trivial⟩
      · exact absurd c_8 (by omega)
    | succ m ih =>
      intro i him
      refine z_iload h d_D_power_5 rfl ?_
      refine z_iload_n h d_D_power_7 rfl ?_
      refine z_icmp_geN (tgt := 22) h d_D_power_8 (by decide) (by omega) (fun c_8 => ?_) (fun c_8 => ?_)
      · exact absurd c_8 (by omega)
      · refine z_lload_n h d_D_power_11 rfl ?_
        refine z_iload_n h d_D_power_12 rfl ?_
        refine z_i2lN h d_D_power_13 (by omega) ?_
        refine z_lmulN h d_D_power_14 ?_
        refine z_lstore_n h d_D_power_15 (by decide) ?_
        refine z_iincN h 1 d_D_power_16 rfl (by decide) (by decide) ?_
        refine z_goto (tgt := 5) h d_D_power_19 (by decide) ?_
        rw [← Nat.pow_succ]
        exact z_lv h rfl (ih (i + 1) (by omega))
  refine z_lconst (v := lN 1) h d_D_power_0 (by decide) ?_
  refine z_lstore_n h d_D_power_1 (by decide) ?_
  refine z_iconst (v := nI 0) h d_D_power_2 (by decide) ?_
  refine z_istore h d_D_power_3 (by decide) ?_
  refine z_lv (lv' := [(0, .int (nI b)), (1, .int (nI e)), (2, .long (lN (b ^ 0))), (4, .int (nI 0))]) h rfl (L e 0 (by omega))
def dpgF (b : Nat) : Nat → Nat → Nat → Nat
  | 0, d, _ => d
  | m + 1, d, x => if x ≤ 1073741824 ∧ d < 30 then dpgF b m (d + 1) (x * b) else d
/-- digits of base b to a group -/
def dpg (b : Nat) : Nat := dpgF b 30 1 (b * b)
theorem dpg_ok : ∀ b, b < 37 → 2 ≤ b → 1 ≤ dpg b ∧ dpg b ≤ 30 ∧ b ^ dpg b ≤ 1073741824 := by decide +kernel
set_option maxRecDepth 100000 in
set_option maxHeartbeats 4000000 in
theorem ms_D_digitsPerGroup (b : Nat) (hb : b < 37) : MS y_D_digitsPerGroup c_D_digitsPerGroup 4 (some .int) (rm 1) [.int (nI b)] [] (zP (X := Unit) (fun _ => some (.int (nI (dpg b)))) (fun _ => []) (fun _ => True)) := by
  refine MS_of (own := R_D) (by decide) rfl (fun _ => Nat.le_of_ble_eq_true rfl) (fun Z h hr => ?_)
  have L : ∀ (m d x : Nat), d + m = 31 → x ≤ 1073741824 * 36 → dpgF b m d x = dpg b → Z 0 0 [] [(0, .int (nI b)), (1, .int (nI d)), (2, .long (lN x))] 8 [] := by
    intro m
    induction m with
    | zero =>
      intro d x hd hx he
      have he2 : d = dpg b := he
      refine z_lload_n h d_D_digitsPerGroup_8 rfl ?_
      refine z_ldc2_w (v := lN 1073741824) h d_D_digitsPerGroup_9 wv_D_207 ?_
      refine z_lcmp_gtN (tgt := 33) h d_D_digitsPerGroup_12 d_D_digitsPerGroup_13 (by decide) (by omega) (fun c_12 => ?_) (fun c_12 => ?_)
      · refine z_iload_n h d_D_digitsPerGroup_33 rfl ?_
        refine hr.1 _ _ _ _ _ _ (Nat.le_refl _) (Nat.le_refl _) rfl d_D_digitsPerGroup_34 ?_
        exact ⟨(), by rw [he2], rfl, trivial⟩
      · refine z_iload_n h d_D_digitsPerGroup_16 rfl ?_
        refine z_bipush (v := nI 30) h d_D_digitsPerGroup_17 (by decide) ?_
        refine z_icmp_geN (tgt := 33) h d_D_digitsPerGroup_19 (by decide) (by omega) (fun c_19 => ?_) (fun c_19 => ?_)
        · refine z_iload_n h d_D_digitsPerGroup_33 rfl ?_
          refine hr.1 _ _ _ _ _ _ (Nat.le_refl _) (Nat.le_refl _) rfl d_D_digitsPerGroup_34 ?_
          exact ⟨(), by rw [he2], rfl, trivial⟩
        · exact absurd c_19 (by omega)
    | succ m ih =>
      intro d x hd hx he
      have he2 : (if x ≤ 1073741824 ∧ d < 30 then dpgF b m (d + 1) (x * b) else d) = dpg b := he
      refine z_lload_n h d_D_digitsPerGroup_8 rfl ?_
      refine z_ldc2_w (v := lN 1073741824) h d_D_digitsPerGroup_9 wv_D_207 ?_
      refine z_lcmp_gtN (tgt := 33) h d_D_digitsPerGroup_12 d_D_digitsPerGroup_13 (by decide) (by omega) (fun c_12 => ?_) (fun c_12 => ?_)
      · rw [if_neg (by omega)] at he2
        refine z_iload_n h d_D_digitsPerGroup_33 rfl ?_
        refine hr.1 _ _ _ _ _ _ (Nat.le_refl _) (Nat.le_refl _) rfl d_D_digitsPerGroup_34 ?_
        exact ⟨(), by rw [he2], rfl, trivial⟩
      · refine z_iload_n h d_D_digitsPerGroup_16 rfl ?_
        refine z_bipush (v := nI 30) h d_D_digitsPerGroup_17 (by decide) ?_
        refine z_icmp_geN (tgt := 33) h d_D_digitsPerGroup_19 (by decide) (by omega) (fun c_19 => ?_) (fun c_19 => ?_)
        · rw [if_neg (by omega)] at he2
          refine z_iload_n h d_D_digitsPerGroup_33 rfl ?_
          refine hr.1 _ _ _ _ _ _ (Nat.le_refl _) (Nat.le_refl _) rfl d_D_digitsPerGroup_34 ?_
          exact ⟨(), by rw [he2], rfl, trivial⟩
        · rw [if_pos (by omega)] at he2
          have h9 : x * b ≤ 1073741824 * 36 := Nat.mul_le_mul c_12 (by omega)
          refine z_iincN h 1 d_D_digitsPerGroup_22 rfl (by decide) (by decide) ?_
          refine z_lload_n h d_D_digitsPerGroup_25 rfl ?_
          refine z_iload_n h d_D_digitsPerGroup_26 rfl ?_
          refine z_i2lN h d_D_digitsPerGroup_27 (by omega) ?_
          refine z_lmulN h d_D_digitsPerGroup_28 ?_
          refine z_lstore_n h d_D_digitsPerGroup_29 (by decide) ?_
          refine z_goto (tgt := 8) h d_D_digitsPerGroup_30 (by decide) ?_
          exact z_lv h rfl (ih (d + 1) (x * b) (by omega) h9 he2)
  have h9 : b * b ≤ 36 * 36 := Nat.mul_le_mul (by omega) (by omega)
  refine z_iconst (v := nI 1) h d_D_digitsPerGroup_0 (by decide) ?_
  refine z_istore_n h d_D_digitsPerGroup_1 (by decide) ?_
  refine z_iload_n h d_D_digitsPerGroup_2 rfl ?_
  refine z_i2lN h d_D_digitsPerGroup_3 (by omega) ?_
  refine z_iload_n h d_D_digitsPerGroup_4 rfl ?_
  refine z_i2lN h d_D_digitsPerGroup_5 (by omega) ?_
  refine z_lmulN h d_D_digitsPerGroup_6 ?_
  refine z_lstore_n h d_D_digitsPerGroup_7 (by decide) ?_
  exact z_lv h rfl (L 30 1 (b * b) rfl (by omega) rfl)
set_option maxRecDepth 100000 in
set_option maxHeartbeats 4000000 in
/-- how many bits the number has -/
theorem ms_H_length (N s v : Nat) (a : Nat → Nat) (hN : N < 2 ^ 20) (hR : Rp 1073741824 N a s v) : MS y_H_length c_H_length 1 (some .int) (rm 3) [.ref 0] [wh 1 s, ar N a] (zP (X := Unit) (fun _ => some (.int (nI (bl v)))) (fun _ => [wh 1 s, ar N a]) (fun _ => True)) := by
  refine MS_of (own := R_H) (by decide) rfl (fun _ => Nat.le_of_ble_eq_true rfl) (fun Z h hr => ?_)
  have hs := hR.1
  refine z_aload_n h d_H_length_0 rfl ?_
  refine z_get (C := R_H) (T := F_H) (N := 2) h 1 d_H_length_1 in_H rfl (by decide) wf_H_15 rfl rfl ?_
  refine z_if_neN (tgt := 11) h d_H_length_4 (by decide) (by omega) (fun c_4 => ?_) (fun c_4 => ?_)
  · obtain ⟨s, rfl⟩ : ∃ t, s = t + 1 := ⟨s - 1, by omega⟩
    have ht := Rp_top (by decide) hR
    have hb := hR.2.1 s
    refine z_aload_n h d_H_length_11 rfl ?_
    refine z_get (C := R_H) (T := F_H) (N := 2) h 1 d_H_length_12 in_H rfl (by decide) wf_H_15 rfl rfl ?_
    refine z_iconst (v := nI 1) h d_H_length_15 (by decide) ?_
    refine z_isubN h d_H_length_16 (by omega) ?_
    refine z_bipush (v := nI 30) h d_H_length_17 (by decide) ?_
    refine z_imulN h d_H_length_19 ?_
    refine z_aload_n h d_H_length_20 rfl ?_
    refine z_get (C := R_H) (T := F_H) (N := 2) h 0 d_H_length_21 in_H rfl (by decide) wf_H_9 rfl rfl ?_
    refine z_aload_n h d_H_length_24 rfl ?_
    refine z_get (C := R_H) (T := F_H) (N := 2) h 1 d_H_length_25 in_H rfl (by decide) wf_H_15 rfl rfl ?_
    refine z_iconst (v := nI 1) h d_H_length_28 (by decide) ?_
    refine z_isubN h d_H_length_29 (by omega) ?_
    refine z_ialoadN h d_H_length_30 rfl (by omega) ?_
    rw [Nat.add_sub_cancel]
    refine z_cSN h (ms_D_bitsOf (a s) (by omega)) (zf_D_bitsOf (by decide)) wm_H_40 wt_D_bitsOf d_H_length_31 [] (by decide) rfl (Nat.le_of_ble_eq_true rfl) rfl (fun _ => rfl) (fun x_31 hx_31 => ?_)
    refine z_iaddN h d_H_length_34 ?_
    refine hr.1 _ _ _ _ _ _ (Nat.le_refl _) (Nat.le_refl _) rfl d_H_length_35 ?_
    refine ⟨(), ?_, rfl, trivial⟩
    have e : bl v = s * 30 + bl (a s) := by
      have h0 : 0 < a s := Nat.pos_of_ne_zero ht
      have a1 := bl_lb h0
      have a2 := bl_ub (a s)
      have a3 : 1 ≤ bl (a s) := by rw [bl_pos h0]; omega
      have hlo : nv 1073741824 a s < 1073741824 ^ s := nv_lt fun j _ => hR.2.1 j
      have hv : v = nv 1073741824 a s + a s * 1073741824 ^ s := hR.2.2.1.symm
      have hp : (1073741824 : Nat) ^ s = 2 ^ (s * 30) := by rw [show (1073741824 : Nat) = 2 ^ 30 by decide, ← Nat.pow_mul, Nat.mul_comm]
      rw [show s * 30 + bl (a s) = (s * 30 + (bl (a s) - 1)) + 1 by omega]
      rw [hp] at hlo hv
      apply bl_eq
      · rw [Nat.pow_add, Nat.mul_comm]
        have := Nat.mul_le_mul_right (2 ^ (s * 30)) a1
        omega
      · rw [show s * 30 + (bl (a s) - 1) + 1 = bl (a s) + s * 30 by omega, Nat.pow_add]
        have := Nat.mul_le_mul_right (2 ^ (s * 30)) (show a s + 1 ≤ 2 ^ bl (a s) from a2)
        rw [Nat.add_mul] at this
        omega
    rw [e]
  · subst c_4
    have hv : v = 0 := hR.2.2.1.symm
    refine z_iconst (v := nI 0) h d_H_length_7 (by decide) ?_
    refine z_goto (tgt := 35) h d_H_length_8 (by decide) ?_
    refine hr.1 _ _ _ _ _ _ (Nat.le_refl _) (Nat.le_refl _) rfl d_H_length_35 ?_
    exact ⟨(), by rw [hv]; rfl, rfl, trivial⟩
