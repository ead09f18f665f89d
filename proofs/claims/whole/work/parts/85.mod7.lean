/-! DigitMillModel: length, power, greatest, rootOf -/
theorem nI_shrN {x k : Nat} (hx : x < 2 ^ 31) (hk : k < 32) : nI x >>> (nI k &&& 31) = nI (x / 2 ^ k) := pk_shrN hx (nI k &&& 31) k (sh_amt k hk)
theorem p15 (n : Nat) : (32768 : Nat) ^ n = 2 ^ (15 * n) := by rw [show (32768 : Nat) = 2 ^ 15 by decide, ← Nat.pow_mul]
theorem len_val {v m k t : Nat} (hv : v < 32768 ^ (m + 1)) (hlo : 32768 ^ m ≤ v) (ht : dig 32768 v m = t) (hk : t / 2 ^ k = 0) (hk2 : k = 0 ∨ t / 2 ^ (k - 1) ≠ 0) : 15 * m + k = bl v ∧ 0 < k := by
  have e1 : dig 32768 v m = v / 32768 ^ m := by
    unfold dig
    apply Nat.mod_eq_of_lt
    rw [Nat.div_lt_iff_lt_mul (Nat.pow_pos (by decide)), Nat.mul_comm, ← Nat.pow_succ]
    exact hv
  rw [e1] at ht
  have t0 : 0 < t := by rw [← ht]; exact Nat.div_pos hlo (Nat.pow_pos (by decide))
  have hk1 : t < 2 ^ k := by
    rcases Nat.div_eq_zero_iff.mp hk with q | q
    · exact absurd q (Nat.pos_iff_ne_zero.mp (Nat.pow_pos (by decide)))
    · exact q
  have hk0 : 0 < k := by
    apply Nat.pos_of_ne_zero
    intro q
    subst q
    omega
  have hk3 : 2 ^ (k - 1) ≤ t := by
    rcases hk2 with q | q
    · omega
    · apply Nat.le_of_not_lt
      intro q2
      exact q (Nat.div_eq_of_lt q2)
  have e2 : bl t = k := by
    have := bl_eq hk3 (by rw [Nat.sub_add_cancel hk0]; exact hk1)
    omega
  rw [p15] at ht hlo
  rw [bl_div hlo, ht, e2]
  omega
set_option maxRecDepth 100000 in
set_option maxHeartbeats 4000000 in
theorem ms_M_length (d n V : Nat → Nat) (lf : Int64) (G : MG) (x : Nat) (hx : x < 10) (hM : MV d n V) : MS y_M_length c_M_length 3 (some .int) (rm 2) [.ref 0, .int (nI x)] (mW d n lf G) (zP (X := Unit) (fun _ => some (.int (nI (bl (V x))))) (fun _ => mW d n lf G) (fun _ => True)) := by
  refine MS_of (own := R_M) (by decide) rfl (fun _ => Nat.le_of_ble_eq_true rfl) (fun Z h hr => ?_)
  have hX := hM.2 x hx
  have hnx := hX.1
  have hnl := Rp_lt hX
  have ht := hX.2.2.2
  have hXR := hX
  cases hn : n x with
  | zero =>
    rw [hn, Nat.pow_zero] at hnl
    have e0 : V x = 0 := by omega
    rw [e0] at hr
    refine z_aload_n h d_M_length_0 rfl ?_
    refine z_get (C := R_M) (T := F_M) (N := 10) h 1 d_M_length_1 in_M rfl (by decide) wf_M_13 rfl rfl ?_
    refine z_iload_n h d_M_length_4 rfl ?_
    refine z_ialoadN h d_M_length_5 rfl (by omega) ?_
    rw [hn]
    refine z_if_neN (tgt := 11) h d_M_length_6 (by decide) (by omega) (fun c_6 => ?_) (fun c_6 => ?_)
    · exact absurd rfl c_6
    · refine z_iconst (v := nI 0) h d_M_length_9 (by decide) ?_
      refine hr.1 _ _ _ _ _ _ (Nat.le_refl _) (Nat.le_refl _) rfl d_M_length_10 ?_
      exact ⟨(), rfl, rfl, trivial⟩
  | succ m =>
    rw [hn] at hnl ht hnx
    replace ht : 32768 ^ m ≤ V x := by
      rcases ht with q | q
      · exact absurd q (by omega)
      · exact q
    have hd : dig 32768 (V x) m < 32768 := dig_lt (by decide)
    have hfin : dig 32768 (V x) m / 2 ^ 15 = 0 := Nat.div_eq_of_lt hd
    have L : ∀ (f k : Nat), f + k = 15 → (k = 0 ∨ dig 32768 (V x) m / 2 ^ (k - 1) ≠ 0) → Z 0 0 (mW d n lf G) [(0, .ref 0), (1, .int (nI x)), (2, .int (nI k))] 13 [] := by
      intro f
      have Body : ∀ (k : Nat), k ≤ 15 → (k = 0 ∨ dig 32768 (V x) m / 2 ^ (k - 1) ≠ 0) → (dig 32768 (V x) m / 2 ^ k ≠ 0 → Z 0 0 (mW d n lf G) [(0, .ref 0), (1, .int (nI x)), (2, .int (nI k))] 31 []) → Z 0 0 (mW d n lf G) [(0, .ref 0), (1, .int (nI x)), (2, .int (nI k))] 13 [] := by
        intro k hk hj kk
        refine z_aload_n h d_M_length_13 rfl ?_
        refine z_iload_n h d_M_length_14 rfl ?_
        refine z_aload_n h d_M_length_15 rfl ?_
        refine z_get (C := R_M) (T := F_M) (N := 10) h 1 d_M_length_16 in_M rfl (by decide) wf_M_13 rfl rfl ?_
        refine z_iload_n h d_M_length_19 rfl ?_
        refine z_ialoadN h d_M_length_20 rfl (by omega) ?_
        rw [hn]
        refine z_iconst (v := nI 1) h d_M_length_21 (by decide) ?_
        refine z_isubN h d_M_length_22 (by omega) ?_
        rw [Nat.add_sub_cancel]
        refine z_cM h (ms_M_atR d n V lf G x m (V x) hx hXR (by omega)) (zf_M_at (by decide)) wm_M_34 wi_M_at ws_M_at d_M_length_23 (Nat.le_of_ble_eq_true rfl) rfl (fun x_23 hx_23 => ?_)
        refine z_iload_n h d_M_length_26 rfl ?_
        refine z_ishr h d_M_length_27 ?_
        rw [nI_shrN (by omega) (by omega)]
        have b9 : dig 32768 (V x) m / 2 ^ k < 2 ^ 31 := Nat.lt_of_le_of_lt (Nat.div_le_self _ _) (by omega)
        refine z_if_leN (tgt := 37) h d_M_length_28 (by decide) (by omega) (fun c_28 => ?_) (fun c_28 => ?_)
        · obtain ⟨e5, e6⟩ := len_val hnl ht rfl c_28 hj
          refine z_bipush (v := nI 15) h d_M_length_37 (by decide) ?_
          refine z_aload_n h d_M_length_39 rfl ?_
          refine z_get (C := R_M) (T := F_M) (N := 10) h 1 d_M_length_40 in_M rfl (by decide) wf_M_13 rfl rfl ?_
          refine z_iload_n h d_M_length_43 rfl ?_
          refine z_ialoadN h d_M_length_44 rfl (by omega) ?_
          rw [hn]
          refine z_iconst (v := nI 1) h d_M_length_45 (by decide) ?_
          refine z_isubN h d_M_length_46 (by omega) ?_
          rw [Nat.add_sub_cancel]
          refine z_imulN h d_M_length_47 ?_
          refine z_iload_n h d_M_length_48 rfl ?_
          refine z_iaddN h d_M_length_49 ?_
          refine hr.1 _ _ _ _ _ _ (Nat.le_refl _) (Nat.le_refl _) rfl d_M_length_50 ?_
          rw [e5]
          exact ⟨(), rfl, rfl, trivial⟩
        · exact kk (by omega)
      induction f with
      | zero =>
        intro k hf hj
        obtain rfl : k = 15 := by omega
        exact Body 15 (by omega) hj (fun q => absurd hfin q)
      | succ f ih =>
        intro k hf hj
        refine Body k (by omega) hj (fun q => ?_)
        refine z_iincN h 1 d_M_length_31 rfl (by decide) (by decide) ?_
        refine z_goto (tgt := 13) h d_M_length_34 (by decide) ?_
        exact z_lv h rfl (ih (k + 1) (by omega) (Or.inr (by rw [Nat.add_sub_cancel]; exact q)))
    refine z_aload_n h d_M_length_0 rfl ?_
    refine z_get (C := R_M) (T := F_M) (N := 10) h 1 d_M_length_1 in_M rfl (by decide) wf_M_13 rfl rfl ?_
    refine z_iload_n h d_M_length_4 rfl ?_
    refine z_ialoadN h d_M_length_5 rfl (by omega) ?_
    rw [hn]
    refine z_if_neN (tgt := 11) h d_M_length_6 (by decide) (by omega) (fun c_6 => ?_) (fun c_6 => ?_)
    · refine z_iconst (v := nI 0) h d_M_length_11 (by decide) ?_
      refine z_istore_n h d_M_length_12 (by decide) ?_
      exact z_lv h rfl (L 15 0 rfl (Or.inl rfl))
    · exact absurd c_6 (by omega)
set_option maxRecDepth 100000 in
set_option maxHeartbeats 4000000 in
theorem ms_M_power (d n V : Nat → Nat) (lf : Int64) (G : MG) (x b p : Nat) (hx : x < 10) (hM : MV d n V) (hb : 1 ≤ b ∧ b < 2147483648) (hp : p < 2147483648) (hv : b ^ p < capM) : MS y_M_power c_M_power 5 none (rm 3) [.ref 0, .int (nI x), .int (nI b), .int (nI p)] (mW d n lf G) (zP (X := (Nat → Nat) × (Nat → Nat)) (fun _ => none) (fun q => mW q.1 q.2 lf G) (fun q => MV q.1 q.2 (un V x (b ^ p)))) := by
  refine MS_of (own := R_M) (by decide) rfl (fun _ => Nat.le_of_ble_eq_true rfl) (fun Z h hr => ?_)
  have L : ∀ (f k : Nat) (e n' : Nat → Nat), f + k = p → MV e n' (un V x (b ^ k)) → Z 0 0 (mW e n' lf G) [(0, .ref 0), (1, .int (nI x)), (2, .int (nI b)), (3, .int (nI p)), (4, .int (nI k))] 9 [] := by
    intro f
    induction f with
    | zero =>
      intro k e n' hf hV
      obtain rfl : k = p := by omega
      refine z_iload h d_M_power_9 rfl ?_
      refine z_iload_n h d_M_power_11 rfl ?_
      refine z_icmp_geN (tgt := 29) h d_M_power_12 (by decide) (by omega) (fun c_12 => ?_) (fun c_12 => ?_)
      · refine hr.2.2.2.1 _ _ _ _ _ (Nat.le_refl _) (Nat.le_refl _) rfl d_M_power_29 ?_
        exact ⟨(e, n'), rfl, rfl, hV⟩
      · exact absurd c_12 (by omega)
    | succ f ih =>
      intro k e n' hf hV
      have hle : b * b ^ k + 0 < capM := by
        refine Nat.lt_of_le_of_lt ?_ hv
        rw [Nat.add_zero, Nat.mul_comm, ← Nat.pow_succ]
        exact Nat.pow_le_pow_right hb.1 (by omega)
      have hb2 := hb.2
      refine z_iload h d_M_power_9 rfl ?_
      refine z_iload_n h d_M_power_11 rfl ?_
      refine z_icmp_geN (tgt := 29) h d_M_power_12 (by decide) (by omega) (fun c_12 => ?_) (fun c_12 => ?_)
      · exact absurd c_12 (by omega)
      · refine z_aload_n h d_M_power_15 rfl ?_
        refine z_iload_n h d_M_power_16 rfl ?_
        refine z_iload_n h d_M_power_17 rfl ?_
        refine z_i2lN h d_M_power_18 (by omega) ?_
        refine z_lconst (v := lN 0) h d_M_power_19 (by decide) ?_
        refine z_cM h (ms_M_grow e n' (un V x (b ^ k)) lf G x b 0 hx hV.1 (hV.2 x hx) hb2 (by omega) (by rw [un_eq]; exact hle)) (zf_M_grow (by decide)) wm_M_60 wi_M_grow ws_M_grow d_M_power_20 (Nat.le_of_ble_eq_true rfl) rfl (fun x_20 hx_20 => ?_)
        have hV2 := MV_MU hV hx_20
        rw [un_eq, un_un, Nat.add_zero, Nat.mul_comm, ← Nat.pow_succ] at hV2
        refine z_iincN h 1 d_M_power_23 rfl (by decide) (by decide) ?_
        refine z_goto (tgt := 9) h d_M_power_26 (by decide) ?_
        exact z_lv h rfl (ih (k + 1) x_20.1 x_20.2 (by omega) hV2)
  refine z_aload_n h d_M_power_0 rfl ?_
  refine z_iload_n h d_M_power_1 rfl ?_
  refine z_lconst (v := lN 1) h d_M_power_2 (by decide) ?_
  refine z_cM h (ms_M_set d n V lf G x 1 hx hM (by decide)) (zf_M_set (by decide)) wm_M_83 wi_M_set ws_M_set d_M_power_3 (Nat.le_of_ble_eq_true rfl) rfl (fun x_3 hx_3 => ?_)
  refine z_iconst (v := nI 0) h d_M_power_6 (by decide) ?_
  refine z_istore h d_M_power_7 (by decide) ?_
  exact z_lv h rfl (L p 0 x_3.1 x_3.2 (by omega) hx_3)
theorem gr_mid {l t h : Nat} (h1 : l ≤ t) (h2 : t ≤ h) (h3 : l < h) : (l + h + 1) / 2 ≤ h ∧ l < (l + h + 1) / 2 := by omega
theorem sq_mono {Y a c : Nat} (h : a ≤ c) : a * (Y + a) ≤ c * (Y + c) := Nat.mul_le_mul h (by omega)
set_option maxRecDepth 100000 in
set_option maxHeartbeats 4000000 in
theorem ms_M_greatest (d n V : Nat → Nat) (lf : Int64) (G : MG) (lo hi t : Nat) (hM : MV d n V) (h1 : lo ≤ t) (h2 : t ≤ hi) (h3 : hi < 32768) (ht1 : t * (V 8 + t) ≤ V 7) (ht2 : V 7 < (t + 1) * (V 8 + (t + 1))) (hv : 32768 * (V 8 + 32768) < capM) : MS y_M_greatest c_M_greatest 11 (some .long) (rm 3) [.ref 0, .long (lN lo), .long (lN hi)] (mW d n lf G) (zP (X := (Nat → Nat) × (Nat → Nat) × Nat) (fun _ => some (.long (lN t))) (fun q => mW q.1 q.2.1 lf G) (fun q => MV q.1 q.2.1 (un V 9 q.2.2))) := by
  refine MS_of (own := R_M) (by decide) rfl (fun _ => Nat.le_of_ble_eq_true rfl) (fun Z h hr => ?_)
  have L : ∀ (f l g z : Nat) (e n' : Nat → Nat), g - l ≤ f → l ≤ t → t ≤ g → g < 32768 → MV e n' (un V 9 z) → Z 0 0 (mW e n' lf G) [(0, .ref 0), (1, .long (lN lo)), (3, .long (lN hi)), (5, .long (lN l)), (7, .long (lN g))] 6 [] := by
    intro f
    induction f with
    | zero =>
      intro l g z e n' hf q1 q2 q3 hV
      obtain rfl : l = t := by omega
      refine z_lload h d_M_greatest_6 rfl ?_
      refine z_lload h d_M_greatest_8 rfl ?_
      refine z_lcmp_geN (tgt := 80) h d_M_greatest_10 d_M_greatest_11 (by decide) (by omega) (fun c_10 => ?_) (fun c_10 => ?_)
      · refine z_lload h d_M_greatest_80 rfl ?_
        refine hr.2.2.1 _ _ _ _ _ _ (Nat.le_refl _) (Nat.le_refl _) rfl d_M_greatest_82 ?_
        exact ⟨(e, n', z), rfl, rfl, hV⟩
      · exact absurd c_10 (by omega)
    | succ f ih =>
      intro l g z e n' hf q1 q2 q3 hV
      refine z_lload h d_M_greatest_6 rfl ?_
      refine z_lload h d_M_greatest_8 rfl ?_
      refine z_lcmp_geN (tgt := 80) h d_M_greatest_10 d_M_greatest_11 (by decide) (by omega) (fun c_10 => ?_) (fun c_10 => ?_)
      · obtain rfl : l = t := by omega
        refine z_lload h d_M_greatest_80 rfl ?_
        refine hr.2.2.1 _ _ _ _ _ _ (Nat.le_refl _) (Nat.le_refl _) rfl d_M_greatest_82 ?_
        exact ⟨(e, n', z), rfl, rfl, hV⟩
      · have hs_24 : l + g + 1 < 2 ^ 63 ∧ 0 < 2 ∧ 2 < 2 ^ 63 := by omega
        refine z_lload h d_M_greatest_14 rfl ?_
        refine z_lload h d_M_greatest_16 rfl ?_
        refine z_laddN h d_M_greatest_18 ?_
        refine z_lconst (v := lN 1) h d_M_greatest_19 (by decide) ?_
        refine z_laddN h d_M_greatest_20 ?_
        refine z_ldc2_w (v := lN 2) h d_M_greatest_21 wv_M_73 ?_
        refine z_ldivN h d_M_greatest_24 hs_24 ?_
        obtain ⟨m1, m2⟩ := gr_mid q1 q2 c_10
        generalize hm : (l + g + 1) / 2 = m at *
        have hcap : 1 * V 8 + m < capM ∧ m * (1 * V 8 + m) + 0 < capM := by
          have e1 : m * (1 * V 8 + m) ≤ 32768 * (V 8 + 32768) := Nat.mul_le_mul (by omega) (by omega)
          have e2 : V 8 + 32768 ≤ 32768 * (V 8 + 32768) := Nat.le_mul_of_pos_left _ (by decide)
          constructor
          · refine Nat.lt_of_le_of_lt ?_ hv
            omega
          · exact Nat.lt_of_le_of_lt e1 hv
        refine z_lstore h d_M_greatest_25 (by decide) ?_
        refine z_aload_n h d_M_greatest_27 rfl ?_
        refine z_bipush (v := nI 9) h d_M_greatest_28 (by decide) ?_
        refine z_bipush (v := nI 8) h d_M_greatest_30 (by decide) ?_
        refine z_cM h (ms_M_copy e n' (un V 9 z) lf G 9 8 (by decide) (by decide) hV) (zf_M_copy (by decide)) wm_M_70 wi_M_copy ws_M_copy d_M_greatest_32 (Nat.le_of_ble_eq_true rfl) rfl (fun x_32 hx_32 => ?_)
        rw [un_un, un_ne (by decide)] at hx_32
        refine z_aload_n h d_M_greatest_35 rfl ?_
        refine z_bipush (v := nI 9) h d_M_greatest_36 (by decide) ?_
        refine z_lconst (v := lN 1) h d_M_greatest_38 (by decide) ?_
        refine z_lload h d_M_greatest_39 rfl ?_
        refine z_cM h (ms_M_grow x_32.1 x_32.2 (un V 9 (V 8)) lf G 9 1 m (by decide) hx_32.1 (hx_32.2 9 (by decide)) (by decide) (by omega) (by rw [un_eq]; exact hcap.1)) (zf_M_grow (by decide)) wm_M_60 wi_M_grow ws_M_grow d_M_greatest_41 (Nat.le_of_ble_eq_true rfl) rfl (fun x_41 hx_41 => ?_)
        have hV2 := MV_MU hx_32 hx_41
        rw [un_eq, un_un] at hV2
        refine z_aload_n h d_M_greatest_44 rfl ?_
        refine z_bipush (v := nI 9) h d_M_greatest_45 (by decide) ?_
        refine z_lload h d_M_greatest_47 rfl ?_
        refine z_lconst (v := lN 0) h d_M_greatest_49 (by decide) ?_
        refine z_cM h (ms_M_grow x_41.1 x_41.2 (un V 9 (1 * V 8 + m)) lf G 9 m 0 (by decide) hV2.1 (hV2.2 9 (by decide)) (by omega) (by omega) (by rw [un_eq]; exact hcap.2)) (zf_M_grow (by decide)) wm_M_60 wi_M_grow ws_M_grow d_M_greatest_50 (Nat.le_of_ble_eq_true rfl) rfl (fun x_50 hx_50 => ?_)
        have hV3 := MV_MU hV2 hx_50
        rw [un_eq, un_un, Nat.add_zero, Nat.one_mul] at hV3
        refine z_aload_n h d_M_greatest_53 rfl ?_
        refine z_bipush (v := nI 9) h d_M_greatest_54 (by decide) ?_
        refine z_bipush (v := nI 7) h d_M_greatest_56 (by decide) ?_
        refine z_cM h (ms_M_order x_50.1 x_50.2 (un V 9 (m * (V 8 + m))) lf G 9 7 (by decide) (by decide) hV3.1 (hV3.2 9 (by decide)) (hV3.2 7 (by decide))) (zf_M_order (by decide)) wm_M_67 wi_M_order ws_M_order d_M_greatest_58 (Nat.le_of_ble_eq_true rfl) rfl (fun x_58 hx_58 => ?_)
        rw [un_eq, un_ne (by decide)]
        by_cases q : m ≤ t
        · have e1 : m * (V 8 + m) ≤ V 7 := Nat.le_trans (sq_mono q) ht1
          have e2 : ¬ 0 < ordI (m * (V 8 + m)) (V 7) := by
            unfold ordI
            by_cases q5 : m * (V 8 + m) < V 7
            · rw [if_pos q5]; decide
            · rw [if_neg q5, if_pos (by omega)]; decide
          refine z_if_gt (tgt := 71) h d_M_greatest_61 (by decide) (fun c_61 => ?_) (fun c_61 => ?_)
          · exact absurd c_61 e2
          · refine z_lload h d_M_greatest_64 rfl ?_
            refine z_lstore h d_M_greatest_66 (by decide) ?_
            refine z_goto (tgt := 77) h d_M_greatest_68 (by decide) ?_
            refine z_goto (tgt := 6) h d_M_greatest_77 (by decide) ?_
            exact z_lv h rfl (ih m g _ x_50.1 x_50.2 (by omega) q q2 q3 hV3)
        · have e1 : V 7 < m * (V 8 + m) := Nat.lt_of_lt_of_le ht2 (sq_mono (by omega))
          have e2 : ordI (m * (V 8 + m)) (V 7) = 1 := by
            unfold ordI
            rw [if_neg (by omega), if_neg (by omega)]
          rw [e2]
          refine z_if_gt (tgt := 71) h d_M_greatest_61 (by decide) (fun c_61 => ?_) (fun c_61 => ?_)
          · refine z_lload h d_M_greatest_71 rfl ?_
            refine z_lconst (v := lN 1) h d_M_greatest_73 (by decide) ?_
            refine z_lsubN h d_M_greatest_74 (by omega) ?_
            refine z_lstore h d_M_greatest_75 (by decide) ?_
            refine z_goto (tgt := 6) h d_M_greatest_77 (by decide) ?_
            exact z_lv h rfl (ih l (m - 1) _ x_50.1 x_50.2 (by omega) q1 (by omega) (by omega) hV3)
          · exact absurd (by decide) c_61
  refine z_lload_n h d_M_greatest_0 rfl ?_
  refine z_lstore h d_M_greatest_1 (by decide) ?_
  refine z_lload_n h d_M_greatest_3 rfl ?_
  refine z_lstore h d_M_greatest_4 (by decide) ?_
  have hV0 : MV d n (un V 9 (V 9)) := by rw [un_self]; exact hM
  exact z_lv h rfl (L (hi - lo) lo hi (V 9) d n (Nat.le_refl _) h1 h2 h3 hV0)
