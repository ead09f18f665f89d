/-! DigitMill$Whole: assign, zero, order, increase -/
set_option maxRecDepth 100000 in
set_option maxHeartbeats 4000000 in
theorem ms_H_assign (N s v : Nat) (a : Nat → Nat) (hN : 3 ≤ N ∧ N < 2 ^ 31) (ha : ∀ j, a j < 1073741824) (hv : v < 2 ^ 63) : MS y_H_assign c_H_assign 5 none (rm 1) [.ref 0, .long (lN v)] [wh 1 s, ar N a] (zP (X := (Nat → Nat) × Nat) (fun _ => none) (fun x => [wh 1 x.2, ar N x.1]) (fun x => Rp 1073741824 N x.1 x.2 v)) := by
  refine MS_of (own := R_H) (by decide) rfl (fun _ => Nat.le_of_ble_eq_true rfl) (fun Z h hr => ?_)
  have L : ∀ (m i r : Nat) (a' : Nat → Nat), i + m = 3 → r < 1073741824 ^ m → (∀ j, a' j < 1073741824) → v = nv 1073741824 a' i + r * 1073741824 ^ i → (i = 0 ∨ 1073741824 ^ (i - 1) ≤ v) → Z 0 0 [wh 1 i, ar N a'] [(0, .ref 0), (1, .long (lN v)), (3, .long (lN r))] 7 [] := by
    intro m
    induction m with
    | zero =>
      intro i r a' him hr0 hb hval htop
      have hr1 : r = 0 := by rw [Nat.pow_zero] at hr0; omega
      subst hr1
      refine z_lload_n h d_H_assign_7 rfl ?_
      refine z_lconst (v := lN 0) h d_H_assign_8 (by decide) ?_
      refine z_lcmp_leN (tgt := 58) h d_H_assign_9 d_H_assign_10 (by decide) (by omega) (fun c_9 => ?_) (fun c_9 => ?_)
      · refine hr.2.2.2.1 _ _ _ _ _ (Nat.le_refl _) (Nat.le_refl _) rfl d_H_assign_58 ?_
        exact ⟨(a', i), rfl, rfl, by omega, hb, by rw [Nat.zero_mul, Nat.add_zero] at hval; exact hval.symm, htop⟩
      · exact absurd c_9 (by omega)
    | succ m ih =>
      intro i r a' him hr0 hb hval htop
      have hrv : r ≤ v := by
        have : r * 1 ≤ r * 1073741824 ^ i := Nat.mul_le_mul_left _ (Nat.pow_pos (by decide))
        omega
      have hs_53 : r < 2 ^ 63 := by omega
      refine z_lload_n h d_H_assign_7 rfl ?_
      refine z_lconst (v := lN 0) h d_H_assign_8 (by decide) ?_
      refine z_lcmp_leN (tgt := 58) h d_H_assign_9 d_H_assign_10 (by decide) (by omega) (fun c_9 => ?_) (fun c_9 => ?_)
      · have hr1 : r = 0 := by omega
        subst hr1
        refine hr.2.2.2.1 _ _ _ _ _ (Nat.le_refl _) (Nat.le_refl _) rfl d_H_assign_58 ?_
        exact ⟨(a', i), rfl, rfl, by omega, hb, by rw [Nat.zero_mul, Nat.add_zero] at hval; exact hval.symm, htop⟩
      · refine z_aload_n h d_H_assign_13 rfl ?_
        refine z_get (C := R_H) (T := F_H) (N := 2) h 1 d_H_assign_14 in_H rfl (by decide) wf_H_15 rfl rfl ?_
        refine z_aload_n h d_H_assign_17 rfl ?_
        refine z_get (C := R_H) (T := F_H) (N := 2) h 0 d_H_assign_18 in_H rfl (by decide) wf_H_9 rfl rfl ?_
        refine z_alenN h d_H_assign_21 rfl ?_
        refine z_icmp_geN (tgt := 58) h d_H_assign_22 (by decide) (by omega) (fun c_22 => ?_) (fun c_22 => ?_)
        · exact absurd c_22 (by omega)
        · refine z_aload_n h d_H_assign_25 rfl ?_
          refine z_get (C := R_H) (T := F_H) (N := 2) h 0 d_H_assign_26 in_H rfl (by decide) wf_H_9 rfl rfl ?_
          refine z_aload_n h d_H_assign_29 rfl ?_
          refine z_get (C := R_H) (T := F_H) (N := 2) h 1 d_H_assign_30 in_H rfl (by decide) wf_H_15 rfl rfl ?_
          refine z_lload_n h d_H_assign_33 rfl ?_
          refine z_ldc2_w (v := lN 1073741823) h d_H_assign_34 wv_H_19 ?_
          refine z_land30N h d_H_assign_37 ?_
          refine z_l2iN h d_H_assign_38 ?_
          refine z_iastoreN h d_H_assign_39 rfl (by omega) ?_
          refine z_aload_n h d_H_assign_40 rfl ?_
          refine z_dup h d_H_assign_41 rfl ?_
          refine z_get (C := R_H) (T := F_H) (N := 2) h 1 d_H_assign_42 in_H rfl (by decide) wf_H_15 rfl rfl ?_
          refine z_iconst (v := nI 1) h d_H_assign_45 (by decide) ?_
          refine z_iaddN h d_H_assign_46 ?_
          refine z_put (C := R_H) (T := F_H) (N := 2) (ty := .int) h 1 d_H_assign_47 in_H rfl ft_H_ok n_H (by decide) wf_H_15 rfl rfl rfl rfl rfl (Nat.le_of_ble_eq_true rfl) ?_
          refine z_lload_n h d_H_assign_50 rfl ?_
          refine z_bipush (v := nI 30) h d_H_assign_51 (by decide) ?_
          refine z_lshr30N h d_H_assign_53 hs_53 ?_
          refine z_lstore_n h d_H_assign_54 (by decide) ?_
          refine z_goto (tgt := 7) h d_H_assign_55 (by decide) ?_
          refine z_lv (lv' := [(0, .ref 0), (1, .long (lN v)), (3, .long (lN (r / 1073741824)))]) h rfl ?_
          refine ih (i + 1) (r / 1073741824) (un a' i (r % 1073741824)) (by omega) ?_ (un_lt hb (by omega)) ?_ (Or.inr ?_)
          · rw [Nat.div_lt_iff_lt_mul (by decide), ← Nat.pow_succ]
            exact hr0
          · rw [nv_put, Nat.pow_succ, Nat.add_assoc, carry_step]
            exact hval
          · have : 1 * 1073741824 ^ i ≤ r * 1073741824 ^ i := Nat.mul_le_mul_right _ (by omega)
            rw [Nat.add_sub_cancel]
            omega
  refine z_aload_n h d_H_assign_0 rfl ?_
  refine z_iconst (v := nI 0) h d_H_assign_1 (by decide) ?_
  refine z_put (C := R_H) (T := F_H) (N := 2) (ty := .int) h 1 d_H_assign_2 in_H rfl ft_H_ok n_H (by decide) wf_H_15 rfl rfl rfl rfl rfl (Nat.le_of_ble_eq_true rfl) ?_
  refine z_lload_n h d_H_assign_5 rfl ?_
  refine z_lstore_n h d_H_assign_6 (by decide) ?_
  refine z_lv (lv' := [(0, .ref 0), (1, .long (lN v)), (3, .long (lN v))]) h rfl ?_
  exact L 3 0 v a rfl (by omega) ha (by simp [nv]) (Or.inl rfl)
set_option maxRecDepth 100000 in
set_option maxHeartbeats 4000000 in
theorem ms_JA_rangeCheck (N p q : Nat) (h1 : p ≤ q) (h2 : q ≤ N) (hN : N < 2 ^ 31) (w : List va_E) : MS y_JA_rangeCheck c_JA_rangeCheck 3 none (rm 1) [.int (nI N), .int (nI p), .int (nI q)] w (zP (X := Unit) (fun _ => none) (fun _ => w) (fun _ => True)) := by
  refine MS_of (own := "java/util/Arrays") (by decide) rfl (fun _ => Nat.le_of_ble_eq_true rfl) (fun Z h hr => ?_)
  refine z_iload_n h d_JA_rangeCheck_0 rfl ?_
  refine z_iload_n h d_JA_rangeCheck_1 rfl ?_
  refine z_icmp_leN (tgt := 46) h d_JA_rangeCheck_2 (by decide) (by omega) (fun c_2 => ?_) (fun c_2 => ?_)
  · refine z_iload_n h d_JA_rangeCheck_46 rfl ?_
    refine z_if_ge (tgt := 59) h d_JA_rangeCheck_47 (by decide) (fun c_47 => ?_) (fun c_47 => ?_)
    · refine z_iload_n h d_JA_rangeCheck_59 rfl ?_
      refine z_iload_n h d_JA_rangeCheck_60 rfl ?_
      refine z_icmp_leN (tgt := 73) h d_JA_rangeCheck_61 (by decide) (by omega) (fun c_61 => ?_) (fun c_61 => ?_)
      · refine hr.2.2.2.1 _ _ _ _ _ (Nat.le_refl _) (Nat.le_refl _) rfl d_JA_rangeCheck_73 ?_
        exact ⟨(), rfl, rfl, trivial⟩
      · exact absurd c_61 (by omega)
    · exact absurd (nI_pos' (by omega)) c_47
  · exact absurd c_2 (by omega)
set_option maxRecDepth 100000 in
set_option maxHeartbeats 4000000 in
theorem ms_JA_fillI (N p q x : Nat) (a : Nat → Nat) (h1 : p ≤ q) (h2 : q ≤ N) (hN : N < 2 ^ 31) : MS y_JA_fillI c_JA_fillI 5 none (rm 2) [.ref 0, .int (nI p), .int (nI q), .int (nI x)] [ar N a] (zP (X := Unit) (fun _ => none) (fun _ => [ar N (fil a p q x)]) (fun _ => True)) := by
  refine MS_of (own := "java/util/Arrays") (by decide) rfl (fun _ => Nat.le_of_ble_eq_true rfl) (fun Z h hr => ?_)
  have L : ∀ (m i : Nat), i + m = q → p ≤ i → Z 0 0 [ar N (fil a p i x)] [(0, .ref 0), (1, .int (nI p)), (2, .int (nI q)), (3, .int (nI x)), (4, .int (nI i))] 10 [] := by
    intro m
    induction m with
    | zero =>
      intro i him hi
      obtain rfl : i = q := by omega
      refine z_iload h d_JA_fillI_10 rfl ?_
      refine z_iload_n h d_JA_fillI_12 rfl ?_
      refine z_icmp_geN (tgt := 27) h d_JA_fillI_13 (by decide) (by omega) (fun c_13 => ?_) (fun c_13 => ?_)
      · refine hr.2.2.2.1 _ _ _ _ _ (Nat.le_refl _) (Nat.le_refl _) rfl d_JA_fillI_27 ?_
        exact ⟨(), rfl, rfl, trivial⟩
      · exact absurd c_13 (by omega)
    | succ m ih =>
      intro i him hi
      refine z_iload h d_JA_fillI_10 rfl ?_
      refine z_iload_n h d_JA_fillI_12 rfl ?_
      refine z_icmp_geN (tgt := 27) h d_JA_fillI_13 (by decide) (by omega) (fun c_13 => ?_) (fun c_13 => ?_)
      · exact absurd c_13 (by omega)
      · refine z_aload_n h d_JA_fillI_16 rfl ?_
        refine z_iload h d_JA_fillI_17 rfl ?_
        refine z_iload_n h d_JA_fillI_19 rfl ?_
        refine z_iastoreN h d_JA_fillI_20 rfl (by omega) ?_
        refine z_iincN h 1 d_JA_fillI_21 rfl (by decide) (by decide) ?_
        refine z_goto (tgt := 10) h d_JA_fillI_24 (by decide) ?_
        refine z_lv (lv' := [(0, .ref 0), (1, .int (nI p)), (2, .int (nI q)), (3, .int (nI x)), (4, .int (nI (i + 1)))]) h rfl ?_
        refine z_w (w' := [ar N (fil a p (i + 1) x)]) ?_ (ih (i + 1) (by omega) (by omega))
        rw [← un_fil hi]
        rfl
  refine z_aload_n h d_JA_fillI_0 rfl ?_
  refine z_alenN h d_JA_fillI_1 rfl ?_
  refine z_iload_n h d_JA_fillI_2 rfl ?_
  refine z_iload_n h d_JA_fillI_3 rfl ?_
  refine z_cS h (ms_JA_rangeCheck N p q h1 h2 hN []) (zf_JA_rangeCheck (by decide)) wm_JA_13 wt_JA_rangeCheck d_JA_fillI_4 [] (by decide) rfl (Nat.le_of_ble_eq_true rfl) rfl (fun _ => rfl) (fun x_4 hx_4 => ?_)
  refine z_iload_n h d_JA_fillI_7 rfl ?_
  refine z_istore h d_JA_fillI_8 (by decide) ?_
  refine z_lv (lv' := [(0, .ref 0), (1, .int (nI p)), (2, .int (nI q)), (3, .int (nI x)), (4, .int (nI p))]) h rfl ?_
  refine z_w (w' := [ar N (fil a p p x)]) ?_ (L (q - p) p (by omega) (Nat.le_refl p))
  rw [fil_0]
  rfl
set_option maxRecDepth 100000 in
set_option maxHeartbeats 4000000 in
theorem ms_H_zero (N s t : Nat) (a : Nat → Nat) (hN : N < 2 ^ 31) (ht : t ≤ N) : MS y_H_zero c_H_zero 2 none (rm 3) [.ref 0, .int (nI t)] [wh 1 s, ar N a] (zP (X := Unit) (fun _ => none) (fun _ => [wh 1 t, ar N (fil a 0 t 0)]) (fun _ => True)) := by
  refine MS_of (own := R_H) (by decide) rfl (fun _ => Nat.le_of_ble_eq_true rfl) (fun Z h hr => ?_)
  have e : min t N = t := by omega
  refine z_aload_n h d_H_zero_0 rfl ?_
  refine z_iload_n h d_H_zero_1 rfl ?_
  refine z_aload_n h d_H_zero_2 rfl ?_
  refine z_get (C := R_H) (T := F_H) (N := 2) h 0 d_H_zero_3 in_H rfl (by decide) wf_H_9 rfl rfl ?_
  refine z_alenN h d_H_zero_6 rfl ?_
  refine z_mminN h d_H_zero_7 wq_H_25 (by decide) (Nat.le_of_ble_eq_true rfl) (by decide) (by decide) (by omega) ?_
  rw [e]
  refine z_put (C := R_H) (T := F_H) (N := 2) (ty := .int) h 1 d_H_zero_10 in_H rfl ft_H_ok n_H (by decide) wf_H_15 rfl rfl rfl rfl rfl (Nat.le_of_ble_eq_true rfl) ?_
  refine z_aload_n h d_H_zero_13 rfl ?_
  refine z_get (C := R_H) (T := F_H) (N := 2) h 0 d_H_zero_14 in_H rfl (by decide) wf_H_9 rfl rfl ?_
  refine z_iconst (v := nI 0) h d_H_zero_17 (by decide) ?_
  refine z_aload_n h d_H_zero_18 rfl ?_
  refine z_get (C := R_H) (T := F_H) (N := 2) h 1 d_H_zero_19 in_H rfl (by decide) wf_H_15 rfl rfl ?_
  refine z_iconst (v := nI 0) h d_H_zero_22 (by decide) ?_
  refine z_cS h (ms_JA_fillI N 0 t 0 a (Nat.zero_le t) ht hN) (zf_JA_fillI (by decide)) wm_H_69 wt_JA_fillI d_H_zero_23 [1] (by decide) rfl (Nat.le_of_ble_eq_true rfl) rfl (fun _ => rfl) (fun x_23 hx_23 => ?_)
  refine hr.2.2.2.1 _ _ _ _ _ (Nat.le_refl _) (Nat.le_refl _) rfl d_H_zero_26 ?_
  exact ⟨(), rfl, rfl, trivial⟩
set_option maxRecDepth 100000 in
set_option maxHeartbeats 4000000 in
/-- -1, 0 or 1 -/
theorem ms_H_order (N s M t v u : Nat) (a b : Nat → Nat) (hN : N < 2 ^ 31) (hM : M < 2 ^ 31) (ha : Rp 1073741824 N a s v) (hb : Rp 1073741824 M b t u) : MS y_H_order c_H_order 3 (some .int) (rm 1) [.ref 0, .ref 2] [wh 1 s, ar N a, wh 3 t, ar M b] (zP (X := Unit) (fun _ => some (.int (ordI v u))) (fun _ => [wh 1 s, ar N a, wh 3 t, ar M b]) (fun _ => True)) := by
  refine MS_of (own := R_H) (by decide) rfl (fun _ => Nat.le_of_ble_eq_true rfl) (fun Z h hr => ?_)
  have hs := ha.1
  have ht := hb.1
  refine z_aload_n h d_H_order_0 rfl ?_
  refine z_get (C := R_H) (T := F_H) (N := 2) h 1 d_H_order_1 in_H rfl (by decide) wf_H_15 rfl rfl ?_
  refine z_aload_n h d_H_order_4 rfl ?_
  refine z_get (C := R_H) (T := F_H) (N := 2) h 1 d_H_order_5 in_H rfl (by decide) wf_H_15 rfl rfl ?_
  refine z_icmp_eqN (tgt := 28) h d_H_order_8 (by decide) (by omega) (fun c_8 => ?_) (fun c_8 => ?_)
  · obtain rfl : s = t := c_8
    have L : ∀ i, i ≤ s → (∀ j, i ≤ j → j < s → a j = b j) → Z 0 0 [wh 1 s, ar N a, wh 3 s, ar M b] [(0, .ref 0), (1, .ref 2), (2, .int (nI i - 1))] 35 [] := by
      intro i
      induction i with
      | zero =>
        intro _ hj
        refine z_iload_n h d_H_order_35 rfl ?_
        refine z_if_ltD (tgt := 81) h d_H_order_36 (by decide) (by omega) (fun c_36 => ?_) (fun y_36 c_36 => ?_)
        · refine z_iconst (v := nI 0) h d_H_order_81 (by decide) ?_
          refine hr.1 _ _ _ _ _ _ (Nat.le_refl _) (Nat.le_refl _) rfl d_H_order_82 ?_
          have e : v = u := by rw [← ha.2.2.1, ← hb.2.2.1]; exact nv_congr fun j q => hj j (Nat.zero_le j) q
          exact ⟨(), by rw [ordI, if_neg (by omega), if_pos e]; rfl, rfl, trivial⟩
        · exact absurd c_36 (by omega)
      | succ i ih =>
        intro hi hj
        have e0 : nI (i + 1) - 1 = nI i := nI_pred i
        have hai := ha.2.1 i
        have hbi := hb.2.1 i
        refine z_iload_n h d_H_order_35 rfl ?_
        refine z_if_ltD (tgt := 81) h d_H_order_36 (by decide) (by omega) (fun c_36 => ?_) (fun y_36 c_36 => ?_)
        · exact absurd c_36 (by omega)
        · rw [e0]
          refine z_aload_n h d_H_order_39 rfl ?_
          refine z_get (C := R_H) (T := F_H) (N := 2) h 0 d_H_order_40 in_H rfl (by decide) wf_H_9 rfl rfl ?_
          refine z_iload_n h d_H_order_43 rfl ?_
          refine z_ialoadN h d_H_order_44 rfl (by omega) ?_
          refine z_aload_n h d_H_order_45 rfl ?_
          refine z_get (C := R_H) (T := F_H) (N := 2) h 0 d_H_order_46 in_H rfl (by decide) wf_H_9 rfl rfl ?_
          refine z_iload_n h d_H_order_49 rfl ?_
          refine z_ialoadN h d_H_order_50 rfl (by omega) ?_
          refine z_icmp_eqN (tgt := 75) h d_H_order_51 (by decide) (by omega) (fun c_51 => ?_) (fun c_51 => ?_)
          · rw [← e0]
            refine z_iincD h d_H_order_75 rfl (by decide) ?_
            refine z_goto (tgt := 35) h d_H_order_78 (by decide) ?_
            refine z_lv (lv' := [(0, .ref 0), (1, .ref 2), (2, .int (nI i - 1))]) h rfl (ih (by omega) (fun j q1 q2 => ?_))
            by_cases e : j = i
            · rw [e]; exact c_51
            · exact hj j (by omega) q2
          · refine z_aload_n h d_H_order_54 rfl ?_
            refine z_get (C := R_H) (T := F_H) (N := 2) h 0 d_H_order_55 in_H rfl (by decide) wf_H_9 rfl rfl ?_
            refine z_iload_n h d_H_order_58 rfl ?_
            refine z_ialoadN h d_H_order_59 rfl (by omega) ?_
            refine z_aload_n h d_H_order_60 rfl ?_
            refine z_get (C := R_H) (T := F_H) (N := 2) h 0 d_H_order_61 in_H rfl (by decide) wf_H_9 rfl rfl ?_
            refine z_iload_n h d_H_order_64 rfl ?_
            refine z_ialoadN h d_H_order_65 rfl (by omega) ?_
            refine z_icmp_geN (tgt := 73) h d_H_order_66 (by decide) (by omega) (fun c_66 => ?_) (fun c_66 => ?_)
            · refine z_iconst (v := nI 1) h d_H_order_73 (by decide) ?_
              refine hr.1 _ _ _ _ _ _ (Nat.le_refl _) (Nat.le_refl _) rfl d_H_order_74 ?_
              have e : u < v := by rw [← ha.2.2.1, ← hb.2.2.1]; exact nv_cmp (i := i) hb.2.1 (by omega) (by omega) (fun j q1 q2 => (hj j (by omega) q2).symm)
              exact ⟨(), by rw [ordI, if_neg (by omega), if_neg (by omega)]; rfl, rfl, trivial⟩
            · refine z_iconst (v := (-1)) h d_H_order_69 (by decide) ?_
              refine z_goto (tgt := 74) h d_H_order_70 (by decide) ?_
              refine hr.1 _ _ _ _ _ _ (Nat.le_refl _) (Nat.le_refl _) rfl d_H_order_74 ?_
              have e : v < u := by rw [← ha.2.2.1, ← hb.2.2.1]; exact nv_cmp ha.2.1 c_66 (by omega) (fun j q1 q2 => hj j (by omega) q2)
              exact ⟨(), by rw [ordI, if_pos e], rfl, trivial⟩
    refine z_aload_n h d_H_order_28 rfl ?_
    refine z_get (C := R_H) (T := F_H) (N := 2) h 1 d_H_order_29 in_H rfl (by decide) wf_H_15 rfl rfl ?_
    refine z_iconst (v := 1) h d_H_order_32 (by decide) ?_
    refine z_isub h d_H_order_33 ?_
    refine z_istore_n h d_H_order_34 (by decide) ?_
    refine z_lv (lv' := [(0, .ref 0), (1, .ref 2), (2, .int (nI s - 1))]) h rfl (L s (Nat.le_refl s) (fun j q1 q2 => absurd q1 (by omega)))
  · refine z_aload_n h d_H_order_11 rfl ?_
    refine z_get (C := R_H) (T := F_H) (N := 2) h 1 d_H_order_12 in_H rfl (by decide) wf_H_15 rfl rfl ?_
    refine z_aload_n h d_H_order_15 rfl ?_
    refine z_get (C := R_H) (T := F_H) (N := 2) h 1 d_H_order_16 in_H rfl (by decide) wf_H_15 rfl rfl ?_
    refine z_icmp_geN (tgt := 26) h d_H_order_19 (by decide) (by omega) (fun c_19 => ?_) (fun c_19 => ?_)
    · refine z_iconst (v := nI 1) h d_H_order_26 (by decide) ?_
      refine hr.1 _ _ _ _ _ _ (Nat.le_refl _) (Nat.le_refl _) rfl d_H_order_27 ?_
      have e : u < v := Rp_size (by decide) hb ha (by omega)
      exact ⟨(), by rw [ordI, if_neg (by omega), if_neg (by omega)]; rfl, rfl, trivial⟩
    · refine z_iconst (v := (-1)) h d_H_order_22 (by decide) ?_
      refine z_goto (tgt := 27) h d_H_order_23 (by decide) ?_
      refine hr.1 _ _ _ _ _ _ (Nat.le_refl _) (Nat.le_refl _) rfl d_H_order_27 ?_
      have e : v < u := Rp_size (by decide) ha hb (by omega)
      exact ⟨(), by rw [ordI, if_pos e], rfl, trivial⟩
set_option maxRecDepth 100000 in
set_option maxHeartbeats 4000000 in
theorem ms_H_increase (N s M t v u : Nat) (a b : Nat → Nat) (hN : N < 2 ^ 31) (hM : M < 2 ^ 31) (ha : Rp 1073741824 N a s v) (hb : Rp 1073741824 M b t u) (ht : t ≤ N) (hv : v + u < 1073741824 ^ N) : MS y_H_increase c_H_increase 6 none (rm 2) [.ref 0, .ref 2] [wh 1 s, ar N a, wh 3 t, ar M b] (zP (X := (Nat → Nat) × Nat) (fun _ => none) (fun x => [wh 1 x.2, ar N x.1, wh 3 t, ar M b]) (fun x => Rp 1073741824 N x.1 x.2 (v + u))) := by
  refine MS_of (own := R_H) (by decide) rfl (fun _ => Nat.le_of_ble_eq_true rfl) (fun Z h hr => ?_)
  obtain ⟨hs, ha1, ha2, ha3⟩ := ha
  obtain ⟨ht1, hb1, hb2, hb3⟩ := hb
  have e : min (max s t) N = max s t := by omega
  have L : ∀ (m i c : Nat) (a' : Nat → Nat), i + m = max s t → (∀ j, a' j < 1073741824) → (∀ j, i ≤ j → a' j = a j) → c ≤ 1 → nv 1073741824 a' i + c * 1073741824 ^ i = nv 1073741824 (lim a s) i + nv 1073741824 (lim b t) i → Z 0 0 [wh 1 s, ar N a', wh 3 t, ar M b] [(0, .ref 0), (1, .ref 2), (2, .int (nI (max s t))), (3, .int (nI c)), (4, .int (nI i))] 25 [] := by
    intro m
    induction m with
    | zero =>
      intro i c a' him hb' hj hc hval
      obtain rfl : i = max s t := by omega
      rw [lim_nv (by omega), lim_nv (by omega), ha2, hb2] at hval
      refine z_iload h d_H_increase_25 rfl ?_
      refine z_iload_n h d_H_increase_27 rfl ?_
      refine z_icmp_geN (tgt := 72) h d_H_increase_28 (by decide) (by omega) (fun c_28 => ?_) (fun c_28 => ?_)
      · refine z_aload_n h d_H_increase_72 rfl ?_
        refine z_iload_n h d_H_increase_73 rfl ?_
        refine z_put (C := R_H) (T := F_H) (N := 2) (ty := .int) h 1 d_H_increase_74 in_H rfl ft_H_ok n_H (by decide) wf_H_15 rfl rfl rfl rfl rfl (Nat.le_of_ble_eq_true rfl) ?_
        refine z_aload_n h d_H_increase_77 rfl ?_
        refine z_iload_n h d_H_increase_78 rfl ?_
        refine z_cV (C := R_H) (ci := 3) h (ms_H_append N (max s t) c a' hN (by omega) (by omega)) (zf_H_append (by decide)) wm_H_51 wi_H_append ws_H_append rfl ⟨_, rfl⟩ d_H_increase_79 [0, 1] (by decide) rfl (Nat.le_of_ble_eq_true rfl) rfl (fun _ => rfl) (fun x_79 hx_79 => ?_)
        refine hr.2.2.2.1 _ _ _ _ _ (Nat.le_refl _) (Nat.le_refl _) rfl d_H_increase_82 ?_
        by_cases hc0 : c = 0 ∨ N ≤ max s t
        · have hc1 : c = 0 := by
            rcases hc0 with e | e
            · exact e
            · rcases Nat.eq_zero_or_pos c with e2 | e2
              · exact e2
              · have e3 : max s t = N := by omega
                have e4 : 1 * 1073741824 ^ (max s t) ≤ c * 1073741824 ^ (max s t) := Nat.mul_le_mul_right _ e2
                rw [e3] at e4 hval
                omega
          refine ⟨(a', max s t), rfl, by rw [if_pos hc0, if_pos hc0]; rfl, by omega, hb', by rw [hc1, Nat.zero_mul] at hval; exact hval, ?_⟩
          show max s t = 0 ∨ 1073741824 ^ (max s t - 1) ≤ v + u
          rcases Nat.le_total s t with q | q
          · rw [Nat.max_eq_right q]
            rcases hb3 with e | e
            · exact Or.inl e
            · exact Or.inr (Nat.le_trans e (by omega))
          · rw [Nat.max_eq_left q]
            rcases ha3 with e | e
            · exact Or.inl e
            · exact Or.inr (Nat.le_trans e (by omega))
        · refine ⟨(un a' (max s t) c, max s t + 1), rfl, by rw [if_neg hc0, if_neg hc0]; rfl, by omega, un_lt hb' (by omega), by rw [nv_put]; exact hval, Or.inr ?_⟩
          have e4 : 1 * 1073741824 ^ (max s t) ≤ c * 1073741824 ^ (max s t) := Nat.mul_le_mul_right _ (by omega)
          show 1073741824 ^ (max s t + 1 - 1) ≤ v + u
          rw [Nat.add_sub_cancel]
          omega
      · exact absurd c_28 (by omega)
    | succ m ih =>
      intro i c a' him hb' hj hc hval
      have hla : (if i < s then a' i else 0) = lim a s i := by rw [hj i (Nat.le_refl i)]; rfl
      have hlb : (if i < t then b i else 0) = lim b t i := rfl
      have h1 := lim_lt (s := s) (by decide) ha1 i
      have h2 := lim_lt (s := t) (by decide) hb1 i
      have hs_64 : lim a s i + lim b t i + c < 2 ^ 31 := by omega
      refine z_iload h d_H_increase_25 rfl ?_
      refine z_iload_n h d_H_increase_27 rfl ?_
      refine z_icmp_geN (tgt := 72) h d_H_increase_28 (by decide) (by omega) (fun c_28 => ?_) (fun c_28 => ?_)
      · exact absurd c_28 (by omega)
      · refine z_aload_n h d_H_increase_31 rfl ?_
        refine z_iload h d_H_increase_32 rfl ?_
        refine z_cV (C := R_H) (ci := 3) h (ms_H_limbAt N s i a' hN hs (by omega)) (zf_H_limbAt (by decide)) wm_H_47 wi_H_limbAt ws_H_limbAt rfl ⟨_, rfl⟩ d_H_increase_34 [0, 1] (by decide) rfl (Nat.le_of_ble_eq_true rfl) rfl (fun _ => rfl) (fun x_34 hx_34 => ?_)
        rw [hla]
        refine z_aload_n h d_H_increase_37 rfl ?_
        refine z_iload h d_H_increase_38 rfl ?_
        refine z_cV (C := R_H) (ci := 3) h (ms_H_limbAt M t i b hM ht1 (by omega)) (zf_H_limbAt (by decide)) wm_H_47 wi_H_limbAt ws_H_limbAt rfl ⟨_, rfl⟩ d_H_increase_40 [2, 3] (by decide) rfl (Nat.le_of_ble_eq_true rfl) rfl (fun _ => rfl) (fun x_40 hx_40 => ?_)
        rw [hlb]
        refine z_iaddN h d_H_increase_43 ?_
        refine z_iload_n h d_H_increase_44 rfl ?_
        refine z_iaddN h d_H_increase_45 ?_
        refine z_istore h d_H_increase_46 (by decide) ?_
        refine z_aload_n h d_H_increase_48 rfl ?_
        refine z_get (C := R_H) (T := F_H) (N := 2) h 0 d_H_increase_49 in_H rfl (by decide) wf_H_9 rfl rfl ?_
        refine z_iload h d_H_increase_52 rfl ?_
        refine z_iload h d_H_increase_54 rfl ?_
        refine z_ldc (v := nI 1073741823) h d_H_increase_56 wv_H_50 ?_
        refine z_iand30N h d_H_increase_58 ?_
        refine z_iastoreN h d_H_increase_59 rfl (by omega) ?_
        refine z_iload h d_H_increase_60 rfl ?_
        refine z_bipush (v := nI 30) h d_H_increase_62 (by decide) ?_
        refine z_ishr30N h d_H_increase_64 hs_64 ?_
        refine z_istore_n h d_H_increase_65 (by decide) ?_
        refine z_iincN h 1 d_H_increase_66 rfl (by decide) (by decide) ?_
        refine z_goto (tgt := 25) h d_H_increase_69 (by decide) ?_
        refine z_lv (lv' := [(0, .ref 0), (1, .ref 2), (2, .int (nI (max s t))), (3, .int (nI ((lim a s i + lim b t i + c) / 1073741824))), (4, .int (nI (i + 1)))]) h rfl ?_
        refine ih (i + 1) ((lim a s i + lim b t i + c) / 1073741824) (un a' i ((lim a s i + lim b t i + c) % 1073741824)) (by omega) (un_lt hb' (by omega)) (fun j hj2 => by rw [un_ne (by omega)]; exact hj j (by omega)) (by omega) ?_
        rw [nv_put, nv_s, nv_s, Nat.pow_succ, Nat.add_assoc, carry_step]
        exact add_step hval
  refine z_aload_n h d_H_increase_0 rfl ?_
  refine z_get (C := R_H) (T := F_H) (N := 2) h 1 d_H_increase_1 in_H rfl (by decide) wf_H_15 rfl rfl ?_
  refine z_aload_n h d_H_increase_4 rfl ?_
  refine z_get (C := R_H) (T := F_H) (N := 2) h 1 d_H_increase_5 in_H rfl (by decide) wf_H_15 rfl rfl ?_
  refine z_mmaxN h d_H_increase_8 wq_H_44 (by decide) (Nat.le_of_ble_eq_true rfl) (by decide) (by decide) (by omega) ?_
  refine z_aload_n h d_H_increase_11 rfl ?_
  refine z_get (C := R_H) (T := F_H) (N := 2) h 0 d_H_increase_12 in_H rfl (by decide) wf_H_9 rfl rfl ?_
  refine z_alenN h d_H_increase_15 rfl ?_
  refine z_mminN h d_H_increase_16 wq_H_25 (by decide) (Nat.le_of_ble_eq_true rfl) (by decide) (by decide) (by omega) ?_
  rw [e]
  refine z_istore_n h d_H_increase_19 (by decide) ?_
  refine z_iconst (v := nI 0) h d_H_increase_20 (by decide) ?_
  refine z_istore_n h d_H_increase_21 (by decide) ?_
  refine z_iconst (v := nI 0) h d_H_increase_22 (by decide) ?_
  refine z_istore h d_H_increase_23 (by decide) ?_
  refine z_lv (lv' := [(0, .ref 0), (1, .ref 2), (2, .int (nI (max s t))), (3, .int (nI 0)), (4, .int (nI 0))]) h rfl ?_
  exact L (max s t) 0 0 a (by omega) ha1 (fun _ _ => rfl) (by omega) (by simp [nv])
