/-! DigitMillModel: grow, lower, lessTimes, length -/
theorem c31g {c x f : Nat} (hc : c ≤ 2147483648) (hx : x < 32768) (hf : f < 2147483648) : c + f * x < 2 ^ 63 ∧ f * x < 2 ^ 63 ∧ (c + f * x) / 32768 ≤ 2147483648 := by
  have e1 : f * x ≤ 2147483647 * 32767 := Nat.mul_le_mul (by omega) (by omega)
  generalize f * x = z at *
  omega
theorem gr_step {m c x f q P n1 : Nat} (h : m + c * P = f * n1 + q) : m + (c + f * x) * P = f * (n1 + x * P) + q := by grind
set_option maxRecDepth 100000 in
set_option maxHeartbeats 4000000 in
theorem ms_M_grow (d n V : Nat → Nat) (lf : Int64) (G : MG) (x f q : Nat) (hx : x < 10) (hd : ∀ j, d j < 32768) (hX : Rp 32768 2800 (sh d (2800 * x)) (n x) (V x)) (hf : f < 2147483648) (hq : q ≤ 2147483648) (hv : f * V x + q < capM) : MS y_M_grow c_M_grow 9 none (rm 2) [.ref 0, .int (nI x), .long (lN f), .long (lN q)] (mW d n lf G) (zP (X := (Nat → Nat) × (Nat → Nat)) (fun _ => none) (fun q => mW q.1 q.2 lf G) (fun p => MU x (f * V x + q) d n p.1 p.2)) := by
  refine MS_of (own := R_M) (by decide) rfl (fun _ => Nat.le_of_ble_eq_true rfl) (fun Z h hr => ?_)
  have hnx := hX.1
  have hX0 : ∀ j, lim (sh d (2800 * x)) (n x) j < 32768 := lim_lt (by decide) hX.2.1
  have hXv : ∀ m, n x ≤ m → nv 32768 (lim (sh d (2800 * x)) (n x)) m = V x := fun m hm => (lim_nv hm).trans hX.2.2.1
  have hXl : ∀ m, nv 32768 (lim (sh d (2800 * x)) (n x)) m ≤ V x := fun m => by
    rw [← hXv (max m (n x)) (Nat.le_max_right _ _)]
    exact nv_le (Nat.le_max_left _ _)
  have End : ∀ (k c m : Nat) (e : Nat → Nat), k ≤ 2800 → m = max (n x) k → n x ≤ k → (∀ j, e j < 32768) → (∀ j, (j < 2800 * x ∨ 2800 * x + k ≤ j) → e j = d j) → nv 32768 (sh e (2800 * x)) k + 0 * 32768 ^ k = f * nv 32768 (lim (sh d (2800 * x)) (n x)) k + q → Z 0 0 (mW e (un n x m) lf G) [(0, .ref 0), (1, .int (nI x)), (2, .long (lN f)), (4, .long (lN q)), (6, .long (lN c)), (8, .int (nI k))] 105 [] := by
    intro k c m e hk2 hm hxk he hk hn
    rw [Nat.zero_mul, Nat.add_zero, hXv k hxk] at hn
    obtain rfl : m = k := by omega
    refine z_aload_n h d_M_grow_105 rfl ?_
    refine z_iload_n h d_M_grow_106 rfl ?_
    refine z_cM h (ms_M_trim e n lf G x m hx (by omega) he) (zf_M_trim (by decide)) wm_M_38 wi_M_trim ws_M_trim d_M_grow_107 (Nat.le_of_ble_eq_true rfl) rfl (fun x_107 hx_107 => ?_)
    refine hr.2.2.2.1 _ _ _ _ _ (Nat.le_refl _) (Nat.le_refl _) rfl d_M_grow_110 ?_
    exact ⟨(e, un n x (trm (sh e (2800 * x)) m)), rfl, rfl, he, (fun j hj => hk j (by omega)), _, rfl, Rp_trm (by omega) (fun j => he _) hn⟩
  have L : ∀ (g k c m : Nat) (e : Nat → Nat), g + k = 2800 → m = max (n x) k → c ≤ 2147483648 → (∀ j, e j < 32768) → (∀ j, (j < 2800 * x ∨ 2800 * x + k ≤ j) → e j = d j) → nv 32768 (sh e (2800 * x)) k + c * 32768 ^ k = f * nv 32768 (lim (sh d (2800 * x)) (n x)) k + q → Z 0 0 (mW e (un n x m) lf G) [(0, .ref 0), (1, .int (nI x)), (2, .long (lN f)), (4, .long (lN q)), (6, .long (lN c)), (8, .int (nI k))] 7 [] := by
    intro g
    induction g with
    | zero =>
      intro k c m e hg hm hc he hk hn
      have hc0 : c = 0 := Nat.eq_zero_of_not_pos fun h0 => absurd (cap_lt hn (Nat.lt_of_le_of_lt (Nat.add_le_add_right (Nat.mul_le_mul_left f (hXl k)) q) hv) h0) (by omega)
      refine z_iload h d_M_grow_7 rfl ?_
      refine z_aload_n h d_M_grow_9 rfl ?_
      refine z_get (C := R_M) (T := F_M) (N := 10) h 1 d_M_grow_10 in_M rfl (by decide) wf_M_13 rfl rfl ?_
      refine z_iload_n h d_M_grow_13 rfl ?_
      refine z_ialoadN h d_M_grow_14 rfl (by omega) ?_
      rw [un_eq]
      refine z_icmp_ltN (tgt := 25) h d_M_grow_15 (by decide) (by omega) (fun c_15 => ?_) (fun c_15 => ?_)
      · exact absurd c_15 (by omega)
      · subst hc0
        refine z_lload h d_M_grow_18 rfl ?_
        refine z_lconst (v := lN 0) h d_M_grow_20 (by decide) ?_
        refine z_lcmp_leN (tgt := 105) h d_M_grow_21 d_M_grow_22 (by decide) (by omega) (fun c_21 => ?_) (fun c_21 => ?_)
        · exact End k 0 m e (by omega) hm (by omega) he hk hn
        · exact absurd c_21 (by omega)
    | succ g ih =>
      intro k c m e hg hm hc he hk hn
      have e1 : (if k < un n x m x then e (2800 * x + k) else 0) = lim (sh d (2800 * x)) (n x) k := by
        rw [un_eq]
        show _ = if k < n x then d (2800 * x + k) else 0
        by_cases q : k < n x
        · rw [if_pos q, if_pos (by omega), hk _ (by omega)]
        · rw [if_neg q, if_neg (by omega)]
      have q1 := hX0 k
      have hnk : f * nv 32768 (lim (sh d (2800 * x)) (n x)) (k + 1) + q = nv 32768 (sh e (2800 * x)) k + (c + f * lim (sh d (2800 * x)) (n x) k) * 32768 ^ k := (gr_step hn).symm
      have B : Z 0 0 (mW e (un n x m) lf G) [(0, .ref 0), (1, .int (nI x)), (2, .long (lN f)), (4, .long (lN q)), (6, .long (lN c)), (8, .int (nI k))] 25 [] := by
        refine z_lload h d_M_grow_25 rfl ?_
        refine z_lload_n h d_M_grow_27 rfl ?_
        refine z_aload_n h d_M_grow_28 rfl ?_
        refine z_iload_n h d_M_grow_29 rfl ?_
        refine z_iload h d_M_grow_30 rfl ?_
        refine z_cM h (ms_M_at e (un n x m) V lf G x k hx (by rw [un_eq]; omega) (by omega)) (zf_M_at (by decide)) wm_M_34 wi_M_at ws_M_at d_M_grow_32 (Nat.le_of_ble_eq_true rfl) rfl (fun x_32 hx_32 => ?_)
        rw [e1]
        generalize hxk : lim (sh d (2800 * x)) (n x) k = xk at *
        obtain ⟨b1, b2, b3⟩ := c31g hc q1 hf
        have hs_96 := b1
        have b4 : (c + f * xk) % 32768 < 32768 := Nat.mod_lt _ (by decide)
        have b5 : nv 32768 (sh (un e (2800 * x + k) ((c + f * xk) % 32768)) (2800 * x)) (k + 1) + (c + f * xk) / 32768 * 32768 ^ (k + 1) = f * nv 32768 (lim (sh d (2800 * x)) (n x)) (k + 1) + q := by
          rw [hnk, sh_un, nv_put, Nat.add_assoc, Nat.pow_succ, carry_step]
        clear hnk hn
        refine z_i2lN h d_M_grow_35 (by omega) ?_
        refine z_lmulN h d_M_grow_36 ?_
        refine z_laddN h d_M_grow_37 ?_
        generalize c + f * xk = c2 at *
        have K : Z 0 0 (mW (un e (2800 * x + k) (c2 % 32768)) (un n x (max (n x) (k + 1))) lf G) [(0, .ref 0), (1, .int (nI x)), (2, .long (lN f)), (4, .long (lN q)), (6, .long (lN c2)), (8, .int (nI k))] 92 [] := by
          refine z_lload h d_M_grow_92 rfl ?_
          refine z_bipush (v := nI 15) h d_M_grow_94 (by decide) ?_
          refine z_lshr15N h d_M_grow_96 hs_96 ?_
          refine z_lstore h d_M_grow_97 (by decide) ?_
          refine z_iincN h 1 d_M_grow_99 rfl (by decide) (by decide) ?_
          refine z_goto (tgt := 7) h d_M_grow_102 (by decide) ?_
          refine z_lv h rfl (ih (k + 1) (c2 / 32768) (max (n x) (k + 1)) (un e (2800 * x + k) (c2 % 32768)) (by omega) rfl b3 (un_lt he b4) (fun j hj => ?_) b5)
          rw [un_ne (by omega)]
          exact hk j (by omega)
        refine z_lstore h d_M_grow_38 (by decide) ?_
        refine z_aload_n h d_M_grow_40 rfl ?_
        refine z_get (C := R_M) (T := F_M) (N := 10) h 0 d_M_grow_41 in_M rfl (by decide) wf_M_7 rfl rfl ?_
        refine z_sipush (v := nI 2800) h d_M_grow_44 (by decide) ?_
        refine z_iload_n h d_M_grow_47 rfl ?_
        refine z_imulN h d_M_grow_48 ?_
        refine z_iload h d_M_grow_49 rfl ?_
        refine z_iaddN h d_M_grow_51 ?_
        refine z_lload h d_M_grow_52 rfl ?_
        refine z_ldc2_w (v := lN 32767) h d_M_grow_54 wv_M_32 ?_
        refine z_land15N h d_M_grow_57 ?_
        refine z_l2iN h d_M_grow_58 ?_
        refine z_iastoreN h d_M_grow_59 rfl (by omega) ?_
        refine z_aload_n h d_M_grow_60 rfl ?_
        refine z_get (C := R_M) (T := F_M) (N := 10) h 1 d_M_grow_61 in_M rfl (by decide) wf_M_13 rfl rfl ?_
        refine z_iload_n h d_M_grow_64 rfl ?_
        refine z_iload h d_M_grow_65 rfl ?_
        refine z_iconst (v := nI 1) h d_M_grow_67 (by decide) ?_
        refine z_iaddN h d_M_grow_68 ?_
        refine z_aload_n h d_M_grow_69 rfl ?_
        refine z_get (C := R_M) (T := F_M) (N := 10) h 1 d_M_grow_70 in_M rfl (by decide) wf_M_13 rfl rfl ?_
        refine z_iload_n h d_M_grow_73 rfl ?_
        refine z_ialoadN h d_M_grow_74 rfl (by omega) ?_
        rw [un_eq]
        refine z_icmp_leN (tgt := 85) h d_M_grow_75 (by decide) (by omega) (fun c_75 => ?_) (fun c_75 => ?_)
        · refine z_aload_n h d_M_grow_85 rfl ?_
          refine z_get (C := R_M) (T := F_M) (N := 10) h 1 d_M_grow_86 in_M rfl (by decide) wf_M_13 rfl rfl ?_
          refine z_iload_n h d_M_grow_89 rfl ?_
          refine z_ialoadN h d_M_grow_90 rfl (by omega) ?_
          rw [un_eq]
          refine z_iastoreN h d_M_grow_91 rfl (by omega) ?_
          rw [un_un, show m = max (n x) (k + 1) by omega]
          exact z_lv h rfl K
        · refine z_iload h d_M_grow_78 rfl ?_
          refine z_iconst (v := nI 1) h d_M_grow_80 (by decide) ?_
          refine z_iaddN h d_M_grow_81 ?_
          refine z_goto (tgt := 91) h d_M_grow_82 (by decide) ?_
          refine z_iastoreN h d_M_grow_91 rfl (by omega) ?_
          rw [un_un, show k + 1 = max (n x) (k + 1) by omega]
          exact z_lv h rfl K
      refine z_iload h d_M_grow_7 rfl ?_
      refine z_aload_n h d_M_grow_9 rfl ?_
      refine z_get (C := R_M) (T := F_M) (N := 10) h 1 d_M_grow_10 in_M rfl (by decide) wf_M_13 rfl rfl ?_
      refine z_iload_n h d_M_grow_13 rfl ?_
      refine z_ialoadN h d_M_grow_14 rfl (by omega) ?_
      rw [un_eq]
      refine z_icmp_ltN (tgt := 25) h d_M_grow_15 (by decide) (by omega) (fun c_15 => ?_) (fun c_15 => ?_)
      · exact B
      · refine z_lload h d_M_grow_18 rfl ?_
        refine z_lconst (v := lN 0) h d_M_grow_20 (by decide) ?_
        refine z_lcmp_leN (tgt := 105) h d_M_grow_21 d_M_grow_22 (by decide) (by omega) (fun c_21 => ?_) (fun c_21 => ?_)
        · obtain rfl : c = 0 := by omega
          exact End k 0 m e (by omega) hm (by omega) he hk hn
        · exact B
  refine z_lload h d_M_grow_0 rfl ?_
  refine z_lstore h d_M_grow_2 (by decide) ?_
  refine z_iconst (v := nI 0) h d_M_grow_4 (by decide) ?_
  refine z_istore h d_M_grow_5 (by decide) ?_
  have e0 := L 2800 0 q (n x) d rfl (by omega) hq hd (fun _ _ => rfl) (by show 0 + q * 1 = f * 0 + q; omega)
  rw [un_self] at e0
  exact z_lv h rfl e0
set_option maxRecDepth 100000 in
set_option maxHeartbeats 4000000 in
theorem ms_M_lower (d n V : Nat → Nat) (lf : Int64) (G : MG) (x f : Nat) (hx : x < 10) (hM : MV d n V) (hf0 : 0 < f) (hf1 : f < 140737488355328) : MS y_M_lower c_M_lower 7 none (rm 2) [.ref 0, .int (nI x), .long (lN f)] (mW d n lf G) (zP (X := (Nat → Nat) × (Nat → Nat)) (fun _ => none) (fun q => mW q.1 q.2 (lN (V x % f)) G) (fun q => MV q.1 q.2 (un V x (V x / f)))) := by
  refine MS_of (own := R_M) (by decide) rfl (fun _ => Nat.le_of_ble_eq_true rfl) (fun Z h hr => ?_)
  have hX := hM.2 x hx
  have hnx := hX.1
  have L : ∀ (i r H : Nat) (e : Nat → Nat), i ≤ n x → (∀ j, e j < 32768) → (∀ j, (j < 2800 * x + i ∨ 2800 * x + 2800 ≤ j) → e j = d j) → r < f → nv 32768 (sh e (2800 * x)) (n x) = nv 32768 (sh e (2800 * x)) i + H * 32768 ^ i → V x = H * f * 32768 ^ i + r * 32768 ^ i + nv 32768 (sh d (2800 * x)) i → Z 0 0 (mW e n lf G) [(0, .ref 0), (1, .int (nI x)), (2, .long (lN f)), (4, .long (lN r)), (6, .int (nI i - 1))] 13 [] := by
    intro i
    induction i with
    | zero =>
      intro r H e hi he hk hr0 e1 e2
      simp only [nv, Nat.pow_zero, Nat.mul_one, Nat.zero_add, Nat.add_zero] at e1 e2
      have e3 : V x / f = H := by rw [e2, Nat.mul_comm H f, Nat.mul_add_div hf0, Nat.div_eq_of_lt hr0, Nat.add_zero]
      have e4 : V x % f = r := by rw [e2, Nat.mul_comm H f, Nat.mul_add_mod, Nat.mod_eq_of_lt hr0]
      refine z_iload h d_M_lower_13 rfl ?_
      refine z_if_ltD (tgt := 64) h d_M_lower_15 (by decide) (by omega) (fun c_15 => ?_) (fun y_15 c_15 => ?_)
      · refine z_aload_n h d_M_lower_64 rfl ?_
        refine z_lload h d_M_lower_65 rfl ?_
        refine z_put (C := R_M) (T := F_M) (N := 10) (ty := .long) h 9 d_M_lower_67 in_M rfl ft_M_ok n_M (by decide) wf_M_42 rfl rfl rfl rfl rfl (Nat.le_of_ble_eq_true rfl) ?_
        have e5 := ms_M_trim e n (lN r) G x (n x) hx hnx he
        rw [un_self] at e5
        refine z_aload_n h d_M_lower_70 rfl ?_
        refine z_iload_n h d_M_lower_71 rfl ?_
        refine z_cM h (e5) (zf_M_trim (by decide)) wm_M_38 wi_M_trim ws_M_trim d_M_lower_72 (Nat.le_of_ble_eq_true rfl) rfl (fun x_72 hx_72 => ?_)
        refine hr.2.2.2.1 _ _ _ _ _ (Nat.le_refl _) (Nat.le_refl _) rfl d_M_lower_75 ?_
        refine ⟨(e, un n x (trm (sh e (2800 * x)) (n x))), rfl, by rw [e4], MV_upd hM he (fun j hj => hk j (by omega)) (Rp_trm hnx (fun j => he _) (by rw [e1, e3]))⟩
      · exact absurd c_15 (by omega)
    | succ i ih =>
      intro r H e hi he hk hr0 e1 e2
      have e0 : nI (i + 1) - 1 = nI i := nI_pred i
      have hei := he (2800 * x + i)
      have hde : e (2800 * x + i) = sh d (2800 * x) i := hk _ (by omega)
      refine z_iload h d_M_lower_13 rfl ?_
      refine z_if_ltD (tgt := 64) h d_M_lower_15 (by decide) (by omega) (fun c_15 => ?_) (fun y_15 c_15 => ?_)
      · exact absurd c_15 (by omega)
      · rw [e0]
        have hs_22 : r < 2 ^ 48 := by omega
        refine z_lload h d_M_lower_18 rfl ?_
        refine z_bipush (v := nI 15) h d_M_lower_20 (by decide) ?_
        refine z_lshl15N h d_M_lower_22 hs_22 ?_
        refine z_aload_n h d_M_lower_23 rfl ?_
        refine z_iload_n h d_M_lower_24 rfl ?_
        refine z_iload h d_M_lower_25 rfl ?_
        refine z_cM h (ms_M_at e n V lf G x i hx hnx (by omega)) (zf_M_at (by decide)) wm_M_34 wi_M_at ws_M_at d_M_lower_27 (Nat.le_of_ble_eq_true rfl) rfl (fun x_27 hx_27 => ?_)
        rw [if_pos (by omega)]
        generalize hxk : e (2800 * x + i) = xk at *
        have hs_49 : r * 32768 + xk < 2 ^ 63 ∧ 0 < f ∧ f < 2 ^ 63 := by omega
        have hs_55 := hs_49
        have hlt : (r * 32768 + xk) / f < 32768 := by
          rw [Nat.div_lt_iff_lt_mul hf0]
          have : (r + 1) * 32768 ≤ f * 32768 := Nat.mul_le_mul_right _ (by omega)
          omega
        have hmd := Nat.div_add_mod (r * 32768 + xk) f
        have hml := Nat.mod_lt (r * 32768 + xk) hf0
        refine z_i2lN h d_M_lower_30 (by omega) ?_
        refine z_laddN h d_M_lower_31 ?_
        refine z_lstore h d_M_lower_32 (by decide) ?_
        refine z_aload_n h d_M_lower_34 rfl ?_
        refine z_get (C := R_M) (T := F_M) (N := 10) h 0 d_M_lower_35 in_M rfl (by decide) wf_M_7 rfl rfl ?_
        refine z_sipush (v := nI 2800) h d_M_lower_38 (by decide) ?_
        refine z_iload_n h d_M_lower_41 rfl ?_
        refine z_imulN h d_M_lower_42 ?_
        refine z_iload h d_M_lower_43 rfl ?_
        refine z_iaddN h d_M_lower_45 ?_
        refine z_lload h d_M_lower_46 rfl ?_
        refine z_lload_n h d_M_lower_48 rfl ?_
        refine z_ldivN h d_M_lower_49 hs_49 ?_
        refine z_l2iN h d_M_lower_50 ?_
        refine z_iastoreN h d_M_lower_51 rfl (by omega) ?_
        refine z_lload h d_M_lower_52 rfl ?_
        refine z_lload_n h d_M_lower_54 rfl ?_
        refine z_lremN h d_M_lower_55 hs_55 ?_
        refine z_lstore h d_M_lower_56 (by decide) ?_
        rw [← e0]
        refine z_iincD h d_M_lower_58 rfl (by decide) ?_
        refine z_goto (tgt := 13) h d_M_lower_61 (by decide) ?_
        refine z_lv (lv' := [(0, .ref 0), (1, .int (nI x)), (2, .long (lN f)), (4, .long (lN ((r * 32768 + xk) % f))), (6, .int (nI i - 1))]) h rfl (ih ((r * 32768 + xk) % f) (H * 32768 + (r * 32768 + xk) / f) (un e (2800 * x + i) ((r * 32768 + xk) / f)) (by omega) (un_lt he hlt) (fun j hj => by rw [un_ne (by omega)]; exact hk j (by omega)) hml ?_ ?_)
        · rw [sh_un, nv_un (Nat.le_refl i)]
          have h9 := nv_upd (B := 32768) (a := sh e (2800 * x)) (i := i) (x := (r * 32768 + xk) / f) (s := n x) (by omega)
          rw [e1, nv_s, Nat.pow_succ] at h9
          exact shrink_step2 h9
        · rw [e2, nv_s, Nat.pow_succ, ← hde]
          exact shrink_step hmd
  refine z_lconst (v := lN 0) h d_M_lower_0 (by decide) ?_
  refine z_lstore h d_M_lower_1 (by decide) ?_
  refine z_aload_n h d_M_lower_3 rfl ?_
  refine z_get (C := R_M) (T := F_M) (N := 10) h 1 d_M_lower_4 in_M rfl (by decide) wf_M_13 rfl rfl ?_
  refine z_iload_n h d_M_lower_7 rfl ?_
  refine z_ialoadN h d_M_lower_8 rfl (by omega) ?_
  refine z_iconst (v := 1) h d_M_lower_9 (by decide) ?_
  refine z_isub h d_M_lower_10 ?_
  refine z_istore h d_M_lower_11 (by decide) ?_
  refine z_lv (lv' := [(0, .ref 0), (1, .int (nI x)), (2, .long (lN f)), (4, .long (lN 0)), (6, .int (nI (n x) - 1))]) h rfl ?_
  exact L (n x) 0 0 d (Nat.le_refl _) hM.1 (fun _ _ => rfl) hf0 (by omega) (by rw [hX.2.2.1]; omega)
theorem emod_nat15 (z : Int) : ((z % 32768).toNat : Int) = z % 32768 := Int.toNat_of_nonneg (Int.emod_nonneg z (by decide))
theorem emod_lt15 (z : Int) : (z % 32768).toNat < 32768 := by
  have := Int.emod_lt_of_pos z (show (0 : Int) < 32768 by decide)
  have := Int.emod_nonneg z (show (32768 : Int) ≠ 0 by decide)
  omega
variable {Z : ZP} {own : String} {cc : ByteArray} {nL : Nat} {R : Room} {k n : Nat} {w : List va_E} {lv : List (Nat × Value)} {pc : Nat} {st : List Value} in
theorem z_land15I (h : Cb Z own cc nL R) {z : Int} (d : decode cc pc = .ok (.land, 1)) (kk : Z k n w lv (pc + 1) (.long (lI (z % 32768)) :: st)) : Z k n w lv pc (.long 32767 :: .long (lI z) :: st) := z_land h d (z_topl (lI_and15 z) kk)
variable {Z : ZP} {own : String} {cc : ByteArray} {nL : Nat} {R : Room} {k n : Nat} {w : List va_E} {lv : List (Nat × Value)} {pc : Nat} {st : List Value} in
theorem z_lshr15I (h : Cb Z own cc nL R) {z : Int} (d : decode cc pc = .ok (.lshr, 1)) (hs : -2 ^ 63 ≤ z ∧ z < 2 ^ 63) (kk : Z k n w lv (pc + 1) (.long (lI (z / 32768)) :: st)) : Z k n w lv pc (.int 15 :: .long (lI z) :: st) := z_lshr h d (z_topl (lI_shr15 hs.1 hs.2) kk)
variable {Z : ZP} {own : String} {cc : ByteArray} {nL : Nat} {R : Room} {k n : Nat} {w : List va_E} {lv : List (Nat × Value)} {pc : Nat} {st : List Value} in
theorem z_l2iM15 (h : Cb Z own cc nL R) {z : Int} (d : decode cc pc = .ok (.l2i, 1)) (kk : Z k n w lv (pc + 1) (.int (nI (z % 32768).toNat) :: st)) : Z k n w lv pc (.long (lI (z % 32768)) :: st) := z_l2i h d (z_topi (by rw [lI_i, nI_iI, emod_nat15]) kk)
theorem nv_cast15 {a : Nat → Nat} {i : Nat} : (nv 32768 a (i + 1) : Int) = (nv 32768 a i : Int) + (a i : Int) * (32768 : Int) ^ i := by
  rw [nv_s, Int.natCast_add, Int.natCast_mul, Int.natCast_pow]
  rfl
theorem less_b {c : Int} {x f y : Nat} (hc : -2147483648 ≤ c ∧ c ≤ 0) (hx : x < 32768) (hy : y < 32768) (hf : f < 2147483648) : (-2 ^ 63 ≤ c + ((x : Int) - (f : Int) * y) ∧ c + ((x : Int) - (f : Int) * y) < 2 ^ 63) ∧ -2147483648 ≤ (c + ((x : Int) - (f : Int) * y)) / 32768 ∧ (c + ((x : Int) - (f : Int) * y)) / 32768 ≤ 0 := by
  have e1 : f * y ≤ 2147483647 * 32767 := Nat.mul_le_mul (by omega) (by omega)
  have e2 : (f : Int) * y = ((f * y : Nat) : Int) := by push_cast; rfl
  rw [e2]
  generalize f * y = z at *
  omega
set_option maxRecDepth 100000 in
set_option maxHeartbeats 4000000 in
theorem ms_M_lessTimes (d n V : Nat → Nat) (lf : Int64) (G : MG) (x y f : Nat) (hx : x < 10) (hy : y < 10) (hxy : x ≠ y) (hd : ∀ j, d j < 32768) (hX : Rp 32768 2800 (sh d (2800 * x)) (n x) (V x)) (hY : Rp 32768 2800 (sh d (2800 * y)) (n y) (V y)) (hf : f < 2147483648) (hv : f * V y ≤ V x) : MS y_M_lessTimes c_M_lessTimes 8 none (rm 2) [.ref 0, .int (nI x), .int (nI y), .long (lN f)] (mW d n lf G) (zP (X := (Nat → Nat) × (Nat → Nat)) (fun _ => none) (fun q => mW q.1 q.2 lf G) (fun q => MU x (V x - f * V y) d n q.1 q.2)) := by
  refine MS_of (own := R_M) (by decide) rfl (fun _ => Nat.le_of_ble_eq_true rfl) (fun Z h hr => ?_)
  have hnx := hX.1
  have hny := hY.1
  have hY0 : ∀ j, lim (sh d (2800 * y)) (n y) j < 32768 := lim_lt (by decide) hY.2.1
  have hYv : f * nv 32768 (lim (sh d (2800 * y)) (n y)) (n x) = f * V y := by
    by_cases q : n y ≤ n x
    · rw [lim_nv q, hY.2.2.1]
    · have e1 : V x < V y := Rp_size (by decide) hX hY (by omega)
      have e2 : f = 0 := by
        apply Nat.eq_zero_of_not_pos
        intro q0
        have := Nat.le_mul_of_pos_left (V y) q0
        omega
      rw [e2, Nat.zero_mul, Nat.zero_mul]
  rw [lN_lI]
  have L : ∀ (g k : Nat) (c : Int) (e : Nat → Nat), g + k = n x → -2147483648 ≤ c ∧ c ≤ 0 → (∀ j, e j < 32768) → (∀ j, (j < 2800 * x ∨ 2800 * x + k ≤ j) → e j = d j) → (nv 32768 (sh e (2800 * x)) k : Int) + c * (32768 : Int) ^ k = nv 32768 (sh d (2800 * x)) k - (f : Int) * nv 32768 (lim (sh d (2800 * y)) (n y)) k → Z 0 0 (mW e n lf G) [(0, .ref 0), (1, .int (nI x)), (2, .int (nI y)), (3, .long (lI f)), (5, .long (lI c)), (7, .int (nI k))] 6 [] := by
    intro g
    induction g with
    | zero =>
      intro k c e hg hc he hk hn
      obtain rfl : k = n x := by omega
      have e5 := ms_M_trim e n lf G x (n x) hx hnx he
      rw [un_self] at e5
      refine z_iload h d_M_lessTimes_6 rfl ?_
      refine z_aload_n h d_M_lessTimes_8 rfl ?_
      refine z_get (C := R_M) (T := F_M) (N := 10) h 1 d_M_lessTimes_9 in_M rfl (by decide) wf_M_13 rfl rfl ?_
      refine z_iload_n h d_M_lessTimes_12 rfl ?_
      refine z_ialoadN h d_M_lessTimes_13 rfl (by omega) ?_
      refine z_icmp_geN (tgt := 74) h d_M_lessTimes_14 (by decide) (by omega) (fun c_14 => ?_) (fun c_14 => ?_)
      · refine z_aload_n h d_M_lessTimes_74 rfl ?_
        refine z_iload_n h d_M_lessTimes_75 rfl ?_
        refine z_cM h (e5) (zf_M_trim (by decide)) wm_M_38 wi_M_trim ws_M_trim d_M_lessTimes_76 (Nat.le_of_ble_eq_true rfl) rfl (fun x_76 hx_76 => ?_)
        refine hr.2.2.2.1 _ _ _ _ _ (Nat.le_refl _) (Nat.le_refl _) rfl d_M_lessTimes_79 ?_
        refine ⟨(e, un n x (trm (sh e (2800 * x)) (n x))), rfl, rfl, he, (fun j hj => hk j (by omega)), _, rfl, Rp_trm hnx (fun j => he _) ?_⟩
        refine less_end (P := 32768 ^ n x) (c := c) (nv_lt (fun j _ => he _)) (Nat.lt_of_le_of_lt (Nat.sub_le _ _) (Rp_lt hX)) ?_
        rw [Int.ofNat_sub hv, ← hYv, ← hX.2.2.1]
        push_cast
        exact hn
      · exact absurd c_14 (by omega)
    | succ g ih =>
      intro k c e hg hc he hk hn
      have e1 : (if k < n x then e (2800 * x + k) else 0) = sh d (2800 * x) k := by
        rw [if_pos (by omega), hk _ (by omega)]
        rfl
      have e2 : (if k < n y then e (2800 * y + k) else 0) = lim (sh d (2800 * y)) (n y) k := by
        show _ = if k < n y then d (2800 * y + k) else 0
        by_cases q : k < n y
        · rw [if_pos q, if_pos q, hk _ (by omega)]
        · rw [if_neg q, if_neg q]
      have q1 : sh d (2800 * x) k < 32768 := hd _
      have q2 := hY0 k
      refine z_iload h d_M_lessTimes_6 rfl ?_
      refine z_aload_n h d_M_lessTimes_8 rfl ?_
      refine z_get (C := R_M) (T := F_M) (N := 10) h 1 d_M_lessTimes_9 in_M rfl (by decide) wf_M_13 rfl rfl ?_
      refine z_iload_n h d_M_lessTimes_12 rfl ?_
      refine z_ialoadN h d_M_lessTimes_13 rfl (by omega) ?_
      refine z_icmp_geN (tgt := 74) h d_M_lessTimes_14 (by decide) (by omega) (fun c_14 => ?_) (fun c_14 => ?_)
      · exact absurd c_14 (by omega)
      · refine z_lload h d_M_lessTimes_17 rfl ?_
        refine z_aload_n h d_M_lessTimes_19 rfl ?_
        refine z_iload_n h d_M_lessTimes_20 rfl ?_
        refine z_iload h d_M_lessTimes_21 rfl ?_
        refine z_cM h (ms_M_at e n V lf G x k hx hnx (by omega)) (zf_M_at (by decide)) wm_M_34 wi_M_at ws_M_at d_M_lessTimes_23 (Nat.le_of_ble_eq_true rfl) rfl (fun x_23 hx_23 => ?_)
        rw [e1]
        refine z_i2lI h d_M_lessTimes_26 (by omega) ?_
        refine z_lload_n h d_M_lessTimes_27 rfl ?_
        refine z_aload_n h d_M_lessTimes_28 rfl ?_
        refine z_iload_n h d_M_lessTimes_29 rfl ?_
        refine z_iload h d_M_lessTimes_30 rfl ?_
        refine z_cM h (ms_M_at e n V lf G y k hy hny (by omega)) (zf_M_at (by decide)) wm_M_34 wi_M_at ws_M_at d_M_lessTimes_32 (Nat.le_of_ble_eq_true rfl) rfl (fun x_32 hx_32 => ?_)
        rw [e2]
        refine z_i2lI h d_M_lessTimes_35 (by omega) ?_
        refine z_lmulI h d_M_lessTimes_36 ?_
        refine z_lsubI h d_M_lessTimes_37 ?_
        refine z_laddI h d_M_lessTimes_38 ?_
        obtain ⟨hs1, b1, b2⟩ := less_b hc q1 q2 hf
        have hcast : (nv 32768 (sh d (2800 * x)) (k + 1) : Int) - (f : Int) * nv 32768 (lim (sh d (2800 * y)) (n y)) (k + 1) = ((nv 32768 (sh d (2800 * x)) k : Int) + (sh d (2800 * x) k : Int) * (32768 : Int) ^ k) - (f : Int) * ((nv 32768 (lim (sh d (2800 * y)) (n y)) k : Int) + (lim (sh d (2800 * y)) (n y) k : Int) * (32768 : Int) ^ k) := by rw [nv_cast15, nv_cast15]
        have hst := fun q r e => ta_step (P := (32768 : Int) ^ k) (B := 32768) (x := (sh d (2800 * x) k : Int)) (y := (lim (sh d (2800 * y)) (n y) k : Int)) hn q r e
        generalize hw : c + ((sh d (2800 * x) k : Int) - (f : Int) * (lim (sh d (2800 * y)) (n y) k : Int)) = ww at *
        have hm := emod_nat15 ww
        have hl := emod_lt15 ww
        have hd := Int.mul_ediv_add_emod ww 32768
        refine z_lstore h d_M_lessTimes_39 (by decide) ?_
        refine z_aload_n h d_M_lessTimes_41 rfl ?_
        refine z_get (C := R_M) (T := F_M) (N := 10) h 0 d_M_lessTimes_42 in_M rfl (by decide) wf_M_7 rfl rfl ?_
        refine z_sipush (v := nI 2800) h d_M_lessTimes_45 (by decide) ?_
        refine z_iload_n h d_M_lessTimes_48 rfl ?_
        refine z_imulN h d_M_lessTimes_49 ?_
        refine z_iload h d_M_lessTimes_50 rfl ?_
        refine z_iaddN h d_M_lessTimes_52 ?_
        refine z_lload h d_M_lessTimes_53 rfl ?_
        refine z_ldc2_w (v := 32767) h d_M_lessTimes_55 wv_M_32 ?_
        refine z_land15I h d_M_lessTimes_58 ?_
        refine z_l2iM15 h d_M_lessTimes_59 ?_
        refine z_iastoreN h d_M_lessTimes_60 rfl (by omega) ?_
        refine z_lload h d_M_lessTimes_61 rfl ?_
        refine z_bipush (v := 15) h d_M_lessTimes_63 (by decide) ?_
        refine z_lshr15I h d_M_lessTimes_65 hs1 ?_
        refine z_lstore h d_M_lessTimes_66 (by decide) ?_
        refine z_iincN h 1 d_M_lessTimes_68 rfl (by decide) (by decide) ?_
        refine z_goto (tgt := 6) h d_M_lessTimes_71 (by decide) ?_
        refine z_lv (lv' := [(0, .ref 0), (1, .int (nI x)), (2, .int (nI y)), (3, .long (lI f)), (5, .long (lI (ww / 32768))), (7, .int (nI (k + 1)))]) h rfl (ih (k + 1) (ww / 32768) (un e (2800 * x + k) (ww % 32768).toNat) (by omega) ⟨b1, b2⟩ (un_lt he hl) (fun j hj => by rw [un_ne (by omega)]; exact hk j (by omega)) ?_)
        rw [hcast, sh_un, nv_put]
        push_cast
        rw [hm, Int.pow_succ]
        exact hst _ _ (by rw [Int.mul_comm, hd])
  refine z_lconst (v := lN 0) h d_M_lessTimes_0 (by decide) ?_
  refine z_lstore h d_M_lessTimes_1 (by decide) ?_
  refine z_iconst (v := nI 0) h d_M_lessTimes_3 (by decide) ?_
  refine z_istore h d_M_lessTimes_4 (by decide) ?_
  refine z_lv (lv' := [(0, .ref 0), (1, .int (nI x)), (2, .int (nI y)), (3, .long (lI f)), (5, .long (lI 0)), (7, .int (nI 0))]) h rfl (L (n x) 0 0 d rfl (by decide) hd (fun _ _ => rfl) (by simp [nv]))
