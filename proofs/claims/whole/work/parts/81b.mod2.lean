set_option maxRecDepth 100000 in
set_option maxHeartbeats 4000000 in
theorem ms_M_addTimes (d n V : Nat → Nat) (lf : Int64) (G : MG) (x y f : Nat) (hx : x < 10) (hy : y < 10) (hxy : x ≠ y) (hM : MV d n V) (hf : f < 2147483648) (hv : V x + f * V y < capM) : MS y_M_addTimes c_M_addTimes 8 none (rm 2) [.ref 0, .int (nI x), .int (nI y), .long (lN f)] (mW d n lf G) (zP (X := (Nat → Nat) × (Nat → Nat)) (fun _ => none) (fun q => mW q.1 q.2 lf G) (fun q => MV q.1 q.2 (un V x (V x + f * V y)))) := by
  refine MS_of (own := R_M) (by decide) rfl (fun _ => Nat.le_of_ble_eq_true rfl) (fun Z h hr => ?_)
  have hX := hM.2 x hx
  have hY := hM.2 y hy
  have hnx := hX.1
  have hny := hY.1
  have hX0 : ∀ j, lim (sh d (2800 * x)) (n x) j < 32768 := lim_lt (by decide) hX.2.1
  have hY0 : ∀ j, lim (sh d (2800 * y)) (n y) j < 32768 := lim_lt (by decide) hY.2.1
  have hXv : ∀ m, n x ≤ m → nv 32768 (lim (sh d (2800 * x)) (n x)) m = V x := fun m hm => (lim_nv hm).trans hX.2.2.1
  have hYv : ∀ m, n y ≤ m → nv 32768 (lim (sh d (2800 * y)) (n y)) m = V y := fun m hm => (lim_nv hm).trans hY.2.2.1
  have hXl : ∀ m, nv 32768 (lim (sh d (2800 * x)) (n x)) m ≤ V x := fun m => by
    rw [← hXv (max m (n x)) (Nat.le_max_right _ _)]
    exact nv_le (Nat.le_max_left _ _)
  have hYl : ∀ m, nv 32768 (lim (sh d (2800 * y)) (n y)) m ≤ V y := fun m => by
    rw [← hYv (max m (n y)) (Nat.le_max_right _ _)]
    exact nv_le (Nat.le_max_left _ _)
  have End : ∀ (k c m : Nat) (e : Nat → Nat), k ≤ 2800 → m = max (n x) k → n y ≤ k → (∀ j, e j < 32768) → (∀ j, (j < 2800 * x ∨ 2800 * x + k ≤ j) → e j = d j) → nv 32768 (sh e (2800 * x)) k + 0 * 32768 ^ k = nv 32768 (lim (sh d (2800 * x)) (n x)) k + f * nv 32768 (lim (sh d (2800 * y)) (n y)) k → Z 0 0 (mW e (un n x m) lf G) [(0, .ref 0), (1, .int (nI x)), (2, .int (nI y)), (3, .long (lN f)), (5, .long (lN c)), (7, .int (nI k))] 113 [] := by
    intro k c m e hk2 hm hyk he hk hn
    rw [Nat.zero_mul, Nat.add_zero, hYv k hyk] at hn
    refine z_aload_n h d_M_addTimes_113 rfl ?_
    refine z_iload_n h d_M_addTimes_114 rfl ?_
    refine z_cM h (ms_M_trim e n lf G x m hx (by omega) he) (zf_M_trim (by decide)) wm_M_38 wi_M_trim ws_M_trim d_M_addTimes_115 (Nat.le_of_ble_eq_true rfl) rfl (fun x_115 hx_115 => ?_)
    refine hr.2.2.2.1 _ _ _ _ _ (Nat.le_refl _) (Nat.le_refl _) rfl d_M_addTimes_118 ?_
    exact ⟨(e, un n x (trm (sh e (2800 * x)) m)), rfl, rfl, MV_upd hM he (fun j hj => hk j (by omega)) (Rp_trm (by omega) (fun j => he _) (end_nv hm hk hX.2.2.1 hn))⟩
  have L : ∀ (g k c m : Nat) (e : Nat → Nat), g + k = 2800 → m = max (n x) k → c ≤ 2147483648 → (∀ j, e j < 32768) → (∀ j, (j < 2800 * x ∨ 2800 * x + k ≤ j) → e j = d j) → nv 32768 (sh e (2800 * x)) k + c * 32768 ^ k = nv 32768 (lim (sh d (2800 * x)) (n x)) k + f * nv 32768 (lim (sh d (2800 * y)) (n y)) k → Z 0 0 (mW e (un n x m) lf G) [(0, .ref 0), (1, .int (nI x)), (2, .int (nI y)), (3, .long (lN f)), (5, .long (lN c)), (7, .int (nI k))] 6 [] := by
    intro g
    induction g with
    | zero =>
      intro k c m e hg hm hc he hk hn
      have hc0 : c = 0 := Nat.eq_zero_of_not_pos fun h0 => absurd (cap_lt hn (Nat.lt_of_le_of_lt (Nat.add_le_add (hXl k) (Nat.mul_le_mul_left f (hYl k))) hv) h0) (by omega)
      have hny' : un n x m y = n y := un_ne (fun q => hxy q.symm)
      refine z_iload h d_M_addTimes_6 rfl ?_
      refine z_aload_n h d_M_addTimes_8 rfl ?_
      refine z_get (C := R_M) (T := F_M) (N := 10) h 1 d_M_addTimes_9 in_M rfl (by decide) wf_M_13 rfl rfl ?_
      refine z_iload_n h d_M_addTimes_12 rfl ?_
      refine z_ialoadN h d_M_addTimes_13 rfl (by omega) ?_
      rw [hny']
      refine z_icmp_ltN (tgt := 24) h d_M_addTimes_14 (by decide) (by omega) (fun c_14 => ?_) (fun c_14 => ?_)
      · exact absurd c_14 (by omega)
      · subst hc0
        refine z_lload h d_M_addTimes_17 rfl ?_
        refine z_lconst (v := lN 0) h d_M_addTimes_19 (by decide) ?_
        refine z_lcmp_leN (tgt := 113) h d_M_addTimes_20 d_M_addTimes_21 (by decide) (by omega) (fun c_20 => ?_) (fun c_20 => ?_)
        · exact End k 0 m e (by omega) hm (by omega) he hk hn
        · exact absurd c_20 (by omega)
    | succ g ih =>
      intro k c m e hg hm hc he hk hn
      have hc1 : 0 < c → k < 2800 := fun h0 => cap_lt hn (Nat.lt_of_le_of_lt (Nat.add_le_add (hXl k) (Nat.mul_le_mul_left f (hYl k))) hv) h0
      have hny' : un n x m y = n y := un_ne (fun q => hxy q.symm)
      have e1 : (if k < un n x m x then e (2800 * x + k) else 0) = lim (sh d (2800 * x)) (n x) k := by
        rw [un_eq]
        show _ = if k < n x then d (2800 * x + k) else 0
        by_cases q : k < n x
        · rw [if_pos q, if_pos (by omega), hk _ (by omega)]
        · rw [if_neg q, if_neg (by omega)]
      have e2 : (if k < un n x m y then e (2800 * y + k) else 0) = lim (sh d (2800 * y)) (n y) k := by
        rw [hny']
        show _ = if k < n y then d (2800 * y + k) else 0
        by_cases q : k < n y
        · rw [if_pos q, if_pos q, hk _ (by omega)]
        · rw [if_neg q, if_neg q]
      have q1 := hX0 k
      have q2 := hY0 k
      have hnk : nv 32768 (lim (sh d (2800 * x)) (n x)) (k + 1) + f * nv 32768 (lim (sh d (2800 * y)) (n y)) (k + 1) = nv 32768 (sh e (2800 * x)) k + (c + (lim (sh d (2800 * x)) (n x) k + f * lim (sh d (2800 * y)) (n y) k)) * 32768 ^ k := (at_step hn).symm
      have B : Z 0 0 (mW e (un n x m) lf G) [(0, .ref 0), (1, .int (nI x)), (2, .int (nI y)), (3, .long (lN f)), (5, .long (lN c)), (7, .int (nI k))] 24 [] := by
        refine z_lload h d_M_addTimes_24 rfl ?_
        refine z_aload_n h d_M_addTimes_26 rfl ?_
        refine z_iload_n h d_M_addTimes_27 rfl ?_
        refine z_iload h d_M_addTimes_28 rfl ?_
        refine z_cM h (ms_M_at e (un n x m) V lf G x k hx (by rw [un_eq]; omega) (by omega)) (zf_M_at (by decide)) wm_M_34 wi_M_at ws_M_at d_M_addTimes_30 (Nat.le_of_ble_eq_true rfl) rfl (fun x_30 hx_30 => ?_)
        rw [e1]
        generalize hxk : lim (sh d (2800 * x)) (n x) k = xk at *
        refine z_i2lN h d_M_addTimes_33 (by omega) ?_
        refine z_lload_n h d_M_addTimes_34 rfl ?_
        refine z_aload_n h d_M_addTimes_35 rfl ?_
        refine z_iload_n h d_M_addTimes_36 rfl ?_
        refine z_iload h d_M_addTimes_37 rfl ?_
        refine z_cM h (ms_M_at e (un n x m) V lf G y k hy (by rw [hny']; omega) (by omega)) (zf_M_at (by decide)) wm_M_34 wi_M_at ws_M_at d_M_addTimes_39 (Nat.le_of_ble_eq_true rfl) rfl (fun x_39 hx_39 => ?_)
        rw [e2]
        generalize hyk : lim (sh d (2800 * y)) (n y) k = yk at *
        obtain ⟨b1, b2, b3⟩ := c31 hc q1 q2 hf
        have hs_104 := b1
        have b4 : (c + (xk + f * yk)) % 32768 < 32768 := Nat.mod_lt _ (by decide)
        have b5 : nv 32768 (sh (un e (2800 * x + k) ((c + (xk + f * yk)) % 32768)) (2800 * x)) (k + 1) + (c + (xk + f * yk)) / 32768 * 32768 ^ (k + 1) = nv 32768 (lim (sh d (2800 * x)) (n x)) (k + 1) + f * nv 32768 (lim (sh d (2800 * y)) (n y)) (k + 1) := by
          rw [hnk, sh_un, nv_put, Nat.add_assoc, Nat.pow_succ, carry_step]
        clear hnk hn
        refine z_i2lN h d_M_addTimes_42 (by omega) ?_
        refine z_lmulN h d_M_addTimes_43 ?_
        refine z_laddN h d_M_addTimes_44 ?_
        refine z_laddN h d_M_addTimes_45 ?_
        generalize c + (xk + f * yk) = c2 at *
        have K : Z 0 0 (mW (un e (2800 * x + k) (c2 % 32768)) (un n x (max (n x) (k + 1))) lf G) [(0, .ref 0), (1, .int (nI x)), (2, .int (nI y)), (3, .long (lN f)), (5, .long (lN c2)), (7, .int (nI k))] 100 [] := by
          refine z_lload h d_M_addTimes_100 rfl ?_
          refine z_bipush (v := nI 15) h d_M_addTimes_102 (by decide) ?_
          refine z_lshr15N h d_M_addTimes_104 hs_104 ?_
          refine z_lstore h d_M_addTimes_105 (by decide) ?_
          refine z_iincN h 1 d_M_addTimes_107 rfl (by decide) (by decide) ?_
          refine z_goto (tgt := 6) h d_M_addTimes_110 (by decide) ?_
          refine z_lv h rfl (ih (k + 1) (c2 / 32768) (max (n x) (k + 1)) (un e (2800 * x + k) (c2 % 32768)) (by omega) rfl b3 (un_lt he b4) (fun j hj => ?_) b5)
          rw [un_ne (by omega)]
          exact hk j (by omega)
        refine z_lstore h d_M_addTimes_46 (by decide) ?_
        refine z_aload_n h d_M_addTimes_48 rfl ?_
        refine z_get (C := R_M) (T := F_M) (N := 10) h 0 d_M_addTimes_49 in_M rfl (by decide) wf_M_7 rfl rfl ?_
        refine z_sipush (v := nI 2800) h d_M_addTimes_52 (by decide) ?_
        refine z_iload_n h d_M_addTimes_55 rfl ?_
        refine z_imulN h d_M_addTimes_56 ?_
        refine z_iload h d_M_addTimes_57 rfl ?_
        refine z_iaddN h d_M_addTimes_59 ?_
        refine z_lload h d_M_addTimes_60 rfl ?_
        refine z_ldc2_w (v := lN 32767) h d_M_addTimes_62 wv_M_32 ?_
        refine z_land15N h d_M_addTimes_65 ?_
        refine z_l2iN h d_M_addTimes_66 ?_
        refine z_iastoreN h d_M_addTimes_67 rfl (by omega) ?_
        refine z_aload_n h d_M_addTimes_68 rfl ?_
        refine z_get (C := R_M) (T := F_M) (N := 10) h 1 d_M_addTimes_69 in_M rfl (by decide) wf_M_13 rfl rfl ?_
        refine z_iload_n h d_M_addTimes_72 rfl ?_
        refine z_iload h d_M_addTimes_73 rfl ?_
        refine z_iconst (v := nI 1) h d_M_addTimes_75 (by decide) ?_
        refine z_iaddN h d_M_addTimes_76 ?_
        refine z_aload_n h d_M_addTimes_77 rfl ?_
        refine z_get (C := R_M) (T := F_M) (N := 10) h 1 d_M_addTimes_78 in_M rfl (by decide) wf_M_13 rfl rfl ?_
        refine z_iload_n h d_M_addTimes_81 rfl ?_
        refine z_ialoadN h d_M_addTimes_82 rfl (by omega) ?_
        rw [un_eq]
        refine z_icmp_leN (tgt := 93) h d_M_addTimes_83 (by decide) (by omega) (fun c_83 => ?_) (fun c_83 => ?_)
        · refine z_aload_n h d_M_addTimes_93 rfl ?_
          refine z_get (C := R_M) (T := F_M) (N := 10) h 1 d_M_addTimes_94 in_M rfl (by decide) wf_M_13 rfl rfl ?_
          refine z_iload_n h d_M_addTimes_97 rfl ?_
          refine z_ialoadN h d_M_addTimes_98 rfl (by omega) ?_
          rw [un_eq]
          refine z_iastoreN h d_M_addTimes_99 rfl (by omega) ?_
          rw [un_un, show m = max (n x) (k + 1) by omega]
          exact z_lv h rfl K
        · refine z_iload h d_M_addTimes_86 rfl ?_
          refine z_iconst (v := nI 1) h d_M_addTimes_88 (by decide) ?_
          refine z_iaddN h d_M_addTimes_89 ?_
          refine z_goto (tgt := 99) h d_M_addTimes_90 (by decide) ?_
          refine z_iastoreN h d_M_addTimes_99 rfl (by omega) ?_
          rw [un_un, show k + 1 = max (n x) (k + 1) by omega]
          exact z_lv h rfl K
      refine z_iload h d_M_addTimes_6 rfl ?_
      refine z_aload_n h d_M_addTimes_8 rfl ?_
      refine z_get (C := R_M) (T := F_M) (N := 10) h 1 d_M_addTimes_9 in_M rfl (by decide) wf_M_13 rfl rfl ?_
      refine z_iload_n h d_M_addTimes_12 rfl ?_
      refine z_ialoadN h d_M_addTimes_13 rfl (by omega) ?_
      rw [hny']
      refine z_icmp_ltN (tgt := 24) h d_M_addTimes_14 (by decide) (by omega) (fun c_14 => ?_) (fun c_14 => ?_)
      · exact B
      · refine z_lload h d_M_addTimes_17 rfl ?_
        refine z_lconst (v := lN 0) h d_M_addTimes_19 (by decide) ?_
        refine z_lcmp_leN (tgt := 113) h d_M_addTimes_20 d_M_addTimes_21 (by decide) (by omega) (fun c_20 => ?_) (fun c_20 => ?_)
        · obtain rfl : c = 0 := by omega
          exact End k 0 m e (by omega) hm (by omega) he hk hn
        · exact B
  refine z_lconst (v := lN 0) h d_M_addTimes_0 (by decide) ?_
  refine z_lstore h d_M_addTimes_1 (by decide) ?_
  refine z_iconst (v := nI 0) h d_M_addTimes_3 (by decide) ?_
  refine z_istore h d_M_addTimes_4 (by decide) ?_
  have e0 := L 2800 0 0 (n x) d rfl (by omega) (by omega) hM.1 (fun _ _ => rfl) rfl
  rw [un_self] at e0
  exact z_lv h rfl e0
