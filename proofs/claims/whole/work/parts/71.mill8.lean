/-! DigitMill's public methods: count -/
theorem nI_ti {n : Nat} (h : n < 2 ^ 31) : (nI n).toInt = n := by
  rw [nI_iI]
  exact iI_t (by omega) (by omega)
theorem nI_ofI {x : Int32} (h : ¬ x < 0) : ∃ n : Nat, x = nI n ∧ n < 2 ^ 31 ∧ x.toInt = n := by
  have h1 : 0 ≤ x.toInt := Int32.le_iff_toInt_le.mp (Int32.not_lt.mp h)
  have h2 := Int32.toInt_lt x
  refine ⟨x.toInt.toNat, ?_, by omega, by omega⟩
  rw [nI_iI, Int.toNat_of_nonneg h1, iI_self]
set_option maxRecDepth 100000 in
set_option maxHeartbeats 4000000 in
theorem ms_D_count (v b v2 b2 i : Nat) (x z : Int32) (w : List va_E) (h0 : DS v b v2 b2 w) (hi : i < 2 ^ 31) (hz : z < nI (nd b v)) (hnd : nd b v < 2 ^ 30) : MS y_D_count c_D_count 6 (some .int) (rm 7) [.ref 0, .int x, .int (nI i), .int z] w (fun r w' => r = some (.int (nI (cnt (dgt b v) x i (z.toInt + 1 - i).toNat))) ∧ DS v b v2 b2 w') := by
  refine MS_of (own := R_D) (by decide) rfl (fun _ => Nat.le_of_ble_eq_true rfl) (fun Z h hr => ?_)
  obtain ⟨gu, pg, dg, td, s, a, g, pw, gu2, pg2, dg2, td2, s2, a2, g2, pw2, sl, sr, sq, l, r, q, rfl, h1, h2, h3, h4, h5⟩ := h0
  have hz1 : z.toInt < nd b v := by
    have := Int32.lt_iff_toInt_lt.mp hz
    rw [nI_ti (by omega)] at this
    exact this
  refine z_iload_n h d_D_count_0 rfl ?_
  refine z_if_lt (tgt := 12) h d_D_count_1 (by decide) (fun c_1 => ?_) (fun c_1 => ?_)
  · exact absurd c_1 (nI_pos (by omega))
  · refine z_iload_n h d_D_count_4 rfl ?_
    refine z_aload_n h d_D_count_5 rfl ?_
    refine z_dV (C := R_D) (ci := 4) h (ms_D_digits v b v2 b2 _ ⟨gu, pg, dg, td, s, a, g, pw, gu2, pg2, dg2, td2, s2, a2, g2, pw2, sl, sr, sq, l, r, q, rfl, h1, h2, h3, h4, h5⟩) (zf_D_digits (by decide)) wm_D_114 wi_D_digits ws_D_digits rfl ⟨_, rfl⟩ d_D_count_6 (by decide) is18 (by decide) rfl (Nat.le_of_ble_eq_true rfl) rfl (fun _ _ hp => DT_len hp.2) (fun r_6 w_6 hp_6 => ?_)
    obtain ⟨rfl, hT⟩ := hp_6
    rw [put18n (DT_len hT) rfl]
    obtain ⟨gu', pg', dg', s', a', g', pw', gu2', pg2', dg2', td2', s2', a2', g2', pw2', sl', sr', sq', l', r', q', rfl, k1, rfl, k2, k3, k4, k5⟩ := hT
    have L : ∀ (f m : Nat), f + m = (z.toInt + 1 - i).toNat → Z 0 0 (dW b gu' pg' (nd b v) 1 s' a' g' pw' b2 gu2' pg2' dg2' td2' s2' a2' g2' pw2' sl' sr' sq' l' r' q' []) [(0, .ref 0), (1, .int x), (2, .int (nI i)), (3, .int z), (4, .int (nI (cnt (dgt b v) x i m))), (5, .int (nI (i + m)))] 28 [] := by
      intro f
      induction f with
      | zero =>
        intro m hm
        refine z_iload h d_D_count_28 rfl ?_
        refine z_iload_n h d_D_count_30 rfl ?_
        refine z_icmp_gt (tgt := 56) h d_D_count_31 (by decide) (fun c_31 => ?_) (fun c_31 => ?_)
        · refine z_iload h d_D_count_56 rfl ?_
          refine hr.1 _ _ _ _ _ _ (Nat.le_refl _) (Nat.le_refl _) rfl d_D_count_58 ?_
          exact ⟨by rw [← hm, Nat.zero_add], gu', pg', nd b v, 1, s', a', g', pw', gu2', pg2', dg2', td2', s2', a2', g2', pw2', sl', sr', sq', l', r', q', rfl, k1, k2, k3, k4, k5⟩
        · exfalso
          have e : ¬ z.toInt < (nI (i + m)).toInt := fun q => c_31 (Int32.lt_iff_toInt_lt.mpr q)
          rw [nI_ti (by omega)] at e
          omega
      | succ f ih =>
        intro m hm
        have hle : ((i + m : Nat) : Int) ≤ z.toInt := by omega
        have him : i + m < nd b v := by omega
        refine z_iload h d_D_count_28 rfl ?_
        refine z_iload_n h d_D_count_30 rfl ?_
        refine z_icmp_gt (tgt := 56) h d_D_count_31 (by decide) (fun c_31 => ?_) (fun c_31 => ?_)
        · exfalso
          have e := Int32.lt_iff_toInt_lt.mp c_31
          rw [nI_ti (by omega)] at e
          omega
        · refine z_aload_n h d_D_count_34 rfl ?_
          refine z_get (C := R_D) (T := F_D) (N := 4) h 0 d_D_count_35 in_D rfl (by decide) wf_D_12 rfl rfl ?_
          refine z_iload h d_D_count_38 rfl ?_
          refine z_cV (C := R_T) (ci := 2) h (ms_T_digitAt b v gu' pg' (nd b v) s' (i + m) a' g' pw' k1 him) (zf_T_digitAt (by decide)) wm_D_169 wi_T_digitAt ws_T_digitAt rfl ⟨_, rfl⟩ d_D_count_40 [1, 2, 3, 4, 5] (by decide) rfl (Nat.le_of_ble_eq_true rfl) rfl (fun _ => rfl) (fun x_40 hx_40 => ?_)
          have hc : cnt (dgt b v) x i (m + 1) = cnt (dgt b v) x i m + (if nI (dgt b v (i + m)) = x then 1 else 0) := rfl
          refine z_iload_n h d_D_count_43 rfl ?_
          refine z_icmp_ne (tgt := 50) h d_D_count_44 (by decide) (fun c_44 => ?_) (fun c_44 => ?_)
          · have hc0 : cnt (dgt b v) x i m = cnt (dgt b v) x i (m + 1) := by
              rw [hc, if_neg (show ¬ nI (dgt b v (i + m)) = x from c_44)]
              rfl
            rw [hc0]
            refine z_iincN h 1 d_D_count_50 rfl (by decide) (by decide) ?_
            refine z_goto (tgt := 28) h d_D_count_53 (by decide) ?_
            exact z_lv h rfl (ih (m + 1) (by omega))
          · rw [if_pos (show nI (dgt b v (i + m)) = x from c_44)] at hc
            refine z_iincN h 1 d_D_count_47 rfl (by decide) (by decide) ?_
            rw [← hc]
            refine z_iincN h 1 d_D_count_50 rfl (by decide) (by decide) ?_
            refine z_goto (tgt := 28) h d_D_count_53 (by decide) ?_
            exact z_lv h rfl (ih (m + 1) (by omega))
    refine z_icmp_lt (tgt := 22) h d_D_count_9 (by decide) (fun c_9 => ?_) (fun c_9 => ?_)
    · refine z_iconst (v := nI 0) h d_D_count_22 (by decide) ?_
      refine z_istore h d_D_count_23 (by decide) ?_
      refine z_iload_n h d_D_count_25 rfl ?_
      refine z_istore h d_D_count_26 (by decide) ?_
      exact z_lv h rfl (L _ 0 (Nat.add_zero _))
    · exact absurd hz c_9
set_option maxRecDepth 100000 in
set_option maxHeartbeats 4000000 in
theorem mt_D_count (v b v2 b2 : Nat) (x y z : Int32) (w : List va_E) (h0 : DS v b v2 b2 w) (hx : y < 0 ∨ ¬ z < nI (nd b v)) : MT y_D_count c_D_count 6 (some .int) (rmT 8) [.ref 0, .int x, .int y, .int z] w X_IOE (fun w' => DS v b v2 b2 w') := by
  refine MT_of (own := R_D) (by decide) rfl (fun _ => Nat.le_of_ble_eq_true rfl) (fun Z h ht => ?_)
  obtain ⟨gu, pg, dg, td, s, a, g, pw, gu2, pg2, dg2, td2, s2, a2, g2, pw2, sl, sr, sq, l, r, q, rfl, h1, h2, h3, h4, h5⟩ := h0
  refine z_iload_n h d_D_count_0 rfl ?_
  refine z_if_lt (tgt := 12) h d_D_count_1 (by decide) (fun c_1 => ?_) (fun c_1 => ?_)
  · refine z_throw (tx := "no such place") ht fit_IOE own_IOE wkx_IOE wnx_IOE wix_IOE (zStr_mem (by decide +kernel)) d_D_count_12 d_D_count_15 d_D_count_16 d_D_count_18 d_D_count_21 (by decide) (by decide) rfl rfl rfl ?_
    exact ⟨gu, pg, dg, td, s, a, g, pw, gu2, pg2, dg2, td2, s2, a2, g2, pw2, sl, sr, sq, l, r, q, rfl, h1, h2, h3, h4, h5⟩
  · refine z_iload_n h d_D_count_4 rfl ?_
    refine z_aload_n h d_D_count_5 rfl ?_
    refine z_dV (C := R_D) (ci := 4) h (ms_D_digits v b v2 b2 _ ⟨gu, pg, dg, td, s, a, g, pw, gu2, pg2, dg2, td2, s2, a2, g2, pw2, sl, sr, sq, l, r, q, rfl, h1, h2, h3, h4, h5⟩) (zT (zf_D_digits (by decide))) wm_D_114 wi_D_digits ws_D_digits rfl ⟨_, rfl⟩ d_D_count_6 (by decide) is18 (by decide) rfl (Nat.le_of_ble_eq_true rfl) rfl (fun _ _ hp => DT_len hp.2) (fun r_6 w_6 hp_6 => ?_)
    obtain ⟨rfl, hT⟩ := hp_6
    rw [put18n (DT_len hT) rfl]
    refine z_icmp_lt (tgt := 22) h d_D_count_9 (by decide) (fun c_9 => ?_) (fun c_9 => ?_)
    · exact absurd hx (fun q => q.elim c_1 (fun q => q c_9))
    · have hl := DT_len hT
      refine z_throw (tx := "no such place") ht fit_IOE own_IOE wkx_IOE wnx_IOE wix_IOE (zStr_mem (by decide +kernel)) d_D_count_12 d_D_count_15 d_D_count_16 d_D_count_18 d_D_count_21 (by decide) (by decide) rfl rfl hl ?_
      exact hT.ds
