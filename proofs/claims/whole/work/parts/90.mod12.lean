/-! DigitMillModel: push, add, times, divide, rooted, root, over -/
theorem MV_bl {d n V : Nat → Nat} {x : Nat} (h : MV d n V) (hx : x < 10) : bl (V x) ≤ 42000 := by
  have hR := h.2 x hx
  refine bl_lt (Nat.lt_of_lt_of_le (Rp_lt hR) ?_)
  rw [p15]
  exact Nat.pow_le_pow_right (by decide) (by have := hR.1; omega)
theorem two24 {x y : Nat} (hx : x < 2 ^ 24000) (hy : y < 2 ^ 24000) (n : Nat) (hn : 24001 ≤ n) : x + y < 2 ^ n := by
  have e : 2 ^ 24001 ≤ 2 ^ n := Nat.pow_le_pow_right (by decide) hn
  have e2 : 2 ^ 24001 = 2 ^ 24000 * 2 := Nat.pow_succ 2 24000
  generalize 2 ^ 24000 = p at *
  generalize 2 ^ 24001 = q at *
  generalize 2 ^ n = r at *
  omega
theorem mul24 {b v d K : Nat} (hb : b < 37) (hv : v < 2 ^ K) (hd : d < b) : b * v + d < 2 ^ (K + 6) := by
  have e1 : b * v + d < b * (v + 1) := by rw [Nat.mul_succ]; omega
  have e2 : b * (v + 1) ≤ 64 * 2 ^ K := Nat.mul_le_mul (by omega) hv
  rw [Nat.pow_add, Nat.mul_comm (2 ^ K)]
  exact Nat.lt_of_lt_of_le e1 e2
theorem cap24 {v : Nat} (hv : bl v ≤ 24000) : v < 2 ^ 24000 := capL hv
set_option maxRecDepth 100000 in
set_option maxHeartbeats 4000000 in
theorem ms_M_push (v b v2 b2 t x : Nat) (w : List va_E) (h0 : RS v b v2 b2 t w) (hd : x < b) (hl : bl (v * b + x) ≤ 24000) : MS y_M_push c_M_push 2 (some .int) (rm 7) [.ref 0, .int (nI x)] w (RP (nI (nd b (v * b + x))) (v * b + x) b v2 b2 0) := by
  obtain ⟨d, n, V, lf, m, kn, dg, wd, rfl, hM, hV0, hV1, hK, hbb, hbb2, hv, hv2⟩ := h0
  refine MS_of (own := R_M) (by decide) rfl (fun _ => Nat.le_of_ble_eq_true rfl) (fun Z h hr => ?_)
  have hcap : b * v + x < capM := cap2 (mul24 hbb.2 (capL hv) hd) (by decide)
  have hb9 := hbb.2
  refine z_aload_n h d_M_push_0 rfl ?_
  refine z_iload_n h d_M_push_1 rfl ?_
  refine z_if_lt (tgt := 13) h d_M_push_2 (by decide) (fun c_2 => ?_) (fun c_2 => ?_)
  · exact absurd c_2 (nI_pos (by omega))
  · refine z_iload_n h d_M_push_5 rfl ?_
    refine z_aload_n h d_M_push_6 rfl ?_
    refine z_get (C := R_M) (T := F_M) (N := 10) h 2 d_M_push_7 in_M rfl (by decide) wf_M_16 rfl rfl ?_
    refine z_icmp_ltN (tgt := 17) h d_M_push_10 (by decide) (by omega) (fun c_10 => ?_) (fun c_10 => ?_)
    · refine z_iconst (v := nI 0) h d_M_push_17 (by decide) ?_
      refine z_iconst (v := nI 1) h d_M_push_18 (by decide) ?_
      refine z_cM h (ms_M_fails0 d n lf b b2 m kn t 1 dg wd) (zf_M_fails (by decide)) wm_M_128 wi_M_fails ws_M_fails d_M_push_19 (Nat.le_of_ble_eq_true rfl) rfl (fun x_19 hx_19 => ?_)
      refine z_if_eqN (tgt := 27) h d_M_push_22 (by decide) (by omega) (fun c_22 => ?_) (fun c_22 => ?_)
      · refine z_aload_n h d_M_push_27 rfl ?_
        refine z_iconst (v := nI 5) h d_M_push_28 (by decide) ?_
        refine z_iconst (v := nI 0) h d_M_push_29 (by decide) ?_
        refine z_cM h (ms_M_copy d n V lf (G0 b b2 m kn 0 dg wd) 5 0 (by decide) (by decide) hM) (zf_M_copy (by decide)) wm_M_70 wi_M_copy ws_M_copy d_M_push_30 (Nat.le_of_ble_eq_true rfl) rfl (fun x_30 hx_30 => ?_)
        rw [hV0] at hx_30
        refine z_aload_n h d_M_push_33 rfl ?_
        refine z_iconst (v := nI 5) h d_M_push_34 (by decide) ?_
        refine z_aload_n h d_M_push_35 rfl ?_
        refine z_get (C := R_M) (T := F_M) (N := 10) h 2 d_M_push_36 in_M rfl (by decide) wf_M_16 rfl rfl ?_
        refine z_i2lN h d_M_push_39 (by omega) ?_
        refine z_iload_n h d_M_push_40 rfl ?_
        refine z_i2lN h d_M_push_41 (by omega) ?_
        refine z_cM h (ms_M_grow x_30.1 x_30.2 (un V 5 v) lf (G0 b b2 m kn 0 dg wd) 5 b x (by decide) hx_30.1 (hx_30.2 5 (by decide)) (by omega) (by omega) (by rw [un_eq]; exact hcap)) (zf_M_grow (by decide)) wm_M_60 wi_M_grow ws_M_grow d_M_push_42 (Nat.le_of_ble_eq_true rfl) rfl (fun x_42 hx_42 => ?_)
        have hV2 := MV_MU hx_30 hx_42
        rw [un_eq, un_un, Nat.mul_comm b v] at hV2
        refine z_aload_n h d_M_push_45 rfl ?_
        refine z_iconst (v := nI 5) h d_M_push_46 (by decide) ?_
        refine z_iconst (v := nI 2) h d_M_push_47 (by decide) ?_
        refine z_cM h (ms_M_become x_42.1 x_42.2 _ lf b b2 m kn 0 5 (v * b + x) v2 2 dg wd hV2 (by decide) (by decide) un_eq (by rw [un_ne (by decide), hV1]) hbb hl) (zf_M_become (by decide)) wm_M_172 wi_M_become ws_M_become d_M_push_48 (Nat.le_of_ble_eq_true rfl) rfl (fun x_48 hx_48 => ?_)
        refine hr.1 _ _ _ _ _ _ (Nat.le_refl _) (Nat.le_refl _) rfl d_M_push_51 ?_
        exact ⟨rfl, RS_of hx_48 hbb hbb2 hl hv2⟩
      · exact absurd c_22 (by decide)
    · exact absurd c_10 (by omega)
set_option maxRecDepth 100000 in
set_option maxHeartbeats 4000000 in
theorem mf_M_push1 (v b v2 b2 t : Nat) (x : Int32) (w : List va_E) (h0 : RS v b v2 b2 t w) (hx : x < 0 ∨ ¬ x < nI b) : MS y_M_push c_M_push 2 (some .int) (rm 7) [.ref 0, .int x] w (RP 0 v b v2 b2 1) := by
  obtain ⟨d, n, V, lf, m, kn, dg, wd, rfl, hM, hV0, hV1, hK, hbb, hbb2, hv, hv2⟩ := h0
  refine MS_of (own := R_M) (by decide) rfl (fun _ => Nat.le_of_ble_eq_true rfl) (fun Z h hr => ?_)
  have T : Z 0 0 (mW d n lf (G0 b b2 m kn t dg wd)) [(0, .ref 0), (1, .int x)] 13 [.ref 0] := by
    refine z_iconst (v := nI 1) h d_M_push_13 (by decide) ?_
    refine z_goto (tgt := 18) h d_M_push_14 (by decide) ?_
    refine z_iconst (v := nI 1) h d_M_push_18 (by decide) ?_
    refine z_cM h (ms_M_fails1 d n lf b b2 m kn t 1 dg wd) (zf_M_fails (by decide)) wm_M_128 wi_M_fails ws_M_fails d_M_push_19 (Nat.le_of_ble_eq_true rfl) rfl (fun x_19 hx_19 => ?_)
    refine z_if_eqN (tgt := 27) h d_M_push_22 (by decide) (by omega) (fun c_22 => ?_) (fun c_22 => ?_)
    · exact absurd c_22 (by decide)
    · refine z_iconst (v := nI 0) h d_M_push_25 (by decide) ?_
      refine hr.1 _ _ _ _ _ _ (Nat.le_refl _) (Nat.le_refl _) rfl d_M_push_26 ?_
      exact ⟨rfl, d, n, V, lf, m, kn, dg, wd, rfl, hM, hV0, hV1, hK, hbb, hbb2, hv, hv2⟩
  refine z_aload_n h d_M_push_0 rfl ?_
  refine z_iload_n h d_M_push_1 rfl ?_
  refine z_if_lt (tgt := 13) h d_M_push_2 (by decide) (fun c_2 => ?_) (fun c_2 => ?_)
  · exact z_lv h rfl T
  · refine z_iload_n h d_M_push_5 rfl ?_
    refine z_aload_n h d_M_push_6 rfl ?_
    refine z_get (C := R_M) (T := F_M) (N := 10) h 2 d_M_push_7 in_M rfl (by decide) wf_M_16 rfl rfl ?_
    refine z_icmp_lt (tgt := 17) h d_M_push_10 (by decide) (fun c_10 => ?_) (fun c_10 => ?_)
    · exact absurd c_10 (hx.resolve_left c_2)
    · exact z_lv h rfl T
set_option maxRecDepth 100000 in
set_option maxHeartbeats 4000000 in
theorem mf_M_push2 (v b v2 b2 t x : Nat) (w : List va_E) (h0 : RS v b v2 b2 t w) (hd : x < b) (hl : ¬ bl (v * b + x) ≤ 24000) : MS y_M_push c_M_push 2 (some .int) (rm 7) [.ref 0, .int (nI x)] w (RP 0 v b v2 b2 2) := by
  obtain ⟨d, n, V, lf, m, kn, dg, wd, rfl, hM, hV0, hV1, hK, hbb, hbb2, hv, hv2⟩ := h0
  refine MS_of (own := R_M) (by decide) rfl (fun _ => Nat.le_of_ble_eq_true rfl) (fun Z h hr => ?_)
  have hcap : b * v + x < capM := cap2 (mul24 hbb.2 (capL hv) hd) (by decide)
  have hb9 := hbb.2
  refine z_aload_n h d_M_push_0 rfl ?_
  refine z_iload_n h d_M_push_1 rfl ?_
  refine z_if_lt (tgt := 13) h d_M_push_2 (by decide) (fun c_2 => ?_) (fun c_2 => ?_)
  · exact absurd c_2 (nI_pos (by omega))
  · refine z_iload_n h d_M_push_5 rfl ?_
    refine z_aload_n h d_M_push_6 rfl ?_
    refine z_get (C := R_M) (T := F_M) (N := 10) h 2 d_M_push_7 in_M rfl (by decide) wf_M_16 rfl rfl ?_
    refine z_icmp_ltN (tgt := 17) h d_M_push_10 (by decide) (by omega) (fun c_10 => ?_) (fun c_10 => ?_)
    · refine z_iconst (v := nI 0) h d_M_push_17 (by decide) ?_
      refine z_iconst (v := nI 1) h d_M_push_18 (by decide) ?_
      refine z_cM h (ms_M_fails0 d n lf b b2 m kn t 1 dg wd) (zf_M_fails (by decide)) wm_M_128 wi_M_fails ws_M_fails d_M_push_19 (Nat.le_of_ble_eq_true rfl) rfl (fun x_19 hx_19 => ?_)
      refine z_if_eqN (tgt := 27) h d_M_push_22 (by decide) (by omega) (fun c_22 => ?_) (fun c_22 => ?_)
      · refine z_aload_n h d_M_push_27 rfl ?_
        refine z_iconst (v := nI 5) h d_M_push_28 (by decide) ?_
        refine z_iconst (v := nI 0) h d_M_push_29 (by decide) ?_
        refine z_cM h (ms_M_copy d n V lf (G0 b b2 m kn 0 dg wd) 5 0 (by decide) (by decide) hM) (zf_M_copy (by decide)) wm_M_70 wi_M_copy ws_M_copy d_M_push_30 (Nat.le_of_ble_eq_true rfl) rfl (fun x_30 hx_30 => ?_)
        rw [hV0] at hx_30
        refine z_aload_n h d_M_push_33 rfl ?_
        refine z_iconst (v := nI 5) h d_M_push_34 (by decide) ?_
        refine z_aload_n h d_M_push_35 rfl ?_
        refine z_get (C := R_M) (T := F_M) (N := 10) h 2 d_M_push_36 in_M rfl (by decide) wf_M_16 rfl rfl ?_
        refine z_i2lN h d_M_push_39 (by omega) ?_
        refine z_iload_n h d_M_push_40 rfl ?_
        refine z_i2lN h d_M_push_41 (by omega) ?_
        refine z_cM h (ms_M_grow x_30.1 x_30.2 (un V 5 v) lf (G0 b b2 m kn 0 dg wd) 5 b x (by decide) hx_30.1 (hx_30.2 5 (by decide)) (by omega) (by omega) (by rw [un_eq]; exact hcap)) (zf_M_grow (by decide)) wm_M_60 wi_M_grow ws_M_grow d_M_push_42 (Nat.le_of_ble_eq_true rfl) rfl (fun x_42 hx_42 => ?_)
        have hV2 := MV_MU hx_30 hx_42
        rw [un_eq, un_un, Nat.mul_comm b v] at hV2
        have hbl := MV_bl hV2 (show 5 < 10 by decide)
        rw [un_eq] at hbl
        refine z_aload_n h d_M_push_45 rfl ?_
        refine z_iconst (v := nI 5) h d_M_push_46 (by decide) ?_
        refine z_iconst (v := nI 2) h d_M_push_47 (by decide) ?_
        refine z_cM h (ms_M_becomeF x_42.1 x_42.2 _ lf b b2 m kn 0 5 (v * b + x) 2 dg wd hV2 (by decide) un_eq hl (by omega)) (zf_M_become (by decide)) wm_M_172 wi_M_become ws_M_become d_M_push_48 (Nat.le_of_ble_eq_true rfl) rfl (fun x_48 hx_48 => ?_)
        refine hr.1 _ _ _ _ _ _ (Nat.le_refl _) (Nat.le_refl _) rfl d_M_push_51 ?_
        exact ⟨rfl, x_42.1, x_42.2, _, lf, m, kn, dg, wd, rfl, hV2, by rw [un_ne (by decide), hV0], by rw [un_ne (by decide), hV1], hK, hbb, hbb2, hv, hv2⟩
      · exact absurd c_22 (by decide)
    · exact absurd c_10 (by omega)
set_option maxRecDepth 100000 in
set_option maxHeartbeats 4000000 in
theorem ms_M_add (v b v2 b2 t : Nat) (w : List va_E) (h0 : RS v b v2 b2 t w) (hl : bl (v + v2) ≤ 24000) : MS y_M_add c_M_add 1 (some .int) (rm 7) [.ref 0] w (RP (nI (nd b (v + v2))) (v + v2) b v2 b2 0) := by
  obtain ⟨d, n, V, lf, m, kn, dg, wd, rfl, hM, hV0, hV1, hK, hbb, hbb2, hv, hv2⟩ := h0
  refine MS_of (own := R_M) (by decide) rfl (fun _ => Nat.le_of_ble_eq_true rfl) (fun Z h hr => ?_)
  have hcap : v + 1 * v2 < capM := by rw [Nat.one_mul]; exact cap2 (two24 (capL hv) (capL hv2) 24001 (by decide)) (by decide)
  · refine z_aload_n h d_M_add_0 rfl ?_
    refine z_iconst (v := nI 5) h d_M_add_1 (by decide) ?_
    refine z_iconst (v := nI 0) h d_M_add_2 (by decide) ?_
    refine z_cM h (ms_M_copy d n V lf (G0 b b2 m kn t dg wd) 5 0 (by decide) (by decide) hM) (zf_M_copy (by decide)) wm_M_70 wi_M_copy ws_M_copy d_M_add_3 (Nat.le_of_ble_eq_true rfl) rfl (fun x_3 hx_3 => ?_)
    rw [hV0] at hx_3
    refine z_aload_n h d_M_add_6 rfl ?_
    refine z_iconst (v := nI 5) h d_M_add_7 (by decide) ?_
    refine z_iconst (v := nI 1) h d_M_add_8 (by decide) ?_
    refine z_lconst (v := lN 1) h d_M_add_9 (by decide) ?_
    refine z_cM h (ms_M_addTimes x_3.1 x_3.2 (un V 5 v) lf (G0 b b2 m kn t dg wd) 5 1 1 (by decide) (by decide) (by decide) hx_3 (by decide) (by rw [un_eq, un_ne (by decide), hV1]; exact hcap)) (zf_M_addTimes (by decide)) wm_M_50 wi_M_addTimes ws_M_addTimes d_M_add_10 (Nat.le_of_ble_eq_true rfl) rfl (fun x_10 hx_10 => ?_)
    have hV2 := hx_10
    rw [un_eq, un_un, un_ne (by decide), hV1, Nat.one_mul] at hV2
    refine z_aload_n h d_M_add_13 rfl ?_
    refine z_iconst (v := nI 5) h d_M_add_14 (by decide) ?_
    refine z_iconst (v := nI 1) h d_M_add_15 (by decide) ?_
    refine z_cM h (ms_M_become x_10.1 x_10.2 _ lf b b2 m kn t 5 (v + v2) v2 1 dg wd hV2 (by decide) (by decide) un_eq (by rw [un_ne (by decide), hV1]) hbb hl) (zf_M_become (by decide)) wm_M_172 wi_M_become ws_M_become d_M_add_16 (Nat.le_of_ble_eq_true rfl) rfl (fun x_16 hx_16 => ?_)
    refine hr.1 _ _ _ _ _ _ (Nat.le_refl _) (Nat.le_refl _) rfl d_M_add_19 ?_
    exact ⟨rfl, RS_of hx_16 hbb hbb2 hl hv2⟩
set_option maxRecDepth 100000 in
set_option maxHeartbeats 4000000 in
theorem mf_M_add (v b v2 b2 t : Nat) (w : List va_E) (h0 : RS v b v2 b2 t w) (hl : ¬ bl (v + v2) ≤ 24000) : MS y_M_add c_M_add 1 (some .int) (rm 7) [.ref 0] w (RP 0 v b v2 b2 1) := by
  obtain ⟨d, n, V, lf, m, kn, dg, wd, rfl, hM, hV0, hV1, hK, hbb, hbb2, hv, hv2⟩ := h0
  refine MS_of (own := R_M) (by decide) rfl (fun _ => Nat.le_of_ble_eq_true rfl) (fun Z h hr => ?_)
  have hcap : v + 1 * v2 < capM := by rw [Nat.one_mul]; exact cap2 (two24 (capL hv) (capL hv2) 24001 (by decide)) (by decide)
  · refine z_aload_n h d_M_add_0 rfl ?_
    refine z_iconst (v := nI 5) h d_M_add_1 (by decide) ?_
    refine z_iconst (v := nI 0) h d_M_add_2 (by decide) ?_
    refine z_cM h (ms_M_copy d n V lf (G0 b b2 m kn t dg wd) 5 0 (by decide) (by decide) hM) (zf_M_copy (by decide)) wm_M_70 wi_M_copy ws_M_copy d_M_add_3 (Nat.le_of_ble_eq_true rfl) rfl (fun x_3 hx_3 => ?_)
    rw [hV0] at hx_3
    refine z_aload_n h d_M_add_6 rfl ?_
    refine z_iconst (v := nI 5) h d_M_add_7 (by decide) ?_
    refine z_iconst (v := nI 1) h d_M_add_8 (by decide) ?_
    refine z_lconst (v := lN 1) h d_M_add_9 (by decide) ?_
    refine z_cM h (ms_M_addTimes x_3.1 x_3.2 (un V 5 v) lf (G0 b b2 m kn t dg wd) 5 1 1 (by decide) (by decide) (by decide) hx_3 (by decide) (by rw [un_eq, un_ne (by decide), hV1]; exact hcap)) (zf_M_addTimes (by decide)) wm_M_50 wi_M_addTimes ws_M_addTimes d_M_add_10 (Nat.le_of_ble_eq_true rfl) rfl (fun x_10 hx_10 => ?_)
    have hV2 := hx_10
    rw [un_eq, un_un, un_ne (by decide), hV1, Nat.one_mul] at hV2
    have hbl := MV_bl hV2 (show 5 < 10 by decide)
    rw [un_eq] at hbl
    refine z_aload_n h d_M_add_13 rfl ?_
    refine z_iconst (v := nI 5) h d_M_add_14 (by decide) ?_
    refine z_iconst (v := nI 1) h d_M_add_15 (by decide) ?_
    refine z_cM h (ms_M_becomeF x_10.1 x_10.2 _ lf b b2 m kn t 5 (v + v2) 1 dg wd hV2 (by decide) un_eq hl (by omega)) (zf_M_become (by decide)) wm_M_172 wi_M_become ws_M_become d_M_add_16 (Nat.le_of_ble_eq_true rfl) rfl (fun x_16 hx_16 => ?_)
    refine hr.1 _ _ _ _ _ _ (Nat.le_refl _) (Nat.le_refl _) rfl d_M_add_19 ?_
    exact ⟨rfl, x_10.1, x_10.2, _, lf, m, kn, dg, wd, rfl, hV2, by rw [un_ne (by decide), hV0], by rw [un_ne (by decide), hV1], hK, hbb, hbb2, hv, hv2⟩
theorem len_mul2 {v u : Nat} (h : bl v + bl u ≤ 24001) : v * u < 2 ^ 24001 := by
  have e1 : v * u ≤ v * 2 ^ bl u := Nat.mul_le_mul_left v (Nat.le_of_lt (bl_ub u))
  have e2 : v * 2 ^ bl u < 2 ^ bl v * 2 ^ bl u := Nat.mul_lt_mul_of_pos_right (bl_ub v) (Nat.pow_pos (by decide))
  rw [← Nat.pow_add] at e2
  exact Nat.lt_of_le_of_lt e1 (Nat.lt_of_lt_of_le e2 (Nat.pow_le_pow_right (by decide) h))
theorem le24 {a : Nat} (h : a ≤ 100000) : (nI a - 1 ≤ 24000) ↔ a ≤ 24001 := by
  rw [show (1 : Int32) = iI 1 from rfl, show (24000 : Int32) = iI 24000 from rfl, nI_iI, iI_sub, iI_le (by omega) (by omega) (by omega) (by omega)]
  omega
theorem gt24 {a : Nat} (h : a ≤ 100000) : (24000 < nI a - 1) ↔ ¬ a ≤ 24001 := by
  rw [show (1 : Int32) = iI 1 from rfl, show (24000 : Int32) = iI 24000 from rfl, nI_iI, iI_sub, iI_lt (by omega) (by omega) (by omega) (by omega)]
  omega
set_option maxRecDepth 100000 in
set_option maxHeartbeats 4000000 in
theorem ms_M_times (v b v2 b2 t : Nat) (w : List va_E) (h0 : RS v b v2 b2 t w) (hl0 : bl v + bl v2 ≤ 24001) (hl : bl (v * v2) ≤ 24000) : MS y_M_times c_M_times 1 (some .int) (rm 7) [.ref 0] w (RP (nI (nd b (v * v2))) (v * v2) b v2 b2 0) := by
  obtain ⟨d, n, V, lf, m, kn, dg, wd, rfl, hM, hV0, hV1, hK, hbb, hbb2, hv, hv2⟩ := h0
  refine MS_of (own := R_M) (by decide) rfl (fun _ => Nat.le_of_ble_eq_true rfl) (fun Z h hr => ?_)
  have hl1 := MV_bl hM (show 0 < 10 by decide)
  have hl2 := MV_bl hM (show 1 < 10 by decide)
  rw [hV0] at hl1
  rw [hV1] at hl2
  refine z_aload_n h d_M_times_0 rfl ?_
  refine z_aload_n h d_M_times_1 rfl ?_
  refine z_iconst (v := nI 0) h d_M_times_2 (by decide) ?_
  refine z_cM h (ms_M_length d n V lf (G0 b b2 m kn t dg wd) 0 (by decide) hM) (zf_M_length (by decide)) wm_M_169 wi_M_length ws_M_length d_M_times_3 (Nat.le_of_ble_eq_true rfl) rfl (fun x_3 hx_3 => ?_)
  rw [hV0]
  refine z_aload_n h d_M_times_6 rfl ?_
  refine z_iconst (v := nI 1) h d_M_times_7 (by decide) ?_
  refine z_cM h (ms_M_length d n V lf (G0 b b2 m kn t dg wd) 1 (by decide) hM) (zf_M_length (by decide)) wm_M_169 wi_M_length ws_M_length d_M_times_8 (Nat.le_of_ble_eq_true rfl) rfl (fun x_8 hx_8 => ?_)
  rw [hV1]
  refine z_iaddN h d_M_times_11 ?_
  refine z_iconst (v := 1) h d_M_times_12 (by decide) ?_
  refine z_isub h d_M_times_13 ?_
  refine z_sipush (v := 24000) h d_M_times_14 (by decide) ?_
  refine z_icmp_le (tgt := 24) h d_M_times_17 (by decide) (fun c_17 => ?_) (fun c_17 => ?_)
  · refine z_iconst (v := nI 0) h d_M_times_24 (by decide) ?_
    refine z_iconst (v := nI 1) h d_M_times_25 (by decide) ?_
    refine z_cM h (ms_M_fails0 d n lf b b2 m kn t 1 dg wd) (zf_M_fails (by decide)) wm_M_128 wi_M_fails ws_M_fails d_M_times_26 (Nat.le_of_ble_eq_true rfl) rfl (fun x_26 hx_26 => ?_)
    refine z_if_eqN (tgt := 34) h d_M_times_29 (by decide) (by omega) (fun c_29 => ?_) (fun c_29 => ?_)
    · have hcap : v * v2 < capM := cap2 (len_mul2 hl0) (by decide)
      refine z_aload_n h d_M_times_34 rfl ?_
      refine z_iconst (v := nI 5) h d_M_times_35 (by decide) ?_
      refine z_iconst (v := nI 0) h d_M_times_36 (by decide) ?_
      refine z_iconst (v := nI 1) h d_M_times_37 (by decide) ?_
      refine z_cM h (ms_M_product d n V lf (G0 b b2 m kn 0 dg wd) 5 0 1 (by decide) (by decide) (by decide) (by decide) (by decide) hM (by rw [hV0, hV1]; exact hcap)) (zf_M_product (by decide)) wm_M_163 wi_M_product ws_M_product d_M_times_38 (Nat.le_of_ble_eq_true rfl) rfl (fun x_38 hx_38 => ?_)
      rw [hV0, hV1] at hx_38
      refine z_aload_n h d_M_times_41 rfl ?_
      refine z_iconst (v := nI 5) h d_M_times_42 (by decide) ?_
      refine z_iconst (v := nI 1) h d_M_times_43 (by decide) ?_
      refine z_cM h (ms_M_become x_38.1 x_38.2 _ lf b b2 m kn 0 5 (v * v2) v2 1 dg wd hx_38 (by decide) (by decide) un_eq (by rw [un_ne (by decide), hV1]) hbb hl) (zf_M_become (by decide)) wm_M_172 wi_M_become ws_M_become d_M_times_44 (Nat.le_of_ble_eq_true rfl) rfl (fun x_44 hx_44 => ?_)
      refine hr.1 _ _ _ _ _ _ (Nat.le_refl _) (Nat.le_refl _) rfl d_M_times_47 ?_
      exact ⟨rfl, RS_of hx_44 hbb hbb2 hl hv2⟩
    · exact absurd c_29 (by decide)
  · exact absurd ((le24 (by omega)).mpr hl0) c_17
set_option maxRecDepth 100000 in
set_option maxHeartbeats 4000000 in
theorem mf_M_times (v b v2 b2 t : Nat) (w : List va_E) (h0 : RS v b v2 b2 t w) (hl : ¬ (bl v + bl v2 ≤ 24001 ∧ bl (v * v2) ≤ 24000)) : MS y_M_times c_M_times 1 (some .int) (rm 7) [.ref 0] w (RP 0 v b v2 b2 1) := by
  obtain ⟨d, n, V, lf, m, kn, dg, wd, rfl, hM, hV0, hV1, hK, hbb, hbb2, hv, hv2⟩ := h0
  refine MS_of (own := R_M) (by decide) rfl (fun _ => Nat.le_of_ble_eq_true rfl) (fun Z h hr => ?_)
  have hl1 := MV_bl hM (show 0 < 10 by decide)
  have hl2 := MV_bl hM (show 1 < 10 by decide)
  rw [hV0] at hl1
  rw [hV1] at hl2
  refine z_aload_n h d_M_times_0 rfl ?_
  refine z_aload_n h d_M_times_1 rfl ?_
  refine z_iconst (v := nI 0) h d_M_times_2 (by decide) ?_
  refine z_cM h (ms_M_length d n V lf (G0 b b2 m kn t dg wd) 0 (by decide) hM) (zf_M_length (by decide)) wm_M_169 wi_M_length ws_M_length d_M_times_3 (Nat.le_of_ble_eq_true rfl) rfl (fun x_3 hx_3 => ?_)
  rw [hV0]
  refine z_aload_n h d_M_times_6 rfl ?_
  refine z_iconst (v := nI 1) h d_M_times_7 (by decide) ?_
  refine z_cM h (ms_M_length d n V lf (G0 b b2 m kn t dg wd) 1 (by decide) hM) (zf_M_length (by decide)) wm_M_169 wi_M_length ws_M_length d_M_times_8 (Nat.le_of_ble_eq_true rfl) rfl (fun x_8 hx_8 => ?_)
  rw [hV1]
  refine z_iaddN h d_M_times_11 ?_
  refine z_iconst (v := 1) h d_M_times_12 (by decide) ?_
  refine z_isub h d_M_times_13 ?_
  refine z_sipush (v := 24000) h d_M_times_14 (by decide) ?_
  refine z_icmp_le (tgt := 24) h d_M_times_17 (by decide) (fun c_17 => ?_) (fun c_17 => ?_)
  · have hl0 : bl v + bl v2 ≤ 24001 := (le24 (by omega)).mp c_17
    have hl9 : ¬ bl (v * v2) ≤ 24000 := fun q => hl ⟨hl0, q⟩
    refine z_iconst (v := nI 0) h d_M_times_24 (by decide) ?_
    refine z_iconst (v := nI 1) h d_M_times_25 (by decide) ?_
    refine z_cM h (ms_M_fails0 d n lf b b2 m kn t 1 dg wd) (zf_M_fails (by decide)) wm_M_128 wi_M_fails ws_M_fails d_M_times_26 (Nat.le_of_ble_eq_true rfl) rfl (fun x_26 hx_26 => ?_)
    refine z_if_eqN (tgt := 34) h d_M_times_29 (by decide) (by omega) (fun c_29 => ?_) (fun c_29 => ?_)
    · have hcap : v * v2 < capM := cap2 (len_mul2 hl0) (by decide)
      refine z_aload_n h d_M_times_34 rfl ?_
      refine z_iconst (v := nI 5) h d_M_times_35 (by decide) ?_
      refine z_iconst (v := nI 0) h d_M_times_36 (by decide) ?_
      refine z_iconst (v := nI 1) h d_M_times_37 (by decide) ?_
      refine z_cM h (ms_M_product d n V lf (G0 b b2 m kn 0 dg wd) 5 0 1 (by decide) (by decide) (by decide) (by decide) (by decide) hM (by rw [hV0, hV1]; exact hcap)) (zf_M_product (by decide)) wm_M_163 wi_M_product ws_M_product d_M_times_38 (Nat.le_of_ble_eq_true rfl) rfl (fun x_38 hx_38 => ?_)
      rw [hV0, hV1] at hx_38
      have hbl := MV_bl hx_38 (show 5 < 10 by decide)
      rw [un_eq] at hbl
      refine z_aload_n h d_M_times_41 rfl ?_
      refine z_iconst (v := nI 5) h d_M_times_42 (by decide) ?_
      refine z_iconst (v := nI 1) h d_M_times_43 (by decide) ?_
      refine z_cM h (ms_M_becomeF x_38.1 x_38.2 _ lf b b2 m kn 0 5 (v * v2) 1 dg wd hx_38 (by decide) un_eq hl9 (by omega)) (zf_M_become (by decide)) wm_M_172 wi_M_become ws_M_become d_M_times_44 (Nat.le_of_ble_eq_true rfl) rfl (fun x_44 hx_44 => ?_)
      refine hr.1 _ _ _ _ _ _ (Nat.le_refl _) (Nat.le_refl _) rfl d_M_times_47 ?_
      exact ⟨rfl, x_38.1, x_38.2, _, lf, m, kn, dg, wd, rfl, hx_38, by rw [un_ne (by decide), hV0], by rw [un_ne (by decide), hV1], hK, hbb, hbb2, hv, hv2⟩
    · exact absurd c_29 (by decide)
  · refine z_iconst (v := nI 1) h d_M_times_20 (by decide) ?_
    refine z_goto (tgt := 25) h d_M_times_21 (by decide) ?_
    refine z_iconst (v := nI 1) h d_M_times_25 (by decide) ?_
    refine z_cM h (ms_M_fails1 d n lf b b2 m kn t 1 dg wd) (zf_M_fails (by decide)) wm_M_128 wi_M_fails ws_M_fails d_M_times_26 (Nat.le_of_ble_eq_true rfl) rfl (fun x_26 hx_26 => ?_)
    refine z_if_eqN (tgt := 34) h d_M_times_29 (by decide) (by omega) (fun c_29 => ?_) (fun c_29 => ?_)
    · exact absurd c_29 (by decide)
    · refine z_iconst (v := nI 0) h d_M_times_32 (by decide) ?_
      refine hr.1 _ _ _ _ _ _ (Nat.le_refl _) (Nat.le_refl _) rfl d_M_times_33 ?_
      exact ⟨rfl, d, n, V, lf, m, kn, dg, wd, rfl, hM, hV0, hV1, hK, hbb, hbb2, hv, hv2⟩
theorem Rp_nz {B N : Nat} {a : Nat → Nat} {s v : Nat} (hB : 0 < B) (h : Rp B N a s v) : s = 0 ↔ v = 0 := by
  constructor
  · intro q
    rw [q] at h
    have := Rp_lt h
    rw [Nat.pow_zero] at this
    omega
  · intro q
    rcases h.2.2.2 with p | p
    · exact p
    · rw [q] at p
      exact absurd (Nat.pow_pos (n := s - 1) hB) (by omega)
set_option maxRecDepth 100000 in
set_option maxHeartbeats 4000000 in
theorem ms_M_divide (v b v2 b2 t : Nat) (w : List va_E) (h0 : RS v b v2 b2 t w) (hz : v2 ≠ 0) : MS y_M_divide c_M_divide 1 (some .int) (rm 7) [.ref 0] w (RP (nI (nd b (v / v2))) (v / v2) b (v % v2) b2 0) := by
  obtain ⟨d, n, V, lf, m, kn, dg, wd, rfl, hM, hV0, hV1, hK, hbb, hbb2, hv, hv2⟩ := h0
  refine MS_of (own := R_M) (by decide) rfl (fun _ => Nat.le_of_ble_eq_true rfl) (fun Z h hr => ?_)
  have hR := hM.2 1 (by decide)
  rw [hV1] at hR
  have hn := hR.1
  have hnz := Rp_nz (by decide) hR
  have hlq : bl (v / v2) ≤ 24000 := bl_lt (Nat.lt_of_le_of_lt (Nat.div_le_self _ _) (capL hv))
  have hlr : bl (v % v2) ≤ 24000 := bl_lt (Nat.lt_of_le_of_lt (Nat.mod_le _ _) (capL hv))
  refine z_aload_n h d_M_divide_0 rfl ?_
  refine z_aload_n h d_M_divide_1 rfl ?_
  refine z_get (C := R_M) (T := F_M) (N := 10) h 1 d_M_divide_2 in_M rfl (by decide) wf_M_13 rfl rfl ?_
  refine z_iconst (v := nI 1) h d_M_divide_5 (by decide) ?_
  refine z_ialoadN h d_M_divide_6 rfl (by omega) ?_
  refine z_if_neN (tgt := 14) h d_M_divide_7 (by decide) (by omega) (fun c_7 => ?_) (fun c_7 => ?_)
  · refine z_iconst (v := nI 0) h d_M_divide_14 (by decide) ?_
    refine z_iconst (v := nI 1) h d_M_divide_15 (by decide) ?_
    refine z_cM h (ms_M_fails0 d n lf b b2 m kn t 1 dg wd) (zf_M_fails (by decide)) wm_M_128 wi_M_fails ws_M_fails d_M_divide_16 (Nat.le_of_ble_eq_true rfl) rfl (fun x_16 hx_16 => ?_)
    refine z_if_eqN (tgt := 24) h d_M_divide_19 (by decide) (by omega) (fun c_19 => ?_) (fun c_19 => ?_)
    · refine z_aload_n h d_M_divide_24 rfl ?_
      refine z_iconst (v := nI 5) h d_M_divide_25 (by decide) ?_
      refine z_iconst (v := nI 0) h d_M_divide_26 (by decide) ?_
      refine z_iconst (v := nI 1) h d_M_divide_27 (by decide) ?_
      refine z_cM h (ms_M_quotient d n V lf (G0 b b2 m kn 0 dg wd) 5 0 1 (by decide) (by decide) (by decide) (by decide) (by decide) hM (by rw [hV1]; omega)) (zf_M_quotient (by decide)) wm_M_166 wi_M_quotient ws_M_quotient d_M_divide_28 (Nat.le_of_ble_eq_true rfl) rfl (fun x_28 hx_28 => ?_)
      rw [hV0, hV1] at hx_28
      refine z_aload_n h d_M_divide_31 rfl ?_
      refine z_iconst (v := nI 0) h d_M_divide_32 (by decide) ?_
      refine z_iconst (v := nI 5) h d_M_divide_33 (by decide) ?_
      refine z_cM h (ms_M_copy x_28.1 x_28.2 _ lf (G0 b b2 m kn 0 dg wd) 0 5 (by decide) (by decide) hx_28) (zf_M_copy (by decide)) wm_M_70 wi_M_copy ws_M_copy d_M_divide_34 (Nat.le_of_ble_eq_true rfl) rfl (fun x_34 hx_34 => ?_)
      refine z_aload_n h d_M_divide_37 rfl ?_
      refine z_iconst (v := nI 1) h d_M_divide_38 (by decide) ?_
      refine z_bipush (v := nI 7) h d_M_divide_39 (by decide) ?_
      refine z_cM h (ms_M_copy x_34.1 x_34.2 _ lf (G0 b b2 m kn 0 dg wd) 1 7 (by decide) (by decide) hx_34) (zf_M_copy (by decide)) wm_M_70 wi_M_copy ws_M_copy d_M_divide_41 (Nat.le_of_ble_eq_true rfl) rfl (fun x_41 hx_41 => ?_)
      refine z_aload_n h d_M_divide_44 rfl ?_
      refine z_aload_n h d_M_divide_45 rfl ?_
      refine z_get (C := R_M) (T := F_M) (N := 10) h 2 d_M_divide_46 in_M rfl (by decide) wf_M_16 rfl rfl ?_
      refine z_cM h (ms_M_told x_41.1 x_41.2 _ lf b b2 m kn 0 (v / v2) (v % v2) b dg wd hx_41 rfl rfl hbb hlq) (zf_M_told (by decide)) wm_M_160 wi_M_told ws_M_told d_M_divide_49 (Nat.le_of_ble_eq_true rfl) rfl (fun x_49 hx_49 => ?_)
      refine hr.1 _ _ _ _ _ _ (Nat.le_refl _) (Nat.le_refl _) rfl d_M_divide_52 ?_
      exact ⟨rfl, RS_of hx_49 hbb hbb2 hlq hlr⟩
    · exact absurd c_19 (by decide)
  · exact absurd (hnz.mp c_7) hz
set_option maxRecDepth 100000 in
set_option maxHeartbeats 4000000 in
theorem mf_M_divide (v b b2 t : Nat) (w : List va_E) (h0 : RS v b 0 b2 t w) : MS y_M_divide c_M_divide 1 (some .int) (rm 7) [.ref 0] w (RP 0 v b 0 b2 1) := by
  obtain ⟨d, n, V, lf, m, kn, dg, wd, rfl, hM, hV0, hV1, hK, hbb, hbb2, hv, hv2⟩ := h0
  refine MS_of (own := R_M) (by decide) rfl (fun _ => Nat.le_of_ble_eq_true rfl) (fun Z h hr => ?_)
  have hR := hM.2 1 (by decide)
  rw [hV1] at hR
  have hn := hR.1
  have hnz := Rp_nz (by decide) hR
  refine z_aload_n h d_M_divide_0 rfl ?_
  refine z_aload_n h d_M_divide_1 rfl ?_
  refine z_get (C := R_M) (T := F_M) (N := 10) h 1 d_M_divide_2 in_M rfl (by decide) wf_M_13 rfl rfl ?_
  refine z_iconst (v := nI 1) h d_M_divide_5 (by decide) ?_
  refine z_ialoadN h d_M_divide_6 rfl (by omega) ?_
  refine z_if_neN (tgt := 14) h d_M_divide_7 (by decide) (by omega) (fun c_7 => ?_) (fun c_7 => ?_)
  · exact absurd (hnz.mpr rfl) c_7
  · refine z_iconst (v := nI 1) h d_M_divide_10 (by decide) ?_
    refine z_goto (tgt := 15) h d_M_divide_11 (by decide) ?_
    refine z_iconst (v := nI 1) h d_M_divide_15 (by decide) ?_
    refine z_cM h (ms_M_fails1 d n lf b b2 m kn t 1 dg wd) (zf_M_fails (by decide)) wm_M_128 wi_M_fails ws_M_fails d_M_divide_16 (Nat.le_of_ble_eq_true rfl) rfl (fun x_16 hx_16 => ?_)
    refine z_if_eqN (tgt := 24) h d_M_divide_19 (by decide) (by omega) (fun c_19 => ?_) (fun c_19 => ?_)
    · exact absurd c_19 (by decide)
    · refine z_iconst (v := nI 0) h d_M_divide_22 (by decide) ?_
      refine hr.1 _ _ _ _ _ _ (Nat.le_refl _) (Nat.le_refl _) rfl d_M_divide_23 ?_
      exact ⟨rfl, d, n, V, lf, m, kn, dg, wd, rfl, hM, hV0, hV1, hK, hbb, hbb2, hv, hv2⟩
theorem cap_rt {v K : Nat} (hv : v < 2 ^ K) (hK : K ≤ 41900) : v * 1152921504606846976 + 1152921504606846976 < capM := by
  have e1 : (v + 1) * 2 ^ 60 ≤ 2 ^ K * 2 ^ 60 := Nat.mul_le_mul_right _ hv
  rw [← Nat.pow_add] at e1
  have e2 : v * 1152921504606846976 + 1152921504606846976 = (v + 1) * 2 ^ 60 := by
    rw [Nat.add_mul]
  rw [e2]
  exact cap2 (Nat.lt_of_le_of_lt e1 (Nat.pow_lt_pow_right (by decide) (show K + 60 < K + 61 by omega))) (by omega)
theorem IsR_le {v y : Nat} (h : IsR v y) : y ≤ v := by
  rcases Nat.eq_zero_or_pos y with q | q
  · omega
  · exact Nat.le_trans (Nat.le_mul_of_pos_left y q) h.1
set_option maxRecDepth 100000 in
set_option maxHeartbeats 4000000 in
theorem ms_M_rooted (v b v2 b2 t : Nat) (w : List va_E) (h0 : RS v b v2 b2 t w) : MS y_M_rooted c_M_rooted 1 (some .int) (rm 7) [.ref 0] w (fun r w' => ∃ x, IsR v x ∧ RP (nI (nd b x)) x b v2 b2 0 r w') := by
  obtain ⟨d, n, V, lf, m, kn, dg, wd, rfl, hM, hV0, hV1, hK, hbb, hbb2, hv, hv2⟩ := h0
  refine MS_of (own := R_M) (by decide) rfl (fun _ => Nat.le_of_ble_eq_true rfl) (fun Z h hr => ?_)
  have hcap := cap_rt (capL hv) (by decide)
  refine z_aload_n h d_M_rooted_0 rfl ?_
  refine z_iconst (v := nI 0) h d_M_rooted_1 (by decide) ?_
  refine z_put (C := R_M) (T := F_M) (N := 10) (ty := .int) h 8 d_M_rooted_2 in_M rfl ft_M_ok n_M (by decide) wf_M_29 rfl rfl rfl rfl rfl (Nat.le_of_ble_eq_true rfl) ?_
  show Z 0 0 (mW d n lf (G0 b b2 m kn 0 dg wd)) _ _ _
  refine z_aload_n h d_M_rooted_5 rfl ?_
  refine z_iconst (v := nI 5) h d_M_rooted_6 (by decide) ?_
  refine z_iconst (v := nI 0) h d_M_rooted_7 (by decide) ?_
  refine z_cM h (ms_M_rootOf d n V lf (G0 b b2 m kn 0 dg wd) 5 0 (by decide) (by decide) (by decide) hM (by rw [hV0]; exact hcap)) (zf_M_rootOf (by decide)) wm_M_121 wi_M_rootOf ws_M_rootOf d_M_rooted_8 (Nat.le_of_ble_eq_true rfl) rfl (fun x_8 hx_8 => ?_)
  obtain ⟨k1, k2, k3⟩ := hx_8
  rw [hV0] at k2
  have hlx : bl (x_8.2.2 5) ≤ 24000 := bl_lt (Nat.lt_of_le_of_lt (IsR_le k2) (capL hv))
  refine z_aload_n h d_M_rooted_11 rfl ?_
  refine z_iconst (v := nI 0) h d_M_rooted_12 (by decide) ?_
  refine z_iconst (v := nI 5) h d_M_rooted_13 (by decide) ?_
  refine z_cM h (ms_M_copy x_8.1 x_8.2.1 x_8.2.2 lf (G0 b b2 m kn 0 dg wd) 0 5 (by decide) (by decide) k1) (zf_M_copy (by decide)) wm_M_70 wi_M_copy ws_M_copy d_M_rooted_14 (Nat.le_of_ble_eq_true rfl) rfl (fun x_14 hx_14 => ?_)
  refine z_aload_n h d_M_rooted_17 rfl ?_
  refine z_aload_n h d_M_rooted_18 rfl ?_
  refine z_get (C := R_M) (T := F_M) (N := 10) h 2 d_M_rooted_19 in_M rfl (by decide) wf_M_16 rfl rfl ?_
  refine z_cM h (ms_M_told x_14.1 x_14.2 _ lf b b2 m kn 0 (x_8.2.2 5) v2 b dg wd hx_14 un_eq (by rw [un_ne (by decide), k3 1 (by decide) (by decide), hV1]) hbb hlx) (zf_M_told (by decide)) wm_M_160 wi_M_told ws_M_told d_M_rooted_22 (Nat.le_of_ble_eq_true rfl) rfl (fun x_22 hx_22 => ?_)
  refine hr.1 _ _ _ _ _ _ (Nat.le_refl _) (Nat.le_refl _) rfl d_M_rooted_25 ?_
  exact ⟨x_8.2.2 5, k2, rfl, RS_of hx_22 hbb hbb2 hlx hv2⟩
theorem rt24 {a b n y : Nat} (ha : a < 2 ^ 63) (hbn : b ^ n ≤ 2 ^ 20000) (hy : y * y ≤ a * b ^ (2 * n)) : y < 2 ^ 20032 := sq_gen (C := 0) hy (pw_fit ha hbn rfl) (by decide)
theorem ov24 {a b n : Nat} (ha : a < 2 ^ 63) (hbn : b ^ n ≤ 2 ^ 20000) : a * b ^ n < 2 ^ 20063 := by
  have e1 : a * b ^ n ≤ a * 2 ^ 20000 := Nat.mul_le_mul_left a hbn
  have e2 : a * 2 ^ 20000 < 2 ^ 63 * 2 ^ 20000 := Nat.mul_lt_mul_of_pos_right ha (Nat.pow_pos (by decide))
  rw [← Nat.pow_add] at e2
  exact Nat.lt_of_le_of_lt e1 e2
theorem bn2 {b n k : Nat} (hbn : b ^ n ≤ 2 ^ 20000) (hk : k = 2 * n) : b ^ k < 2 ^ 40001 := by
  have e := pw_gen (a := 1) (F := 1) (E := 20000) (G := 40001) (by decide) hbn hk (by decide)
  rw [Nat.one_mul] at e
  exact e
set_option maxRecDepth 100000 in
set_option maxHeartbeats 4000000 in
theorem ms_M_root (v b v2 b2 t x p b' : Nat) (w : List va_E) (h0 : RS v b v2 b2 t w) (hx : x < 2 ^ 63) (hp : p ≤ 6000) (hb : 2 ≤ b' ∧ b' < 37) (hnb : p * bl (b' - 1) ≤ 20000) : MS y_M_root c_M_root 5 (some .int) (rm 7) [.ref 0, .long (lN x), .int (nI p), .int (nI b')] w (fun r w' => ∃ y, IsR (x * b' ^ (2 * p)) y ∧ RP (nI (nd b' y)) y b' v2 b2 0 r w') := by
  obtain ⟨d, n, V, lf, m, kn, dg, wd, rfl, hM, hV0, hV1, hK, hbb, hbb2, hv, hv2⟩ := h0
  refine MS_of (own := R_M) (by decide) rfl (fun _ => Nat.le_of_ble_eq_true rfl) (fun Z h hr => ?_)
  have hbn := bn_le hb.1 hnb
  have hb9 := hb.2
  have hc1 : b' ^ (2 * p) < capM := cap2 (bn2 hbn rfl) (by decide)
  have hc2 : x * b' ^ (2 * p) < capM := cap2 (pw_fit hx hbn rfl) (by decide)
  have hc3 := cap_rt (pw_fit hx hbn rfl) (show 40063 ≤ 41900 by decide)
  refine z_aload_n h d_M_root_0 rfl ?_
  refine z_lload_n h d_M_root_1 rfl ?_
  refine z_lconst (v := lN 0) h d_M_root_2 (by decide) ?_
  refine z_lcmp_geN (tgt := 11) h d_M_root_3 d_M_root_4 (by decide) (by omega) (fun c_3 => ?_) (fun c_3 => ?_)
  · refine z_iconst (v := nI 0) h d_M_root_11 (by decide) ?_
    refine z_iload_n h d_M_root_12 rfl ?_
    refine z_iload h d_M_root_13 rfl ?_
    refine z_cM h (ms_M_isWrong0 d n lf b b2 m kn t dg wd p b' hp hb hnb) (zf_M_isWrong (by decide)) wm_M_150 wi_M_isWrong ws_M_isWrong d_M_root_15 (Nat.le_of_ble_eq_true rfl) rfl (fun x_15 hx_15 => ?_)
    refine z_if_eqN (tgt := 23) h d_M_root_18 (by decide) (by omega) (fun c_18 => ?_) (fun c_18 => ?_)
    · refine z_aload_n h d_M_root_23 rfl ?_
      refine z_iconst (v := nI 2) h d_M_root_24 (by decide) ?_
      refine z_iload h d_M_root_25 rfl ?_
      refine z_iconst (v := nI 2) h d_M_root_27 (by decide) ?_
      refine z_iload_n h d_M_root_28 rfl ?_
      refine z_imulN h d_M_root_29 ?_
      refine z_cM h (ms_M_power d n V lf (G0 b b2 m kn 0 dg wd) 2 b' (2 * p) (by decide) hM (by omega) (by omega) hc1) (zf_M_power (by decide)) wm_M_102 wi_M_power ws_M_power d_M_root_30 (Nat.le_of_ble_eq_true rfl) rfl (fun x_30 hx_30 => ?_)
      refine z_aload_n h d_M_root_33 rfl ?_
      refine z_iconst (v := nI 3) h d_M_root_34 (by decide) ?_
      refine z_lload_n h d_M_root_35 rfl ?_
      refine z_cM h (ms_M_set x_30.1 x_30.2 _ lf (G0 b b2 m kn 0 dg wd) 3 x (by decide) hx_30 hx) (zf_M_set (by decide)) wm_M_83 wi_M_set ws_M_set d_M_root_36 (Nat.le_of_ble_eq_true rfl) rfl (fun x_36 hx_36 => ?_)
      refine z_aload_n h d_M_root_39 rfl ?_
      refine z_iconst (v := nI 5) h d_M_root_40 (by decide) ?_
      refine z_iconst (v := nI 3) h d_M_root_41 (by decide) ?_
      refine z_iconst (v := nI 2) h d_M_root_42 (by decide) ?_
      refine z_cM h (ms_M_product x_36.1 x_36.2 _ lf (G0 b b2 m kn 0 dg wd) 5 3 2 (by decide) (by decide) (by decide) (by decide) (by decide) hx_36 hc2) (zf_M_product (by decide)) wm_M_163 wi_M_product ws_M_product d_M_root_43 (Nat.le_of_ble_eq_true rfl) rfl (fun x_43 hx_43 => ?_)
      refine z_aload_n h d_M_root_46 rfl ?_
      refine z_bipush (v := nI 6) h d_M_root_47 (by decide) ?_
      refine z_iconst (v := nI 5) h d_M_root_49 (by decide) ?_
      refine z_cM h (ms_M_rootOf x_43.1 x_43.2 _ lf (G0 b b2 m kn 0 dg wd) 6 5 (by decide) (by decide) (by decide) hx_43 hc3) (zf_M_rootOf (by decide)) wm_M_121 wi_M_rootOf ws_M_rootOf d_M_root_50 (Nat.le_of_ble_eq_true rfl) rfl (fun x_50 hx_50 => ?_)
      obtain ⟨k1, k2, k3⟩ := hx_50
      replace k2 : IsR (x * b' ^ (2 * p)) (x_50.2.2 6) := k2
      have hlx : bl (x_50.2.2 6) ≤ 24000 := Nat.le_trans (bl_lt (rt24 hx hbn k2.1)) (by decide)
      refine z_aload_n h d_M_root_53 rfl ?_
      refine z_iconst (v := nI 0) h d_M_root_54 (by decide) ?_
      refine z_bipush (v := nI 6) h d_M_root_55 (by decide) ?_
      refine z_cM h (ms_M_copy x_50.1 x_50.2.1 x_50.2.2 lf (G0 b b2 m kn 0 dg wd) 0 6 (by decide) (by decide) k1) (zf_M_copy (by decide)) wm_M_70 wi_M_copy ws_M_copy d_M_root_57 (Nat.le_of_ble_eq_true rfl) rfl (fun x_57 hx_57 => ?_)
      refine z_aload_n h d_M_root_60 rfl ?_
      refine z_iload h d_M_root_61 rfl ?_
      refine z_cM h (ms_M_told x_57.1 x_57.2 _ lf b b2 m kn 0 (x_50.2.2 6) v2 b' dg wd hx_57 un_eq (by rw [un_ne (by decide), k3 1 (by decide) (by decide)]; exact hV1) hb hlx) (zf_M_told (by decide)) wm_M_160 wi_M_told ws_M_told d_M_root_63 (Nat.le_of_ble_eq_true rfl) rfl (fun x_63 hx_63 => ?_)
      refine hr.1 _ _ _ _ _ _ (Nat.le_refl _) (Nat.le_refl _) rfl d_M_root_66 ?_
      exact ⟨x_50.2.2 6, k2, rfl, RS_of hx_63 hb hbb2 hlx hv2⟩
    · exact absurd c_18 (by decide)
  · exact absurd c_3 (by omega)
set_option maxRecDepth 100000 in
set_option maxHeartbeats 4000000 in
theorem mf_M_root1 (v b v2 b2 t : Nat) (a : Int64) (x y : Int32) (w : List va_E) (h0 : RS v b v2 b2 t w) (hx : a < 0 ∨ ¬ (okN x ∧ okB y)) : MS y_M_root c_M_root 5 (some .int) (rm 7) [.ref 0, .long a, .int x, .int y] w (RP 0 v b v2 b2 1) := by
  obtain ⟨d, n, V, lf, m, kn, dg, wd, rfl, hM, hV0, hV1, hK, hbb, hbb2, hv, hv2⟩ := h0
  refine MS_of (own := R_M) (by decide) rfl (fun _ => Nat.le_of_ble_eq_true rfl) (fun Z h hr => ?_)
  have T : ∀ u, u ≤ 1 → (u = 1 ∨ ¬ (okN x ∧ okB y)) → Z 0 0 (mW d n lf (G0 b b2 m kn t dg wd)) [(0, .ref 0), (1, .long a), (3, .int x), (4, .int y)] 12 [.int (nI u), .ref 0] := by
    intro u hu hux
    refine z_iload_n h d_M_root_12 rfl ?_
    refine z_iload h d_M_root_13 rfl ?_
    refine z_cM h (ms_M_isWrong1 d n lf b b2 m kn t dg wd u x y hu hux) (zf_M_isWrong (by decide)) wm_M_150 wi_M_isWrong ws_M_isWrong d_M_root_15 (Nat.le_of_ble_eq_true rfl) rfl (fun x_15 hx_15 => ?_)
    refine z_if_eqN (tgt := 23) h d_M_root_18 (by decide) (by omega) (fun c_18 => ?_) (fun c_18 => ?_)
    · exact absurd c_18 (by decide)
    · refine z_iconst (v := nI 0) h d_M_root_21 (by decide) ?_
      refine hr.1 _ _ _ _ _ _ (Nat.le_refl _) (Nat.le_refl _) rfl d_M_root_22 ?_
      exact ⟨rfl, d, n, V, lf, m, kn, dg, wd, rfl, hM, hV0, hV1, hK, hbb, hbb2, hv, hv2⟩
  refine z_aload_n h d_M_root_0 rfl ?_
  refine z_lload_n h d_M_root_1 rfl ?_
  refine z_lconst (v := 0) h d_M_root_2 (by decide) ?_
  refine z_lcmp h d_M_root_3 ?_
  refine z_if_ge (tgt := 11) h d_M_root_4 (by decide) (fun c_4 => ?_) (fun c_4 => ?_)
  · refine z_iconst (v := nI 0) h d_M_root_11 (by decide) ?_
    exact z_lv h rfl (T 0 (by decide) (Or.inr (hx.resolve_left (cmp_ge0 c_4))))
  · refine z_iconst (v := nI 1) h d_M_root_7 (by decide) ?_
    refine z_goto (tgt := 12) h d_M_root_8 (by decide) ?_
    exact z_lv h rfl (T 1 (by decide) (Or.inl rfl))
set_option maxRecDepth 100000 in
set_option maxHeartbeats 4000000 in
theorem mf_M_root2 (v b v2 b2 t x p b' : Nat) (w : List va_E) (h0 : RS v b v2 b2 t w) (hx : x < 2 ^ 63) (hp : p ≤ 6000) (hb : 2 ≤ b' ∧ b' < 37) (hnb : ¬ p * bl (b' - 1) ≤ 20000) : MS y_M_root c_M_root 5 (some .int) (rm 7) [.ref 0, .long (lN x), .int (nI p), .int (nI b')] w (RP 0 v b v2 b2 2) := by
  obtain ⟨d, n, V, lf, m, kn, dg, wd, rfl, hM, hV0, hV1, hK, hbb, hbb2, hv, hv2⟩ := h0
  refine MS_of (own := R_M) (by decide) rfl (fun _ => Nat.le_of_ble_eq_true rfl) (fun Z h hr => ?_)
  refine z_aload_n h d_M_root_0 rfl ?_
  refine z_lload_n h d_M_root_1 rfl ?_
  refine z_lconst (v := lN 0) h d_M_root_2 (by decide) ?_
  refine z_lcmp_geN (tgt := 11) h d_M_root_3 d_M_root_4 (by decide) (by omega) (fun c_3 => ?_) (fun c_3 => ?_)
  · refine z_iconst (v := nI 0) h d_M_root_11 (by decide) ?_
    refine z_iload_n h d_M_root_12 rfl ?_
    refine z_iload h d_M_root_13 rfl ?_
    refine z_cM h (ms_M_isWrong2 d n lf b b2 m kn t dg wd p b' hp hb hnb) (zf_M_isWrong (by decide)) wm_M_150 wi_M_isWrong ws_M_isWrong d_M_root_15 (Nat.le_of_ble_eq_true rfl) rfl (fun x_15 hx_15 => ?_)
    refine z_if_eqN (tgt := 23) h d_M_root_18 (by decide) (by omega) (fun c_18 => ?_) (fun c_18 => ?_)
    · exact absurd c_18 (by decide)
    · refine z_iconst (v := nI 0) h d_M_root_21 (by decide) ?_
      refine hr.1 _ _ _ _ _ _ (Nat.le_refl _) (Nat.le_refl _) rfl d_M_root_22 ?_
      exact ⟨rfl, d, n, V, lf, m, kn, dg, wd, rfl, hM, hV0, hV1, hK, hbb, hbb2, hv, hv2⟩
  · exact absurd c_3 (by omega)
set_option maxRecDepth 100000 in
set_option maxHeartbeats 4000000 in
theorem ms_M_over (v b v2 b2 t x u p b' : Nat) (w : List va_E) (h0 : RS v b v2 b2 t w) (hx : x < 2 ^ 63) (hu : u < 2 ^ 63) (hu0 : 0 < u) (hp : p ≤ 6000) (hb : 2 ≤ b' ∧ b' < 37) (hnb : p * bl (b' - 1) ≤ 20000) : MS y_M_over c_M_over 7 (some .int) (rm 7) [.ref 0, .long (lN x), .long (lN u), .int (nI p), .int (nI b')] w (RP (nI (nd b' (x * b' ^ p / u))) (x * b' ^ p / u) b' v2 b2 0) := by
  obtain ⟨d, n, V, lf, m, kn, dg, wd, rfl, hM, hV0, hV1, hK, hbb, hbb2, hv, hv2⟩ := h0
  refine MS_of (own := R_M) (by decide) rfl (fun _ => Nat.le_of_ble_eq_true rfl) (fun Z h hr => ?_)
  have hbn := bn_le hb.1 hnb
  have hb9 := hb.2
  have hc1 : b' ^ p < capM := cap2 (Nat.lt_of_le_of_lt hbn (Nat.pow_lt_pow_right (by decide) (show 20000 < 20001 by decide))) (by decide)
  have hc2 : x * b' ^ p < capM := cap2 (ov24 hx hbn) (by decide)
  have hlx : bl (x * b' ^ p / u) ≤ 24000 := Nat.le_trans (bl_lt (Nat.lt_of_le_of_lt (Nat.div_le_self _ _) (ov24 hx hbn))) (by decide)
  refine z_aload_n h d_M_over_0 rfl ?_
  refine z_lload_n h d_M_over_1 rfl ?_
  refine z_lconst (v := lN 0) h d_M_over_2 (by decide) ?_
  refine z_lcmp_ltN (tgt := 13) h d_M_over_3 d_M_over_4 (by decide) (by omega) (fun c_3 => ?_) (fun c_3 => ?_)
  · exact absurd c_3 (by omega)
  · refine z_lload_n h d_M_over_7 rfl ?_
    refine z_lconst (v := lN 1) h d_M_over_8 (by decide) ?_
    refine z_lcmp_geN (tgt := 17) h d_M_over_9 d_M_over_10 (by decide) (by omega) (fun c_9 => ?_) (fun c_9 => ?_)
    · refine z_iconst (v := nI 0) h d_M_over_17 (by decide) ?_
      refine z_iload h d_M_over_18 rfl ?_
      refine z_iload h d_M_over_20 rfl ?_
      refine z_cM h (ms_M_isWrong0 d n lf b b2 m kn t dg wd p b' hp hb hnb) (zf_M_isWrong (by decide)) wm_M_150 wi_M_isWrong ws_M_isWrong d_M_over_22 (Nat.le_of_ble_eq_true rfl) rfl (fun x_22 hx_22 => ?_)
      refine z_if_eqN (tgt := 30) h d_M_over_25 (by decide) (by omega) (fun c_25 => ?_) (fun c_25 => ?_)
      · refine z_aload_n h d_M_over_30 rfl ?_
        refine z_iconst (v := nI 2) h d_M_over_31 (by decide) ?_
        refine z_iload h d_M_over_32 rfl ?_
        refine z_iload h d_M_over_34 rfl ?_
        refine z_cM h (ms_M_power d n V lf (G0 b b2 m kn 0 dg wd) 2 b' p (by decide) hM (by omega) (by omega) hc1) (zf_M_power (by decide)) wm_M_102 wi_M_power ws_M_power d_M_over_36 (Nat.le_of_ble_eq_true rfl) rfl (fun x_36 hx_36 => ?_)
        refine z_aload_n h d_M_over_39 rfl ?_
        refine z_iconst (v := nI 3) h d_M_over_40 (by decide) ?_
        refine z_lload_n h d_M_over_41 rfl ?_
        refine z_cM h (ms_M_set x_36.1 x_36.2 _ lf (G0 b b2 m kn 0 dg wd) 3 x (by decide) hx_36 hx) (zf_M_set (by decide)) wm_M_83 wi_M_set ws_M_set d_M_over_42 (Nat.le_of_ble_eq_true rfl) rfl (fun x_42 hx_42 => ?_)
        refine z_aload_n h d_M_over_45 rfl ?_
        refine z_iconst (v := nI 5) h d_M_over_46 (by decide) ?_
        refine z_iconst (v := nI 3) h d_M_over_47 (by decide) ?_
        refine z_iconst (v := nI 2) h d_M_over_48 (by decide) ?_
        refine z_cM h (ms_M_product x_42.1 x_42.2 _ lf (G0 b b2 m kn 0 dg wd) 5 3 2 (by decide) (by decide) (by decide) (by decide) (by decide) hx_42 hc2) (zf_M_product (by decide)) wm_M_163 wi_M_product ws_M_product d_M_over_49 (Nat.le_of_ble_eq_true rfl) rfl (fun x_49 hx_49 => ?_)
        refine z_aload_n h d_M_over_52 rfl ?_
        refine z_iconst (v := nI 3) h d_M_over_53 (by decide) ?_
        refine z_lload_n h d_M_over_54 rfl ?_
        refine z_cM h (ms_M_set x_49.1 x_49.2 _ lf (G0 b b2 m kn 0 dg wd) 3 u (by decide) hx_49 hu) (zf_M_set (by decide)) wm_M_83 wi_M_set ws_M_set d_M_over_55 (Nat.le_of_ble_eq_true rfl) rfl (fun x_55 hx_55 => ?_)
        refine z_aload_n h d_M_over_58 rfl ?_
        refine z_bipush (v := nI 6) h d_M_over_59 (by decide) ?_
        refine z_iconst (v := nI 5) h d_M_over_61 (by decide) ?_
        refine z_iconst (v := nI 3) h d_M_over_62 (by decide) ?_
        refine z_cM h (ms_M_quotient x_55.1 x_55.2 _ lf (G0 b b2 m kn 0 dg wd) 6 5 3 (by decide) (by decide) (by decide) (by decide) (by decide) hx_55 hu0) (zf_M_quotient (by decide)) wm_M_166 wi_M_quotient ws_M_quotient d_M_over_63 (Nat.le_of_ble_eq_true rfl) rfl (fun x_63 hx_63 => ?_)
        refine z_aload_n h d_M_over_66 rfl ?_
        refine z_iconst (v := nI 0) h d_M_over_67 (by decide) ?_
        refine z_bipush (v := nI 6) h d_M_over_68 (by decide) ?_
        refine z_cM h (ms_M_copy x_63.1 x_63.2 _ lf (G0 b b2 m kn 0 dg wd) 0 6 (by decide) (by decide) hx_63) (zf_M_copy (by decide)) wm_M_70 wi_M_copy ws_M_copy d_M_over_70 (Nat.le_of_ble_eq_true rfl) rfl (fun x_70 hx_70 => ?_)
        refine z_aload_n h d_M_over_73 rfl ?_
        refine z_iload h d_M_over_74 rfl ?_
        refine z_cM h (ms_M_told x_70.1 x_70.2 _ lf b b2 m kn 0 (x * b' ^ p / u) v2 b' dg wd hx_70 rfl hV1 hb hlx) (zf_M_told (by decide)) wm_M_160 wi_M_told ws_M_told d_M_over_76 (Nat.le_of_ble_eq_true rfl) rfl (fun x_76 hx_76 => ?_)
        refine hr.1 _ _ _ _ _ _ (Nat.le_refl _) (Nat.le_refl _) rfl d_M_over_79 ?_
        exact ⟨rfl, RS_of hx_76 hb hbb2 hlx hv2⟩
      · exact absurd c_25 (by decide)
    · exact absurd c_9 (by omega)
set_option maxRecDepth 100000 in
set_option maxHeartbeats 4000000 in
theorem mf_M_over1 (v b v2 b2 t : Nat) (a c : Int64) (x y : Int32) (w : List va_E) (h0 : RS v b v2 b2 t w) (hx : a < 0 ∨ c < 1 ∨ ¬ (okN x ∧ okB y)) : MS y_M_over c_M_over 7 (some .int) (rm 7) [.ref 0, .long a, .long c, .int x, .int y] w (RP 0 v b v2 b2 1) := by
  obtain ⟨d, n, V, lf, m, kn, dg, wd, rfl, hM, hV0, hV1, hK, hbb, hbb2, hv, hv2⟩ := h0
  refine MS_of (own := R_M) (by decide) rfl (fun _ => Nat.le_of_ble_eq_true rfl) (fun Z h hr => ?_)
  have T : ∀ u, u ≤ 1 → (u = 1 ∨ ¬ (okN x ∧ okB y)) → Z 0 0 (mW d n lf (G0 b b2 m kn t dg wd)) [(0, .ref 0), (1, .long a), (3, .long c), (5, .int x), (6, .int y)] 18 [.int (nI u), .ref 0] := by
    intro u hu hux
    refine z_iload h d_M_over_18 rfl ?_
    refine z_iload h d_M_over_20 rfl ?_
    refine z_cM h (ms_M_isWrong1 d n lf b b2 m kn t dg wd u x y hu hux) (zf_M_isWrong (by decide)) wm_M_150 wi_M_isWrong ws_M_isWrong d_M_over_22 (Nat.le_of_ble_eq_true rfl) rfl (fun x_22 hx_22 => ?_)
    refine z_if_eqN (tgt := 30) h d_M_over_25 (by decide) (by omega) (fun c_25 => ?_) (fun c_25 => ?_)
    · exact absurd c_25 (by decide)
    · refine z_iconst (v := nI 0) h d_M_over_28 (by decide) ?_
      refine hr.1 _ _ _ _ _ _ (Nat.le_refl _) (Nat.le_refl _) rfl d_M_over_29 ?_
      exact ⟨rfl, d, n, V, lf, m, kn, dg, wd, rfl, hM, hV0, hV1, hK, hbb, hbb2, hv, hv2⟩
  refine z_aload_n h d_M_over_0 rfl ?_
  refine z_lload_n h d_M_over_1 rfl ?_
  refine z_lconst (v := 0) h d_M_over_2 (by decide) ?_
  refine z_lcmp h d_M_over_3 ?_
  refine z_if_lt (tgt := 13) h d_M_over_4 (by decide) (fun c_4 => ?_) (fun c_4 => ?_)
  · refine z_iconst (v := nI 1) h d_M_over_13 (by decide) ?_
    refine z_goto (tgt := 18) h d_M_over_14 (by decide) ?_
    exact z_lv h rfl (T 1 (by decide) (Or.inl rfl))
  · refine z_lload_n h d_M_over_7 rfl ?_
    refine z_lconst (v := 1) h d_M_over_8 (by decide) ?_
    refine z_lcmp h d_M_over_9 ?_
    refine z_if_ge (tgt := 17) h d_M_over_10 (by decide) (fun c_10 => ?_) (fun c_10 => ?_)
    · refine z_iconst (v := nI 0) h d_M_over_17 (by decide) ?_
      exact z_lv h rfl (T 0 (by decide) (Or.inr ((hx.resolve_left (cmp_nlt0 c_4)).resolve_left (cmp_ge0 c_10))))
    · refine z_iconst (v := nI 1) h d_M_over_13 (by decide) ?_
      refine z_goto (tgt := 18) h d_M_over_14 (by decide) ?_
      exact z_lv h rfl (T 1 (by decide) (Or.inl rfl))
set_option maxRecDepth 100000 in
set_option maxHeartbeats 4000000 in
theorem mf_M_over2 (v b v2 b2 t x u p b' : Nat) (w : List va_E) (h0 : RS v b v2 b2 t w) (hx : x < 2 ^ 63) (hu : u < 2 ^ 63) (hu0 : 0 < u) (hp : p ≤ 6000) (hb : 2 ≤ b' ∧ b' < 37) (hnb : ¬ p * bl (b' - 1) ≤ 20000) : MS y_M_over c_M_over 7 (some .int) (rm 7) [.ref 0, .long (lN x), .long (lN u), .int (nI p), .int (nI b')] w (RP 0 v b v2 b2 2) := by
  obtain ⟨d, n, V, lf, m, kn, dg, wd, rfl, hM, hV0, hV1, hK, hbb, hbb2, hv, hv2⟩ := h0
  refine MS_of (own := R_M) (by decide) rfl (fun _ => Nat.le_of_ble_eq_true rfl) (fun Z h hr => ?_)
  refine z_aload_n h d_M_over_0 rfl ?_
  refine z_lload_n h d_M_over_1 rfl ?_
  refine z_lconst (v := lN 0) h d_M_over_2 (by decide) ?_
  refine z_lcmp_ltN (tgt := 13) h d_M_over_3 d_M_over_4 (by decide) (by omega) (fun c_3 => ?_) (fun c_3 => ?_)
  · exact absurd c_3 (by omega)
  · refine z_lload_n h d_M_over_7 rfl ?_
    refine z_lconst (v := lN 1) h d_M_over_8 (by decide) ?_
    refine z_lcmp_geN (tgt := 17) h d_M_over_9 d_M_over_10 (by decide) (by omega) (fun c_9 => ?_) (fun c_9 => ?_)
    · refine z_iconst (v := nI 0) h d_M_over_17 (by decide) ?_
      refine z_iload h d_M_over_18 rfl ?_
      refine z_iload h d_M_over_20 rfl ?_
      refine z_cM h (ms_M_isWrong2 d n lf b b2 m kn t dg wd p b' hp hb hnb) (zf_M_isWrong (by decide)) wm_M_150 wi_M_isWrong ws_M_isWrong d_M_over_22 (Nat.le_of_ble_eq_true rfl) rfl (fun x_22 hx_22 => ?_)
      refine z_if_eqN (tgt := 30) h d_M_over_25 (by decide) (by omega) (fun c_25 => ?_) (fun c_25 => ?_)
      · exact absurd c_25 (by decide)
      · refine z_iconst (v := nI 0) h d_M_over_28 (by decide) ?_
        refine hr.1 _ _ _ _ _ _ (Nat.le_refl _) (Nat.le_refl _) rfl d_M_over_29 ?_
        exact ⟨rfl, d, n, V, lf, m, kn, dg, wd, rfl, hM, hV0, hV1, hK, hbb, hbb2, hv, hv2⟩
    · exact absurd c_9 (by omega)
