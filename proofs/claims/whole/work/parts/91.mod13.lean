/-! DigitMillModel: digit, about, count, find -/
theorem RS_q {v b v2 b2 t : Nat} {wd : Nat → Nat} {q : X5} (h : RT v b v2 q) (hb : 2 ≤ b ∧ b < 37) (hb2 : 2 ≤ b2 ∧ b2 < 37) (hv : bl v ≤ 24000) (hv2 : bl v2 ≤ 24000) : RS v b v2 b2 t (mW q.1 q.2.1 q.2.2.2.1 (G0 b b2 (nd b v) 1 t q.2.2.2.2 wd)) := RS_of h hb hb2 hv hv2
set_option maxRecDepth 100000 in
set_option maxHeartbeats 4000000 in
theorem ms_M_digit (v b v2 b2 t i : Nat) (w : List va_E) (h0 : RS v b v2 b2 t w) (hi : i < nd b v) : MS y_M_digit c_M_digit 2 (some .int) (rm 7) [.ref 0, .int (nI i)] w (RP (nI (dgt b v i)) v b v2 b2 0) := by
  obtain ⟨d, n, V, lf, m, kn, dg, wd, rfl, hM, hV0, hV1, hK, hbb, hbb2, hv, hv2⟩ := h0
  refine MS_of (own := R_M) (by decide) rfl (fun _ => Nat.le_of_ble_eq_true rfl) (fun Z h hr => ?_)
  have hnd := nd_cap hbb.1 hv
  refine z_aload_n h d_M_digit_0 rfl ?_
  refine z_iload_n h d_M_digit_1 rfl ?_
  refine z_if_lt (tgt := 13) h d_M_digit_2 (by decide) (fun c_2 => ?_) (fun c_2 => ?_)
  · exact absurd c_2 (nI_pos (by omega))
  · refine z_iload_n h d_M_digit_5 rfl ?_
    refine z_aload_n h d_M_digit_6 rfl ?_
    refine z_cM h (ms_M_howMany d n V lf b b2 m kn t v v2 dg wd hM hV0 hV1 hbb hv hK) (zf_M_howMany (by decide)) wm_M_140 wi_M_howMany ws_M_howMany d_M_digit_7 (Nat.le_of_ble_eq_true rfl) rfl (fun x_7 hx_7 => ?_)
    refine z_icmp_ltN (tgt := 17) h d_M_digit_10 (by decide) (by omega) (fun c_10 => ?_) (fun c_10 => ?_)
    · refine z_iconst (v := nI 0) h d_M_digit_17 (by decide) ?_
      refine z_iconst (v := nI 1) h d_M_digit_18 (by decide) ?_
      refine z_cM h (ms_M_fails0 x_7.1 x_7.2.1 x_7.2.2.2.1 b b2 (nd b v) 1 t 1 x_7.2.2.2.2 wd) (zf_M_fails (by decide)) wm_M_128 wi_M_fails ws_M_fails d_M_digit_19 (Nat.le_of_ble_eq_true rfl) rfl (fun x_19 hx_19 => ?_)
      refine z_if_eqN (tgt := 27) h d_M_digit_22 (by decide) (by omega) (fun c_22 => ?_) (fun c_22 => ?_)
      · refine z_aload_n h d_M_digit_27 rfl ?_
        refine z_get (C := R_M) (T := F_M) (N := 10) h 4 d_M_digit_28 in_M rfl (by decide) wf_M_23 rfl rfl ?_
        refine z_iload_n h d_M_digit_31 rfl ?_
        refine z_ialoadN h d_M_digit_32 rfl (by omega) ?_
        refine hr.1 _ _ _ _ _ _ (Nat.le_refl _) (Nat.le_refl _) rfl d_M_digit_33 ?_
        rw [show (G0 b b2 (nd b v) 1 0 x_7.2.2.2.2 wd).2.2.2.2.2.1 i = dgt b v i from hx_7.2.2.2 i hi]
        exact ⟨rfl, RS_of hx_7 hbb hbb2 hv hv2⟩
      · exact absurd c_22 (by decide)
    · exact absurd c_10 (by omega)
set_option maxRecDepth 100000 in
set_option maxHeartbeats 4000000 in
theorem mf_M_digit (v b v2 b2 t : Nat) (x : Int32) (w : List va_E) (h0 : RS v b v2 b2 t w) (hx : x < 0 ∨ ¬ x < nI (nd b v)) : MS y_M_digit c_M_digit 2 (some .int) (rm 7) [.ref 0, .int x] w (RP 0 v b v2 b2 1) := by
  obtain ⟨d, n, V, lf, m, kn, dg, wd, rfl, hM, hV0, hV1, hK, hbb, hbb2, hv, hv2⟩ := h0
  refine MS_of (own := R_M) (by decide) rfl (fun _ => Nat.le_of_ble_eq_true rfl) (fun Z h hr => ?_)
  refine z_aload_n h d_M_digit_0 rfl ?_
  refine z_iload_n h d_M_digit_1 rfl ?_
  refine z_if_lt (tgt := 13) h d_M_digit_2 (by decide) (fun c_2 => ?_) (fun c_2 => ?_)
  · refine z_iconst (v := nI 1) h d_M_digit_13 (by decide) ?_
    refine z_goto (tgt := 18) h d_M_digit_14 (by decide) ?_
    refine z_iconst (v := nI 1) h d_M_digit_18 (by decide) ?_
    refine z_cM h (ms_M_fails1 d n lf b b2 m kn t 1 dg wd) (zf_M_fails (by decide)) wm_M_128 wi_M_fails ws_M_fails d_M_digit_19 (Nat.le_of_ble_eq_true rfl) rfl (fun x_19 hx_19 => ?_)
    refine z_if_eqN (tgt := 27) h d_M_digit_22 (by decide) (by omega) (fun c_22 => ?_) (fun c_22 => ?_)
    · exact absurd c_22 (by decide)
    · refine z_iconst (v := nI 0) h d_M_digit_25 (by decide) ?_
      refine hr.1 _ _ _ _ _ _ (Nat.le_refl _) (Nat.le_refl _) rfl d_M_digit_26 ?_
      exact ⟨rfl, d, n, V, lf, m, kn, dg, wd, rfl, hM, hV0, hV1, hK, hbb, hbb2, hv, hv2⟩
  · refine z_iload_n h d_M_digit_5 rfl ?_
    refine z_aload_n h d_M_digit_6 rfl ?_
    refine z_cM h (ms_M_howMany d n V lf b b2 m kn t v v2 dg wd hM hV0 hV1 hbb hv hK) (zf_M_howMany (by decide)) wm_M_140 wi_M_howMany ws_M_howMany d_M_digit_7 (Nat.le_of_ble_eq_true rfl) rfl (fun x_7 hx_7 => ?_)
    refine z_icmp_lt (tgt := 17) h d_M_digit_10 (by decide) (fun c_10 => ?_) (fun c_10 => ?_)
    · exact absurd c_10 (hx.resolve_left c_2)
    · refine z_iconst (v := nI 1) h d_M_digit_13 (by decide) ?_
      refine z_goto (tgt := 18) h d_M_digit_14 (by decide) ?_
      refine z_iconst (v := nI 1) h d_M_digit_18 (by decide) ?_
      refine z_cM h (ms_M_fails1 x_7.1 x_7.2.1 x_7.2.2.2.1 b b2 (nd b v) 1 t 1 x_7.2.2.2.2 wd) (zf_M_fails (by decide)) wm_M_128 wi_M_fails ws_M_fails d_M_digit_19 (Nat.le_of_ble_eq_true rfl) rfl (fun x_19 hx_19 => ?_)
      refine z_if_eqN (tgt := 27) h d_M_digit_22 (by decide) (by omega) (fun c_22 => ?_) (fun c_22 => ?_)
      · exact absurd c_22 (by decide)
      · refine z_iconst (v := nI 0) h d_M_digit_25 (by decide) ?_
        refine hr.1 _ _ _ _ _ _ (Nat.le_refl _) (Nat.le_refl _) rfl d_M_digit_26 ?_
        exact ⟨rfl, RS_of hx_7 hbb hbb2 hv hv2⟩
theorem dsm_rev {b v N : Nat} : ∀ k, k ≤ N → dsm b v (N - k) + (dsm b v N - dsm b v (N - k)) = dsm b v N := by
  intro k hk
  have : ∀ m, m ≤ N → dsm b v m ≤ dsm b v N := by
    intro m hm
    obtain ⟨j, rfl⟩ := Nat.exists_eq_add_of_le hm
    clear hk hm
    induction j with
    | zero => exact Nat.le_refl _
    | succ j ih => exact Nat.le_trans ih (Nat.le_add_right _ _)
  have := this (N - k) (by omega)
  omega
theorem dsm_step {b v N k : Nat} (hk : k < N) : dsm b v N - dsm b v (N - (k + 1)) = dsm b v N - dsm b v (N - k) + dig b v (N - 1 - k) := by
  have h1 := @dsm_rev b v N k (by omega)
  have h2 := @dsm_rev b v N (k + 1) (by omega)
  have h3 : dsm b v (N - k) = dsm b v (N - (k + 1)) + dig b v (N - (k + 1)) := by
    rw [show N - k = N - (k + 1) + 1 by omega]
    rfl
  rw [show N - 1 - k = N - (k + 1) by omega]
  omega
set_option maxRecDepth 100000 in
set_option maxHeartbeats 4000000 in
theorem ms_M_about (v b v2 b2 t i : Nat) (w : List va_E) (h0 : RS v b v2 b2 t w) (hi : i < 4) : MS y_M_about c_M_about 4 (some .int) (rm 7) [.ref 0, .int (nI i)] w (RP (nI (if i = 0 then nd b v else if i = 1 then bl v else if i = 2 then b else dsm b v (nd b v))) v b v2 b2 0) := by
  obtain ⟨d, n, V, lf, m, kn, dg, wd, rfl, hM, hV0, hV1, hK, hbb, hbb2, hv, hv2⟩ := h0
  refine MS_of (own := R_M) (by decide) rfl (fun _ => Nat.le_of_ble_eq_true rfl) (fun Z h hr => ?_)
  have hnd := nd_cap hbb.1 hv
  have hb9 := hbb.2
  have hcore : ∀ k, k < nd b v → dgt b v k = dig b v (nd b v - 1 - k) := fun _ _ => rfl
  have L : ∀ (f k : Nat) (d n V : Nat → Nat) (lf : Int64) (m kn : Nat) (dg : Nat → Nat), MV d n V → V 0 = v → V 1 = v2 → RK v b m kn dg → f + k = nd b v → (i = 0 ∨ i = 3) → Z 0 0 (mW d n lf (G0 b b2 m kn 0 dg wd)) [(0, .ref 0), (1, .int (nI i)), (2, .int (nI (dsm b v (nd b v) - dsm b v (nd b v - k)))), (3, .int (nI k))] 49 [] := by
    intro f
    induction f with
    | zero =>
      intro k d n V lf m kn dg hM hV0 hV1 hK hf hi3
      obtain rfl : k = nd b v := by omega
      rw [Nat.sub_self, show dsm b v 0 = 0 from rfl, Nat.sub_zero]
      refine z_iload_n h d_M_about_49 rfl ?_
      refine z_aload_n h d_M_about_50 rfl ?_
      refine z_cM h (ms_M_howMany d n V lf b b2 m kn 0 v v2 dg wd hM hV0 hV1 hbb hv hK) (zf_M_howMany (by decide)) wm_M_140 wi_M_howMany ws_M_howMany d_M_about_51 (Nat.le_of_ble_eq_true rfl) rfl (fun x_51 hx_51 => ?_)
      refine z_icmp_geN (tgt := 72) h d_M_about_54 (by decide) (by omega) (fun c_54 => ?_) (fun c_54 => ?_)
      · refine z_iload_n h d_M_about_72 rfl ?_
        refine z_if_neN (tgt := 83) h d_M_about_73 (by decide) (by omega) (fun c_73 => ?_) (fun c_73 => ?_)
        · refine z_iload_n h d_M_about_83 rfl ?_
          refine hr.1 _ _ _ _ _ _ (Nat.le_refl _) (Nat.le_refl _) rfl d_M_about_84 ?_
          refine ⟨?_, RS_of hx_51 hbb hbb2 hv hv2⟩
          rw [if_neg c_73, if_neg (by omega), if_neg (by omega)]
        · refine z_aload_n h d_M_about_76 rfl ?_
          refine z_get (C := R_M) (T := F_M) (N := 10) h 5 d_M_about_77 in_M rfl (by decide) wf_M_146 rfl rfl ?_
          refine z_goto (tgt := 84) h d_M_about_80 (by decide) ?_
          refine hr.1 _ _ _ _ _ _ (Nat.le_refl _) (Nat.le_refl _) rfl d_M_about_84 ?_
          refine ⟨?_, RS_of hx_51 hbb hbb2 hv hv2⟩
          rw [if_pos c_73]
      · exact absurd c_54 (by omega)
    | succ f ih =>
      intro k d n V lf m kn dg hM hV0 hV1 hK hf hi3
      refine z_iload_n h d_M_about_49 rfl ?_
      refine z_aload_n h d_M_about_50 rfl ?_
      refine z_cM h (ms_M_howMany d n V lf b b2 m kn 0 v v2 dg wd hM hV0 hV1 hbb hv hK) (zf_M_howMany (by decide)) wm_M_140 wi_M_howMany ws_M_howMany d_M_about_51 (Nat.le_of_ble_eq_true rfl) rfl (fun x_51 hx_51 => ?_)
      refine z_icmp_geN (tgt := 72) h d_M_about_54 (by decide) (by omega) (fun c_54 => ?_) (fun c_54 => ?_)
      · exact absurd c_54 (by omega)
      · refine z_iload_n h d_M_about_57 rfl ?_
        refine z_aload_n h d_M_about_58 rfl ?_
        refine z_get (C := R_M) (T := F_M) (N := 10) h 4 d_M_about_59 in_M rfl (by decide) wf_M_23 rfl rfl ?_
        refine z_iload_n h d_M_about_62 rfl ?_
        refine z_ialoadN h d_M_about_63 rfl (by omega) ?_
        rw [show (G0 b b2 (nd b v) 1 0 x_51.2.2.2.2 wd).2.2.2.2.2.1 k = dig b v (nd b v - 1 - k) from hx_51.2.2.2 k (by omega)]
        refine z_iaddN h d_M_about_64 ?_
        rw [← dsm_step (by omega)]
        refine z_istore_n h d_M_about_65 (by decide) ?_
        refine z_iincN h 1 d_M_about_66 rfl (by decide) (by decide) ?_
        refine z_goto (tgt := 49) h d_M_about_69 (by decide) ?_
        exact z_lv h rfl (ih (k + 1) x_51.1 x_51.2.1 x_51.2.2.1 x_51.2.2.2.1 (nd b v) 1 x_51.2.2.2.2 hx_51.1 hx_51.2.1 hx_51.2.2.1 (Or.inr ⟨rfl, rfl, hx_51.2.2.2⟩) (by omega) hi3)
  refine z_aload_n h d_M_about_0 rfl ?_
  refine z_iload_n h d_M_about_1 rfl ?_
  refine z_if_lt (tgt := 10) h d_M_about_2 (by decide) (fun c_2 => ?_) (fun c_2 => ?_)
  · exact absurd c_2 (nI_pos (by omega))
  · refine z_iload_n h d_M_about_5 rfl ?_
    refine z_iconst (v := nI 3) h d_M_about_6 (by decide) ?_
    refine z_icmp_leN (tgt := 14) h d_M_about_7 (by decide) (by omega) (fun c_7 => ?_) (fun c_7 => ?_)
    · refine z_iconst (v := nI 0) h d_M_about_14 (by decide) ?_
      refine z_iconst (v := nI 1) h d_M_about_15 (by decide) ?_
      refine z_cM h (ms_M_fails0 d n lf b b2 m kn t 1 dg wd) (zf_M_fails (by decide)) wm_M_128 wi_M_fails ws_M_fails d_M_about_16 (Nat.le_of_ble_eq_true rfl) rfl (fun x_16 hx_16 => ?_)
      refine z_if_eqN (tgt := 24) h d_M_about_19 (by decide) (by omega) (fun c_19 => ?_) (fun c_19 => ?_)
      · refine z_iload_n h d_M_about_24 rfl ?_
        refine z_iconst (v := nI 1) h d_M_about_25 (by decide) ?_
        refine z_icmp_neN (tgt := 35) h d_M_about_26 (by decide) (by omega) (fun c_26 => ?_) (fun c_26 => ?_)
        · refine z_iload_n h d_M_about_35 rfl ?_
          refine z_iconst (v := nI 2) h d_M_about_36 (by decide) ?_
          refine z_icmp_neN (tgt := 45) h d_M_about_37 (by decide) (by omega) (fun c_37 => ?_) (fun c_37 => ?_)
          · refine z_iconst (v := nI 0) h d_M_about_45 (by decide) ?_
            refine z_istore_n h d_M_about_46 (by decide) ?_
            refine z_iconst (v := nI 0) h d_M_about_47 (by decide) ?_
            refine z_istore_n h d_M_about_48 (by decide) ?_
            have e9 := L (nd b v) 0 d n V lf m kn dg hM hV0 hV1 hK rfl (by omega)
            rw [Nat.sub_zero, Nat.sub_self] at e9
            exact z_lv h rfl e9
          · refine z_aload_n h d_M_about_40 rfl ?_
            refine z_get (C := R_M) (T := F_M) (N := 10) h 2 d_M_about_41 in_M rfl (by decide) wf_M_16 rfl rfl ?_
            refine hr.1 _ _ _ _ _ _ (Nat.le_refl _) (Nat.le_refl _) rfl d_M_about_44 ?_
            subst c_37
            exact ⟨rfl, d, n, V, lf, m, kn, dg, wd, rfl, hM, hV0, hV1, hK, hbb, hbb2, hv, hv2⟩
        · refine z_aload_n h d_M_about_29 rfl ?_
          refine z_iconst (v := nI 0) h d_M_about_30 (by decide) ?_
          refine z_cM h (ms_M_length d n V lf (G0 b b2 m kn 0 dg wd) 0 (by decide) hM) (zf_M_length (by decide)) wm_M_169 wi_M_length ws_M_length d_M_about_31 (Nat.le_of_ble_eq_true rfl) rfl (fun x_31 hx_31 => ?_)
          refine hr.1 _ _ _ _ _ _ (Nat.le_refl _) (Nat.le_refl _) rfl d_M_about_34 ?_
          subst c_26
          rw [hV0]
          exact ⟨rfl, d, n, V, lf, m, kn, dg, wd, rfl, hM, hV0, hV1, hK, hbb, hbb2, hv, hv2⟩
      · exact absurd c_19 (by decide)
    · exact absurd c_7 (by omega)
set_option maxRecDepth 100000 in
set_option maxHeartbeats 4000000 in
theorem mf_M_about (v b v2 b2 t : Nat) (x : Int32) (w : List va_E) (h0 : RS v b v2 b2 t w) (hx : x.toInt < 0 ∨ 3 < x.toInt) : MS y_M_about c_M_about 4 (some .int) (rm 7) [.ref 0, .int x] w (RP 0 v b v2 b2 1) := by
  obtain ⟨d, n, V, lf, m, kn, dg, wd, rfl, hM, hV0, hV1, hK, hbb, hbb2, hv, hv2⟩ := h0
  refine MS_of (own := R_M) (by decide) rfl (fun _ => Nat.le_of_ble_eq_true rfl) (fun Z h hr => ?_)
  have T : Z 0 0 (mW d n lf (G0 b b2 m kn t dg wd)) [(0, .ref 0), (1, .int x)] 10 [.ref 0] := by
    refine z_iconst (v := nI 1) h d_M_about_10 (by decide) ?_
    refine z_goto (tgt := 15) h d_M_about_11 (by decide) ?_
    refine z_iconst (v := nI 1) h d_M_about_15 (by decide) ?_
    refine z_cM h (ms_M_fails1 d n lf b b2 m kn t 1 dg wd) (zf_M_fails (by decide)) wm_M_128 wi_M_fails ws_M_fails d_M_about_16 (Nat.le_of_ble_eq_true rfl) rfl (fun x_16 hx_16 => ?_)
    refine z_if_eqN (tgt := 24) h d_M_about_19 (by decide) (by omega) (fun c_19 => ?_) (fun c_19 => ?_)
    · exact absurd c_19 (by decide)
    · refine z_iconst (v := nI 0) h d_M_about_22 (by decide) ?_
      refine hr.1 _ _ _ _ _ _ (Nat.le_refl _) (Nat.le_refl _) rfl d_M_about_23 ?_
      exact ⟨rfl, d, n, V, lf, m, kn, dg, wd, rfl, hM, hV0, hV1, hK, hbb, hbb2, hv, hv2⟩
  refine z_aload_n h d_M_about_0 rfl ?_
  refine z_iload_n h d_M_about_1 rfl ?_
  refine z_if_lt (tgt := 10) h d_M_about_2 (by decide) (fun c_2 => ?_) (fun c_2 => ?_)
  · exact z_lv h rfl T
  · refine z_iload_n h d_M_about_5 rfl ?_
    refine z_iconst (v := 3) h d_M_about_6 (by decide) ?_
    refine z_icmp_le (tgt := 14) h d_M_about_7 (by decide) (fun c_7 => ?_) (fun c_7 => ?_)
    · exfalso
      have e1 : ¬ x.toInt < 0 := fun q => c_2 (Int32.lt_iff_toInt_lt.mpr q)
      have e2 : x.toInt ≤ 3 := Int32.le_iff_toInt_le.mp c_7
      omega
    · exact z_lv h rfl T
set_option maxRecDepth 100000 in
set_option maxHeartbeats 4000000 in
theorem ms_M_count (v b v2 b2 t i : Nat) (x z : Int32) (w : List va_E) (h0 : RS v b v2 b2 t w) (hi : i < 2 ^ 31) (hz : z < nI (nd b v)) : MS y_M_count c_M_count 6 (some .int) (rm 7) [.ref 0, .int x, .int (nI i), .int z] w (RP (nI (cnt (dgt b v) x i (z.toInt + 1 - i).toNat)) v b v2 b2 0) := by
  obtain ⟨d, n, V, lf, m, kn, dg, wd, rfl, hM, hV0, hV1, hK, hbb, hbb2, hv, hv2⟩ := h0
  refine MS_of (own := R_M) (by decide) rfl (fun _ => Nat.le_of_ble_eq_true rfl) (fun Z h hr => ?_)
  have hnd := nd_cap hbb.1 hv
  have hz1 : z.toInt < nd b v := by
    have := Int32.lt_iff_toInt_lt.mp hz
    rw [nI_ti (by omega)] at this
    exact this
  refine z_aload_n h d_M_count_0 rfl ?_
  refine z_iload_n h d_M_count_1 rfl ?_
  refine z_if_lt (tgt := 13) h d_M_count_2 (by decide) (fun c_2 => ?_) (fun c_2 => ?_)
  · exact absurd c_2 (nI_pos (by omega))
  · refine z_iload_n h d_M_count_5 rfl ?_
    refine z_aload_n h d_M_count_6 rfl ?_
    refine z_cM h (ms_M_howMany d n V lf b b2 m kn t v v2 dg wd hM hV0 hV1 hbb hv hK) (zf_M_howMany (by decide)) wm_M_140 wi_M_howMany ws_M_howMany d_M_count_7 (Nat.le_of_ble_eq_true rfl) rfl (fun x_7 hx_7 => ?_)
    have L : ∀ (f m : Nat), f + m = (z.toInt + 1 - i).toNat → Z 0 0 (mW x_7.1 x_7.2.1 x_7.2.2.2.1 (G0 b b2 (nd b v) 1 0 x_7.2.2.2.2 wd)) [(0, .ref 0), (1, .int x), (2, .int (nI i)), (3, .int z), (4, .int (nI (cnt (dgt b v) x i m))), (5, .int (nI (i + m)))] 33 [] := by
      intro f
      induction f with
      | zero =>
        intro m hm
        refine z_iload h d_M_count_33 rfl ?_
        refine z_iload_n h d_M_count_35 rfl ?_
        refine z_icmp_gt (tgt := 66) h d_M_count_36 (by decide) (fun c_36 => ?_) (fun c_36 => ?_)
        · refine z_iload h d_M_count_66 rfl ?_
          refine hr.1 _ _ _ _ _ _ (Nat.le_refl _) (Nat.le_refl _) rfl d_M_count_68 ?_
          exact ⟨by rw [← hm, Nat.zero_add], RS_of hx_7 hbb hbb2 hv hv2⟩
        · exfalso
          have e : ¬ z.toInt < (nI (i + m)).toInt := fun q => c_36 (Int32.lt_iff_toInt_lt.mpr q)
          rw [nI_ti (by omega)] at e
          omega
      | succ f ih =>
        intro m hm
        have hle : ((i + m : Nat) : Int) ≤ z.toInt := by omega
        have him : i + m < nd b v := by omega
        refine z_iload h d_M_count_33 rfl ?_
        refine z_iload_n h d_M_count_35 rfl ?_
        refine z_icmp_gt (tgt := 66) h d_M_count_36 (by decide) (fun c_36 => ?_) (fun c_36 => ?_)
        · exfalso
          have e := Int32.lt_iff_toInt_lt.mp c_36
          rw [nI_ti (by omega)] at e
          omega
        · have hc : cnt (dgt b v) x i (m + 1) = cnt (dgt b v) x i m + (if nI (dgt b v (i + m)) = x then 1 else 0) := rfl
          refine z_iload h d_M_count_39 rfl ?_
          refine z_aload_n h d_M_count_41 rfl ?_
          refine z_get (C := R_M) (T := F_M) (N := 10) h 4 d_M_count_42 in_M rfl (by decide) wf_M_23 rfl rfl ?_
          refine z_iload h d_M_count_45 rfl ?_
          refine z_ialoadN h d_M_count_47 rfl (by omega) ?_
          rw [show (G0 b b2 (nd b v) 1 0 x_7.2.2.2.2 wd).2.2.2.2.2.1 (i + m) = dgt b v (i + m) from hx_7.2.2.2 (i + m) him]
          refine z_iload_n h d_M_count_48 rfl ?_
          refine z_icmp_ne (tgt := 56) h d_M_count_49 (by decide) (fun c_49 => ?_) (fun c_49 => ?_)
          · refine z_iconst (v := nI 0) h d_M_count_56 (by decide) ?_
            refine z_iaddN h d_M_count_57 ?_
            have hc0 : cnt (dgt b v) x i m + 0 = cnt (dgt b v) x i (m + 1) := by
              rw [hc, if_neg (show ¬ nI (dgt b v (i + m)) = x from c_49)]
            rw [hc0]
            refine z_istore h d_M_count_58 (by decide) ?_
            refine z_iincN h 1 d_M_count_60 rfl (by decide) (by decide) ?_
            refine z_goto (tgt := 33) h d_M_count_63 (by decide) ?_
            exact z_lv h rfl (ih (m + 1) (by omega))
          · rw [if_pos (show nI (dgt b v (i + m)) = x from c_49)] at hc
            refine z_iconst (v := nI 1) h d_M_count_52 (by decide) ?_
            refine z_goto (tgt := 57) h d_M_count_53 (by decide) ?_
            refine z_iaddN h d_M_count_57 ?_
            rw [← hc]
            refine z_istore h d_M_count_58 (by decide) ?_
            refine z_iincN h 1 d_M_count_60 rfl (by decide) (by decide) ?_
            refine z_goto (tgt := 33) h d_M_count_63 (by decide) ?_
            exact z_lv h rfl (ih (m + 1) (by omega))
    refine z_icmp_lt (tgt := 17) h d_M_count_10 (by decide) (fun c_10 => ?_) (fun c_10 => ?_)
    · refine z_iconst (v := nI 0) h d_M_count_17 (by decide) ?_
      refine z_iconst (v := nI 1) h d_M_count_18 (by decide) ?_
      refine z_cM h (ms_M_fails0 x_7.1 x_7.2.1 x_7.2.2.2.1 b b2 (nd b v) 1 t 1 x_7.2.2.2.2 wd) (zf_M_fails (by decide)) wm_M_128 wi_M_fails ws_M_fails d_M_count_19 (Nat.le_of_ble_eq_true rfl) rfl (fun x_19 hx_19 => ?_)
      refine z_if_eqN (tgt := 27) h d_M_count_22 (by decide) (by omega) (fun c_22 => ?_) (fun c_22 => ?_)
      · refine z_iconst (v := nI 0) h d_M_count_27 (by decide) ?_
        refine z_istore h d_M_count_28 (by decide) ?_
        refine z_iload_n h d_M_count_30 rfl ?_
        refine z_istore h d_M_count_31 (by decide) ?_
        exact z_lv h rfl (L _ 0 rfl)
      · exact absurd c_22 (by decide)
    · exact absurd hz c_10
set_option maxRecDepth 100000 in
set_option maxHeartbeats 4000000 in
theorem mf_M_count (v b v2 b2 t : Nat) (x y z : Int32) (w : List va_E) (h0 : RS v b v2 b2 t w) (hx : y < 0 ∨ ¬ z < nI (nd b v)) : MS y_M_count c_M_count 6 (some .int) (rm 7) [.ref 0, .int x, .int y, .int z] w (RP 0 v b v2 b2 1) := by
  obtain ⟨d, n, V, lf, m, kn, dg, wd, rfl, hM, hV0, hV1, hK, hbb, hbb2, hv, hv2⟩ := h0
  refine MS_of (own := R_M) (by decide) rfl (fun _ => Nat.le_of_ble_eq_true rfl) (fun Z h hr => ?_)
  refine z_aload_n h d_M_count_0 rfl ?_
  refine z_iload_n h d_M_count_1 rfl ?_
  refine z_if_lt (tgt := 13) h d_M_count_2 (by decide) (fun c_2 => ?_) (fun c_2 => ?_)
  · refine z_iconst (v := nI 1) h d_M_count_13 (by decide) ?_
    refine z_goto (tgt := 18) h d_M_count_14 (by decide) ?_
    refine z_iconst (v := nI 1) h d_M_count_18 (by decide) ?_
    refine z_cM h (ms_M_fails1 d n lf b b2 m kn t 1 dg wd) (zf_M_fails (by decide)) wm_M_128 wi_M_fails ws_M_fails d_M_count_19 (Nat.le_of_ble_eq_true rfl) rfl (fun x_19 hx_19 => ?_)
    refine z_if_eqN (tgt := 27) h d_M_count_22 (by decide) (by omega) (fun c_22 => ?_) (fun c_22 => ?_)
    · exact absurd c_22 (by decide)
    · refine z_iconst (v := nI 0) h d_M_count_25 (by decide) ?_
      refine hr.1 _ _ _ _ _ _ (Nat.le_refl _) (Nat.le_refl _) rfl d_M_count_26 ?_
      exact ⟨rfl, d, n, V, lf, m, kn, dg, wd, rfl, hM, hV0, hV1, hK, hbb, hbb2, hv, hv2⟩
  · refine z_iload_n h d_M_count_5 rfl ?_
    refine z_aload_n h d_M_count_6 rfl ?_
    refine z_cM h (ms_M_howMany d n V lf b b2 m kn t v v2 dg wd hM hV0 hV1 hbb hv hK) (zf_M_howMany (by decide)) wm_M_140 wi_M_howMany ws_M_howMany d_M_count_7 (Nat.le_of_ble_eq_true rfl) rfl (fun x_7 hx_7 => ?_)
    refine z_icmp_lt (tgt := 17) h d_M_count_10 (by decide) (fun c_10 => ?_) (fun c_10 => ?_)
    · exact absurd c_10 (hx.resolve_left c_2)
    · refine z_iconst (v := nI 1) h d_M_count_13 (by decide) ?_
      refine z_goto (tgt := 18) h d_M_count_14 (by decide) ?_
      refine z_iconst (v := nI 1) h d_M_count_18 (by decide) ?_
      refine z_cM h (ms_M_fails1 x_7.1 x_7.2.1 x_7.2.2.2.1 b b2 (nd b v) 1 t 1 x_7.2.2.2.2 wd) (zf_M_fails (by decide)) wm_M_128 wi_M_fails ws_M_fails d_M_count_19 (Nat.le_of_ble_eq_true rfl) rfl (fun x_19 hx_19 => ?_)
      refine z_if_eqN (tgt := 27) h d_M_count_22 (by decide) (by omega) (fun c_22 => ?_) (fun c_22 => ?_)
      · exact absurd c_22 (by decide)
      · refine z_iconst (v := nI 0) h d_M_count_25 (by decide) ?_
        refine hr.1 _ _ _ _ _ _ (Nat.le_refl _) (Nat.le_refl _) rfl d_M_count_26 ?_
        exact ⟨rfl, RS_of hx_7 hbb hbb2 hv hv2⟩
