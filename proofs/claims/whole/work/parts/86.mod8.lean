/-! DigitMillModel: rootOf -/
theorem most_up {t Y R A C : Nat} (hC : 0 < C) (hA : 0 < A) (hw : 1073741824 ≤ Y * A / C) (ht : t < 32768) (h : t * (Y + t) ≤ R) : t ≤ (R * A / C) / (Y * A / C + 1) + 1 := by
  have e1 : t * (Y * A / C) ≤ R * A / C := by
    rw [Nat.le_div_iff_mul_le hC]
    have e2 : Y * A / C * C ≤ Y * A := Nat.div_mul_le_self _ _
    have e3 : t * Y ≤ R := Nat.le_trans (Nat.mul_le_mul_left t (Nat.le_add_right _ _)) h
    calc t * (Y * A / C) * C = t * (Y * A / C * C) := Nat.mul_assoc _ _ _
      _ ≤ t * (Y * A) := Nat.mul_le_mul_left t e2
      _ = t * Y * A := (Nat.mul_assoc _ _ _).symm
      _ ≤ R * A := Nat.mul_le_mul_right A e3
  generalize R * A / C = u at *
  generalize Y * A / C = w at *
  cases t with
  | zero => exact Nat.zero_le _
  | succ t =>
    have e4 : t ≤ u / (w + 1) := by
      rw [Nat.le_div_iff_mul_le (by omega)]
      rw [Nat.add_mul] at e1
      rw [Nat.mul_add]
      omega
    omega
theorem most_lo {q t Y R : Nat} (hq : q * Y ≤ R) (hY : 1073741824 ≤ Y) (ht : t < 32768) (h : R < (t + 1) * (Y + (t + 1))) : q ≤ t + 1 := by
  have e1 : (t + 1) * (t + 1) ≤ 32768 * 32768 := Nat.mul_le_mul (by omega) (by omega)
  apply Nat.le_of_lt_succ
  apply Nat.lt_of_mul_lt_mul_right (a := Y)
  calc q * Y ≤ R := hq
    _ < (t + 1) * (Y + (t + 1)) := h
    _ = (t + 1) * Y + (t + 1) * (t + 1) := Nat.mul_add _ _ _
    _ ≤ (t + 1) * Y + Y := by omega
    _ = (t + 1).succ * Y := (Nat.succ_mul _ _).symm
theorem mf1 {t g : Nat} (u : t ≤ g + 1) (ht : t < 32768) : t ≤ min (g + 3) 32767 := by omega
theorem mf2 {t g : Nat} (u : g ≤ t + 1) : min (g + 3) 32767 ≤ t + 8 := by omega
theorem mf3 {c : Nat} (h : 4 ≤ c + 1) : 2 ≤ c + 1 := by omega
/-- the guess of the root's next limb holds it -/
theorem root_most {r R1 Y c t : Nat} (hY : Y = 2 * r * 32768) (hc : 32768 ^ c ≤ Y) (hc2 : Y < 32768 ^ (c + 1)) (hR : R1 < (2 * r + 1) * 1073741824) (ht : t < 32768) (ht1 : t * (Y + t) ≤ R1) (ht2 : R1 < (t + 1) * (Y + (t + 1))) (g : Nat) (hg : ld4 R1 (c + 1) / (ld4 Y c / 32768 + 1) = g) : t ≤ min (g + 3) 32767 ∧ (4 ≤ c → min (g + 3) 32767 ≤ t + 8) := by
  have hY0 : 0 < Y := Nat.lt_of_lt_of_le (Nat.pow_pos (by decide)) hc
  cases c with
  | zero =>
    rw [Nat.zero_add, Nat.pow_one] at hc2
    omega
  | succ c =>
    have e1 : 2 * r < 32768 ^ (c + 1) := by
      rw [hY, Nat.pow_succ] at hc2
      exact Nat.lt_of_mul_lt_mul_right hc2
    have e2 : R1 < 32768 ^ (c + 1 + 1 + 1) := by
      refine Nat.lt_of_lt_of_le hR ?_
      rw [Nat.pow_succ, Nat.pow_succ _ (c + 1), Nat.mul_assoc]
      exact Nat.mul_le_mul (by omega) (by decide)
    rw [ld4_top hc2, ld4_top e2, Nat.div_div_eq_div_mul (Y * 32768 ^ 3), ← Nat.pow_succ] at hg
    have hC : 0 < 32768 ^ (c + 1 + 1) := Nat.pow_pos (by decide)
    have hw : 1073741824 ≤ Y * 32768 ^ 3 / 32768 ^ (c + 1 + 1) := by
      rw [Nat.le_div_iff_mul_le hC]
      calc 1073741824 * 32768 ^ (c + 1 + 1) = 32768 ^ (c + 1) * 32768 ^ 3 := by
            rw [Nat.pow_succ _ (c + 1), show (32768 : Nat) ^ 3 = 32768 * 1073741824 by decide, Nat.mul_comm 1073741824, Nat.mul_assoc]
        _ ≤ Y * 32768 ^ 3 := Nat.mul_le_mul_right _ hc
    have u1 := most_up hC (by decide) hw ht ht1
    have u2 := @ld_q R1 Y (32768 ^ 3) (32768 ^ (c + 1 + 1)) hC (by decide)
    rw [Nat.succ_eq_add_one] at hg
    rw [hg] at u1 u2
    refine ⟨mf1 u1 ht, fun h4 => ?_⟩
    have hYb : 1073741824 ≤ Y := Nat.le_trans (Nat.le_trans (show 1073741824 ≤ 32768 ^ 2 by decide) (Nat.pow_le_pow_right (by decide) (mf3 h4))) hc
    exact mf2 (most_lo u2 hYb ht ht2)
theorem rt_cap {A r R v : Nat} (h : A = r * r + R) (hA : A ≤ v) (hv : v * 1152921504606846976 + 1152921504606846976 < capM) : 32768 * (2 * (r * 32768) + 0 + 32768) < capM ∧ r * 32768 ^ 1 < capM ∧ 2 * (r * 32768 ^ 1) + 0 < capM ∧ 1 * (r * 32768) + 32768 < capM := by
  have e1 : r ≤ v := by
    rcases Nat.eq_zero_or_pos r with q | q
    · omega
    · have := Nat.le_mul_of_pos_left r q
      omega
  rw [Nat.pow_one]
  omega
theorem rt_ge {V e : Nat} : V / e ≤ V := Nat.div_le_self _ _
theorem rt_split {v i : Nat} : v / 32768 ^ (2 * i) = (dig 32768 v (2 * i + 1) * 32768 + dig 32768 v (2 * i)) + v / 32768 ^ (2 * (i + 1)) * (32768 * 32768) := by
  unfold dig
  have e1 : v / 32768 ^ (2 * (i + 1)) = v / 32768 ^ (2 * i) / 32768 / 32768 := by
    rw [show 2 * (i + 1) = 2 * i + 1 + 1 by omega, Nat.pow_succ, Nat.pow_succ, Nat.div_div_eq_div_mul, Nat.div_div_eq_div_mul, Nat.mul_assoc]
  have e2 : v / 32768 ^ (2 * i + 1) = v / 32768 ^ (2 * i) / 32768 := by rw [Nat.pow_succ, Nat.div_div_eq_div_mul]
  rw [e1, e2]
  generalize v / 32768 ^ (2 * i) = u
  omega
set_option maxRecDepth 100000 in
set_option maxHeartbeats 4000000 in
theorem ms_M_rootOf (d n V : Nat → Nat) (lf : Int64) (G : MG) (z x : Nat) (hz : z < 7) (hx : x < 7) (hzx : z ≠ x) (hM : MV d n V) (hv : V x * 1152921504606846976 + 1152921504606846976 < capM) : MS y_M_rootOf c_M_rootOf 8 none (rm 4) [.ref 0, .int (nI z), .int (nI x)] (mW d n lf G) (zP (X := (Nat → Nat) × (Nat → Nat) × (Nat → Nat)) (fun _ => none) (fun q => mW q.1 q.2.1 lf G) (fun q => MV q.1 q.2.1 q.2.2 ∧ IsR (V x) (q.2.2 z) ∧ ∀ j, j < 7 → j ≠ z → q.2.2 j = V j)) := by
  refine MS_of (own := R_M) (by decide) rfl (fun _ => Nat.le_of_ble_eq_true rfl) (fun Z h hr => ?_)
  have hX := hM.2 x (by omega)
  have hnx := hX.1
  have hcap : V x < capM := by omega
  have L : ∀ (i : Nat) (e n' U : Nat → Nat), i ≤ 1400 → MV e n' U → (∀ j, j < 7 → j ≠ z → U j = V j) → V x / 32768 ^ (2 * i) = U z * U z + U 7 → U 7 ≤ 2 * U z → Z 0 0 (mW e n' lf G) [(0, .ref 0), (1, .int (nI z)), (2, .int (nI x)), (3, .int (nI i - 1))] 28 [] := by
    intro i
    induction i with
    | zero =>
      intro e n' U hi hV hU hA hR
      rw [Nat.mul_zero, Nat.pow_zero, Nat.div_one] at hA
      refine z_iload_n h d_M_rootOf_28 rfl ?_
      refine z_if_ltD (tgt := 251) h d_M_rootOf_29 (by decide) (by omega) (fun c_29 => ?_) (fun y_29 c_29 => ?_)
      · refine hr.2.2.2.1 _ _ _ _ _ (Nat.le_refl _) (Nat.le_refl _) rfl d_M_rootOf_251 ?_
        refine ⟨(e, n', U), rfl, rfl, hV, ⟨by show U z * U z ≤ V x; omega, ?_⟩, hU⟩
        show V x < (U z + 1) * (U z + 1)
        rw [Nat.add_mul, Nat.mul_add, Nat.mul_add]
        omega
      · exact absurd c_29 (by omega)
    | succ i ih =>
      intro e n' U hi hV hU hA hR
      have e0 : nI (i + 1) - 1 = nI i := nI_pred i
      have hA1 := @rt_split (V x) i
      have hAle : V x / 32768 ^ (2 * i) ≤ V x := Nat.div_le_self _ _
      have hUx : U x = V x := hU x hx (Ne.symm hzx)
      rw [hA] at hA1
      generalize hr0 : U z = r at *
      generalize hR0 : U 7 = R at *
      have hda : dig 32768 (V x) (2 * i + 1) < 32768 := dig_lt (by decide)
      have hdb : dig 32768 (V x) (2 * i) < 32768 := dig_lt (by decide)
      have hXe : Rp 32768 2800 (sh e (2800 * x)) (n' x) (V x) := hUx ▸ hV.2 x (by omega)
      obtain ⟨hc1, hc2, hc3, hc4⟩ := rt_cap hA (Nat.div_le_self _ _) hv
      refine z_iload_n h d_M_rootOf_28 rfl ?_
      refine z_if_ltD (tgt := 251) h d_M_rootOf_29 (by decide) (by omega) (fun c_29 => ?_) (fun y_29 c_29 => ?_)
      · exact absurd c_29 (by omega)
      · rw [e0]
        refine z_aload_n h d_M_rootOf_32 rfl ?_
        refine z_bipush (v := nI 7) h d_M_rootOf_33 (by decide) ?_
        refine z_ldc2_w (v := lN 32768) h d_M_rootOf_35 wv_M_54 ?_
        refine z_aload_n h d_M_rootOf_38 rfl ?_
        refine z_iload_n h d_M_rootOf_39 rfl ?_
        refine z_iconst (v := nI 2) h d_M_rootOf_40 (by decide) ?_
        refine z_iload_n h d_M_rootOf_41 rfl ?_
        refine z_imulN h d_M_rootOf_42 ?_
        refine z_iconst (v := nI 1) h d_M_rootOf_43 (by decide) ?_
        refine z_iaddN h d_M_rootOf_44 ?_
        refine z_cM h (ms_M_atR e n' V lf G x (2 * i + 1) (V x) (by omega) hXe (by omega)) (zf_M_at (by decide)) wm_M_34 wi_M_at ws_M_at d_M_rootOf_45 (Nat.le_of_ble_eq_true rfl) rfl (fun x_45 hx_45 => ?_)
        generalize hdaE : dig 32768 (V x) (2 * i + 1) = da at *
        have hk0 : 32768 * R + da ≤ V x ∧ 32768 * (32768 * R + da) + dig 32768 (V x) (2 * i) ≤ V x := by
          generalize dig 32768 (V x) (2 * i) = db at *
          generalize V x / 32768 ^ (2 * i) = Ai at *
          generalize r * r = rr at *
          omega
        refine z_i2lN h d_M_rootOf_48 (by omega) ?_
        refine z_cM h (ms_M_grow e n' U lf G 7 32768 da (by decide) hV.1 (hV.2 7 (by decide)) (by decide) (by omega) (by rw [hR0]; exact Nat.lt_of_le_of_lt hk0.1 hcap)) (zf_M_grow (by decide)) wm_M_60 wi_M_grow ws_M_grow d_M_rootOf_49 (Nat.le_of_ble_eq_true rfl) rfl (fun x_49 hx_49 => ?_)
        have hV1 := MV_MU hV hx_49
        rw [hR0] at hV1
        refine z_aload_n h d_M_rootOf_52 rfl ?_
        refine z_bipush (v := nI 7) h d_M_rootOf_53 (by decide) ?_
        refine z_ldc2_w (v := lN 32768) h d_M_rootOf_55 wv_M_54 ?_
        refine z_aload_n h d_M_rootOf_58 rfl ?_
        refine z_iload_n h d_M_rootOf_59 rfl ?_
        refine z_iconst (v := nI 2) h d_M_rootOf_60 (by decide) ?_
        refine z_iload_n h d_M_rootOf_61 rfl ?_
        refine z_imulN h d_M_rootOf_62 ?_
        refine z_cM h (ms_M_atR x_49.1 x_49.2 V lf G x (2 * i) (V x) (by omega) (by have := hV1.2 x (by omega); rw [un_ne (by omega), hUx] at this; exact this) (by omega)) (zf_M_at (by decide)) wm_M_34 wi_M_at ws_M_at d_M_rootOf_63 (Nat.le_of_ble_eq_true rfl) rfl (fun x_63 hx_63 => ?_)
        generalize hdbE : dig 32768 (V x) (2 * i) = db at *
        refine z_i2lN h d_M_rootOf_66 (by omega) ?_
        refine z_cM h (ms_M_grow x_49.1 x_49.2 (un U 7 (32768 * R + da)) lf G 7 32768 db (by decide) hV1.1 (hV1.2 7 (by decide)) (by decide) (by omega) (by rw [un_eq]; exact Nat.lt_of_le_of_lt hk0.2 hcap)) (zf_M_grow (by decide)) wm_M_60 wi_M_grow ws_M_grow d_M_rootOf_67 (Nat.le_of_ble_eq_true rfl) rfl (fun x_67 hx_67 => ?_)
        have hV2 := MV_MU hV1 hx_67
        rw [un_eq, un_un] at hV2
        generalize hR1 : 32768 * (32768 * R + da) + db = R1 at *
        refine z_aload_n h d_M_rootOf_70 rfl ?_
        refine z_iload_n h d_M_rootOf_71 rfl ?_
        refine z_iconst (v := nI 1) h d_M_rootOf_72 (by decide) ?_
        refine z_cM h (ms_M_up x_67.1 x_67.2 (un U 7 R1) lf G z 1 (by omega) (by decide) (by decide) hV2 (by rw [un_ne (by omega), hr0]; exact hc2)) (zf_M_shift (by decide)) wm_M_46 wi_M_shift ws_M_shift d_M_rootOf_73 (Nat.le_of_ble_eq_true rfl) rfl (fun x_73 hx_73 => ?_)
        rw [un_ne (show z ≠ 7 by omega), hr0, Nat.pow_one] at hx_73
        refine z_aload_n h d_M_rootOf_76 rfl ?_
        refine z_bipush (v := nI 8) h d_M_rootOf_77 (by decide) ?_
        refine z_iload_n h d_M_rootOf_79 rfl ?_
        refine z_cM h (ms_M_copy x_73.1 x_73.2 (un (un U 7 R1) z (r * 32768)) lf G 8 z (by decide) (by omega) hx_73) (zf_M_copy (by decide)) wm_M_70 wi_M_copy ws_M_copy d_M_rootOf_80 (Nat.le_of_ble_eq_true rfl) rfl (fun x_80 hx_80 => ?_)
        rw [un_eq] at hx_80
        refine z_aload_n h d_M_rootOf_83 rfl ?_
        refine z_bipush (v := nI 8) h d_M_rootOf_84 (by decide) ?_
        refine z_ldc2_w (v := lN 2) h d_M_rootOf_86 wv_M_73 ?_
        refine z_lconst (v := lN 0) h d_M_rootOf_89 (by decide) ?_
        refine z_cM h (ms_M_grow x_80.1 x_80.2 (un (un (un U 7 R1) z (r * 32768)) 8 (r * 32768)) lf G 8 2 0 (by decide) hx_80.1 (hx_80.2 8 (by decide)) (by decide) (by omega) (by rw [un_eq]; rw [Nat.pow_one] at hc3; exact hc3)) (zf_M_grow (by decide)) wm_M_60 wi_M_grow ws_M_grow d_M_rootOf_90 (Nat.le_of_ble_eq_true rfl) rfl (fun x_90 hx_90 => ?_)
        have hV3 := MV_MU hx_80 hx_90
        rw [un_eq, un_un] at hV3
        obtain ⟨f3, n3⟩ := x_90
        show Z 0 0 (mW f3 n3 lf G) _ _ _
        replace hV3 : MV f3 n3 (un (un (un U 7 R1) z (r * 32768)) 8 (2 * (r * 32768) + 0)) := hV3
        generalize hYE : 2 * (r * 32768) + 0 = Y at *
        have h77 : un (un (un U 7 R1) z (r * 32768)) 8 Y 7 = R1 := by rw [un_ne (by decide), un_ne (by omega), un_eq]
        have h88 : un (un (un U 7 R1) z (r * 32768)) 8 Y 8 = Y := un_eq
        have hzz : un (un (un U 7 R1) z (r * 32768)) 8 Y z = r * 32768 := by rw [un_ne (by omega), un_eq]
        have hjj : ∀ j, j < 7 → j ≠ z → un (un (un U 7 R1) z (r * 32768)) 8 Y j = V j := fun j q1 q2 => by rw [un_ne (by omega), un_ne q2, un_ne (by omega), hU j q1 q2]
        generalize un (un (un U 7 R1) z (r * 32768)) 8 Y = W at *
        clear hV2 hx_73 hx_80 hx_90 hV1 hx_49 hx_67 hV hXe hX
        have hY8 : Rp 32768 2800 (sh f3 (2800 * 8)) (n3 8) Y := h88 ▸ hV3.2 8 (by decide)
        have hR7 : Rp 32768 2800 (sh f3 (2800 * 7)) (n3 7) R1 := h77 ▸ hV3.2 7 (by decide)
        have hn8 := hY8.1
        obtain ⟨t, ht, ht1, ht2⟩ := root_ex (B := 32768) (low := da * 32768 + db) hR (by omega)
        have hYr : 2 * r * 32768 = Y := by omega
        have hRR : da * 32768 + db + R * (32768 * 32768) = R1 := by omega
        have hAn := root_next (B := 32768) (lo := da * 32768 + db) hA (by rw [hYr, hRR]; rw [hYr, hRR] at ht1; exact ht1)
        have hRn := root_rest (B := 32768) ht2
        rw [hYr, hRR] at ht1 ht2 hAn hRn
        have hAi : V x / 32768 ^ (2 * i) = (r * 32768 + t) * (r * 32768 + t) + (R1 - t * (Y + t)) := by rw [hA1, ← hAn, hA]
        have hcY : 32768 * (W 8 + 32768) < capM := by rw [h88]; exact hc1
        have hcz : 1 * W z + t < capM := by rw [hzz]; omega
        have hty : t * (Y + t) = t * Y + t * t := Nat.mul_add _ _ _
        have htt : t * t < 2 ^ 63 := Nat.lt_of_le_of_lt (Nat.mul_le_mul (Nat.le_of_lt ht) (Nat.le_of_lt ht)) (by decide)
        clear hA1 hAn hA hc1 hc2 hc3 hc4 hv hcap
        have Fin : ∀ (lo hi : Nat), lo ≤ t → t ≤ hi → hi < 32768 → Z 0 0 (mW f3 n3 lf G) [(0, .ref 0), (1, .int (nI z)), (2, .int (nI x)), (3, .int (nI i)), (4, .long (lN hi))] 202 [.long (lN hi), .long (lN lo), .ref 0] := by
          intro lo hi q1 q2 q3
          refine z_cM h (ms_M_greatest f3 n3 W lf G lo hi t hV3 q1 q2 q3 (by rw [h77, h88]; exact ht1) (by rw [h77, h88]; exact ht2) hcY) (zf_M_greatest (by decide)) wm_M_79 wi_M_greatest ws_M_greatest d_M_rootOf_202 (Nat.le_of_ble_eq_true rfl) rfl (fun x_202 hx_202 => ?_)
          refine z_lstore h d_M_rootOf_205 (by decide) ?_
          refine z_aload_n h d_M_rootOf_207 rfl ?_
          refine z_bipush (v := nI 9) h d_M_rootOf_208 (by decide) ?_
          refine z_lload h d_M_rootOf_210 rfl ?_
          refine z_lload h d_M_rootOf_212 rfl ?_
          refine z_lmulN h d_M_rootOf_214 ?_
          refine z_cM h (ms_M_set x_202.1 x_202.2.1 (un W 9 x_202.2.2) lf G 9 (t * t) (by decide) hx_202 htt) (zf_M_set (by decide)) wm_M_83 wi_M_set ws_M_set d_M_rootOf_215 (Nat.le_of_ble_eq_true rfl) rfl (fun x_215 hx_215 => ?_)
          rw [un_un] at hx_215
          have g7 : un W 9 (t * t) 7 = R1 := by rw [un_ne (by decide)]; exact h77
          have g8 : un W 9 (t * t) 8 = Y := by rw [un_ne (by decide)]; exact h88
          refine z_aload_n h d_M_rootOf_218 rfl ?_
          refine z_bipush (v := nI 7) h d_M_rootOf_219 (by decide) ?_
          refine z_bipush (v := nI 8) h d_M_rootOf_221 (by decide) ?_
          refine z_lload h d_M_rootOf_223 rfl ?_
          refine z_cM h (ms_M_lessTimes x_215.1 x_215.2 (un W 9 (t * t)) lf G 7 8 t (by decide) (by decide) (by decide) hx_215.1 (hx_215.2 7 (by decide)) (hx_215.2 8 (by decide)) (by omega) (by rw [g7, g8]; omega)) (zf_M_lessTimes (by decide)) wm_M_64 wi_M_lessTimes ws_M_lessTimes d_M_rootOf_225 (Nat.le_of_ble_eq_true rfl) rfl (fun x_225 hx_225 => ?_)
          have hV4 := MV_MU hx_215 hx_225
          rw [g7, g8] at hV4
          have g9 : un (un W 9 (t * t)) 7 (R1 - t * Y) 9 = t * t := by rw [un_ne (by decide)]; exact un_eq
          refine z_aload_n h d_M_rootOf_228 rfl ?_
          refine z_bipush (v := nI 7) h d_M_rootOf_229 (by decide) ?_
          refine z_bipush (v := nI 9) h d_M_rootOf_231 (by decide) ?_
          refine z_lconst (v := lN 1) h d_M_rootOf_233 (by decide) ?_
          refine z_cM h (ms_M_lessTimes x_225.1 x_225.2 (un (un W 9 (t * t)) 7 (R1 - t * Y)) lf G 7 9 1 (by decide) (by decide) (by decide) hV4.1 (hV4.2 7 (by decide)) (hV4.2 9 (by decide)) (by decide) (by rw [un_eq, g9]; omega)) (zf_M_lessTimes (by decide)) wm_M_64 wi_M_lessTimes ws_M_lessTimes d_M_rootOf_234 (Nat.le_of_ble_eq_true rfl) rfl (fun x_234 hx_234 => ?_)
          have hV5 := MV_MU hV4 hx_234
          rw [un_eq, g9, un_un, show R1 - t * Y - 1 * (t * t) = R1 - t * (Y + t) by omega] at hV5
          have gz : un (un W 9 (t * t)) 7 (R1 - t * (Y + t)) z = W z := by rw [un_ne (by omega), un_ne (by omega)]
          refine z_aload_n h d_M_rootOf_237 rfl ?_
          refine z_iload_n h d_M_rootOf_238 rfl ?_
          refine z_lconst (v := lN 1) h d_M_rootOf_239 (by decide) ?_
          refine z_lload h d_M_rootOf_240 rfl ?_
          refine z_cM h (ms_M_grow x_234.1 x_234.2 (un (un W 9 (t * t)) 7 (R1 - t * (Y + t))) lf G z 1 t (by omega) hV5.1 (hV5.2 z (by omega)) (by decide) (by omega) (by rw [gz]; exact hcz)) (zf_M_grow (by decide)) wm_M_60 wi_M_grow ws_M_grow d_M_rootOf_242 (Nat.le_of_ble_eq_true rfl) rfl (fun x_242 hx_242 => ?_)
          have hV6 := MV_MU hV5 hx_242
          rw [gz, hzz, Nat.one_mul] at hV6
          rw [← e0]
          refine z_iincD h d_M_rootOf_245 rfl (by decide) ?_
          refine z_goto (tgt := 28) h d_M_rootOf_248 (by decide) ?_
          refine z_lv (lv' := [(0, .ref 0), (1, .int (nI z)), (2, .int (nI x)), (3, .int (nI i - 1))]) h rfl (ih x_242.1 x_242.2 (un (un (un W 9 (t * t)) 7 (R1 - t * (Y + t))) z (r * 32768 + t)) (by omega) hV6 (fun j q1 q2 => ?_) ?_ ?_)
          · rw [un_ne q2, un_ne (by omega), un_ne (by omega)]
            exact hjj j q1 q2
          · rw [un_eq, un_ne (show 7 ≠ z by omega), un_eq]
            exact hAi
          · rw [un_eq, un_ne (show 7 ≠ z by omega), un_eq]
            exact hRn
        have Mid : ∀ (hi : Nat), t ≤ hi → hi < 32768 → (5 ≤ n3 8 → hi ≤ t + 8) → Z 0 0 (mW f3 n3 lf G) [(0, .ref 0), (1, .int (nI z)), (2, .int (nI x)), (3, .int (nI i)), (4, .long (lN hi))] 169 [] := by
          intro hi q1 q2 q3
          refine z_aload_n h d_M_rootOf_169 rfl ?_
          refine z_aload_n h d_M_rootOf_170 rfl ?_
          refine z_get (C := R_M) (T := F_M) (N := 10) h 1 d_M_rootOf_171 in_M rfl (by decide) wf_M_13 rfl rfl ?_
          refine z_bipush (v := nI 8) h d_M_rootOf_174 (by decide) ?_
          refine z_ialoadN h d_M_rootOf_176 rfl (by omega) ?_
          refine z_iconst (v := nI 5) h d_M_rootOf_177 (by decide) ?_
          refine z_icmp_ltN (tgt := 190) h d_M_rootOf_178 (by decide) (by omega) (fun c_178 => ?_) (fun c_178 => ?_)
          · refine z_lconst (v := lN 0) h d_M_rootOf_190 (by decide) ?_
            refine z_goto (tgt := 200) h d_M_rootOf_191 (by decide) ?_
            refine z_lload h d_M_rootOf_200 rfl ?_
            exact Fin 0 hi (by omega) q1 q2
          · refine z_lload h d_M_rootOf_181 rfl ?_
            refine z_ldc2_w (v := lN 8) h d_M_rootOf_183 wv_M_77 ?_
            refine z_lcmp_geN (tgt := 194) h d_M_rootOf_186 d_M_rootOf_187 (by decide) (by omega) (fun c_186 => ?_) (fun c_186 => ?_)
            · refine z_lload h d_M_rootOf_194 rfl ?_
              refine z_ldc2_w (v := lN 8) h d_M_rootOf_196 wv_M_77 ?_
              refine z_lsubN h d_M_rootOf_199 (by omega) ?_
              refine z_lload h d_M_rootOf_200 rfl ?_
              exact Fin (hi - 8) hi (by omega) q1 q2
            · refine z_lconst (v := lN 0) h d_M_rootOf_190 (by decide) ?_
              refine z_goto (tgt := 200) h d_M_rootOf_191 (by decide) ?_
              refine z_lload h d_M_rootOf_200 rfl ?_
              exact Fin 0 hi (by omega) q1 q2
        have Pre : ∀ (m : Nat), t ≤ min m 32767 → m < 2 ^ 63 → (5 ≤ n3 8 → min m 32767 ≤ t + 8) → Z 0 0 (mW f3 n3 lf G) [(0, .ref 0), (1, .int (nI z)), (2, .int (nI x)), (3, .int (nI i))] 148 [.long (lN m)] := by
          intro m q1 q2 q3
          refine z_lstore h d_M_rootOf_148 (by decide) ?_
          refine z_lload h d_M_rootOf_150 rfl ?_
          refine z_ldc2_w (v := lN 32767) h d_M_rootOf_152 wv_M_32 ?_
          refine z_lcmp_leN (tgt := 165) h d_M_rootOf_155 d_M_rootOf_156 (by decide) (by omega) (fun c_155 => ?_) (fun c_155 => ?_)
          · refine z_lload h d_M_rootOf_165 rfl ?_
            refine z_lstore h d_M_rootOf_167 (by decide) ?_
            exact z_lv h rfl (Mid m (by omega) (by omega) (fun q => by have := q3 q; omega))
          · refine z_ldc2_w (v := lN 32767) h d_M_rootOf_159 wv_M_32 ?_
            refine z_goto (tgt := 167) h d_M_rootOf_162 (by decide) ?_
            refine z_lstore h d_M_rootOf_167 (by decide) ?_
            exact z_lv h rfl (Mid 32767 (by omega) (by omega) (fun q => by have := q3 q; omega))
        refine z_aload_n h d_M_rootOf_93 rfl ?_
        refine z_get (C := R_M) (T := F_M) (N := 10) h 1 d_M_rootOf_94 in_M rfl (by decide) wf_M_13 rfl rfl ?_
        refine z_bipush (v := nI 8) h d_M_rootOf_97 (by decide) ?_
        refine z_ialoadN h d_M_rootOf_99 rfl (by omega) ?_
        have hl1 := @ld4_b R1 (n3 8)
        refine z_if_neN (tgt := 109) h d_M_rootOf_100 (by decide) (by omega) (fun c_100 => ?_) (fun c_100 => ?_)
        · have hY9 := hY8
          obtain ⟨c, hc⟩ : ∃ c, n3 8 = c + 1 := ⟨n3 8 - 1, by omega⟩
          rw [hc] at hY9
          have hl2 := @ld4_b Y c
          have hmost := root_most (r := r) (R1 := R1) (Y := Y) (c := c) (t := t) hYr.symm (by rcases hY9.2.2.2 with q | q; exact absurd q (by omega); exact q) (Rp_lt hY9) (by omega) ht ht1 ht2 _ rfl
          refine z_aload_n h d_M_rootOf_109 rfl ?_
          refine z_bipush (v := nI 7) h d_M_rootOf_110 (by decide) ?_
          refine z_aload_n h d_M_rootOf_112 rfl ?_
          refine z_get (C := R_M) (T := F_M) (N := 10) h 1 d_M_rootOf_113 in_M rfl (by decide) wf_M_13 rfl rfl ?_
          refine z_bipush (v := nI 8) h d_M_rootOf_116 (by decide) ?_
          refine z_ialoadN h d_M_rootOf_118 rfl (by omega) ?_
          rw [hc]
          refine z_cM h (ms_M_leading f3 n3 W lf G 7 (c + 1) R1 (by decide) hR7 (by omega)) (zf_M_leading (by decide)) wm_M_56 wi_M_leading ws_M_leading d_M_rootOf_119 (Nat.le_of_ble_eq_true rfl) rfl (fun x_119 hx_119 => ?_)
          refine z_aload_n h d_M_rootOf_122 rfl ?_
          refine z_bipush (v := nI 8) h d_M_rootOf_123 (by decide) ?_
          refine z_aload_n h d_M_rootOf_125 rfl ?_
          refine z_get (C := R_M) (T := F_M) (N := 10) h 1 d_M_rootOf_126 in_M rfl (by decide) wf_M_13 rfl rfl ?_
          refine z_bipush (v := nI 8) h d_M_rootOf_129 (by decide) ?_
          refine z_ialoadN h d_M_rootOf_131 rfl (by omega) ?_
          rw [hc]
          refine z_iconst (v := nI 1) h d_M_rootOf_132 (by decide) ?_
          refine z_isubN h d_M_rootOf_133 (by omega) ?_
          rw [Nat.add_sub_cancel]
          refine z_cM h (ms_M_leading f3 n3 W lf G 8 c Y (by decide) hY8 (by omega)) (zf_M_leading (by decide)) wm_M_56 wi_M_leading ws_M_leading d_M_rootOf_134 (Nat.le_of_ble_eq_true rfl) rfl (fun x_134 hx_134 => ?_)
          rw [hc] at hl1
          have hs_140 : ld4 Y c < 2 ^ 63 ∧ 0 < 32768 ∧ 32768 < 2 ^ 63 := by omega
          have hs_143 : ld4 R1 (c + 1) < 2 ^ 63 ∧ 0 < ld4 Y c / 32768 + 1 ∧ ld4 Y c / 32768 + 1 < 2 ^ 63 := by omega
          have hq9 : ld4 R1 (c + 1) / (ld4 Y c / 32768 + 1) ≤ ld4 R1 (c + 1) := Nat.div_le_self _ _
          refine z_ldc2_w (v := lN 32768) h d_M_rootOf_137 wv_M_54 ?_
          refine z_ldivN h d_M_rootOf_140 hs_140 ?_
          refine z_lconst (v := lN 1) h d_M_rootOf_141 (by decide) ?_
          refine z_laddN h d_M_rootOf_142 ?_
          refine z_ldivN h d_M_rootOf_143 hs_143 ?_
          refine z_ldc2_w (v := lN 3) h d_M_rootOf_144 wv_M_75 ?_
          refine z_laddN h d_M_rootOf_147 ?_
          exact Pre _ hmost.1 (by omega) (fun q => hmost.2 (by omega))
        · refine z_ldc2_w (v := lN 32767) h d_M_rootOf_103 wv_M_32 ?_
          refine z_goto (tgt := 148) h d_M_rootOf_106 (by decide) ?_
          exact Pre 32767 (by omega) (by decide) (fun q => by omega)
  have hini : ∀ j, j ≠ 7 → j ≠ z → un (un n 7 0) z 0 j = n j := fun j q1 q2 => by rw [un_ne q2, un_ne q1]
  have hMV : MV d (un (un n 7 0) z 0) (un (un V 7 0) z 0) := MV_upd2 (by omega) hM hM.1 (fun _ _ _ => rfl) ⟨Nat.zero_le _, fun j => hM.1 _, rfl, Or.inl rfl⟩ ⟨Nat.zero_le _, fun j => hM.1 _, rfl, Or.inl rfl⟩
  have h0 : V x / 32768 ^ (2 * ((n x + 1) / 2)) = 0 := Nat.div_eq_of_lt (Nat.lt_of_lt_of_le (Rp_lt hX) (Nat.pow_le_pow_right (by decide) (by omega)))
  refine z_aload_n h d_M_rootOf_0 rfl ?_
  refine z_get (C := R_M) (T := F_M) (N := 10) h 1 d_M_rootOf_1 in_M rfl (by decide) wf_M_13 rfl rfl ?_
  refine z_bipush (v := nI 7) h d_M_rootOf_4 (by decide) ?_
  refine z_iconst (v := nI 0) h d_M_rootOf_6 (by decide) ?_
  refine z_iastoreN h d_M_rootOf_7 rfl (by omega) ?_
  refine z_aload_n h d_M_rootOf_8 rfl ?_
  refine z_get (C := R_M) (T := F_M) (N := 10) h 1 d_M_rootOf_9 in_M rfl (by decide) wf_M_13 rfl rfl ?_
  refine z_iload_n h d_M_rootOf_12 rfl ?_
  refine z_iconst (v := nI 0) h d_M_rootOf_13 (by decide) ?_
  refine z_iastoreN h d_M_rootOf_14 rfl (by omega) ?_
  refine z_aload_n h d_M_rootOf_15 rfl ?_
  refine z_get (C := R_M) (T := F_M) (N := 10) h 1 d_M_rootOf_16 in_M rfl (by decide) wf_M_13 rfl rfl ?_
  refine z_iload_n h d_M_rootOf_19 rfl ?_
  refine z_ialoadN h d_M_rootOf_20 rfl (by omega) ?_
  rw [hini x (by omega) (by omega)]
  refine z_iconst (v := nI 1) h d_M_rootOf_21 (by decide) ?_
  refine z_iaddN h d_M_rootOf_22 ?_
  refine z_iconst (v := nI 2) h d_M_rootOf_23 (by decide) ?_
  refine z_idivN h d_M_rootOf_24 (by omega) ?_
  refine z_iconst (v := 1) h d_M_rootOf_25 (by decide) ?_
  refine z_isub h d_M_rootOf_26 ?_
  refine z_istore_n h d_M_rootOf_27 (by decide) ?_
  refine z_lv (lv' := [(0, .ref 0), (1, .int (nI z)), (2, .int (nI x)), (3, .int (nI ((n x + 1) / 2) - 1))]) h rfl (L ((n x + 1) / 2) d (un (un n 7 0) z 0) (un (un V 7 0) z 0) (by omega) hMV (fun j q1 q2 => by rw [un_ne q2, un_ne (by omega)]) ?_ ?_)
  · rw [un_eq, un_ne (show 7 ≠ z by omega), un_eq]
    exact h0
  · rw [un_ne (show 7 ≠ z by omega), un_eq]
    exact Nat.zero_le _
