/-! the other refusals -/
def okN (x : Int32) : Prop := ¬ x < 0 ∧ ¬ 6000 < x
theorem zput_nil {w es : List va_E} : zput w [] es = w := by cases es <;> rfl
set_option maxRecDepth 100000 in
theorem ms_D_refuseWrongPlaces (n b : Nat) (hn : n ≤ 6000) (hb : 2 ≤ b ∧ b < 37) (w : List va_E) : MS y_D_refuseWrongPlaces c_D_refuseWrongPlaces 2 none (rm 2) [.int (nI n), .int (nI b)] w (zP (X := Unit) (fun _ => none) (fun _ => w) (fun _ => True)) := by
  refine MS_of (own := R_D) (by decide) rfl (fun _ => Nat.le_of_ble_eq_true rfl) (fun Z h hr => ?_)
  refine z_iload_n h d_D_refuseWrongPlaces_0 rfl ?_
  refine z_if_lt (tgt := 11) h d_D_refuseWrongPlaces_1 (by decide) (fun c_1 => ?_) (fun c_1 => ?_)
  · exact absurd c_1 (nI_pos (by omega))
  · refine z_iload_n h d_D_refuseWrongPlaces_4 rfl ?_
    refine z_sipush (v := nI 6000) h d_D_refuseWrongPlaces_5 (by decide) ?_
    refine z_icmp_leN (tgt := 21) h d_D_refuseWrongPlaces_8 (by decide) (by omega) (fun c_8 => ?_) (fun c_8 => ?_)
    · refine z_iload_n h d_D_refuseWrongPlaces_21 rfl ?_
      refine z_cS h (ms_D_refuseWrongBase b hb []) (zf_D_refuseWrongBase (by decide)) wm_D_88 wt_D_refuseWrongBase d_D_refuseWrongPlaces_22 [] (by decide) rfl (Nat.le_of_ble_eq_true rfl) rfl (fun _ => rfl) (fun x_22 hx_22 => ?_)
      rw [zput_nil]
      refine hr.2.2.2.1 _ _ _ _ _ (Nat.le_refl _) (Nat.le_refl _) rfl d_D_refuseWrongPlaces_25 ?_
      exact ⟨(), rfl, rfl, trivial⟩
    · exact absurd c_8 (by omega)
set_option maxRecDepth 100000 in
theorem mt_D_refuseWrongPlaces (x y : Int32) (hx : ¬ (okN x ∧ okB y)) (w : List va_E) : MT y_D_refuseWrongPlaces c_D_refuseWrongPlaces 2 none (rmT 7) [.int x, .int y] w X_IAE (fun w' => w' = w) := by
  refine MT_of (own := R_D) (by decide) rfl (fun _ => Nat.le_of_ble_eq_true rfl) (fun Z h ht => ?_)
  refine z_iload_n h d_D_refuseWrongPlaces_0 rfl ?_
  refine z_if_lt (tgt := 11) h d_D_refuseWrongPlaces_1 (by decide) (fun c_1 => ?_) (fun c_1 => ?_)
  · refine z_throw (tx := "n is not 0 to 6000") ht fit_IAE own_IAE wkx_IAE wnx_IAE wix_IAE (zStr_mem (by decide +kernel)) d_D_refuseWrongPlaces_11 d_D_refuseWrongPlaces_14 d_D_refuseWrongPlaces_15 d_D_refuseWrongPlaces_17 d_D_refuseWrongPlaces_20 (by decide) (by decide) rfl rfl rfl ?_
    rfl
  · refine z_iload_n h d_D_refuseWrongPlaces_4 rfl ?_
    refine z_sipush (v := 6000) h d_D_refuseWrongPlaces_5 (by decide) ?_
    refine z_icmp_le (tgt := 21) h d_D_refuseWrongPlaces_8 (by decide) (fun c_8 => ?_) (fun c_8 => ?_)
    · have hy : ¬ okB y := fun q => hx ⟨⟨c_1, Int32.not_lt.mpr c_8⟩, q⟩
      refine z_iload_n h d_D_refuseWrongPlaces_21 rfl ?_
      refine z_tS ht (mt_D_refuseWrongBase y hy []) (zTT (zf_D_refuseWrongBase (by decide))) wm_D_88 wt_D_refuseWrongBase d_D_refuseWrongPlaces_22 (by decide) [] (by decide) rfl (Nat.le_of_ble_eq_true rfl) rfl rfl (fun w_22 hl_22 hp_22 => ?_)
      exact zput_nil
    · refine z_throw (tx := "n is not 0 to 6000") ht fit_IAE own_IAE wkx_IAE wnx_IAE wix_IAE (zStr_mem (by decide +kernel)) d_D_refuseWrongPlaces_11 d_D_refuseWrongPlaces_14 d_D_refuseWrongPlaces_15 d_D_refuseWrongPlaces_17 d_D_refuseWrongPlaces_20 (by decide) (by decide) rfl rfl rfl ?_
      rfl
theorem bl36 : ∀ b, b < 37 → 2 ≤ b → 1 ≤ bl (b - 1) ∧ bl (b - 1) ≤ 6 := by decide +kernel
theorem nb_lt {n b : Nat} (hn : n ≤ 6000) (hb : 2 ≤ b ∧ b < 37) : n * bl (b - 1) ≤ 36000 := by
  have := (bl36 b hb.2 hb.1).2
  exact Nat.le_trans (Nat.mul_le_mul hn this) (by decide)
set_option maxRecDepth 100000 in
theorem ms_D_refuseTooManyPlaces (n b : Nat) (hn : n ≤ 6000) (hb : 2 ≤ b ∧ b < 37) (hnb : n * bl (b - 1) ≤ 20000) : MS y_D_refuseTooManyPlaces c_D_refuseTooManyPlaces 2 none (rm 4) [.int (nI n), .int (nI b)] [] (zP (X := Unit) (fun _ => none) (fun _ => []) (fun _ => True)) := by
  refine MS_of (own := R_D) (by decide) rfl (fun _ => Nat.le_of_ble_eq_true rfl) (fun Z h hr => ?_)
  refine z_iload_n h d_D_refuseTooManyPlaces_0 rfl ?_
  refine z_iload_n h d_D_refuseTooManyPlaces_1 rfl ?_
  refine z_cS h (ms_D_bitsPerDigit b (by omega)) (zf_D_bitsPerDigit (by decide)) wm_D_192 wt_D_bitsPerDigit d_D_refuseTooManyPlaces_2 [] (by decide) rfl (Nat.le_of_ble_eq_true rfl) rfl (fun _ => rfl) (fun x_2 hx_2 => ?_)
  refine z_imulN h d_D_refuseTooManyPlaces_5 ?_
  refine z_sipush (v := nI 20000) h d_D_refuseTooManyPlaces_6 (by decide) ?_
  refine z_icmp_leN (tgt := 22) h d_D_refuseTooManyPlaces_9 (by decide) (by omega) (fun c_9 => ?_) (fun c_9 => ?_)
  · refine hr.2.2.2.1 _ _ _ _ _ (Nat.le_refl _) (Nat.le_refl _) rfl d_D_refuseTooManyPlaces_22 ?_
    exact ⟨(), rfl, rfl, trivial⟩
  · exact absurd c_9 (by omega)
set_option maxRecDepth 100000 in
theorem mt_D_refuseTooManyPlaces (n b : Nat) (hn : n ≤ 6000) (hb : 2 ≤ b ∧ b < 37) (hnb : ¬ n * bl (b - 1) ≤ 20000) : MT y_D_refuseTooManyPlaces c_D_refuseTooManyPlaces 2 none (rmT 6) [.int (nI n), .int (nI b)] [] X_UOE (fun w' => w' = []) := by
  refine MT_of (own := R_D) (by decide) rfl (fun _ => Nat.le_of_ble_eq_true rfl) (fun Z h ht => ?_)
  have hlt := nb_lt hn hb
  refine z_iload_n h d_D_refuseTooManyPlaces_0 rfl ?_
  refine z_iload_n h d_D_refuseTooManyPlaces_1 rfl ?_
  refine z_callS h (ms_D_bitsPerDigit b (by omega)) (zT (zf_D_bitsPerDigit (by decide))) wm_D_192 wt_D_bitsPerDigit d_D_refuseTooManyPlaces_2 (by decide) [] (by decide) rfl (Nat.le_of_ble_eq_true rfl) rfl (fun _ _ hp => by obtain ⟨_, -, rfl, -⟩ := hp; rfl) (fun r_2 w_2 hp_2 => ?_)
  obtain ⟨x_2, rfl, rfl, hx_2⟩ := hp_2
  refine z_imulN h d_D_refuseTooManyPlaces_5 ?_
  refine z_sipush (v := nI 20000) h d_D_refuseTooManyPlaces_6 (by decide) ?_
  refine z_icmp_leN (tgt := 22) h d_D_refuseTooManyPlaces_9 (by decide) (by omega) (fun c_9 => ?_) (fun c_9 => ?_)
  · exact absurd c_9 (by omega)
  · refine z_throw (tx := "too many places in this base") ht fit_UOE own_UOE wkx_UOE wnx_UOE wix_UOE (zStr_mem (by decide +kernel)) d_D_refuseTooManyPlaces_12 d_D_refuseTooManyPlaces_15 d_D_refuseTooManyPlaces_16 d_D_refuseTooManyPlaces_18 d_D_refuseTooManyPlaces_21 (by decide) (by decide) rfl rfl rfl ?_
    rfl
set_option maxRecDepth 100000 in
theorem ms_D_refuseTooLong (s v : Nat) (a : Nat → Nat) (hR : Rp 1073741824 1400 a s v) (hv : bl v ≤ 24000) : MS y_D_refuseTooLong c_D_refuseTooLong 1 none (rm 4) [.ref 0] [wh 1 s, ar 1400 a] (zP (X := Unit) (fun _ => none) (fun _ => [wh 1 s, ar 1400 a]) (fun _ => True)) := by
  refine MS_of (own := R_D) (by decide) rfl (fun _ => Nat.le_of_ble_eq_true rfl) (fun Z h hr => ?_)
  refine z_aload_n h d_D_refuseTooLong_0 rfl ?_
  refine z_cV (C := R_H) (ci := 3) h (ms_H_length 1400 s v a (by decide) hR) (zf_H_length (by decide)) wm_D_137 wi_H_length ws_H_length rfl ⟨_, rfl⟩ d_D_refuseTooLong_1 [0, 1] (by decide) rfl (Nat.le_of_ble_eq_true rfl) rfl (fun _ => rfl) (fun x_1 hx_1 => ?_)
  refine z_sipush (v := nI 24000) h d_D_refuseTooLong_4 (by decide) ?_
  refine z_icmp_leN (tgt := 20) h d_D_refuseTooLong_7 (by decide) (by omega) (fun c_7 => ?_) (fun c_7 => ?_)
  · refine hr.2.2.2.1 _ _ _ _ _ (Nat.le_refl _) (Nat.le_refl _) rfl d_D_refuseTooLong_20 ?_
    exact ⟨(), rfl, rfl, trivial⟩
  · exact absurd c_7 (by omega)
theorem Rp_bl {a : Nat → Nat} {s v : Nat} (hR : Rp 1073741824 1400 a s v) : bl v ≤ 42000 := by
  apply bl_lt
  have h1 := Rp_lt hR
  have h2 : 1073741824 ^ s ≤ 1073741824 ^ 1400 := Nat.pow_le_pow_right (by decide) hR.1
  rw [p30, p30] at h2
  rw [p30] at h1
  exact Nat.lt_of_lt_of_le h1 h2
set_option maxRecDepth 100000 in
theorem mt_D_refuseTooLong (s v : Nat) (a : Nat → Nat) (hR : Rp 1073741824 1400 a s v) (hv : ¬ bl v ≤ 24000) : MT y_D_refuseTooLong c_D_refuseTooLong 1 none (rmT 6) [.ref 0] [wh 1 s, ar 1400 a] X_UOE (fun w' => w' = [wh 1 s, ar 1400 a]) := by
  refine MT_of (own := R_D) (by decide) rfl (fun _ => Nat.le_of_ble_eq_true rfl) (fun Z h ht => ?_)
  have hlt := Rp_bl hR
  refine z_aload_n h d_D_refuseTooLong_0 rfl ?_
  refine z_callV (C := R_H) (ci := 3) h (ms_H_length 1400 s v a (by decide) hR) (zT (zf_H_length (by decide))) wm_D_137 wi_H_length ws_H_length rfl ⟨_, rfl⟩ d_D_refuseTooLong_1 (by decide) [0, 1] (by decide) rfl (Nat.le_of_ble_eq_true rfl) rfl (fun _ _ hp => by obtain ⟨_, -, rfl, -⟩ := hp; rfl) (fun r_1 w_1 hp_1 => ?_)
  obtain ⟨x_1, rfl, rfl, hx_1⟩ := hp_1
  refine z_sipush (v := nI 24000) h d_D_refuseTooLong_4 (by decide) ?_
  refine z_icmp_leN (tgt := 20) h d_D_refuseTooLong_7 (by decide) (by omega) (fun c_7 => ?_) (fun c_7 => ?_)
  · exact absurd c_7 (by omega)
  · refine z_throw (tx := "the number is too long") ht fit_UOE own_UOE wkx_UOE wnx_UOE wix_UOE (zStr_mem (by decide +kernel)) d_D_refuseTooLong_10 d_D_refuseTooLong_13 d_D_refuseTooLong_14 d_D_refuseTooLong_16 d_D_refuseTooLong_19 (by decide) (by decide) rfl rfl rfl ?_
    rfl
