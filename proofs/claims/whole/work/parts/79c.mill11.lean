/-! DigitMill: mill -/
/-- the object with its series -/
def DW (Q : Nat) (c : Nat → Nat) (v b v2 b2 : Nat) (w : List va_E) : Prop := ∃ (w0 : List va_E) (D : Nat) (r : Nat → Nat → Nat) (dp : Nat → Nat) (wk sm : Nat → Int), w = w0 ++ sS D r dp wk sm ∧ DS v b v2 b2 w0 ∧ SI Q c r dp
theorem DW_len {Q : Nat} {c : Nat → Nat} {v b v2 b2 : Nat} {w : List va_E} (h : DW Q c v b v2 b2 w) : w.length = 28 := by
  obtain ⟨w0, D, r, dp, wk, sm, rfl, h1, -⟩ := h
  rw [List.length_append, DS_len h1]
  rfl
abbrev DWv (w0 : List va_E) (D : Nat) (r : Nat → Nat → Nat) (dp : Nat → Nat) (wk sm : Nat → Int) : List va_E := w0 ++ sS D r dp wk sm
theorem B800a {y : Nat} (h : bl y ≤ 24000) : y < 1073741824 ^ 800 := by
  rw [p30]
  exact Nat.lt_of_lt_of_le (bl_ub y) (Nat.pow_le_pow_right (by decide) h)
set_option maxRecDepth 100000 in
set_option maxHeartbeats 4000000 in
theorem ms_D_mill0 (v b v2 b2 n b' ans Q : Nat) (c G1 G2 GE HL HC : Nat → Nat) (w : List va_E) (hm : Mst Q c G1 G2 GE HL HC) (h0 : DW Q c v b v2 b2 w) (hn : n ≤ 6000) (hb : 2 ≤ b' ∧ b' < 37) (hnb : n * bl (b' - 1) ≤ 20000) (hla : bl ans ≤ 24000) (hans : ∀ D R, n * bl (b' - 1) + 31 + 60 ≤ 30 * D → D ≤ 704 → (((R : Nat) : Int) * Q - ((c 0 : Nat) : Int) * (1073741824 ^ D : Nat)).natAbs ≤ 2147483648 * Q → R * b' ^ n / 1073741824 ^ D = ans) : MS y_D_mill c_D_mill 4 (some .int) (rm 9) [.ref 0, .int (nI 0), .int (nI n), .int (nI b')] w (fun r w' => r = some (.int (nI (nd b' ans))) ∧ DW Q c ans b' v2 b2 w') := by
  obtain ⟨w0, D, rr, dp, wk, sm, rfl, hds, hI⟩ := h0
  obtain ⟨gu, pg, dg, td, s, a, g, pw, gu2, pg2, dg2, td2, s2, a2, g2, pw2, sl, sr, sq, l, r, q, rfl, h1, h2, h3, h4, h5⟩ := hds
  refine MS_of (own := R_D) (by decide) rfl (fun _ => Nat.le_of_ble_eq_true rfl) (fun Z h hr => ?_)
  show Z 0 0 (dW b gu pg dg td s a g pw b2 gu2 pg2 dg2 td2 s2 a2 g2 pw2 sl sr sq l r q (sS D rr dp wk sm)) _ _ _
  refine z_iload_n h d_D_mill_0 rfl ?_
  refine z_if_lt (tgt := 9) h d_D_mill_1 (by decide) (fun c_1 => ?_) (fun c_1 => ?_)
  · exact absurd c_1 (by decide)
  · refine z_iload_n h d_D_mill_4 rfl ?_
    refine z_iconst (v := nI 5) h d_D_mill_5 (by decide) ?_
    refine z_icmp_ltN (tgt := 19) h d_D_mill_6 (by decide) (by omega) (fun c_6 => ?_) (fun c_6 => ?_)
    · refine z_iload_n h d_D_mill_19 rfl ?_
      refine z_iload_n h d_D_mill_20 rfl ?_
      refine z_cS h (ms_D_refuseWrongPlaces n b' hn hb []) (zf_D_refuseWrongPlaces (by decide)) wm_D_40 wt_D_refuseWrongPlaces d_D_mill_21 [] (by decide) rfl (Nat.le_of_ble_eq_true rfl) rfl (fun _ => rfl) (fun x_21 hx_21 => ?_)
      rw [zput_nil]
      refine z_iload_n h d_D_mill_24 rfl ?_
      refine z_iload_n h d_D_mill_25 rfl ?_
      refine z_cS h (ms_D_refuseTooManyPlaces n b' hn hb hnb) (zf_D_refuseTooManyPlaces (by decide)) wm_D_44 wt_D_refuseTooManyPlaces d_D_mill_26 [] (by decide) rfl (Nat.le_of_ble_eq_true rfl) rfl (fun _ => rfl) (fun x_26 hx_26 => ?_)
      rw [zput_nil]
      refine z_iload_n h d_D_mill_29 rfl ?_
      refine z_iconst (v := nI 2) h d_D_mill_30 (by decide) ?_
      refine z_icmp_neN (tgt := 46) h d_D_mill_31 (by decide) (by omega) (fun c_31 => ?_) (fun c_31 => ?_)
      · refine z_aload_n h d_D_mill_46 rfl ?_
        refine z_iload_n h d_D_mill_47 rfl ?_
        refine z_iload_n h d_D_mill_48 rfl ?_
        refine z_iload_n h d_D_mill_49 rfl ?_
        refine z_dV (C := R_D) (ci := 4) h (ms_D_makeConstant0 n b' ans Q c G1 G2 GE HL HC b gu pg dg td s a g pw b2 gu2 pg2 dg2 td2 s2 a2 g2 pw2 sl sr sq l r q D rr dp wk sm hm hI hn hb hnb h5 hans) (zf_D_makeConstant (by decide)) wm_D_50 wi_D_makeConstant ws_D_makeConstant rfl ⟨_, rfl⟩ d_D_mill_50 (by decide) is28 (by decide) (hw28 rfl) (Nat.le_of_ble_eq_true rfl) rfl (fun _ _ hp => by obtain ⟨x, -, rfl, -⟩ := hp; rfl) (fun r_50 w_50 hp_50 => ?_)
        obtain ⟨⟨sq2, q2, D2, r2, dp2, wk2, sm2⟩, rfl, rfl, hp1, hp2⟩ := hp_50
        rw [put28 rfl rfl]
        show Z 0 0 (dW b gu pg dg td s a g pw b2 gu2 pg2 dg2 td2 s2 a2 g2 pw2 sl sr sq2 l r q2 (sS D2 r2 dp2 wk2 sm2)) _ _ []
        refine z_aload_n h d_D_mill_53 rfl ?_
        refine z_aload_n h d_D_mill_54 rfl ?_
        refine z_get (C := R_D) (T := F_D) (N := 4) h 2 d_D_mill_55 in_D rfl (by decide) wf_D_22 rfl rfl ?_
        refine z_getN (C := R_B) (T := F_B) (N := 3) h 2 d_D_mill_58 in_B rfl (by decide) wf_D_54 rfl rfl ?_
        refine z_iload_n h d_D_mill_61 rfl ?_
        refine z_dV (C := R_D) (ci := 4) h (ms_D_retell v b v2 b2 b' ans gu pg dg td s a g pw gu2 pg2 dg2 td2 s2 a2 g2 pw2 sl sr sq2 l r q2 h1 h2 h3 h4 hp1 (B800a hla) hb) (zf_D_retell (by decide)) wm_D_58 wi_D_retell ws_D_retell rfl ⟨_, rfl⟩ d_D_mill_62 (by decide) is18 (by decide) rfl (Nat.le_of_ble_eq_true rfl) rfl (fun _ _ hp => DT_len hp.2) (fun r_62 w_62 hp_62 => ?_)
        obtain ⟨rfl, hT⟩ := hp_62
        rw [put18 (DT_len hT) (Nat.le_of_ble_eq_true rfl)]
        show Z 0 0 (w_62 ++ sS D2 r2 dp2 wk2 sm2) _ _ _
        refine hr.1 _ _ _ _ _ _ (Nat.le_refl _) (Nat.le_refl _) rfl d_D_mill_65 ?_
        exact ⟨rfl, w_62, D2, r2, dp2, wk2, sm2, rfl, hT.ds, hp2⟩
      · exact absurd c_31 (by decide)
    · exact absurd c_6 (by decide)
set_option maxRecDepth 100000 in
set_option maxHeartbeats 4000000 in
theorem ms_D_mill1 (v b v2 b2 n b' ans Q : Nat) (c G1 G2 GE HL HC : Nat → Nat) (w : List va_E) (hm : Mst Q c G1 G2 GE HL HC) (h0 : DW Q c v b v2 b2 w) (hn : n ≤ 6000) (hb : 2 ≤ b' ∧ b' < 37) (hnb : n * bl (b' - 1) ≤ 20000) (hla : bl ans ≤ 24000) (hans : ∀ D R, n * bl (b' - 1) + 31 + 60 ≤ 30 * D → D ≤ 704 → (((R : Nat) : Int) * Q - ((c 1 : Nat) : Int) * (1073741824 ^ D : Nat)).natAbs ≤ 2147483648 * Q → R * b' ^ n / 1073741824 ^ D = ans) : MS y_D_mill c_D_mill 4 (some .int) (rm 9) [.ref 0, .int (nI 1), .int (nI n), .int (nI b')] w (fun r w' => r = some (.int (nI (nd b' ans))) ∧ DW Q c ans b' v2 b2 w') := by
  obtain ⟨w0, D, rr, dp, wk, sm, rfl, hds, hI⟩ := h0
  obtain ⟨gu, pg, dg, td, s, a, g, pw, gu2, pg2, dg2, td2, s2, a2, g2, pw2, sl, sr, sq, l, r, q, rfl, h1, h2, h3, h4, h5⟩ := hds
  refine MS_of (own := R_D) (by decide) rfl (fun _ => Nat.le_of_ble_eq_true rfl) (fun Z h hr => ?_)
  show Z 0 0 (dW b gu pg dg td s a g pw b2 gu2 pg2 dg2 td2 s2 a2 g2 pw2 sl sr sq l r q (sS D rr dp wk sm)) _ _ _
  refine z_iload_n h d_D_mill_0 rfl ?_
  refine z_if_lt (tgt := 9) h d_D_mill_1 (by decide) (fun c_1 => ?_) (fun c_1 => ?_)
  · exact absurd c_1 (by decide)
  · refine z_iload_n h d_D_mill_4 rfl ?_
    refine z_iconst (v := nI 5) h d_D_mill_5 (by decide) ?_
    refine z_icmp_ltN (tgt := 19) h d_D_mill_6 (by decide) (by omega) (fun c_6 => ?_) (fun c_6 => ?_)
    · refine z_iload_n h d_D_mill_19 rfl ?_
      refine z_iload_n h d_D_mill_20 rfl ?_
      refine z_cS h (ms_D_refuseWrongPlaces n b' hn hb []) (zf_D_refuseWrongPlaces (by decide)) wm_D_40 wt_D_refuseWrongPlaces d_D_mill_21 [] (by decide) rfl (Nat.le_of_ble_eq_true rfl) rfl (fun _ => rfl) (fun x_21 hx_21 => ?_)
      rw [zput_nil]
      refine z_iload_n h d_D_mill_24 rfl ?_
      refine z_iload_n h d_D_mill_25 rfl ?_
      refine z_cS h (ms_D_refuseTooManyPlaces n b' hn hb hnb) (zf_D_refuseTooManyPlaces (by decide)) wm_D_44 wt_D_refuseTooManyPlaces d_D_mill_26 [] (by decide) rfl (Nat.le_of_ble_eq_true rfl) rfl (fun _ => rfl) (fun x_26 hx_26 => ?_)
      rw [zput_nil]
      refine z_iload_n h d_D_mill_29 rfl ?_
      refine z_iconst (v := nI 2) h d_D_mill_30 (by decide) ?_
      refine z_icmp_neN (tgt := 46) h d_D_mill_31 (by decide) (by omega) (fun c_31 => ?_) (fun c_31 => ?_)
      · refine z_aload_n h d_D_mill_46 rfl ?_
        refine z_iload_n h d_D_mill_47 rfl ?_
        refine z_iload_n h d_D_mill_48 rfl ?_
        refine z_iload_n h d_D_mill_49 rfl ?_
        refine z_dV (C := R_D) (ci := 4) h (ms_D_makeConstant1 n b' ans Q c G1 G2 GE HL HC b gu pg dg td s a g pw b2 gu2 pg2 dg2 td2 s2 a2 g2 pw2 sl sr sq l r q D rr dp wk sm hm hI hn hb hnb h5 hans) (zf_D_makeConstant (by decide)) wm_D_50 wi_D_makeConstant ws_D_makeConstant rfl ⟨_, rfl⟩ d_D_mill_50 (by decide) is28 (by decide) (hw28 rfl) (Nat.le_of_ble_eq_true rfl) rfl (fun _ _ hp => by obtain ⟨x, -, rfl, -⟩ := hp; rfl) (fun r_50 w_50 hp_50 => ?_)
        obtain ⟨⟨sq2, q2, D2, r2, dp2, wk2, sm2⟩, rfl, rfl, hp1, hp2⟩ := hp_50
        rw [put28 rfl rfl]
        show Z 0 0 (dW b gu pg dg td s a g pw b2 gu2 pg2 dg2 td2 s2 a2 g2 pw2 sl sr sq2 l r q2 (sS D2 r2 dp2 wk2 sm2)) _ _ []
        refine z_aload_n h d_D_mill_53 rfl ?_
        refine z_aload_n h d_D_mill_54 rfl ?_
        refine z_get (C := R_D) (T := F_D) (N := 4) h 2 d_D_mill_55 in_D rfl (by decide) wf_D_22 rfl rfl ?_
        refine z_getN (C := R_B) (T := F_B) (N := 3) h 2 d_D_mill_58 in_B rfl (by decide) wf_D_54 rfl rfl ?_
        refine z_iload_n h d_D_mill_61 rfl ?_
        refine z_dV (C := R_D) (ci := 4) h (ms_D_retell v b v2 b2 b' ans gu pg dg td s a g pw gu2 pg2 dg2 td2 s2 a2 g2 pw2 sl sr sq2 l r q2 h1 h2 h3 h4 hp1 (B800a hla) hb) (zf_D_retell (by decide)) wm_D_58 wi_D_retell ws_D_retell rfl ⟨_, rfl⟩ d_D_mill_62 (by decide) is18 (by decide) rfl (Nat.le_of_ble_eq_true rfl) rfl (fun _ _ hp => DT_len hp.2) (fun r_62 w_62 hp_62 => ?_)
        obtain ⟨rfl, hT⟩ := hp_62
        rw [put18 (DT_len hT) (Nat.le_of_ble_eq_true rfl)]
        show Z 0 0 (w_62 ++ sS D2 r2 dp2 wk2 sm2) _ _ _
        refine hr.1 _ _ _ _ _ _ (Nat.le_refl _) (Nat.le_refl _) rfl d_D_mill_65 ?_
        exact ⟨rfl, w_62, D2, r2, dp2, wk2, sm2, rfl, hT.ds, hp2⟩
      · exact absurd c_31 (by decide)
    · exact absurd c_6 (by decide)
set_option maxRecDepth 100000 in
set_option maxHeartbeats 4000000 in
theorem ms_D_mill3 (v b v2 b2 n b' ans Q : Nat) (c G1 G2 GE HL HC : Nat → Nat) (w : List va_E) (hm : Mst Q c G1 G2 GE HL HC) (h0 : DW Q c v b v2 b2 w) (hn : n ≤ 6000) (hb : 2 ≤ b' ∧ b' < 37) (hnb : n * bl (b' - 1) ≤ 20000) (hla : bl ans ≤ 24000) (hans : ∀ D R, n * bl (b' - 1) + 31 + 60 ≤ 30 * D → D ≤ 704 → (((R : Nat) : Int) * Q - ((c 3 : Nat) : Int) * (1073741824 ^ D : Nat)).natAbs ≤ 2147483648 * Q → R * b' ^ n / 1073741824 ^ D = ans) : MS y_D_mill c_D_mill 4 (some .int) (rm 9) [.ref 0, .int (nI 3), .int (nI n), .int (nI b')] w (fun r w' => r = some (.int (nI (nd b' ans))) ∧ DW Q c ans b' v2 b2 w') := by
  obtain ⟨w0, D, rr, dp, wk, sm, rfl, hds, hI⟩ := h0
  obtain ⟨gu, pg, dg, td, s, a, g, pw, gu2, pg2, dg2, td2, s2, a2, g2, pw2, sl, sr, sq, l, r, q, rfl, h1, h2, h3, h4, h5⟩ := hds
  refine MS_of (own := R_D) (by decide) rfl (fun _ => Nat.le_of_ble_eq_true rfl) (fun Z h hr => ?_)
  show Z 0 0 (dW b gu pg dg td s a g pw b2 gu2 pg2 dg2 td2 s2 a2 g2 pw2 sl sr sq l r q (sS D rr dp wk sm)) _ _ _
  refine z_iload_n h d_D_mill_0 rfl ?_
  refine z_if_lt (tgt := 9) h d_D_mill_1 (by decide) (fun c_1 => ?_) (fun c_1 => ?_)
  · exact absurd c_1 (by decide)
  · refine z_iload_n h d_D_mill_4 rfl ?_
    refine z_iconst (v := nI 5) h d_D_mill_5 (by decide) ?_
    refine z_icmp_ltN (tgt := 19) h d_D_mill_6 (by decide) (by omega) (fun c_6 => ?_) (fun c_6 => ?_)
    · refine z_iload_n h d_D_mill_19 rfl ?_
      refine z_iload_n h d_D_mill_20 rfl ?_
      refine z_cS h (ms_D_refuseWrongPlaces n b' hn hb []) (zf_D_refuseWrongPlaces (by decide)) wm_D_40 wt_D_refuseWrongPlaces d_D_mill_21 [] (by decide) rfl (Nat.le_of_ble_eq_true rfl) rfl (fun _ => rfl) (fun x_21 hx_21 => ?_)
      rw [zput_nil]
      refine z_iload_n h d_D_mill_24 rfl ?_
      refine z_iload_n h d_D_mill_25 rfl ?_
      refine z_cS h (ms_D_refuseTooManyPlaces n b' hn hb hnb) (zf_D_refuseTooManyPlaces (by decide)) wm_D_44 wt_D_refuseTooManyPlaces d_D_mill_26 [] (by decide) rfl (Nat.le_of_ble_eq_true rfl) rfl (fun _ => rfl) (fun x_26 hx_26 => ?_)
      rw [zput_nil]
      refine z_iload_n h d_D_mill_29 rfl ?_
      refine z_iconst (v := nI 2) h d_D_mill_30 (by decide) ?_
      refine z_icmp_neN (tgt := 46) h d_D_mill_31 (by decide) (by omega) (fun c_31 => ?_) (fun c_31 => ?_)
      · refine z_aload_n h d_D_mill_46 rfl ?_
        refine z_iload_n h d_D_mill_47 rfl ?_
        refine z_iload_n h d_D_mill_48 rfl ?_
        refine z_iload_n h d_D_mill_49 rfl ?_
        refine z_dV (C := R_D) (ci := 4) h (ms_D_makeConstant3 n b' ans Q c G1 G2 GE HL HC b gu pg dg td s a g pw b2 gu2 pg2 dg2 td2 s2 a2 g2 pw2 sl sr sq l r q D rr dp wk sm hm hI hn hb hnb h5 hans) (zf_D_makeConstant (by decide)) wm_D_50 wi_D_makeConstant ws_D_makeConstant rfl ⟨_, rfl⟩ d_D_mill_50 (by decide) is28 (by decide) (hw28 rfl) (Nat.le_of_ble_eq_true rfl) rfl (fun _ _ hp => by obtain ⟨x, -, rfl, -⟩ := hp; rfl) (fun r_50 w_50 hp_50 => ?_)
        obtain ⟨⟨sq2, q2, D2, r2, dp2, wk2, sm2⟩, rfl, rfl, hp1, hp2⟩ := hp_50
        rw [put28 rfl rfl]
        show Z 0 0 (dW b gu pg dg td s a g pw b2 gu2 pg2 dg2 td2 s2 a2 g2 pw2 sl sr sq2 l r q2 (sS D2 r2 dp2 wk2 sm2)) _ _ []
        refine z_aload_n h d_D_mill_53 rfl ?_
        refine z_aload_n h d_D_mill_54 rfl ?_
        refine z_get (C := R_D) (T := F_D) (N := 4) h 2 d_D_mill_55 in_D rfl (by decide) wf_D_22 rfl rfl ?_
        refine z_getN (C := R_B) (T := F_B) (N := 3) h 2 d_D_mill_58 in_B rfl (by decide) wf_D_54 rfl rfl ?_
        refine z_iload_n h d_D_mill_61 rfl ?_
        refine z_dV (C := R_D) (ci := 4) h (ms_D_retell v b v2 b2 b' ans gu pg dg td s a g pw gu2 pg2 dg2 td2 s2 a2 g2 pw2 sl sr sq2 l r q2 h1 h2 h3 h4 hp1 (B800a hla) hb) (zf_D_retell (by decide)) wm_D_58 wi_D_retell ws_D_retell rfl ⟨_, rfl⟩ d_D_mill_62 (by decide) is18 (by decide) rfl (Nat.le_of_ble_eq_true rfl) rfl (fun _ _ hp => DT_len hp.2) (fun r_62 w_62 hp_62 => ?_)
        obtain ⟨rfl, hT⟩ := hp_62
        rw [put18 (DT_len hT) (Nat.le_of_ble_eq_true rfl)]
        show Z 0 0 (w_62 ++ sS D2 r2 dp2 wk2 sm2) _ _ _
        refine hr.1 _ _ _ _ _ _ (Nat.le_refl _) (Nat.le_refl _) rfl d_D_mill_65 ?_
        exact ⟨rfl, w_62, D2, r2, dp2, wk2, sm2, rfl, hT.ds, hp2⟩
      · exact absurd c_31 (by decide)
    · exact absurd c_6 (by decide)
set_option maxRecDepth 100000 in
set_option maxHeartbeats 4000000 in
theorem ms_D_mill4 (v b v2 b2 n b' ans Q : Nat) (c G1 G2 GE HL HC : Nat → Nat) (w : List va_E) (hm : Mst Q c G1 G2 GE HL HC) (h0 : DW Q c v b v2 b2 w) (hn : n ≤ 6000) (hb : 2 ≤ b' ∧ b' < 37) (hnb : n * bl (b' - 1) ≤ 20000) (hla : bl ans ≤ 24000) (hans : ∀ D R, n * bl (b' - 1) + 31 + 60 ≤ 30 * D → D ≤ 704 → (((R : Nat) : Int) * Q - ((c 4 : Nat) : Int) * (1073741824 ^ D : Nat)).natAbs ≤ 2147483648 * Q → R * b' ^ n / 1073741824 ^ D = ans) : MS y_D_mill c_D_mill 4 (some .int) (rm 9) [.ref 0, .int (nI 4), .int (nI n), .int (nI b')] w (fun r w' => r = some (.int (nI (nd b' ans))) ∧ DW Q c ans b' v2 b2 w') := by
  obtain ⟨w0, D, rr, dp, wk, sm, rfl, hds, hI⟩ := h0
  obtain ⟨gu, pg, dg, td, s, a, g, pw, gu2, pg2, dg2, td2, s2, a2, g2, pw2, sl, sr, sq, l, r, q, rfl, h1, h2, h3, h4, h5⟩ := hds
  refine MS_of (own := R_D) (by decide) rfl (fun _ => Nat.le_of_ble_eq_true rfl) (fun Z h hr => ?_)
  show Z 0 0 (dW b gu pg dg td s a g pw b2 gu2 pg2 dg2 td2 s2 a2 g2 pw2 sl sr sq l r q (sS D rr dp wk sm)) _ _ _
  refine z_iload_n h d_D_mill_0 rfl ?_
  refine z_if_lt (tgt := 9) h d_D_mill_1 (by decide) (fun c_1 => ?_) (fun c_1 => ?_)
  · exact absurd c_1 (by decide)
  · refine z_iload_n h d_D_mill_4 rfl ?_
    refine z_iconst (v := nI 5) h d_D_mill_5 (by decide) ?_
    refine z_icmp_ltN (tgt := 19) h d_D_mill_6 (by decide) (by omega) (fun c_6 => ?_) (fun c_6 => ?_)
    · refine z_iload_n h d_D_mill_19 rfl ?_
      refine z_iload_n h d_D_mill_20 rfl ?_
      refine z_cS h (ms_D_refuseWrongPlaces n b' hn hb []) (zf_D_refuseWrongPlaces (by decide)) wm_D_40 wt_D_refuseWrongPlaces d_D_mill_21 [] (by decide) rfl (Nat.le_of_ble_eq_true rfl) rfl (fun _ => rfl) (fun x_21 hx_21 => ?_)
      rw [zput_nil]
      refine z_iload_n h d_D_mill_24 rfl ?_
      refine z_iload_n h d_D_mill_25 rfl ?_
      refine z_cS h (ms_D_refuseTooManyPlaces n b' hn hb hnb) (zf_D_refuseTooManyPlaces (by decide)) wm_D_44 wt_D_refuseTooManyPlaces d_D_mill_26 [] (by decide) rfl (Nat.le_of_ble_eq_true rfl) rfl (fun _ => rfl) (fun x_26 hx_26 => ?_)
      rw [zput_nil]
      refine z_iload_n h d_D_mill_29 rfl ?_
      refine z_iconst (v := nI 2) h d_D_mill_30 (by decide) ?_
      refine z_icmp_neN (tgt := 46) h d_D_mill_31 (by decide) (by omega) (fun c_31 => ?_) (fun c_31 => ?_)
      · refine z_aload_n h d_D_mill_46 rfl ?_
        refine z_iload_n h d_D_mill_47 rfl ?_
        refine z_iload_n h d_D_mill_48 rfl ?_
        refine z_iload_n h d_D_mill_49 rfl ?_
        refine z_dV (C := R_D) (ci := 4) h (ms_D_makeConstant4 n b' ans Q c G1 G2 GE HL HC b gu pg dg td s a g pw b2 gu2 pg2 dg2 td2 s2 a2 g2 pw2 sl sr sq l r q D rr dp wk sm hm hI hn hb hnb h5 hans) (zf_D_makeConstant (by decide)) wm_D_50 wi_D_makeConstant ws_D_makeConstant rfl ⟨_, rfl⟩ d_D_mill_50 (by decide) is28 (by decide) (hw28 rfl) (Nat.le_of_ble_eq_true rfl) rfl (fun _ _ hp => by obtain ⟨x, -, rfl, -⟩ := hp; rfl) (fun r_50 w_50 hp_50 => ?_)
        obtain ⟨⟨sq2, q2, D2, r2, dp2, wk2, sm2⟩, rfl, rfl, hp1, hp2⟩ := hp_50
        rw [put28 rfl rfl]
        show Z 0 0 (dW b gu pg dg td s a g pw b2 gu2 pg2 dg2 td2 s2 a2 g2 pw2 sl sr sq2 l r q2 (sS D2 r2 dp2 wk2 sm2)) _ _ []
        refine z_aload_n h d_D_mill_53 rfl ?_
        refine z_aload_n h d_D_mill_54 rfl ?_
        refine z_get (C := R_D) (T := F_D) (N := 4) h 2 d_D_mill_55 in_D rfl (by decide) wf_D_22 rfl rfl ?_
        refine z_getN (C := R_B) (T := F_B) (N := 3) h 2 d_D_mill_58 in_B rfl (by decide) wf_D_54 rfl rfl ?_
        refine z_iload_n h d_D_mill_61 rfl ?_
        refine z_dV (C := R_D) (ci := 4) h (ms_D_retell v b v2 b2 b' ans gu pg dg td s a g pw gu2 pg2 dg2 td2 s2 a2 g2 pw2 sl sr sq2 l r q2 h1 h2 h3 h4 hp1 (B800a hla) hb) (zf_D_retell (by decide)) wm_D_58 wi_D_retell ws_D_retell rfl ⟨_, rfl⟩ d_D_mill_62 (by decide) is18 (by decide) rfl (Nat.le_of_ble_eq_true rfl) rfl (fun _ _ hp => DT_len hp.2) (fun r_62 w_62 hp_62 => ?_)
        obtain ⟨rfl, hT⟩ := hp_62
        rw [put18 (DT_len hT) (Nat.le_of_ble_eq_true rfl)]
        show Z 0 0 (w_62 ++ sS D2 r2 dp2 wk2 sm2) _ _ _
        refine hr.1 _ _ _ _ _ _ (Nat.le_refl _) (Nat.le_refl _) rfl d_D_mill_65 ?_
        exact ⟨rfl, w_62, D2, r2, dp2, wk2, sm2, rfl, hT.ds, hp2⟩
      · exact absurd c_31 (by decide)
    · exact absurd c_6 (by decide)
set_option maxRecDepth 100000 in
set_option maxHeartbeats 4000000 in
theorem ms_D_mill2 (v b v2 b2 n b' Q : Nat) (c : Nat → Nat) (w : List va_E) (h0 : DW Q c v b v2 b2 w) (hn : n ≤ 6000) (hb : 2 ≤ b' ∧ b' < 37) (hnb : n * bl (b' - 1) ≤ 20000) : MS y_D_mill c_D_mill 4 (some .int) (rm 9) [.ref 0, .int (nI 2), .int (nI n), .int (nI b')] w (fun r w' => ∃ x, IsR (5 * b' ^ (2 * n)) x ∧ r = some (.int (nI (nd b' ((x + b' ^ n) / 2)))) ∧ DW Q c ((x + b' ^ n) / 2) b' v2 b2 w') := by
  obtain ⟨w0, D, rr, dp, wk, sm, rfl, hds, hI⟩ := h0
  obtain ⟨gu, pg, dg, td, s, a, g, pw, gu2, pg2, dg2, td2, s2, a2, g2, pw2, sl, sr, sq, l, r, q, rfl, h1, h2, h3, h4, h5⟩ := hds
  refine MS_of (own := R_D) (by decide) rfl (fun _ => Nat.le_of_ble_eq_true rfl) (fun Z h hr => ?_)
  have hbn := bn_le hb.1 hnb
  show Z 0 0 (dW b gu pg dg td s a g pw b2 gu2 pg2 dg2 td2 s2 a2 g2 pw2 sl sr sq l r q (sS D rr dp wk sm)) _ _ _
  refine z_iload_n h d_D_mill_0 rfl ?_
  refine z_if_lt (tgt := 9) h d_D_mill_1 (by decide) (fun c_1 => ?_) (fun c_1 => ?_)
  · exact absurd c_1 (by decide)
  · refine z_iload_n h d_D_mill_4 rfl ?_
    refine z_iconst (v := nI 5) h d_D_mill_5 (by decide) ?_
    refine z_icmp_ltN (tgt := 19) h d_D_mill_6 (by decide) (by omega) (fun c_6 => ?_) (fun c_6 => ?_)
    · refine z_iload_n h d_D_mill_19 rfl ?_
      refine z_iload_n h d_D_mill_20 rfl ?_
      refine z_cS h (ms_D_refuseWrongPlaces n b' hn hb []) (zf_D_refuseWrongPlaces (by decide)) wm_D_40 wt_D_refuseWrongPlaces d_D_mill_21 [] (by decide) rfl (Nat.le_of_ble_eq_true rfl) rfl (fun _ => rfl) (fun x_21 hx_21 => ?_)
      rw [zput_nil]
      refine z_iload_n h d_D_mill_24 rfl ?_
      refine z_iload_n h d_D_mill_25 rfl ?_
      refine z_cS h (ms_D_refuseTooManyPlaces n b' hn hb hnb) (zf_D_refuseTooManyPlaces (by decide)) wm_D_44 wt_D_refuseTooManyPlaces d_D_mill_26 [] (by decide) rfl (Nat.le_of_ble_eq_true rfl) rfl (fun _ => rfl) (fun x_26 hx_26 => ?_)
      rw [zput_nil]
      refine z_iload_n h d_D_mill_29 rfl ?_
      refine z_iconst (v := nI 2) h d_D_mill_30 (by decide) ?_
      refine z_icmp_neN (tgt := 46) h d_D_mill_31 (by decide) (by omega) (fun c_31 => ?_) (fun c_31 => ?_)
      · exact absurd rfl c_31
      · refine z_aload_n h d_D_mill_34 rfl ?_
        refine z_get (C := R_D) (T := F_D) (N := 4) h 2 d_D_mill_35 in_D rfl (by decide) wf_D_22 rfl rfl ?_
        refine z_iload_n h d_D_mill_38 rfl ?_
        refine z_iload_n h d_D_mill_39 rfl ?_
        refine z_cV (C := R_B) (ci := 0) h (ms_B_makeGolden n b' sl sr sq l r q hn hb hbn h3.2 h5.2 h5.1) (zf_B_makeGolden (by decide)) wm_D_47 wi_B_makeGolden ws_B_makeGolden rfl ⟨_, rfl⟩ d_D_mill_40 [11, 12, 13, 14, 15, 16, 17] (by decide) rfl (Nat.le_of_ble_eq_true rfl) rfl (fun _ => rfl) (fun x_40 hx_40 => ?_)
        refine z_goto (tgt := 53) h d_D_mill_43 (by decide) ?_
        obtain ⟨k1, k2, k3⟩ := hx_40
        show Z 0 0 (dW b gu pg dg td s a g pw b2 gu2 pg2 dg2 td2 s2 a2 g2 pw2 x_40.1 sr x_40.2.1 x_40.2.2.1 r x_40.2.2.2.1 (sS D rr dp wk sm)) _ _ _
        have hr24 := sq_gen (C := 0) k2.1 (pw_fit (show 5 < 2 ^ 63 by decide) hbn rfl) (show 40063 ≤ 20032 + 20032 by decide)
        have e1 := add_gen (C := 20033) hr24 hbn (by decide) (by decide)
        rw [Nat.one_mul] at e1
        have hla : bl ((x_40.2.2.2.2 + b' ^ n) / 2) ≤ 24000 := Nat.le_trans (bl_lt (Nat.lt_of_le_of_lt (Nat.div_le_self _ _) e1)) (by decide)
        refine z_aload_n h d_D_mill_53 rfl ?_
        refine z_aload_n h d_D_mill_54 rfl ?_
        refine z_get (C := R_D) (T := F_D) (N := 4) h 2 d_D_mill_55 in_D rfl (by decide) wf_D_22 rfl rfl ?_
        refine z_getN (C := R_B) (T := F_B) (N := 3) h 2 d_D_mill_58 in_B rfl (by decide) wf_D_54 rfl rfl ?_
        refine z_iload_n h d_D_mill_61 rfl ?_
        refine z_dV (C := R_D) (ci := 4) h (ms_D_retell v b v2 b2 b' ((x_40.2.2.2.2 + b' ^ n) / 2) gu pg dg td s a g pw gu2 pg2 dg2 td2 s2 a2 g2 pw2 x_40.1 sr x_40.2.1 x_40.2.2.1 r x_40.2.2.2.1 h1 h2 k1 h4 k3 (B800a hla) hb) (zf_D_retell (by decide)) wm_D_58 wi_D_retell ws_D_retell rfl ⟨_, rfl⟩ d_D_mill_62 (by decide) is18 (by decide) rfl (Nat.le_of_ble_eq_true rfl) rfl (fun _ _ hp => DT_len hp.2) (fun r_62 w_62 hp_62 => ?_)
        obtain ⟨rfl, hT⟩ := hp_62
        rw [put18 (DT_len hT) (Nat.le_of_ble_eq_true rfl)]
        show Z 0 0 (w_62 ++ sS D rr dp wk sm) _ _ _
        refine hr.1 _ _ _ _ _ _ (Nat.le_refl _) (Nat.le_refl _) rfl d_D_mill_65 ?_
        exact ⟨x_40.2.2.2.2, k2, rfl, w_62, D, rr, dp, wk, sm, rfl, hT.ds, hI⟩
    · exact absurd c_6 (by decide)
set_option maxRecDepth 100000 in
set_option maxHeartbeats 4000000 in
theorem mt_D_mill1 (a x y : Int32) (w : List va_E) (hx : a < 0 ∨ ¬ a < 5 ∨ ¬ (okN x ∧ okB y)) : MT y_D_mill c_D_mill 4 (some .int) (rmT 8) [.ref 0, .int a, .int x, .int y] w X_IAE (fun w' => w' = w) := by
  refine MT_of (own := R_D) (by decide) rfl (fun _ => Nat.le_of_ble_eq_true rfl) (fun Z h ht => ?_)
  refine z_iload_n h d_D_mill_0 rfl ?_
  refine z_if_lt (tgt := 9) h d_D_mill_1 (by decide) (fun c_1 => ?_) (fun c_1 => ?_)
  · refine z_throw (tx := "no such constant") ht fit_IAE own_IAE wkx_IAE wnx_IAE wix_IAE (zStr_mem (by decide +kernel)) d_D_mill_9 d_D_mill_12 d_D_mill_13 d_D_mill_15 d_D_mill_18 (by decide) (by decide) rfl rfl rfl ?_
    rfl
  · refine z_iload_n h d_D_mill_4 rfl ?_
    refine z_iconst (v := 5) h d_D_mill_5 (by decide) ?_
    refine z_icmp_lt (tgt := 19) h d_D_mill_6 (by decide) (fun c_6 => ?_) (fun c_6 => ?_)
    · refine z_iload_n h d_D_mill_19 rfl ?_
      refine z_iload_n h d_D_mill_20 rfl ?_
      refine z_tS ht (mt_D_refuseWrongPlaces x y ((hx.resolve_left c_1).resolve_left (fun q => q c_6)) []) (zTT (zf_D_refuseWrongPlaces (by decide))) wm_D_40 wt_D_refuseWrongPlaces d_D_mill_21 (by decide) [] (by decide) rfl (Nat.le_of_ble_eq_true rfl) rfl rfl (fun w_21 hl_21 hp_21 => ?_)
      exact zput_nil
    · refine z_throw (tx := "no such constant") ht fit_IAE own_IAE wkx_IAE wnx_IAE wix_IAE (zStr_mem (by decide +kernel)) d_D_mill_9 d_D_mill_12 d_D_mill_13 d_D_mill_15 d_D_mill_18 (by decide) (by decide) rfl rfl rfl ?_
      rfl
set_option maxRecDepth 100000 in
set_option maxHeartbeats 4000000 in
theorem mt_D_mill2 (wh n b : Nat) (w : List va_E) (hw : wh < 5) (hn : n ≤ 6000) (hb : 2 ≤ b ∧ b < 37) (hnb : ¬ n * bl (b - 1) ≤ 20000) : MT y_D_mill c_D_mill 4 (some .int) (rmT 8) [.ref 0, .int (nI wh), .int (nI n), .int (nI b)] w X_UOE (fun w' => w' = w) := by
  refine MT_of (own := R_D) (by decide) rfl (fun _ => Nat.le_of_ble_eq_true rfl) (fun Z h ht => ?_)
  refine z_iload_n h d_D_mill_0 rfl ?_
  refine z_if_lt (tgt := 9) h d_D_mill_1 (by decide) (fun c_1 => ?_) (fun c_1 => ?_)
  · exact absurd c_1 (nI_pos (by omega))
  · refine z_iload_n h d_D_mill_4 rfl ?_
    refine z_iconst (v := nI 5) h d_D_mill_5 (by decide) ?_
    refine z_icmp_ltN (tgt := 19) h d_D_mill_6 (by decide) (by omega) (fun c_6 => ?_) (fun c_6 => ?_)
    · refine z_iload_n h d_D_mill_19 rfl ?_
      refine z_iload_n h d_D_mill_20 rfl ?_
      refine z_callS h (ms_D_refuseWrongPlaces n b hn hb []) (zT (zf_D_refuseWrongPlaces (by decide))) wm_D_40 wt_D_refuseWrongPlaces d_D_mill_21 (by decide) [] (by decide) rfl (Nat.le_of_ble_eq_true rfl) rfl (fun _ _ hp => by obtain ⟨_, -, rfl, -⟩ := hp; rfl) (fun r_21 w_21 hp_21 => ?_)
      obtain ⟨x_21, rfl, rfl, hx_21⟩ := hp_21
      rw [zput_nil]
      refine z_iload_n h d_D_mill_24 rfl ?_
      refine z_iload_n h d_D_mill_25 rfl ?_
      refine z_tS ht (mt_D_refuseTooManyPlaces n b hn hb hnb) (zTT (zf_D_refuseTooManyPlaces (by decide))) wm_D_44 wt_D_refuseTooManyPlaces d_D_mill_26 (by decide) [] (by decide) rfl (Nat.le_of_ble_eq_true rfl) rfl rfl (fun w_26 hl_26 hp_26 => ?_)
      exact zput_nil
    · exact absurd c_6 (by omega)
