/-! DigitMillModel: log, isBase, fails, isWrong, thrown -/
abbrev G0 (b b2 m kn t : Nat) (dg wd : Nat → Nat) : MG := (nI b, nI b2, nI m, nI kn, nI t, dg, wd)
theorem log_val {k b : Nat} (hb : 2 ≤ b) (h1 : b ≤ 2 ^ k) (h2 : k = 0 ∨ 2 ^ (k - 1) < b) : k = bl (b - 1) := by
  rcases h2 with q | q
  · subst q
    omega
  · cases k with
    | zero => omega
    | succ k =>
      rw [Nat.add_sub_cancel] at q
      exact (bl_eq (by omega) (by omega)).symm
set_option maxRecDepth 100000 in
theorem ms_M_log (b : Nat) (hb : 2 ≤ b ∧ b < 37) : MS y_M_log c_M_log 2 (some .int) (rm 1) [.int (nI b)] [] (zP (X := Unit) (fun _ => some (.int (nI (bl (b - 1))))) (fun _ => []) (fun _ => True)) := by
  refine MS_of (own := R_M) (by decide) rfl (fun _ => Nat.le_of_ble_eq_true rfl) (fun Z h hr => ?_)
  obtain ⟨hb1, hb2⟩ := hb
  have hp : ∀ k, k ≤ 6 → 2 ^ k ≤ 64 := fun k hk => Nat.pow_le_pow_right (by decide) hk
  have L : ∀ (f k : Nat), f + k = 6 → (k = 0 ∨ 2 ^ (k - 1) < b) → Z 0 0 [] [(0, .int (nI b)), (1, .int (nI k))] 2 [] := by
    intro f
    induction f with
    | zero =>
      intro k hf hk
      obtain rfl : k = 6 := by omega
      have hs_4 : 6 < 32 ∧ 1 * 2 ^ 6 < 2 ^ 32 := by decide
      refine z_iconst (v := nI 1) h d_M_log_2 (by decide) ?_
      refine z_iload_n h d_M_log_3 rfl ?_
      refine z_ishlN h d_M_log_4 hs_4 ?_
      refine z_iload_n h d_M_log_5 rfl ?_
      refine z_icmp_geN (tgt := 15) h d_M_log_6 (by decide) (by omega) (fun c_6 => ?_) (fun c_6 => ?_)
      · refine z_iload_n h d_M_log_15 rfl ?_
        refine hr.1 _ _ _ _ _ _ (Nat.le_refl _) (Nat.le_refl _) rfl d_M_log_16 ?_
        rw [log_val hb1 (by omega) hk]
        exact ⟨(), rfl, rfl, trivial⟩
      · exact absurd c_6 (by omega)
    | succ f ih =>
      intro k hf hk
      have hp1 := hp k (by omega)
      have hs_4 : k < 32 ∧ 1 * 2 ^ k < 2 ^ 32 := by omega
      refine z_iconst (v := nI 1) h d_M_log_2 (by decide) ?_
      refine z_iload_n h d_M_log_3 rfl ?_
      refine z_ishlN h d_M_log_4 hs_4 ?_
      rw [Nat.one_mul]
      refine z_iload_n h d_M_log_5 rfl ?_
      refine z_icmp_geN (tgt := 15) h d_M_log_6 (by decide) (by omega) (fun c_6 => ?_) (fun c_6 => ?_)
      · refine z_iload_n h d_M_log_15 rfl ?_
        refine hr.1 _ _ _ _ _ _ (Nat.le_refl _) (Nat.le_refl _) rfl d_M_log_16 ?_
        rw [log_val hb1 c_6 hk]
        exact ⟨(), rfl, rfl, trivial⟩
      · refine z_iincN h 1 d_M_log_9 rfl (by decide) (by decide) ?_
        refine z_goto (tgt := 2) h d_M_log_12 (by decide) ?_
        exact z_lv h rfl (ih (k + 1) (by omega) (Or.inr (by rw [Nat.add_sub_cancel]; omega)))
  refine z_iconst (v := nI 0) h d_M_log_0 (by decide) ?_
  refine z_istore_n h d_M_log_1 (by decide) ?_
  exact z_lv h rfl (L 6 0 rfl (Or.inl rfl))
theorem ms_M_isBaseT (x : Int32) (hx : okB x) : MS y_M_isBase c_M_isBase 1 (some .boolean) (rm 1) [.int x] [] (zP (X := Unit) (fun _ => some (.int (nI 1))) (fun _ => []) (fun _ => True)) := by
  refine MS_of (own := R_M) (by decide) rfl (fun _ => Nat.le_of_ble_eq_true rfl) (fun Z h hr => ?_)
  refine z_iload_n h d_M_isBase_0 rfl ?_
  refine z_iconst (v := 2) h d_M_isBase_1 (by decide) ?_
  refine z_icmp_lt (tgt := 15) h d_M_isBase_2 (by decide) (fun c_2 => ?_) (fun c_2 => ?_)
  · exact absurd c_2 hx.1
  · refine z_iload_n h d_M_isBase_5 rfl ?_
    refine z_bipush (v := 36) h d_M_isBase_6 (by decide) ?_
    refine z_icmp_gt (tgt := 15) h d_M_isBase_8 (by decide) (fun c_8 => ?_) (fun c_8 => ?_)
    · exact absurd c_8 hx.2
    · refine z_iconst (v := nI 1) h d_M_isBase_11 (by decide) ?_
      refine z_goto (tgt := 16) h d_M_isBase_12 (by decide) ?_
      refine hr.2.1 _ _ _ _ _ _ (Nat.le_refl _) (Nat.le_refl _) rfl rfl d_M_isBase_16 ?_
      exact ⟨(), rfl, rfl, trivial⟩
theorem ms_M_isBaseF (x : Int32) (hx : ¬ okB x) : MS y_M_isBase c_M_isBase 1 (some .boolean) (rm 1) [.int x] [] (zP (X := Unit) (fun _ => some (.int (nI 0))) (fun _ => []) (fun _ => True)) := by
  refine MS_of (own := R_M) (by decide) rfl (fun _ => Nat.le_of_ble_eq_true rfl) (fun Z h hr => ?_)
  refine z_iload_n h d_M_isBase_0 rfl ?_
  refine z_iconst (v := 2) h d_M_isBase_1 (by decide) ?_
  refine z_icmp_lt (tgt := 15) h d_M_isBase_2 (by decide) (fun c_2 => ?_) (fun c_2 => ?_)
  · refine z_iconst (v := nI 0) h d_M_isBase_15 (by decide) ?_
    refine hr.2.1 _ _ _ _ _ _ (Nat.le_refl _) (Nat.le_refl _) rfl rfl d_M_isBase_16 ?_
    exact ⟨(), rfl, rfl, trivial⟩
  · refine z_iload_n h d_M_isBase_5 rfl ?_
    refine z_bipush (v := 36) h d_M_isBase_6 (by decide) ?_
    refine z_icmp_gt (tgt := 15) h d_M_isBase_8 (by decide) (fun c_8 => ?_) (fun c_8 => ?_)
    · refine z_iconst (v := nI 0) h d_M_isBase_15 (by decide) ?_
      refine hr.2.1 _ _ _ _ _ _ (Nat.le_refl _) (Nat.le_refl _) rfl rfl d_M_isBase_16 ?_
      exact ⟨(), rfl, rfl, trivial⟩
    · exact absurd ⟨c_2, c_8⟩ hx
theorem ms_M_fails1 (d n : Nat → Nat) (lf : Int64) (b b2 m kn t kind : Nat) (dg wd : Nat → Nat) : MS y_M_fails c_M_fails 3 (some .boolean) (rm 1) [.ref 0, .int (nI 1), .int (nI kind)] (mW d n lf (G0 b b2 m kn t dg wd)) (zP (X := Unit) (fun _ => some (.int (nI 1))) (fun _ => mW d n lf (G0 b b2 m kn kind dg wd)) (fun _ => True)) := by
  refine MS_of (own := R_M) (by decide) rfl (fun _ => Nat.le_of_ble_eq_true rfl) (fun Z h hr => ?_)
  refine z_aload_n h d_M_fails_0 rfl ?_
  refine z_iload_n h d_M_fails_1 rfl ?_
  refine z_if_eqN (tgt := 9) h d_M_fails_2 (by decide) (by omega) (fun c_2 => ?_) (fun c_2 => ?_)
  · exact absurd c_2 (by decide)
  · refine z_iload_n h d_M_fails_5 rfl ?_
    refine z_goto (tgt := 10) h d_M_fails_6 (by decide) ?_
    refine z_put (C := R_M) (T := F_M) (N := 10) (ty := .int) h 8 d_M_fails_10 in_M rfl ft_M_ok n_M (by decide) wf_M_29 rfl rfl rfl rfl rfl (Nat.le_of_ble_eq_true rfl) ?_
    refine z_iload_n h d_M_fails_13 rfl ?_
    refine hr.2.1 _ _ _ _ _ _ (Nat.le_refl _) (Nat.le_refl _) rfl rfl d_M_fails_14 ?_
    exact ⟨(), rfl, rfl, trivial⟩
theorem ms_M_fails0 (d n : Nat → Nat) (lf : Int64) (b b2 m kn t kind : Nat) (dg wd : Nat → Nat) : MS y_M_fails c_M_fails 3 (some .boolean) (rm 1) [.ref 0, .int (nI 0), .int (nI kind)] (mW d n lf (G0 b b2 m kn t dg wd)) (zP (X := Unit) (fun _ => some (.int (nI 0))) (fun _ => mW d n lf (G0 b b2 m kn 0 dg wd)) (fun _ => True)) := by
  refine MS_of (own := R_M) (by decide) rfl (fun _ => Nat.le_of_ble_eq_true rfl) (fun Z h hr => ?_)
  refine z_aload_n h d_M_fails_0 rfl ?_
  refine z_iload_n h d_M_fails_1 rfl ?_
  refine z_if_eqN (tgt := 9) h d_M_fails_2 (by decide) (by omega) (fun c_2 => ?_) (fun c_2 => ?_)
  · refine z_iconst (v := nI 0) h d_M_fails_9 (by decide) ?_
    refine z_put (C := R_M) (T := F_M) (N := 10) (ty := .int) h 8 d_M_fails_10 in_M rfl ft_M_ok n_M (by decide) wf_M_29 rfl rfl rfl rfl rfl (Nat.le_of_ble_eq_true rfl) ?_
    refine z_iload_n h d_M_fails_13 rfl ?_
    refine hr.2.1 _ _ _ _ _ _ (Nat.le_refl _) (Nat.le_refl _) rfl rfl d_M_fails_14 ?_
    exact ⟨(), rfl, rfl, trivial⟩
  · exact absurd c_2 (by decide)
theorem ms_M_thrown (d n : Nat → Nat) (lf : Int64) (b b2 m kn t : Nat) (dg wd : Nat → Nat) : MS y_M_thrown c_M_thrown 1 (some .int) (rm 1) [.ref 0] (mW d n lf (G0 b b2 m kn t dg wd)) (zP (X := Unit) (fun _ => some (.int (nI t))) (fun _ => mW d n lf (G0 b b2 m kn t dg wd)) (fun _ => True)) := by
  refine MS_of (own := R_M) (by decide) rfl (fun _ => Nat.le_of_ble_eq_true rfl) (fun Z h hr => ?_)
  refine z_aload_n h d_M_thrown_0 rfl ?_
  refine z_get (C := R_M) (T := F_M) (N := 10) h 8 d_M_thrown_1 in_M rfl (by decide) wf_M_29 rfl rfl ?_
  refine hr.1 _ _ _ _ _ _ (Nat.le_refl _) (Nat.le_refl _) rfl d_M_thrown_4 ?_
  exact ⟨(), rfl, rfl, trivial⟩
set_option maxRecDepth 100000 in
theorem ms_M_isWrong1 (d n : Nat → Nat) (lf : Int64) (b b2 m kn t : Nat) (dg wd : Nat → Nat) (u : Nat) (x y : Int32) (hu : u ≤ 1) (hx : u = 1 ∨ ¬ (okN x ∧ okB y)) : MS y_M_isWrong c_M_isWrong 4 (some .boolean) (rm 2) [.ref 0, .int (nI u), .int x, .int y] (mW d n lf (G0 b b2 m kn t dg wd)) (zP (X := Unit) (fun _ => some (.int (nI 1))) (fun _ => mW d n lf (G0 b b2 m kn 1 dg wd)) (fun _ => True)) := by
  refine MS_of (own := R_M) (by decide) rfl (fun _ => Nat.le_of_ble_eq_true rfl) (fun Z h hr => ?_)
  have T : Z 0 0 (mW d n lf (G0 b b2 m kn t dg wd)) [(0, .ref 0), (1, .int (nI u)), (2, .int x), (3, .int y)] 23 [.ref 0] := by
    refine z_iconst (v := nI 1) h d_M_isWrong_23 (by decide) ?_
    refine z_goto (tgt := 28) h d_M_isWrong_24 (by decide) ?_
    refine z_iconst (v := nI 1) h d_M_isWrong_28 (by decide) ?_
    refine z_cM h (ms_M_fails1 d n lf b b2 m kn t 1 dg wd) (zf_M_fails (by decide)) wm_M_128 wi_M_fails ws_M_fails d_M_isWrong_29 (Nat.le_of_ble_eq_true rfl) rfl (fun x_29 hx_29 => ?_)
    refine z_if_eqN (tgt := 37) h d_M_isWrong_32 (by decide) (by omega) (fun c_32 => ?_) (fun c_32 => ?_)
    · exact absurd c_32 (by decide)
    · refine z_iconst (v := nI 1) h d_M_isWrong_35 (by decide) ?_
      refine hr.2.1 _ _ _ _ _ _ (Nat.le_refl _) (Nat.le_refl _) rfl rfl d_M_isWrong_36 ?_
      exact ⟨(), rfl, rfl, trivial⟩
  refine z_aload_n h d_M_isWrong_0 rfl ?_
  refine z_iload_n h d_M_isWrong_1 rfl ?_
  refine z_if_neN (tgt := 23) h d_M_isWrong_2 (by decide) (by omega) (fun c_2 => ?_) (fun c_2 => ?_)
  · exact z_lv h rfl T
  · refine z_iload_n h d_M_isWrong_5 rfl ?_
    refine z_if_lt (tgt := 23) h d_M_isWrong_6 (by decide) (fun c_6 => ?_) (fun c_6 => ?_)
    · exact z_lv h rfl T
    · refine z_iload_n h d_M_isWrong_9 rfl ?_
      refine z_sipush (v := 6000) h d_M_isWrong_10 (by decide) ?_
      refine z_icmp_gt (tgt := 23) h d_M_isWrong_13 (by decide) (fun c_13 => ?_) (fun c_13 => ?_)
      · exact z_lv h rfl T
      · have hy : ¬ okB y := fun q => by
          rcases hx with p | p
          · omega
          · exact p ⟨⟨c_6, c_13⟩, q⟩
        refine z_iload_n h d_M_isWrong_16 rfl ?_
        refine z_cS h (ms_M_isBaseF y hy) (zf_M_isBase (by decide)) wm_M_124 wt_M_isBase d_M_isWrong_17 [] (by decide) rfl (Nat.le_of_ble_eq_true rfl) rfl (fun _ => rfl) (fun x_17 hx_17 => ?_)
        refine z_if_neN (tgt := 27) h d_M_isWrong_20 (by decide) (by omega) (fun c_20 => ?_) (fun c_20 => ?_)
        · exact absurd rfl c_20
        · exact z_lv h rfl T
theorem okB_nat {b : Nat} (hb : 2 ≤ b ∧ b < 37) : okB (nI b) := by
  constructor
  · rw [show (2 : Int32) = iI 2 from rfl, nI_iI, iI_lt (by omega) (by omega) (by omega) (by omega)]
    omega
  · rw [show (36 : Int32) = iI 36 from rfl, nI_iI, iI_lt (by omega) (by omega) (by omega) (by omega)]
    omega
set_option maxRecDepth 100000 in
theorem ms_M_isWrong0 (d n : Nat → Nat) (lf : Int64) (b b2 m kn t : Nat) (dg wd : Nat → Nat) (x y : Nat) (hx : x ≤ 6000) (hy : 2 ≤ y ∧ y < 37) (hxy : x * bl (y - 1) ≤ 20000) : MS y_M_isWrong c_M_isWrong 4 (some .boolean) (rm 2) [.ref 0, .int (nI 0), .int (nI x), .int (nI y)] (mW d n lf (G0 b b2 m kn t dg wd)) (zP (X := Unit) (fun _ => some (.int (nI 0))) (fun _ => mW d n lf (G0 b b2 m kn 0 dg wd)) (fun _ => True)) := by
  refine MS_of (own := R_M) (by decide) rfl (fun _ => Nat.le_of_ble_eq_true rfl) (fun Z h hr => ?_)
  have hnb := nb_lt hx hy
  refine z_aload_n h d_M_isWrong_0 rfl ?_
  refine z_iload_n h d_M_isWrong_1 rfl ?_
  refine z_if_neN (tgt := 23) h d_M_isWrong_2 (by decide) (by omega) (fun c_2 => ?_) (fun c_2 => ?_)
  · exact absurd rfl c_2
  · refine z_iload_n h d_M_isWrong_5 rfl ?_
    refine z_if_lt (tgt := 23) h d_M_isWrong_6 (by decide) (fun c_6 => ?_) (fun c_6 => ?_)
    · exact absurd c_6 (nI_pos (by omega))
    · refine z_iload_n h d_M_isWrong_9 rfl ?_
      refine z_sipush (v := nI 6000) h d_M_isWrong_10 (by decide) ?_
      refine z_icmp_gtN (tgt := 23) h d_M_isWrong_13 (by decide) (by omega) (fun c_13 => ?_) (fun c_13 => ?_)
      · exact absurd c_13 (by omega)
      · refine z_iload_n h d_M_isWrong_16 rfl ?_
        refine z_cS h (ms_M_isBaseT (nI y) (okB_nat hy)) (zf_M_isBase (by decide)) wm_M_124 wt_M_isBase d_M_isWrong_17 [] (by decide) rfl (Nat.le_of_ble_eq_true rfl) rfl (fun _ => rfl) (fun x_17 hx_17 => ?_)
        refine z_if_neN (tgt := 27) h d_M_isWrong_20 (by decide) (by omega) (fun c_20 => ?_) (fun c_20 => ?_)
        · refine z_iconst (v := nI 0) h d_M_isWrong_27 (by decide) ?_
          refine z_iconst (v := nI 1) h d_M_isWrong_28 (by decide) ?_
          refine z_cM h (ms_M_fails0 d n lf b b2 m kn t 1 dg wd) (zf_M_fails (by decide)) wm_M_128 wi_M_fails ws_M_fails d_M_isWrong_29 (Nat.le_of_ble_eq_true rfl) rfl (fun x_29 hx_29 => ?_)
          refine z_if_eqN (tgt := 37) h d_M_isWrong_32 (by decide) (by omega) (fun c_32 => ?_) (fun c_32 => ?_)
          · refine z_aload_n h d_M_isWrong_37 rfl ?_
            refine z_iload_n h d_M_isWrong_38 rfl ?_
            refine z_iload_n h d_M_isWrong_39 rfl ?_
            refine z_cS h (ms_M_log y hy) (zf_M_log (by decide)) wm_M_132 wt_M_log d_M_isWrong_40 [] (by decide) rfl (Nat.le_of_ble_eq_true rfl) rfl (fun _ => rfl) (fun x_40 hx_40 => ?_)
            refine z_imulN h d_M_isWrong_43 ?_
            refine z_sipush (v := nI 20000) h d_M_isWrong_44 (by decide) ?_
            refine z_icmp_leN (tgt := 54) h d_M_isWrong_47 (by decide) (by omega) (fun c_47 => ?_) (fun c_47 => ?_)
            · refine z_iconst (v := nI 0) h d_M_isWrong_54 (by decide) ?_
              refine z_iconst (v := nI 2) h d_M_isWrong_55 (by decide) ?_
              refine z_cM h (ms_M_fails0 d n lf b b2 m kn 0 2 dg wd) (zf_M_fails (by decide)) wm_M_128 wi_M_fails ws_M_fails d_M_isWrong_56 (Nat.le_of_ble_eq_true rfl) rfl (fun x_56 hx_56 => ?_)
              refine hr.2.1 _ _ _ _ _ _ (Nat.le_refl _) (Nat.le_refl _) rfl rfl d_M_isWrong_59 ?_
              exact ⟨(), rfl, rfl, trivial⟩
            · exact absurd c_47 (by omega)
          · exact absurd c_32 (by decide)
        · exact absurd c_20 (by decide)
set_option maxRecDepth 100000 in
theorem ms_M_isWrong2 (d n : Nat → Nat) (lf : Int64) (b b2 m kn t : Nat) (dg wd : Nat → Nat) (x y : Nat) (hx : x ≤ 6000) (hy : 2 ≤ y ∧ y < 37) (hxy : ¬ x * bl (y - 1) ≤ 20000) : MS y_M_isWrong c_M_isWrong 4 (some .boolean) (rm 2) [.ref 0, .int (nI 0), .int (nI x), .int (nI y)] (mW d n lf (G0 b b2 m kn t dg wd)) (zP (X := Unit) (fun _ => some (.int (nI 1))) (fun _ => mW d n lf (G0 b b2 m kn 2 dg wd)) (fun _ => True)) := by
  refine MS_of (own := R_M) (by decide) rfl (fun _ => Nat.le_of_ble_eq_true rfl) (fun Z h hr => ?_)
  have hnb := nb_lt hx hy
  refine z_aload_n h d_M_isWrong_0 rfl ?_
  refine z_iload_n h d_M_isWrong_1 rfl ?_
  refine z_if_neN (tgt := 23) h d_M_isWrong_2 (by decide) (by omega) (fun c_2 => ?_) (fun c_2 => ?_)
  · exact absurd rfl c_2
  · refine z_iload_n h d_M_isWrong_5 rfl ?_
    refine z_if_lt (tgt := 23) h d_M_isWrong_6 (by decide) (fun c_6 => ?_) (fun c_6 => ?_)
    · exact absurd c_6 (nI_pos (by omega))
    · refine z_iload_n h d_M_isWrong_9 rfl ?_
      refine z_sipush (v := nI 6000) h d_M_isWrong_10 (by decide) ?_
      refine z_icmp_gtN (tgt := 23) h d_M_isWrong_13 (by decide) (by omega) (fun c_13 => ?_) (fun c_13 => ?_)
      · exact absurd c_13 (by omega)
      · refine z_iload_n h d_M_isWrong_16 rfl ?_
        refine z_cS h (ms_M_isBaseT (nI y) (okB_nat hy)) (zf_M_isBase (by decide)) wm_M_124 wt_M_isBase d_M_isWrong_17 [] (by decide) rfl (Nat.le_of_ble_eq_true rfl) rfl (fun _ => rfl) (fun x_17 hx_17 => ?_)
        refine z_if_neN (tgt := 27) h d_M_isWrong_20 (by decide) (by omega) (fun c_20 => ?_) (fun c_20 => ?_)
        · refine z_iconst (v := nI 0) h d_M_isWrong_27 (by decide) ?_
          refine z_iconst (v := nI 1) h d_M_isWrong_28 (by decide) ?_
          refine z_cM h (ms_M_fails0 d n lf b b2 m kn t 1 dg wd) (zf_M_fails (by decide)) wm_M_128 wi_M_fails ws_M_fails d_M_isWrong_29 (Nat.le_of_ble_eq_true rfl) rfl (fun x_29 hx_29 => ?_)
          refine z_if_eqN (tgt := 37) h d_M_isWrong_32 (by decide) (by omega) (fun c_32 => ?_) (fun c_32 => ?_)
          · refine z_aload_n h d_M_isWrong_37 rfl ?_
            refine z_iload_n h d_M_isWrong_38 rfl ?_
            refine z_iload_n h d_M_isWrong_39 rfl ?_
            refine z_cS h (ms_M_log y hy) (zf_M_log (by decide)) wm_M_132 wt_M_log d_M_isWrong_40 [] (by decide) rfl (Nat.le_of_ble_eq_true rfl) rfl (fun _ => rfl) (fun x_40 hx_40 => ?_)
            refine z_imulN h d_M_isWrong_43 ?_
            refine z_sipush (v := nI 20000) h d_M_isWrong_44 (by decide) ?_
            refine z_icmp_leN (tgt := 54) h d_M_isWrong_47 (by decide) (by omega) (fun c_47 => ?_) (fun c_47 => ?_)
            · exact absurd c_47 (by omega)
            · refine z_iconst (v := nI 1) h d_M_isWrong_50 (by decide) ?_
              refine z_goto (tgt := 55) h d_M_isWrong_51 (by decide) ?_
              refine z_iconst (v := nI 2) h d_M_isWrong_55 (by decide) ?_
              refine z_cM h (ms_M_fails1 d n lf b b2 m kn 0 2 dg wd) (zf_M_fails (by decide)) wm_M_128 wi_M_fails ws_M_fails d_M_isWrong_56 (Nat.le_of_ble_eq_true rfl) rfl (fun x_56 hx_56 => ?_)
              refine hr.2.1 _ _ _ _ _ _ (Nat.le_refl _) (Nat.le_refl _) rfl rfl d_M_isWrong_59 ?_
              exact ⟨(), rfl, rfl, trivial⟩
          · exact absurd c_32 (by decide)
        · exact absurd c_20 (by decide)
