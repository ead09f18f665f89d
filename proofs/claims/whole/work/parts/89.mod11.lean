/-! DigitMillModel: howMany, told, become, and the public methods -/
abbrev X5 : Type := (Nat → Nat) × (Nat → Nat) × (Nat → Nat) × Int64 × (Nat → Nat)
def RT (v b v2 : Nat) (q : X5) : Prop := MV q.1 q.2.1 q.2.2.1 ∧ q.2.2.1 0 = v ∧ q.2.2.1 1 = v2 ∧ ∀ i, i < nd b v → q.2.2.2.2 i = dgt b v i
def RK (v b m kn : Nat) (dg : Nat → Nat) : Prop := kn = 0 ∨ kn = 1 ∧ m = nd b v ∧ ∀ i, i < nd b v → dg i = dgt b v i
theorem nd_cap {b v : Nat} (hb : 2 ≤ b) (hv : bl v ≤ 24000) : nd b v ≤ 24000 := by
  refine nd_le hb (by decide) ?_
  exact Nat.lt_of_lt_of_le (bl_ub v) (Nat.le_trans (Nat.pow_le_pow_left hb _) (Nat.pow_le_pow_right (by omega) hv))
set_option maxRecDepth 100000 in
theorem ms_M_howMany (d n V : Nat → Nat) (lf : Int64) (b b2 m kn t v v2 : Nat) (dg wd : Nat → Nat) (hM : MV d n V) (h0 : V 0 = v) (h1 : V 1 = v2) (hb : 2 ≤ b ∧ b < 37) (hv : bl v ≤ 24000) (hK : RK v b m kn dg) : MS y_M_howMany c_M_howMany 1 (some .int) (rm 4) [.ref 0] (mW d n lf (G0 b b2 m kn t dg wd)) (zP (X := X5) (fun _ => some (.int (nI (nd b v)))) (fun q => mW q.1 q.2.1 q.2.2.2.1 (G0 b b2 (nd b v) 1 t q.2.2.2.2 wd)) (RT v b v2)) := by
  refine MS_of (own := R_M) (by decide) rfl (fun _ => Nat.le_of_ble_eq_true rfl) (fun Z h hr => ?_)
  rcases hK with hk | ⟨hk, hm, hd⟩
  · subst hk
    refine z_aload_n h d_M_howMany_0 rfl ?_
    refine z_get (C := R_M) (T := F_M) (N := 10) h 6 d_M_howMany_1 in_M rfl (by decide) wf_M_136 rfl rfl ?_
    refine z_if_neN (tgt := 11) h d_M_howMany_4 (by decide) (by omega) (fun c_4 => ?_) (fun c_4 => ?_)
    · exact absurd rfl c_4
    · refine z_aload_n h d_M_howMany_7 rfl ?_
      refine z_cM h (ms_M_tell d n V lf b b2 m 0 t v dg wd hM hb h0 hv) (zf_M_tell (by decide)) wm_M_143 wi_M_tell ws_M_tell d_M_howMany_8 (Nat.le_of_ble_eq_true rfl) rfl (fun x_8 hx_8 => ?_)
      refine z_aload_n h d_M_howMany_11 rfl ?_
      refine z_get (C := R_M) (T := F_M) (N := 10) h 5 d_M_howMany_12 in_M rfl (by decide) wf_M_146 rfl rfl ?_
      refine hr.1 _ _ _ _ _ _ (Nat.le_refl _) (Nat.le_refl _) rfl d_M_howMany_15 ?_
      exact ⟨(x_8.1, x_8.2.1, un V 3 0, x_8.2.2.1, x_8.2.2.2), rfl, rfl, hx_8.1, h0, h1, hx_8.2⟩
  · subst hk hm
    refine z_aload_n h d_M_howMany_0 rfl ?_
    refine z_get (C := R_M) (T := F_M) (N := 10) h 6 d_M_howMany_1 in_M rfl (by decide) wf_M_136 rfl rfl ?_
    refine z_if_neN (tgt := 11) h d_M_howMany_4 (by decide) (by omega) (fun c_4 => ?_) (fun c_4 => ?_)
    · refine z_aload_n h d_M_howMany_11 rfl ?_
      refine z_get (C := R_M) (T := F_M) (N := 10) h 5 d_M_howMany_12 in_M rfl (by decide) wf_M_146 rfl rfl ?_
      refine hr.1 _ _ _ _ _ _ (Nat.le_refl _) (Nat.le_refl _) rfl d_M_howMany_15 ?_
      exact ⟨(d, n, V, lf, dg), rfl, rfl, hM, h0, h1, hd⟩
    · exact absurd c_4 (by decide)
set_option maxRecDepth 100000 in
theorem ms_M_told (d n V : Nat → Nat) (lf : Int64) (b b2 m kn t v v2 b' : Nat) (dg wd : Nat → Nat) (hM : MV d n V) (h0 : V 0 = v) (h1 : V 1 = v2) (hb : 2 ≤ b' ∧ b' < 37) (hv : bl v ≤ 24000) : MS y_M_told c_M_told 2 (some .int) (rm 5) [.ref 0, .int (nI b')] (mW d n lf (G0 b b2 m kn t dg wd)) (zP (X := X5) (fun _ => some (.int (nI (nd b' v)))) (fun q => mW q.1 q.2.1 q.2.2.2.1 (G0 b' b2 (nd b' v) 1 t q.2.2.2.2 wd)) (RT v b' v2)) := by
  refine MS_of (own := R_M) (by decide) rfl (fun _ => Nat.le_of_ble_eq_true rfl) (fun Z h hr => ?_)
  refine z_aload_n h d_M_told_0 rfl ?_
  refine z_iload_n h d_M_told_1 rfl ?_
  refine z_put (C := R_M) (T := F_M) (N := 10) (ty := .int) h 2 d_M_told_2 in_M rfl ft_M_ok n_M (by decide) wf_M_16 rfl rfl rfl rfl rfl (Nat.le_of_ble_eq_true rfl) ?_
  refine z_aload_n h d_M_told_5 rfl ?_
  refine z_iconst (v := nI 0) h d_M_told_6 (by decide) ?_
  refine z_put (C := R_M) (T := F_M) (N := 10) (ty := .boolean) h 6 d_M_told_7 in_M rfl ft_M_ok n_M (by decide) wf_M_136 rfl rfl (by decide) (by decide) rfl (Nat.le_of_ble_eq_true rfl) ?_
  show Z 0 0 (mW d n lf (G0 b' b2 m 0 t dg wd)) _ _ _
  refine z_aload_n h d_M_told_10 rfl ?_
  refine z_cM h (ms_M_howMany d n V lf b' b2 m 0 t v v2 dg wd hM h0 h1 hb hv (Or.inl rfl)) (zf_M_howMany (by decide)) wm_M_140 wi_M_howMany ws_M_howMany d_M_told_11 (Nat.le_of_ble_eq_true rfl) rfl (fun x_11 hx_11 => ?_)
  refine hr.1 _ _ _ _ _ _ (Nat.le_refl _) (Nat.le_refl _) rfl d_M_told_14 ?_
  exact ⟨x_11, rfl, rfl, hx_11⟩
set_option maxRecDepth 100000 in
theorem ms_M_become (d n V : Nat → Nat) (lf : Int64) (b b2 m kn t x v v2 kind : Nat) (dg wd : Nat → Nat) (hM : MV d n V) (hx : x < 10) (hx1 : x ≠ 1) (h0 : V x = v) (h1 : V 1 = v2) (hb : 2 ≤ b ∧ b < 37) (hv : bl v ≤ 24000) : MS y_M_become c_M_become 3 (some .int) (rm 6) [.ref 0, .int (nI x), .int (nI kind)] (mW d n lf (G0 b b2 m kn t dg wd)) (zP (X := X5) (fun _ => some (.int (nI (nd b v)))) (fun q => mW q.1 q.2.1 q.2.2.2.1 (G0 b b2 (nd b v) 1 0 q.2.2.2.2 wd)) (RT v b v2)) := by
  refine MS_of (own := R_M) (by decide) rfl (fun _ => Nat.le_of_ble_eq_true rfl) (fun Z h hr => ?_)
  refine z_aload_n h d_M_become_0 rfl ?_
  refine z_aload_n h d_M_become_1 rfl ?_
  refine z_iload_n h d_M_become_2 rfl ?_
  refine z_cM h (ms_M_length d n V lf (G0 b b2 m kn t dg wd) x hx hM) (zf_M_length (by decide)) wm_M_169 wi_M_length ws_M_length d_M_become_3 (Nat.le_of_ble_eq_true rfl) rfl (fun x_3 hx_3 => ?_)
  rw [h0]
  refine z_sipush (v := nI 24000) h d_M_become_6 (by decide) ?_
  refine z_icmp_leN (tgt := 16) h d_M_become_9 (by decide) (by omega) (fun c_9 => ?_) (fun c_9 => ?_)
  · refine z_iconst (v := nI 0) h d_M_become_16 (by decide) ?_
    refine z_iload_n h d_M_become_17 rfl ?_
    refine z_cM h (ms_M_fails0 d n lf b b2 m kn t kind dg wd) (zf_M_fails (by decide)) wm_M_128 wi_M_fails ws_M_fails d_M_become_18 (Nat.le_of_ble_eq_true rfl) rfl (fun x_18 hx_18 => ?_)
    refine z_if_eqN (tgt := 26) h d_M_become_21 (by decide) (by omega) (fun c_21 => ?_) (fun c_21 => ?_)
    · refine z_aload_n h d_M_become_26 rfl ?_
      refine z_iconst (v := nI 0) h d_M_become_27 (by decide) ?_
      refine z_iload_n h d_M_become_28 rfl ?_
      refine z_cM h (ms_M_copy d n V lf (G0 b b2 m kn 0 dg wd) 0 x (by decide) hx hM) (zf_M_copy (by decide)) wm_M_70 wi_M_copy ws_M_copy d_M_become_29 (Nat.le_of_ble_eq_true rfl) rfl (fun x_29 hx_29 => ?_)
      refine z_aload_n h d_M_become_32 rfl ?_
      refine z_aload_n h d_M_become_33 rfl ?_
      refine z_get (C := R_M) (T := F_M) (N := 10) h 2 d_M_become_34 in_M rfl (by decide) wf_M_16 rfl rfl ?_
      refine z_cM h (ms_M_told x_29.1 x_29.2 (un V 0 (V x)) lf b b2 m kn 0 v v2 b dg wd hx_29 (by rw [un_eq, h0]) (by rw [un_ne (by decide), h1]) hb hv) (zf_M_told (by decide)) wm_M_160 wi_M_told ws_M_told d_M_become_37 (Nat.le_of_ble_eq_true rfl) rfl (fun x_37 hx_37 => ?_)
      refine hr.1 _ _ _ _ _ _ (Nat.le_refl _) (Nat.le_refl _) rfl d_M_become_40 ?_
      exact ⟨x_37, rfl, rfl, hx_37⟩
    · exact absurd c_21 (by decide)
  · exact absurd c_9 (by omega)
set_option maxRecDepth 100000 in
theorem ms_M_becomeF (d n V : Nat → Nat) (lf : Int64) (b b2 m kn t x v kind : Nat) (dg wd : Nat → Nat) (hM : MV d n V) (hx : x < 10) (h0 : V x = v) (hv : ¬ bl v ≤ 24000) (hv2 : bl v < 2 ^ 31) : MS y_M_become c_M_become 3 (some .int) (rm 6) [.ref 0, .int (nI x), .int (nI kind)] (mW d n lf (G0 b b2 m kn t dg wd)) (zP (X := Unit) (fun _ => some (.int (nI 0))) (fun q => mW d n lf (G0 b b2 m kn kind dg wd)) (fun _ => True)) := by
  refine MS_of (own := R_M) (by decide) rfl (fun _ => Nat.le_of_ble_eq_true rfl) (fun Z h hr => ?_)
  refine z_aload_n h d_M_become_0 rfl ?_
  refine z_aload_n h d_M_become_1 rfl ?_
  refine z_iload_n h d_M_become_2 rfl ?_
  refine z_cM h (ms_M_length d n V lf (G0 b b2 m kn t dg wd) x hx hM) (zf_M_length (by decide)) wm_M_169 wi_M_length ws_M_length d_M_become_3 (Nat.le_of_ble_eq_true rfl) rfl (fun x_3 hx_3 => ?_)
  rw [h0]
  refine z_sipush (v := nI 24000) h d_M_become_6 (by decide) ?_
  refine z_icmp_leN (tgt := 16) h d_M_become_9 (by decide) (by omega) (fun c_9 => ?_) (fun c_9 => ?_)
  · exact absurd c_9 hv
  · refine z_iconst (v := nI 1) h d_M_become_12 (by decide) ?_
    refine z_goto (tgt := 17) h d_M_become_13 (by decide) ?_
    refine z_iload_n h d_M_become_17 rfl ?_
    refine z_cM h (ms_M_fails1 d n lf b b2 m kn t kind dg wd) (zf_M_fails (by decide)) wm_M_128 wi_M_fails ws_M_fails d_M_become_18 (Nat.le_of_ble_eq_true rfl) rfl (fun x_18 hx_18 => ?_)
    refine z_if_eqN (tgt := 26) h d_M_become_21 (by decide) (by omega) (fun c_21 => ?_) (fun c_21 => ?_)
    · exact absurd c_21 (by decide)
    · refine z_iconst (v := nI 0) h d_M_become_24 (by decide) ?_
      refine hr.1 _ _ _ _ _ _ (Nat.le_refl _) (Nat.le_refl _) rfl d_M_become_25 ?_
      exact ⟨(), rfl, rfl, trivial⟩
/-- the model: its text v in base b, its other v2 in base b2, what it threw t -/
def RS (v b v2 b2 t : Nat) (w : List va_E) : Prop := ∃ (d n V : Nat → Nat) (lf : Int64) (m kn : Nat) (dg wd : Nat → Nat), w = mW d n lf (G0 b b2 m kn t dg wd) ∧ MV d n V ∧ V 0 = v ∧ V 1 = v2 ∧ RK v b m kn dg ∧ (2 ≤ b ∧ b < 37) ∧ (2 ≤ b2 ∧ b2 < 37) ∧ bl v ≤ 24000 ∧ bl v2 ≤ 24000
theorem RS_of {v b v2 b2 t : Nat} {wd : Nat → Nat} {q : X5} (h : RT v b v2 q) (hb : 2 ≤ b ∧ b < 37) (hb2 : 2 ≤ b2 ∧ b2 < 37) (hv : bl v ≤ 24000) (hv2 : bl v2 ≤ 24000) : RS v b v2 b2 t (mW q.1 q.2.1 q.2.2.2.1 (G0 b b2 (nd b v) 1 t q.2.2.2.2 wd)) := ⟨q.1, q.2.1, q.2.2.1, q.2.2.2.1, _, _, _, wd, rfl, h.1, h.2.1, h.2.2.1, Or.inr ⟨rfl, rfl, h.2.2.2⟩, hb, hb2, hv, hv2⟩
abbrev RP (a : Int32) (v b v2 b2 t : Nat) : Option Value → List va_E → Prop := fun r w' => r = some (.int a) ∧ RS v b v2 b2 t w'
theorem cap2 {v k : Nat} (h : v < 2 ^ k) (hk : k ≤ 42000) : v < capM := Nat.lt_of_lt_of_le h (by unfold capM; rw [p15]; exact Nat.pow_le_pow_right (by decide) hk)
theorem capL {v : Nat} (h : bl v ≤ 24000) : v < 2 ^ 24000 := Nat.lt_of_lt_of_le (bl_ub v) (Nat.pow_le_pow_right (by decide) h)
set_option maxRecDepth 100000 in
set_option maxHeartbeats 4000000 in
theorem ms_M_number (v b v2 b2 t x b' : Nat) (w : List va_E) (h0 : RS v b v2 b2 t w) (hx : x < 2 ^ 63) (hb : 2 ≤ b' ∧ b' < 37) : MS y_M_number c_M_number 4 (some .int) (rm 7) [.ref 0, .long (lN x), .int (nI b')] w (RP (nI (nd b' x)) x b' v2 b2 0) := by
  obtain ⟨d, n, V, lf, m, kn, dg, wd, rfl, hM, hV0, hV1, hK, hbb, hbb2, hv, hv2⟩ := h0
  refine MS_of (own := R_M) (by decide) rfl (fun _ => Nat.le_of_ble_eq_true rfl) (fun Z h hr => ?_)
  have hlx : bl x ≤ 24000 := Nat.le_trans (bl_lt hx) (by decide)
  refine z_aload_n h d_M_number_0 rfl ?_
  refine z_lload_n h d_M_number_1 rfl ?_
  refine z_lconst (v := lN 0) h d_M_number_2 (by decide) ?_
  refine z_lcmp_ltN (tgt := 14) h d_M_number_3 d_M_number_4 (by decide) (by omega) (fun c_3 => ?_) (fun c_3 => ?_)
  · exact absurd c_3 (by omega)
  · refine z_iload_n h d_M_number_7 rfl ?_
    refine z_cS h (ms_M_isBaseT (nI b') (okB_nat hb)) (zf_M_isBase (by decide)) wm_M_124 wt_M_isBase d_M_number_8 [] (by decide) rfl (Nat.le_of_ble_eq_true rfl) rfl (fun _ => rfl) (fun x_8 hx_8 => ?_)
    refine z_if_neN (tgt := 18) h d_M_number_11 (by decide) (by omega) (fun c_11 => ?_) (fun c_11 => ?_)
    · refine z_iconst (v := nI 0) h d_M_number_18 (by decide) ?_
      refine z_iconst (v := nI 1) h d_M_number_19 (by decide) ?_
      refine z_cM h (ms_M_fails0 d n lf b b2 m kn t 1 dg wd) (zf_M_fails (by decide)) wm_M_128 wi_M_fails ws_M_fails d_M_number_20 (Nat.le_of_ble_eq_true rfl) rfl (fun x_20 hx_20 => ?_)
      refine z_if_eqN (tgt := 28) h d_M_number_23 (by decide) (by omega) (fun c_23 => ?_) (fun c_23 => ?_)
      · refine z_aload_n h d_M_number_28 rfl ?_
        refine z_iconst (v := nI 0) h d_M_number_29 (by decide) ?_
        refine z_lload_n h d_M_number_30 rfl ?_
        refine z_cM h (ms_M_set d n V lf (G0 b b2 m kn 0 dg wd) 0 x (by decide) hM hx) (zf_M_set (by decide)) wm_M_83 wi_M_set ws_M_set d_M_number_31 (Nat.le_of_ble_eq_true rfl) rfl (fun x_31 hx_31 => ?_)
        refine z_aload_n h d_M_number_34 rfl ?_
        refine z_iload_n h d_M_number_35 rfl ?_
        refine z_cM h (ms_M_told x_31.1 x_31.2 (un V 0 x) lf b b2 m kn 0 x v2 b' dg wd hx_31 un_eq (by rw [un_ne (by decide), hV1]) hb hlx) (zf_M_told (by decide)) wm_M_160 wi_M_told ws_M_told d_M_number_36 (Nat.le_of_ble_eq_true rfl) rfl (fun x_36 hx_36 => ?_)
        refine hr.1 _ _ _ _ _ _ (Nat.le_refl _) (Nat.le_refl _) rfl d_M_number_39 ?_
        exact ⟨rfl, RS_of hx_36 hb hbb2 hlx hv2⟩
      · exact absurd c_23 (by decide)
    · exact absurd c_11 (by decide)
set_option maxRecDepth 100000 in
set_option maxHeartbeats 4000000 in
theorem mf_M_number (v b v2 b2 t : Nat) (x : Int64) (y : Int32) (w : List va_E) (h0 : RS v b v2 b2 t w) (hx : x < 0 ∨ ¬ okB y) : MS y_M_number c_M_number 4 (some .int) (rm 7) [.ref 0, .long x, .int y] w (RP 0 v b v2 b2 1) := by
  obtain ⟨d, n, V, lf, m, kn, dg, wd, rfl, hM, hV0, hV1, hK, hbb, hbb2, hv, hv2⟩ := h0
  refine MS_of (own := R_M) (by decide) rfl (fun _ => Nat.le_of_ble_eq_true rfl) (fun Z h hr => ?_)
  have T : Z 0 0 (mW d n lf (G0 b b2 m kn t dg wd)) [(0, .ref 0), (1, .long x), (3, .int y)] 14 [.ref 0] := by
    refine z_iconst (v := nI 1) h d_M_number_14 (by decide) ?_
    refine z_goto (tgt := 19) h d_M_number_15 (by decide) ?_
    refine z_iconst (v := nI 1) h d_M_number_19 (by decide) ?_
    refine z_cM h (ms_M_fails1 d n lf b b2 m kn t 1 dg wd) (zf_M_fails (by decide)) wm_M_128 wi_M_fails ws_M_fails d_M_number_20 (Nat.le_of_ble_eq_true rfl) rfl (fun x_20 hx_20 => ?_)
    refine z_if_eqN (tgt := 28) h d_M_number_23 (by decide) (by omega) (fun c_23 => ?_) (fun c_23 => ?_)
    · exact absurd c_23 (by decide)
    · refine z_iconst (v := nI 0) h d_M_number_26 (by decide) ?_
      refine hr.1 _ _ _ _ _ _ (Nat.le_refl _) (Nat.le_refl _) rfl d_M_number_27 ?_
      exact ⟨rfl, d, n, V, lf, m, kn, dg, wd, rfl, hM, hV0, hV1, hK, hbb, hbb2, hv, hv2⟩
  refine z_aload_n h d_M_number_0 rfl ?_
  refine z_lload_n h d_M_number_1 rfl ?_
  refine z_lconst (v := 0) h d_M_number_2 (by decide) ?_
  refine z_lcmp h d_M_number_3 ?_
  refine z_if_lt (tgt := 14) h d_M_number_4 (by decide) (fun c_4 => ?_) (fun c_4 => ?_)
  · exact z_lv h rfl T
  · have hy : ¬ okB y := hx.resolve_left (cmp_nlt0 c_4)
    refine z_iload_n h d_M_number_7 rfl ?_
    refine z_cS h (ms_M_isBaseF y hy) (zf_M_isBase (by decide)) wm_M_124 wt_M_isBase d_M_number_8 [] (by decide) rfl (Nat.le_of_ble_eq_true rfl) rfl (fun _ => rfl) (fun x_8 hx_8 => ?_)
    refine z_if_neN (tgt := 18) h d_M_number_11 (by decide) (by omega) (fun c_11 => ?_) (fun c_11 => ?_)
    · exact absurd rfl c_11
    · exact z_lv h rfl T
set_option maxRecDepth 100000 in
set_option maxHeartbeats 4000000 in
theorem ms_M_convert (v b v2 b2 t b' : Nat) (w : List va_E) (h0 : RS v b v2 b2 t w) (hb : 2 ≤ b' ∧ b' < 37) : MS y_M_convert c_M_convert 2 (some .int) (rm 7) [.ref 0, .int (nI b')] w (RP (nI (nd b' v)) v b' v2 b2 0) := by
  obtain ⟨d, n, V, lf, m, kn, dg, wd, rfl, hM, hV0, hV1, hK, hbb, hbb2, hv, hv2⟩ := h0
  refine MS_of (own := R_M) (by decide) rfl (fun _ => Nat.le_of_ble_eq_true rfl) (fun Z h hr => ?_)
  refine z_aload_n h d_M_convert_0 rfl ?_
  refine z_iload_n h d_M_convert_1 rfl ?_
  refine z_cS h (ms_M_isBaseT (nI b') (okB_nat hb)) (zf_M_isBase (by decide)) wm_M_124 wt_M_isBase d_M_convert_2 [] (by decide) rfl (Nat.le_of_ble_eq_true rfl) rfl (fun _ => rfl) (fun x_2 hx_2 => ?_)
  refine z_if_neN (tgt := 12) h d_M_convert_5 (by decide) (by omega) (fun c_5 => ?_) (fun c_5 => ?_)
  · refine z_iconst (v := nI 0) h d_M_convert_12 (by decide) ?_
    refine z_iconst (v := nI 1) h d_M_convert_13 (by decide) ?_
    refine z_cM h (ms_M_fails0 d n lf b b2 m kn t 1 dg wd) (zf_M_fails (by decide)) wm_M_128 wi_M_fails ws_M_fails d_M_convert_14 (Nat.le_of_ble_eq_true rfl) rfl (fun x_14 hx_14 => ?_)
    refine z_if_eqN (tgt := 22) h d_M_convert_17 (by decide) (by omega) (fun c_17 => ?_) (fun c_17 => ?_)
    · refine z_aload_n h d_M_convert_22 rfl ?_
      refine z_iload_n h d_M_convert_23 rfl ?_
      refine z_cM h (ms_M_told d n V lf b b2 m kn 0 v v2 b' dg wd hM hV0 hV1 hb hv) (zf_M_told (by decide)) wm_M_160 wi_M_told ws_M_told d_M_convert_24 (Nat.le_of_ble_eq_true rfl) rfl (fun x_24 hx_24 => ?_)
      refine hr.1 _ _ _ _ _ _ (Nat.le_refl _) (Nat.le_refl _) rfl d_M_convert_27 ?_
      exact ⟨rfl, RS_of hx_24 hb hbb2 hv hv2⟩
    · exact absurd c_17 (by decide)
  · exact absurd c_5 (by decide)
set_option maxRecDepth 100000 in
set_option maxHeartbeats 4000000 in
theorem mf_M_convert (v b v2 b2 t : Nat) (y : Int32) (w : List va_E) (h0 : RS v b v2 b2 t w) (hy : ¬ okB y) : MS y_M_convert c_M_convert 2 (some .int) (rm 7) [.ref 0, .int y] w (RP 0 v b v2 b2 1) := by
  obtain ⟨d, n, V, lf, m, kn, dg, wd, rfl, hM, hV0, hV1, hK, hbb, hbb2, hv, hv2⟩ := h0
  refine MS_of (own := R_M) (by decide) rfl (fun _ => Nat.le_of_ble_eq_true rfl) (fun Z h hr => ?_)
  refine z_aload_n h d_M_convert_0 rfl ?_
  refine z_iload_n h d_M_convert_1 rfl ?_
  refine z_cS h (ms_M_isBaseF y hy) (zf_M_isBase (by decide)) wm_M_124 wt_M_isBase d_M_convert_2 [] (by decide) rfl (Nat.le_of_ble_eq_true rfl) rfl (fun _ => rfl) (fun x_2 hx_2 => ?_)
  refine z_if_neN (tgt := 12) h d_M_convert_5 (by decide) (by omega) (fun c_5 => ?_) (fun c_5 => ?_)
  · exact absurd rfl c_5
  · refine z_iconst (v := nI 1) h d_M_convert_8 (by decide) ?_
    refine z_goto (tgt := 13) h d_M_convert_9 (by decide) ?_
    refine z_iconst (v := nI 1) h d_M_convert_13 (by decide) ?_
    refine z_cM h (ms_M_fails1 d n lf b b2 m kn t 1 dg wd) (zf_M_fails (by decide)) wm_M_128 wi_M_fails ws_M_fails d_M_convert_14 (Nat.le_of_ble_eq_true rfl) rfl (fun x_14 hx_14 => ?_)
    refine z_if_eqN (tgt := 22) h d_M_convert_17 (by decide) (by omega) (fun c_17 => ?_) (fun c_17 => ?_)
    · exact absurd c_17 (by decide)
    · refine z_iconst (v := nI 0) h d_M_convert_20 (by decide) ?_
      refine hr.1 _ _ _ _ _ _ (Nat.le_refl _) (Nat.le_refl _) rfl d_M_convert_21 ?_
      exact ⟨rfl, d, n, V, lf, m, kn, dg, wd, rfl, hM, hV0, hV1, hK, hbb, hbb2, hv, hv2⟩
set_option maxRecDepth 100000 in
set_option maxHeartbeats 4000000 in
theorem ms_M_keep (v b v2 b2 t : Nat) (w : List va_E) (h0 : RS v b v2 b2 t w) : MS y_M_keep c_M_keep 1 none (rm 7) [.ref 0] w (fun r w' => r = none ∧ RS v b v b 0 w') := by
  obtain ⟨d, n, V, lf, m, kn, dg, wd, rfl, hM, hV0, hV1, hK, hbb, hbb2, hv, hv2⟩ := h0
  refine MS_of (own := R_M) (by decide) rfl (fun _ => Nat.le_of_ble_eq_true rfl) (fun Z h hr => ?_)
  refine z_aload_n h d_M_keep_0 rfl ?_
  refine z_iconst (v := nI 0) h d_M_keep_1 (by decide) ?_
  refine z_put (C := R_M) (T := F_M) (N := 10) (ty := .int) h 8 d_M_keep_2 in_M rfl ft_M_ok n_M (by decide) wf_M_29 rfl rfl rfl rfl rfl (Nat.le_of_ble_eq_true rfl) ?_
  show Z 0 0 (mW d n lf (G0 b b2 m kn 0 dg wd)) _ _ _
  refine z_aload_n h d_M_keep_5 rfl ?_
  refine z_iconst (v := nI 1) h d_M_keep_6 (by decide) ?_
  refine z_iconst (v := nI 0) h d_M_keep_7 (by decide) ?_
  refine z_cM h (ms_M_copy d n V lf (G0 b b2 m kn 0 dg wd) 1 0 (by decide) (by decide) hM) (zf_M_copy (by decide)) wm_M_70 wi_M_copy ws_M_copy d_M_keep_8 (Nat.le_of_ble_eq_true rfl) rfl (fun x_8 hx_8 => ?_)
  refine z_aload_n h d_M_keep_11 rfl ?_
  refine z_aload_n h d_M_keep_12 rfl ?_
  refine z_get (C := R_M) (T := F_M) (N := 10) h 2 d_M_keep_13 in_M rfl (by decide) wf_M_16 rfl rfl ?_
  refine z_put (C := R_M) (T := F_M) (N := 10) (ty := .int) h 3 d_M_keep_16 in_M rfl ft_M_ok n_M (by decide) wf_M_20 rfl rfl rfl rfl rfl (Nat.le_of_ble_eq_true rfl) ?_
  refine hr.2.2.2.1 _ _ _ _ _ (Nat.le_refl _) (Nat.le_refl _) rfl d_M_keep_19 ?_
  exact ⟨rfl, x_8.1, x_8.2, un V 1 (V 0), lf, m, kn, dg, wd, rfl, hx_8, hV0, by rw [un_eq, hV0], hK, hbb, hbb, hv, hv⟩
set_option maxRecDepth 100000 in
set_option maxHeartbeats 4000000 in
theorem ms_M_swap (v b v2 b2 t : Nat) (w : List va_E) (h0 : RS v b v2 b2 t w) : MS y_M_swap c_M_swap 2 (some .int) (rm 7) [.ref 0] w (RP (nI (nd b2 v2)) v2 b2 v b 0) := by
  obtain ⟨d, n, V, lf, m, kn, dg, wd, rfl, hM, hV0, hV1, hK, hbb, hbb2, hv, hv2⟩ := h0
  refine MS_of (own := R_M) (by decide) rfl (fun _ => Nat.le_of_ble_eq_true rfl) (fun Z h hr => ?_)
  refine z_aload_n h d_M_swap_0 rfl ?_
  refine z_iconst (v := nI 0) h d_M_swap_1 (by decide) ?_
  refine z_put (C := R_M) (T := F_M) (N := 10) (ty := .int) h 8 d_M_swap_2 in_M rfl ft_M_ok n_M (by decide) wf_M_29 rfl rfl rfl rfl rfl (Nat.le_of_ble_eq_true rfl) ?_
  show Z 0 0 (mW d n lf (G0 b b2 m kn 0 dg wd)) _ _ _
  refine z_aload_n h d_M_swap_5 rfl ?_
  refine z_iconst (v := nI 5) h d_M_swap_6 (by decide) ?_
  refine z_iconst (v := nI 0) h d_M_swap_7 (by decide) ?_
  refine z_cM h (ms_M_copy d n V lf (G0 b b2 m kn 0 dg wd) 5 0 (by decide) (by decide) hM) (zf_M_copy (by decide)) wm_M_70 wi_M_copy ws_M_copy d_M_swap_8 (Nat.le_of_ble_eq_true rfl) rfl (fun x_8 hx_8 => ?_)
  refine z_aload_n h d_M_swap_11 rfl ?_
  refine z_iconst (v := nI 0) h d_M_swap_12 (by decide) ?_
  refine z_iconst (v := nI 1) h d_M_swap_13 (by decide) ?_
  refine z_cM h (ms_M_copy x_8.1 x_8.2 (un V 5 (V 0)) lf (G0 b b2 m kn 0 dg wd) 0 1 (by decide) (by decide) hx_8) (zf_M_copy (by decide)) wm_M_70 wi_M_copy ws_M_copy d_M_swap_14 (Nat.le_of_ble_eq_true rfl) rfl (fun x_14 hx_14 => ?_)
  refine z_aload_n h d_M_swap_17 rfl ?_
  refine z_iconst (v := nI 1) h d_M_swap_18 (by decide) ?_
  refine z_iconst (v := nI 5) h d_M_swap_19 (by decide) ?_
  refine z_cM h (ms_M_copy x_14.1 x_14.2 (un (un V 5 (V 0)) 0 (un V 5 (V 0) 1)) lf (G0 b b2 m kn 0 dg wd) 1 5 (by decide) (by decide) hx_14) (zf_M_copy (by decide)) wm_M_70 wi_M_copy ws_M_copy d_M_swap_20 (Nat.le_of_ble_eq_true rfl) rfl (fun x_20 hx_20 => ?_)
  refine z_aload_n h d_M_swap_23 rfl ?_
  refine z_get (C := R_M) (T := F_M) (N := 10) h 2 d_M_swap_24 in_M rfl (by decide) wf_M_16 rfl rfl ?_
  refine z_istore_n h d_M_swap_27 (by decide) ?_
  refine z_aload_n h d_M_swap_28 rfl ?_
  refine z_aload_n h d_M_swap_29 rfl ?_
  refine z_get (C := R_M) (T := F_M) (N := 10) h 3 d_M_swap_30 in_M rfl (by decide) wf_M_20 rfl rfl ?_
  refine z_put (C := R_M) (T := F_M) (N := 10) (ty := .int) h 2 d_M_swap_33 in_M rfl ft_M_ok n_M (by decide) wf_M_16 rfl rfl rfl rfl rfl (Nat.le_of_ble_eq_true rfl) ?_
  refine z_aload_n h d_M_swap_36 rfl ?_
  refine z_iload_n h d_M_swap_37 rfl ?_
  refine z_put (C := R_M) (T := F_M) (N := 10) (ty := .int) h 3 d_M_swap_38 in_M rfl ft_M_ok n_M (by decide) wf_M_20 rfl rfl rfl rfl rfl (Nat.le_of_ble_eq_true rfl) ?_
  show Z 0 0 (mW x_20.1 x_20.2 lf (G0 b2 b m kn 0 dg wd)) _ _ _
  refine z_aload_n h d_M_swap_41 rfl ?_
  refine z_aload_n h d_M_swap_42 rfl ?_
  refine z_get (C := R_M) (T := F_M) (N := 10) h 2 d_M_swap_43 in_M rfl (by decide) wf_M_16 rfl rfl ?_
  refine z_cM h (ms_M_told x_20.1 x_20.2 _ lf b2 b m kn 0 v2 v b2 dg wd hx_20 (by rw [← hV1]; rfl) (by rw [← hV0]; rfl) hbb2 hv2) (zf_M_told (by decide)) wm_M_160 wi_M_told ws_M_told d_M_swap_46 (Nat.le_of_ble_eq_true rfl) rfl (fun x_46 hx_46 => ?_)
  refine hr.1 _ _ _ _ _ _ (Nat.le_refl _) (Nat.le_refl _) rfl d_M_swap_49 ?_
  exact ⟨rfl, RS_of hx_46 hbb2 hbb hv2 hv⟩
set_option maxRecDepth 100000 in
set_option maxHeartbeats 4000000 in
theorem ms_M_compare (v b v2 b2 t : Nat) (w : List va_E) (h0 : RS v b v2 b2 t w) : MS y_M_compare c_M_compare 1 (some .int) (rm 7) [.ref 0] w (RP (ordI v v2) v b v2 b2 0) := by
  obtain ⟨d, n, V, lf, m, kn, dg, wd, rfl, hM, hV0, hV1, hK, hbb, hbb2, hv, hv2⟩ := h0
  refine MS_of (own := R_M) (by decide) rfl (fun _ => Nat.le_of_ble_eq_true rfl) (fun Z h hr => ?_)
  refine z_aload_n h d_M_compare_0 rfl ?_
  refine z_iconst (v := nI 0) h d_M_compare_1 (by decide) ?_
  refine z_put (C := R_M) (T := F_M) (N := 10) (ty := .int) h 8 d_M_compare_2 in_M rfl ft_M_ok n_M (by decide) wf_M_29 rfl rfl rfl rfl rfl (Nat.le_of_ble_eq_true rfl) ?_
  show Z 0 0 (mW d n lf (G0 b b2 m kn 0 dg wd)) _ _ _
  refine z_aload_n h d_M_compare_5 rfl ?_
  refine z_iconst (v := nI 0) h d_M_compare_6 (by decide) ?_
  refine z_iconst (v := nI 1) h d_M_compare_7 (by decide) ?_
  refine z_cM h (ms_M_order d n V lf (G0 b b2 m kn 0 dg wd) 0 1 (by decide) (by decide) hM.1 (hM.2 0 (by decide)) (hM.2 1 (by decide))) (zf_M_order (by decide)) wm_M_67 wi_M_order ws_M_order d_M_compare_8 (Nat.le_of_ble_eq_true rfl) rfl (fun x_8 hx_8 => ?_)
  refine hr.1 _ _ _ _ _ _ (Nat.le_refl _) (Nat.le_refl _) rfl d_M_compare_11 ?_
  rw [hV0, hV1]
  exact ⟨rfl, d, n, V, lf, m, kn, dg, wd, rfl, hM, hV0, hV1, hK, hbb, hbb2, hv, hv2⟩
set_option maxRecDepth 100000 in
set_option maxHeartbeats 4000000 in
theorem ms_M_subtract (v b v2 b2 t : Nat) (w : List va_E) (h0 : RS v b v2 b2 t w) (hl : v2 ≤ v) : MS y_M_subtract c_M_subtract 1 (some .int) (rm 7) [.ref 0] w (RP (nI (nd b (v - v2))) (v - v2) b v2 b2 0) := by
  obtain ⟨d, n, V, lf, m, kn, dg, wd, rfl, hM, hV0, hV1, hK, hbb, hbb2, hv, hv2⟩ := h0
  refine MS_of (own := R_M) (by decide) rfl (fun _ => Nat.le_of_ble_eq_true rfl) (fun Z h hr => ?_)
  have hlx : bl (v - v2) ≤ 24000 := bl_lt (Nat.lt_of_le_of_lt (Nat.sub_le _ _) (capL hv))
  refine z_aload_n h d_M_subtract_0 rfl ?_
  refine z_aload_n h d_M_subtract_1 rfl ?_
  refine z_iconst (v := nI 0) h d_M_subtract_2 (by decide) ?_
  refine z_iconst (v := nI 1) h d_M_subtract_3 (by decide) ?_
  refine z_cM h (ms_M_order d n V lf (G0 b b2 m kn t dg wd) 0 1 (by decide) (by decide) hM.1 (hM.2 0 (by decide)) (hM.2 1 (by decide))) (zf_M_order (by decide)) wm_M_67 wi_M_order ws_M_order d_M_subtract_4 (Nat.le_of_ble_eq_true rfl) rfl (fun x_4 hx_4 => ?_)
  rw [hV0, hV1]
  have q9 : 0 ≤ ordI v v2 := by
    unfold ordI
    rw [if_neg (by omega)]
    split <;> decide
  refine z_if_ge (tgt := 14) h d_M_subtract_7 (by decide) (fun c_7 => ?_) (fun c_7 => ?_)
  · refine z_iconst (v := nI 0) h d_M_subtract_14 (by decide) ?_
    refine z_iconst (v := nI 1) h d_M_subtract_15 (by decide) ?_
    refine z_cM h (ms_M_fails0 d n lf b b2 m kn t 1 dg wd) (zf_M_fails (by decide)) wm_M_128 wi_M_fails ws_M_fails d_M_subtract_16 (Nat.le_of_ble_eq_true rfl) rfl (fun x_16 hx_16 => ?_)
    refine z_if_eqN (tgt := 24) h d_M_subtract_19 (by decide) (by omega) (fun c_19 => ?_) (fun c_19 => ?_)
    · refine z_aload_n h d_M_subtract_24 rfl ?_
      refine z_iconst (v := nI 0) h d_M_subtract_25 (by decide) ?_
      refine z_iconst (v := nI 1) h d_M_subtract_26 (by decide) ?_
      refine z_lconst (v := lN 1) h d_M_subtract_27 (by decide) ?_
      refine z_cM h (ms_M_lessTimes d n V lf (G0 b b2 m kn 0 dg wd) 0 1 1 (by decide) (by decide) (by decide) hM.1 (hM.2 0 (by decide)) (hM.2 1 (by decide)) (by decide) (by rw [hV0, hV1]; omega)) (zf_M_lessTimes (by decide)) wm_M_64 wi_M_lessTimes ws_M_lessTimes d_M_subtract_28 (Nat.le_of_ble_eq_true rfl) rfl (fun x_28 hx_28 => ?_)
      have hV2 := MV_MU hM hx_28
      refine z_aload_n h d_M_subtract_31 rfl ?_
      refine z_aload_n h d_M_subtract_32 rfl ?_
      refine z_get (C := R_M) (T := F_M) (N := 10) h 2 d_M_subtract_33 in_M rfl (by decide) wf_M_16 rfl rfl ?_
      refine z_cM h (ms_M_told x_28.1 x_28.2 _ lf b b2 m kn 0 (v - v2) v2 b dg wd hV2 (by rw [un_eq, hV0, hV1, Nat.one_mul]) (by rw [un_ne (by decide), hV1]) hbb hlx) (zf_M_told (by decide)) wm_M_160 wi_M_told ws_M_told d_M_subtract_36 (Nat.le_of_ble_eq_true rfl) rfl (fun x_36 hx_36 => ?_)
      refine hr.1 _ _ _ _ _ _ (Nat.le_refl _) (Nat.le_refl _) rfl d_M_subtract_39 ?_
      exact ⟨rfl, RS_of hx_36 hbb hbb2 hlx hv2⟩
    · exact absurd c_19 (by decide)
  · exact absurd q9 c_7
set_option maxRecDepth 100000 in
set_option maxHeartbeats 4000000 in
theorem mf_M_subtract (v b v2 b2 t : Nat) (w : List va_E) (h0 : RS v b v2 b2 t w) (hl : ¬ v2 ≤ v) : MS y_M_subtract c_M_subtract 1 (some .int) (rm 7) [.ref 0] w (RP 0 v b v2 b2 1) := by
  obtain ⟨d, n, V, lf, m, kn, dg, wd, rfl, hM, hV0, hV1, hK, hbb, hbb2, hv, hv2⟩ := h0
  refine MS_of (own := R_M) (by decide) rfl (fun _ => Nat.le_of_ble_eq_true rfl) (fun Z h hr => ?_)
  refine z_aload_n h d_M_subtract_0 rfl ?_
  refine z_aload_n h d_M_subtract_1 rfl ?_
  refine z_iconst (v := nI 0) h d_M_subtract_2 (by decide) ?_
  refine z_iconst (v := nI 1) h d_M_subtract_3 (by decide) ?_
  refine z_cM h (ms_M_order d n V lf (G0 b b2 m kn t dg wd) 0 1 (by decide) (by decide) hM.1 (hM.2 0 (by decide)) (hM.2 1 (by decide))) (zf_M_order (by decide)) wm_M_67 wi_M_order ws_M_order d_M_subtract_4 (Nat.le_of_ble_eq_true rfl) rfl (fun x_4 hx_4 => ?_)
  rw [hV0, hV1]
  have q9 : ordI v v2 = -1 := by
    unfold ordI
    rw [if_pos (by omega)]
  rw [q9]
  refine z_if_ge (tgt := 14) h d_M_subtract_7 (by decide) (fun c_7 => ?_) (fun c_7 => ?_)
  · exact absurd c_7 (by decide)
  · refine z_iconst (v := nI 1) h d_M_subtract_10 (by decide) ?_
    refine z_goto (tgt := 15) h d_M_subtract_11 (by decide) ?_
    refine z_iconst (v := nI 1) h d_M_subtract_15 (by decide) ?_
    refine z_cM h (ms_M_fails1 d n lf b b2 m kn t 1 dg wd) (zf_M_fails (by decide)) wm_M_128 wi_M_fails ws_M_fails d_M_subtract_16 (Nat.le_of_ble_eq_true rfl) rfl (fun x_16 hx_16 => ?_)
    refine z_if_eqN (tgt := 24) h d_M_subtract_19 (by decide) (by omega) (fun c_19 => ?_) (fun c_19 => ?_)
    · exact absurd c_19 (by decide)
    · refine z_iconst (v := nI 0) h d_M_subtract_22 (by decide) ?_
      refine hr.1 _ _ _ _ _ _ (Nat.le_refl _) (Nat.le_refl _) rfl d_M_subtract_23 ?_
      exact ⟨rfl, d, n, V, lf, m, kn, dg, wd, rfl, hM, hV0, hV1, hK, hbb, hbb2, hv, hv2⟩
