/-! DigitMillModel: cubes, arcs, golden, constant -/
theorem alt_lo {P : Nat → Nat} (hP : ∀ k, P (k + 1) ≤ P k) : ∀ k, (k % 2 = 0 → (P 0 : Int) ≤ alt P (k + 1) + P 1 - P (k + 1)) ∧ (k % 2 = 1 → (P 0 : Int) ≤ alt P (k + 1) + P 1)
  | 0 => ⟨fun _ => by unfold alt alt; rw [if_pos rfl, Nat.zero_add]; omega, fun h => absurd h (by decide)⟩
  | k + 1 => by
    have h0 := alt_lo hP k
    have h1 := hP (k + 1)
    unfold alt
    rcases (show k % 2 = 0 ∨ k % 2 = 1 by omega) with q | q
    · rw [if_neg (by omega)]
      have := h0.1 q
      exact ⟨fun q2 => by omega, fun _ => by omega⟩
    · rw [if_pos (by omega)]
      have := h0.2 q
      exact ⟨fun _ => by omega, fun q2 => by omega⟩
def tC (S : Nat) : Nat → Nat
  | 0 => S / 2
  | j + 1 => tC S j * (j + 2) / (4 * j + 6)
def pC (S j : Nat) : Nat := tC S j / ((j + 1) * (j + 1) * (j + 1))
theorem tC_anti {S : Nat} (j : Nat) : tC S (j + 1) ≤ tC S j := by
  show tC S j * (j + 2) / (4 * j + 6) ≤ tC S j
  exact Nat.div_le_of_le_mul (by rw [Nat.mul_comm]; exact Nat.mul_le_mul_right _ (by omega))
theorem tC_le {S : Nat} : ∀ j, tC S j ≤ S
  | 0 => Nat.div_le_self _ _
  | j + 1 => Nat.le_trans (tC_anti j) (tC_le j)
theorem cub_mono {j : Nat} : (j + 1) * (j + 1) * (j + 1) ≤ (j + 1 + 1) * (j + 1 + 1) * (j + 1 + 1) := Nat.mul_le_mul (Nat.mul_le_mul (by omega) (by omega)) (by omega)
theorem pC_anti {S : Nat} (k : Nat) : pC S (k + 1) ≤ pC S k := by
  unfold pC
  exact Nat.div_le_div (tC_anti k) cub_mono (Nat.pos_iff_ne_zero.mp (Nat.mul_pos (Nat.mul_pos (by omega) (by omega)) (by omega)))
theorem tC_half {S j f : Nat} (h : tC S j < 2 ^ (f + 1)) : tC S (j + 1) < 2 ^ f := by
  show tC S j * (j + 2) / (4 * j + 6) < 2 ^ f
  rw [Nat.div_lt_iff_lt_mul (by omega)]
  rw [Nat.pow_succ] at h
  calc tC S j * (j + 2) < 2 ^ f * 2 * (j + 2) := Nat.mul_lt_mul_of_pos_right h (by omega)
    _ = 2 ^ f * (2 * (j + 2)) := Nat.mul_assoc _ _ _
    _ ≤ 2 ^ f * (4 * j + 6) := Nat.mul_le_mul_left _ (by omega)
theorem cub_b {k : Nat} (h : k ≤ 42001) : k * k * k < 140737488355328 := by
  have e : k * k * k ≤ 42001 * 42001 * 42001 := Nat.mul_le_mul (Nat.mul_le_mul h h) h
  omega
set_option maxRecDepth 100000 in
set_option maxHeartbeats 4000000 in
theorem ms_M_cubes (d n V : Nat → Nat) (lf : Int64) (G : MG) (S : Nat) (hM : MV d n V) (h2 : V 2 = S) (h5 : V 5 = 0) (hcap : 50000 * S < capM) : MS y_M_cubes c_M_cubes 2 (some .int) (rm 3) [.ref 0] (mW d n lf G) (zP (X := X4 × Nat) (fun q => some (.int (nI (q.2 + 1)))) (fun q => mW q.1.1 q.1.2.1 q.1.2.2.2 G) (fun q => MV q.1.1 q.1.2.1 q.1.2.2.1 ∧ Kp V q.1.2.2.1 ∧ q.2 ≤ bl S ∧ tC S q.2 = 0 ∧ q.1.2.2.1 5 = (5 * alt (pC S) q.2).toNat / 2)) := by
  refine MS_of (own := R_M) (by decide) rfl (fun _ => Nat.le_of_ble_eq_true rfl) (fun Z h hr => ?_)
  have hbS := MV_bl hM (show 2 < 10 by decide)
  rw [h2] at hbS
  have hP0 : pC S 0 ≤ S := Nat.le_trans (Nat.div_le_self _ _) (Nat.div_le_self _ _)
  have halt : ∀ k, 0 ≤ alt (pC S) k ∧ alt (pC S) k ≤ S := fun k => by
    have h0 := alt_nn (P := pC S) pC_anti k
    omega
  have L : ∀ (f k : Nat) (e n' U : Nat → Nat) (l1 : Int64), f + k = bl S → tC S k < 2 ^ f → MV e n' U → Kp V U → U 3 = tC S k → (U 5 : Int) = 5 * alt (pC S) k → Z 0 0 (mW e n' l1 G) [(0, .ref 0), (1, .int (nI (k + 1)))] 16 [] := by
    intro f
    have End : ∀ (k : Nat) (e n' U : Nat → Nat) (l1 : Int64), k ≤ bl S → tC S k = 0 → MV e n' U → Kp V U → U 3 = tC S k → (U 5 : Int) = 5 * alt (pC S) k → Z 0 0 (mW e n' l1 G) [(0, .ref 0), (1, .int (nI (k + 1)))] 16 [] := by
      intro k e n' U l1 hk ht hV hK h3 h5'
      obtain ⟨a1, a2⟩ := n3_iff hV
      refine z_aload_n h d_M_cubes_16 rfl ?_
      refine z_get (C := R_M) (T := F_M) (N := 10) h 1 d_M_cubes_17 in_M rfl (by decide) wf_M_13 rfl rfl ?_
      refine z_iconst (v := nI 3) h d_M_cubes_20 (by decide) ?_
      refine z_ialoadN h d_M_cubes_21 rfl (by omega) ?_
      refine z_if_leN (tgt := 103) h d_M_cubes_22 (by decide) (by omega) (fun c_22 => ?_) (fun c_22 => ?_)
      · refine z_aload_n h d_M_cubes_103 rfl ?_
        refine z_iconst (v := nI 5) h d_M_cubes_104 (by decide) ?_
        refine z_ldc2_w (v := lN 2) h d_M_cubes_105 wv_M_73 ?_
        refine z_cM h (ms_M_lower e n' U l1 G 5 2 (by decide) hV (by decide) (by decide)) (zf_M_lower (by decide)) wm_M_87 wi_M_lower ws_M_lower d_M_cubes_108 (Nat.le_of_ble_eq_true rfl) rfl (fun x_108 hx_108 => ?_)
        refine z_iload_n h d_M_cubes_111 rfl ?_
        refine hr.1 _ _ _ _ _ _ (Nat.le_refl _) (Nat.le_refl _) rfl d_M_cubes_112 ?_
        refine ⟨((x_108.1, x_108.2, _, _), k), rfl, rfl, hx_108, Kp_un hK (Or.inr (Or.inr rfl)), hk, ht, ?_⟩
        show un U 5 (U 5 / 2) 5 = _
        rw [un_eq, ← h5', Int.toNat_natCast]
      · exact absurd (a2.mpr (by rw [h3, ht])) (by omega)
    induction f with
    | zero =>
      intro k e n' U l1 hf ht hV hK h3 h5'
      exact End k e n' U l1 (by omega) (by omega) hV hK h3 h5'
    | succ f ih =>
      intro k e n' U l1 hf ht hV hK h3 h5'
      by_cases ht0 : tC S k = 0
      · exact End k e n' U l1 (by omega) ht0 hV hK h3 h5'
      · obtain ⟨a1, a2⟩ := n3_iff hV
        have hst : alt (pC S) (k + 1) = alt (pC S) k + (if k % 2 = 0 then (pC S k : Int) else -(pC S k : Int)) := rfl
        have b1 := halt (k + 1)
        have hcb := cub_b (show k + 1 ≤ 42001 by omega)
        have hc0 : 0 < (k + 1) * (k + 1) * (k + 1) := Nat.mul_pos (Nat.mul_pos (by omega) (by omega)) (by omega)
        have Nx : ∀ (e n' U : Nat → Nat) (l1 : Int64), MV e n' U → Kp V U → U 3 = tC S k → (U 5 : Int) = 5 * alt (pC S) (k + 1) → Z 0 0 (mW e n' l1 G) [(0, .ref 0), (1, .int (nI (k + 1)))] 72 [] := by
          intro e n' U l1 hV hK h3 h5'
          have hcp : (k + 1 + 1) * U 3 + 0 < capM := by
            rw [h3, Nat.add_zero]
            exact Nat.lt_of_le_of_lt (Nat.mul_le_mul (show k + 1 + 1 ≤ 50000 by omega) (tC_le k)) hcap
          refine z_aload_n h d_M_cubes_72 rfl ?_
          refine z_iconst (v := nI 3) h d_M_cubes_73 (by decide) ?_
          refine z_iload_n h d_M_cubes_74 rfl ?_
          refine z_i2lN h d_M_cubes_75 (by omega) ?_
          refine z_lconst (v := lN 1) h d_M_cubes_76 (by decide) ?_
          refine z_laddN h d_M_cubes_77 ?_
          refine z_lconst (v := lN 0) h d_M_cubes_78 (by decide) ?_
          refine z_cM h (ms_M_grow e n' U l1 G 3 (k + 1 + 1) 0 (by decide) hV.1 (hV.2 3 (by decide)) (by omega) (by omega) hcp) (zf_M_grow (by decide)) wm_M_60 wi_M_grow ws_M_grow d_M_cubes_79 (Nat.le_of_ble_eq_true rfl) rfl (fun x_79 hx_79 => ?_)
          have hV2 := MV_MU hV hx_79
          rw [h3, Nat.add_zero] at hV2
          refine z_aload_n h d_M_cubes_82 rfl ?_
          refine z_iconst (v := nI 3) h d_M_cubes_83 (by decide) ?_
          refine z_ldc2_w (v := lN 4) h d_M_cubes_84 wv_M_100 ?_
          refine z_iload_n h d_M_cubes_87 rfl ?_
          refine z_i2lN h d_M_cubes_88 (by omega) ?_
          refine z_lmulN h d_M_cubes_89 ?_
          refine z_ldc2_w (v := lN 2) h d_M_cubes_90 wv_M_73 ?_
          refine z_laddN h d_M_cubes_93 ?_
          refine z_cM h (ms_M_lower x_79.1 x_79.2 _ l1 G 3 (4 * (k + 1) + 2) (by decide) hV2 (by omega) (by omega)) (zf_M_lower (by decide)) wm_M_87 wi_M_lower ws_M_lower d_M_cubes_94 (Nat.le_of_ble_eq_true rfl) rfl (fun x_94 hx_94 => ?_)
          refine z_iincN h 1 d_M_cubes_97 rfl (by decide) (by decide) ?_
          refine z_goto (tgt := 16) h d_M_cubes_100 (by decide) ?_
          refine z_lv h rfl (ih (k + 1) x_94.1 x_94.2 _ _ (by omega) (tC_half ht) hx_94 (Kp_un (Kp_un hK (Or.inl rfl)) (Or.inl rfl)) ?_ ?_)
          · rw [un_eq, un_eq, Nat.mul_comm (k + 1 + 1)]
            rfl
          · rw [un_ne (by decide), un_ne (by decide)]
            exact h5'
        refine z_aload_n h d_M_cubes_16 rfl ?_
        refine z_get (C := R_M) (T := F_M) (N := 10) h 1 d_M_cubes_17 in_M rfl (by decide) wf_M_13 rfl rfl ?_
        refine z_iconst (v := nI 3) h d_M_cubes_20 (by decide) ?_
        refine z_ialoadN h d_M_cubes_21 rfl (by omega) ?_
        refine z_if_leN (tgt := 103) h d_M_cubes_22 (by decide) (by omega) (fun c_22 => ?_) (fun c_22 => ?_)
        · exact absurd (a2.mp c_22) (by rw [h3]; exact ht0)
        · refine z_aload_n h d_M_cubes_25 rfl ?_
          refine z_iconst (v := nI 4) h d_M_cubes_26 (by decide) ?_
          refine z_iconst (v := nI 3) h d_M_cubes_27 (by decide) ?_
          refine z_cM h (ms_M_copy e n' U l1 G 4 3 (by decide) (by decide) hV) (zf_M_copy (by decide)) wm_M_70 wi_M_copy ws_M_copy d_M_cubes_28 (Nat.le_of_ble_eq_true rfl) rfl (fun x_28 hx_28 => ?_)
          rw [h3] at hx_28
          refine z_aload_n h d_M_cubes_31 rfl ?_
          refine z_iconst (v := nI 4) h d_M_cubes_32 (by decide) ?_
          refine z_iload_n h d_M_cubes_33 rfl ?_
          refine z_i2lN h d_M_cubes_34 (by omega) ?_
          refine z_iload_n h d_M_cubes_35 rfl ?_
          refine z_i2lN h d_M_cubes_36 (by omega) ?_
          refine z_lmulN h d_M_cubes_37 ?_
          refine z_iload_n h d_M_cubes_38 rfl ?_
          refine z_i2lN h d_M_cubes_39 (by omega) ?_
          refine z_lmulN h d_M_cubes_40 ?_
          refine z_cM h (ms_M_lower x_28.1 x_28.2 _ l1 G 4 ((k + 1) * (k + 1) * (k + 1)) (by decide) hx_28 hc0 hcb) (zf_M_lower (by decide)) wm_M_87 wi_M_lower ws_M_lower d_M_cubes_41 (Nat.le_of_ble_eq_true rfl) rfl (fun x_41 hx_41 => ?_)
          rw [un_eq, un_un] at hx_41
          have hV4 : MV x_41.1 x_41.2 (un U 4 (pC S k)) := hx_41
          rw [un_eq]
          generalize lN (tC S k % ((k + 1) * (k + 1) * (k + 1))) = l2
          have g5 : un U 4 (pC S k) 5 = U 5 := un_ne (by decide)
          have g4 : un U 4 (pC S k) 4 = pC S k := un_eq
          have hs_46 : k + 1 < 2 ^ 31 ∧ 0 < 2 ∧ 2 < 2 ^ 31 := by omega
          have hpar : (k + 1) % 2 < 2 := Nat.mod_lt _ (by decide)
          refine z_iload_n h d_M_cubes_44 rfl ?_
          refine z_iconst (v := nI 2) h d_M_cubes_45 (by decide) ?_
          refine z_iremN h d_M_cubes_46 hs_46 ?_
          refine z_iconst (v := nI 1) h d_M_cubes_47 (by decide) ?_
          refine z_icmp_neN (tgt := 63) h d_M_cubes_48 (by decide) (by omega) (fun c_48 => ?_) (fun c_48 => ?_)
          · rw [if_neg (by omega)] at hst
            have hle : 5 * pC S k ≤ U 5 := by omega
            refine z_aload_n h d_M_cubes_63 rfl ?_
            refine z_iconst (v := nI 5) h d_M_cubes_64 (by decide) ?_
            refine z_iconst (v := nI 4) h d_M_cubes_65 (by decide) ?_
            refine z_ldc2_w (v := lN 5) h d_M_cubes_66 wv_M_90 ?_
            refine z_cM h (ms_M_lessTimes x_41.1 x_41.2 _ l2 G 5 4 5 (by decide) (by decide) (by decide) hV4.1 (hV4.2 5 (by decide)) (hV4.2 4 (by decide)) (by decide) (by rw [g5, g4]; exact hle)) (zf_M_lessTimes (by decide)) wm_M_64 wi_M_lessTimes ws_M_lessTimes d_M_cubes_69 (Nat.le_of_ble_eq_true rfl) rfl (fun x_69 hx_69 => ?_)
            have hV5 := MV_MU hV4 hx_69
            refine z_lv h rfl (Nx x_69.1 x_69.2 _ l2 hV5 (Kp_un (Kp_un hK (Or.inr (Or.inl rfl))) (Or.inr (Or.inr rfl))) ?_ ?_)
            · rw [un_ne (by decide), un_ne (by decide)]
              exact h3
            · rw [un_eq, g5, g4]
              omega
          · rw [if_pos (by omega)] at hst
            have hle : U 5 + 5 * pC S k < capM := by
              refine Nat.lt_of_le_of_lt ?_ hcap
              omega
            refine z_aload_n h d_M_cubes_51 rfl ?_
            refine z_iconst (v := nI 5) h d_M_cubes_52 (by decide) ?_
            refine z_iconst (v := nI 4) h d_M_cubes_53 (by decide) ?_
            refine z_ldc2_w (v := lN 5) h d_M_cubes_54 wv_M_90 ?_
            refine z_cM h (ms_M_addTimes x_41.1 x_41.2 _ l2 G 5 4 5 (by decide) (by decide) (by decide) hV4 (by decide) (by rw [g5, g4]; exact hle)) (zf_M_addTimes (by decide)) wm_M_50 wi_M_addTimes ws_M_addTimes d_M_cubes_57 (Nat.le_of_ble_eq_true rfl) rfl (fun x_57 hx_57 => ?_)
            refine z_goto (tgt := 72) h d_M_cubes_60 (by decide) ?_
            refine z_lv h rfl (Nx x_57.1 x_57.2 _ l2 hx_57 (Kp_un (Kp_un hK (Or.inr (Or.inl rfl))) (Or.inr (Or.inr rfl))) ?_ ?_)
            · rw [un_ne (by decide), un_ne (by decide)]
              exact h3
            · rw [un_eq, g5, g4]
              omega
  refine z_aload_n h d_M_cubes_0 rfl ?_
  refine z_iconst (v := nI 3) h d_M_cubes_1 (by decide) ?_
  refine z_iconst (v := nI 2) h d_M_cubes_2 (by decide) ?_
  refine z_cM h (ms_M_copy d n V lf G 3 2 (by decide) (by decide) hM) (zf_M_copy (by decide)) wm_M_70 wi_M_copy ws_M_copy d_M_cubes_3 (Nat.le_of_ble_eq_true rfl) rfl (fun x_3 hx_3 => ?_)
  rw [h2] at hx_3
  refine z_aload_n h d_M_cubes_6 rfl ?_
  refine z_iconst (v := nI 3) h d_M_cubes_7 (by decide) ?_
  refine z_ldc2_w (v := lN 2) h d_M_cubes_8 wv_M_73 ?_
  refine z_cM h (ms_M_lower x_3.1 x_3.2 _ lf G 3 2 (by decide) hx_3 (by decide) (by decide)) (zf_M_lower (by decide)) wm_M_87 wi_M_lower ws_M_lower d_M_cubes_11 (Nat.le_of_ble_eq_true rfl) rfl (fun x_11 hx_11 => ?_)
  rw [un_eq, un_un] at hx_11
  refine z_iconst (v := nI 1) h d_M_cubes_14 (by decide) ?_
  refine z_istore_n h d_M_cubes_15 (by decide) ?_
  refine z_lv h rfl (L (bl S) 0 x_11.1 x_11.2 _ _ rfl (Nat.lt_of_le_of_lt (Nat.div_le_self _ _) (bl_ub S)) hx_11 (Kp_un (fun j _ _ _ => rfl) (Or.inl rfl)) un_eq ?_)
  rw [un_ne (by decide), h5]
  rfl
theorem Kp_tr {V U W : Nat → Nat} (h : Kp V U) (g : Kp U W) : Kp V W := fun j h3 h4 h5 => by rw [g j h3 h4 h5, h j h3 h4 h5]
set_option maxRecDepth 100000 in
set_option maxHeartbeats 4000000 in
theorem ms_M_arcs (d n V : Nat → Nat) (lf : Int64) (G : MG) (S : Nat) (hM : MV d n V) (h2 : V 2 = S) (h5 : V 5 = 0) (hcap : 50000 * S < capM) : MS y_M_arcs c_M_arcs 2 (some .int) (rm 4) [.ref 0] (mW d n lf G) (zP (X := X4 × Nat × Nat) (fun q => some (.int (nI (q.2.1 + q.2.2)))) (fun q => mW q.1.1 q.1.2.1 q.1.2.2.2 G) (fun q => MV q.1.1 q.1.2.1 q.1.2.2.1 ∧ Kp V q.1.2.2.1 ∧ (q.2.1 ≤ bl S ∧ q.2.2 ≤ bl S) ∧ (tA S 5 q.2.1 = 0 ∧ tA S 239 q.2.2 = 0) ∧ (q.1.2.2.1 5 : Int) = 16 * alt (pA S 5) q.2.1 - 4 * alt (pA S 239) q.2.2)) := by
  refine MS_of (own := R_M) (by decide) rfl (fun _ => Nat.le_of_ble_eq_true rfl) (fun Z h hr => ?_)
  have hbS := MV_bl hM (show 2 < 10 by decide)
  rw [h2] at hbS
  refine z_aload_n h d_M_arcs_0 rfl ?_
  refine z_ldc2_w (v := lN 5) h d_M_arcs_1 wv_M_90 ?_
  refine z_ldc2_w (v := lN 16) h d_M_arcs_4 wv_M_92 ?_
  refine z_iconst (v := nI 0) h d_M_arcs_7 (by decide) ?_
  refine z_cM h (ms_M_arc d n V lf G 5 16 0 0 S hM h2 h5 (by decide) (by decide) (by decide) (fun q => absurd q (by decide)) (by omega)) (zf_M_arc (by decide)) wm_M_94 wi_M_arc ws_M_arc d_M_arcs_8 (Nat.le_of_ble_eq_true rfl) rfl (fun x_8 hx_8 => ?_)
  obtain ⟨k1, k2, k3, k4, k5⟩ := hx_8
  rw [show sg 0 = 1 from rfl, Int.one_mul] at k5
  have hb0 := alt_nn (P := pA S 5) pA_anti x_8.2
  have hp0 := @pA_0 S 5
  have hlo : 4 * (S / 239) ≤ x_8.1.2.2.1 5 := by
    cases hK : x_8.2 with
    | zero =>
      rw [hK] at k4
      have k4' : S / 5 = 0 := k4
      omega
    | succ K =>
      rw [hK] at k5
      have hl := alt_lo (P := pA S 5) pA_anti K
      have e0 : pA S 5 0 = S / 5 := Nat.div_one _
      have e1 : pA S 5 1 = S / 5 / 25 / 3 := rfl
      have hl2 : (pA S 5 0 : Int) ≤ alt (pA S 5) (K + 1) + pA S 5 1 := by
        rcases (show K % 2 = 0 ∨ K % 2 = 1 by omega) with q | q
        · have := hl.1 q
          omega
        · exact hl.2 q
      rw [e0, e1] at hl2
      omega
  have hup : x_8.1.2.2.1 5 + 16 * S < capM := by
    refine Nat.lt_of_le_of_lt ?_ hcap
    omega
  refine z_istore_n h d_M_arcs_11 (by decide) ?_
  refine z_iload_n h d_M_arcs_12 rfl ?_
  refine z_aload_n h d_M_arcs_13 rfl ?_
  refine z_ldc2_w (v := lN 239) h d_M_arcs_14 wv_M_98 ?_
  refine z_ldc2_w (v := lN 4) h d_M_arcs_17 wv_M_100 ?_
  refine z_iconst (v := nI 1) h d_M_arcs_20 (by decide) ?_
  refine z_cM h (ms_M_arc x_8.1.1 x_8.1.2.1 x_8.1.2.2.1 x_8.1.2.2.2 G 239 4 1 (x_8.1.2.2.1 5) S k1 (by rw [k2 2 (by decide) (by decide) (by decide)]; exact h2) rfl (by decide) (by decide) (by decide) (fun _ => hlo) hup) (zf_M_arc (by decide)) wm_M_94 wi_M_arc ws_M_arc d_M_arcs_21 (Nat.le_of_ble_eq_true rfl) rfl (fun x_21 hx_21 => ?_)
  obtain ⟨j1, j2, j3, j4, j5⟩ := hx_21
  rw [show sg 1 = -1 from rfl] at j5
  refine z_iaddN h d_M_arcs_24 ?_
  refine hr.1 _ _ _ _ _ _ (Nat.le_refl _) (Nat.le_refl _) rfl d_M_arcs_25 ?_
  refine ⟨(x_21.1, x_8.2, x_21.2), rfl, rfl, j1, Kp_tr k2 j2, ⟨k3, j3⟩, ⟨k4, j4⟩, ?_⟩
  show (x_21.1.2.2.1 5 : Int) = 16 * alt (pA S 5) x_8.2 - 4 * alt (pA S 239) x_21.2
  rw [j5, k5]
  omega
/-- what the series of the reference may sum up to, at the scale S -/
def RefS (which S s : Nat) : Prop := (which = 0 ∧ ∃ K1 K2, tA S 5 K1 = 0 ∧ tA S 239 K2 = 0 ∧ (s : Int) = 16 * alt (pA S 5) K1 - 4 * alt (pA S 239) K2) ∨ (which = 1 ∧ ∃ K, tE S K = 0 ∧ s = sE S K) ∨ (which = 3 ∧ ∃ K, tH S K = 0 ∧ s = sH S K) ∨ (which = 4 ∧ ∃ K, tC S K = 0 ∧ s = (5 * alt (pC S) K).toNat / 2)
def c60 : Nat := 32768 ^ 4
theorem sc_cap {b p : Nat} (hbn : b ^ p ≤ 2 ^ 20000) : b ^ p * 32768 ^ 4 < capM ∧ 50000 * (b ^ p * 32768 ^ 4) < capM := by
  have e1 : b ^ p * 32768 ^ 4 ≤ 2 ^ 20000 * 2 ^ 60 := Nat.mul_le_mul hbn (by decide)
  have e2 : 50000 * (b ^ p * 32768 ^ 4) ≤ 2 ^ 16 * (2 ^ 20000 * 2 ^ 60) := Nat.mul_le_mul (by decide) e1
  rw [← Nat.pow_add] at e1 e2
  rw [← Nat.pow_add] at e2
  exact ⟨cap2 (Nat.lt_of_le_of_lt e1 (Nat.pow_lt_pow_right (by decide) (Nat.lt_succ_self _))) (by decide), cap2 (Nat.lt_of_le_of_lt e2 (Nat.pow_lt_pow_right (by decide) (Nat.lt_succ_self _))) (by decide)⟩
set_option maxRecDepth 100000 in
set_option maxHeartbeats 4000000 in
theorem ms_M_constant (d n V : Nat → Nat) (lf : Int64) (G : MG) (wh p b ans : Nat) (hM : MV d n V) (hw : wh = 0 ∨ wh = 1 ∨ wh = 3 ∨ wh = 4) (hp : p ≤ 6000) (hb : 2 ≤ b ∧ b < 37) (hbn : b ^ p ≤ 2 ^ 20000) (hans : ∀ s, RefS wh (b ^ p * 32768 ^ 4) s → ∀ w, w ≤ 8388608 → w ≤ s ∧ (s - w) / 32768 ^ 4 = ans ∧ (s + w) / 32768 ^ 4 = ans) : MS y_M_constant c_M_constant 9 none (rm 5) [.ref 0, .int (nI wh), .int (nI p), .int (nI b)] (mW d n lf G) (zP (X := X4) (fun _ => none) (fun q => mW q.1 q.2.1 q.2.2.2 G) (fun q => MV q.1 q.2.1 q.2.2.1 ∧ q.2.2.1 0 = ans ∧ q.2.2.1 1 = V 1)) := by
  refine MS_of (own := R_M) (by decide) rfl (fun _ => Nat.le_of_ble_eq_true rfl) (fun Z h hr => ?_)
  obtain ⟨hc1, hc2⟩ := sc_cap hbn
  have hb9 := hb.2
  have hc3 : b ^ p < capM := Nat.lt_of_le_of_lt (Nat.le_mul_of_pos_right _ (by decide)) hc1
  generalize hS : b ^ p * 32768 ^ 4 = S at *
  have Fin : ∀ (e n' U : Nat → Nat) (l1 : Int64), MV e n' U → U 6 = ans → U 1 = V 1 → Z 0 0 (mW e n' l1 G) [(0, .ref 0), (1, .int (nI wh)), (2, .int (nI p)), (3, .int (nI b)), (4, .int (nI 0)), (5, .int (nI 8))] 6 [] := by
    intro e n' U l1 hV h6 h1
    refine z_iload h d_M_constant_6 rfl ?_
    refine z_if_eqN (tgt := 155) h d_M_constant_8 (by decide) (by omega) (fun c_8 => ?_) (fun c_8 => ?_)
    · refine z_aload_n h d_M_constant_155 rfl ?_
      refine z_iconst (v := nI 0) h d_M_constant_156 (by decide) ?_
      refine z_bipush (v := nI 6) h d_M_constant_157 (by decide) ?_
      refine z_cM h (ms_M_copy e n' U l1 G 0 6 (by decide) (by decide) hV) (zf_M_copy (by decide)) wm_M_70 wi_M_copy ws_M_copy d_M_constant_159 (Nat.le_of_ble_eq_true rfl) rfl (fun x_159 hx_159 => ?_)
      refine hr.2.2.2.1 _ _ _ _ _ (Nat.le_refl _) (Nat.le_refl _) rfl d_M_constant_162 ?_
      exact ⟨(x_159.1, x_159.2, _, l1), rfl, rfl, hx_159, by show un U 0 (U 6) 0 = ans; rw [un_eq, h6], by show un U 0 (U 6) 1 = V 1; rw [un_ne (by decide), h1]⟩
    · exact absurd rfl (by omega)
  have Mid : ∀ (e n' U : Nat → Nat) (l1 : Int64) (T s : Nat), MV e n' U → U 5 = s → U 1 = V 1 → RefS wh S s → T ≤ 100000 → s + 8388608 < capM → Z 0 0 (mW e n' l1 G) [(0, .ref 0), (1, .int (nI wh)), (2, .int (nI p)), (3, .int (nI b)), (4, .int (nI 1)), (5, .int (nI 4))] 71 [.int (nI T)] := by
    intro e n' U l1 T s hV h5 h1 hRef hT hsc
    obtain ⟨w1, w2, w3⟩ := hans s hRef (64 * (T + 8)) (by omega)
    refine z_istore h d_M_constant_71 (by decide) ?_
    refine z_ldc2_w (v := lN 64) h d_M_constant_73 wv_M_119 ?_
    refine z_iload h d_M_constant_76 rfl ?_
    refine z_i2lN h d_M_constant_78 (by omega) ?_
    refine z_ldc2_w (v := lN 8) h d_M_constant_79 wv_M_77 ?_
    refine z_laddN h d_M_constant_82 ?_
    refine z_lmulN h d_M_constant_83 ?_
    refine z_lstore h d_M_constant_84 (by decide) ?_
    refine z_aload_n h d_M_constant_86 rfl ?_
    refine z_bipush (v := nI 6) h d_M_constant_87 (by decide) ?_
    refine z_iconst (v := nI 5) h d_M_constant_89 (by decide) ?_
    refine z_cM h (ms_M_copy e n' U l1 G 6 5 (by decide) (by decide) hV) (zf_M_copy (by decide)) wm_M_70 wi_M_copy ws_M_copy d_M_constant_90 (Nat.le_of_ble_eq_true rfl) rfl (fun x_90 hx_90 => ?_)
    rw [h5] at hx_90
    refine z_aload_n h d_M_constant_93 rfl ?_
    refine z_iconst (v := nI 4) h d_M_constant_94 (by decide) ?_
    refine z_lload h d_M_constant_95 rfl ?_
    refine z_cM h (ms_M_set x_90.1 x_90.2 _ l1 G 4 (64 * (T + 8)) (by decide) hx_90 (by omega)) (zf_M_set (by decide)) wm_M_83 wi_M_set ws_M_set d_M_constant_97 (Nat.le_of_ble_eq_true rfl) rfl (fun x_97 hx_97 => ?_)
    generalize hwd : 64 * (T + 8) = wd at *
    have g6 : un (un U 6 s) 4 wd 6 = s := by rw [un_ne (by decide), un_eq]
    have g4 : un (un U 6 s) 4 wd 4 = wd := un_eq
    have g5 : un (un U 6 s) 4 wd 5 = s := by rw [un_ne (by decide), un_ne (by decide), h5]
    refine z_aload_n h d_M_constant_100 rfl ?_
    refine z_bipush (v := nI 6) h d_M_constant_101 (by decide) ?_
    refine z_iconst (v := nI 4) h d_M_constant_103 (by decide) ?_
    refine z_lconst (v := lN 1) h d_M_constant_104 (by decide) ?_
    refine z_cM h (ms_M_lessTimes x_97.1 x_97.2 _ l1 G 6 4 1 (by decide) (by decide) (by decide) hx_97.1 (hx_97.2 6 (by decide)) (hx_97.2 4 (by decide)) (by decide) (by rw [g6, g4]; omega)) (zf_M_lessTimes (by decide)) wm_M_64 wi_M_lessTimes ws_M_lessTimes d_M_constant_105 (Nat.le_of_ble_eq_true rfl) rfl (fun x_105 hx_105 => ?_)
    have hV2 := MV_MU hx_97 hx_105
    rw [g6, g4, Nat.one_mul] at hV2
    have k4 : un (un (un U 6 s) 4 wd) 6 (s - wd) 4 = wd := by rw [un_ne (by decide), un_eq]
    have k5 : un (un (un U 6 s) 4 wd) 6 (s - wd) 5 = s := by rw [un_ne (by decide), g5]
    refine z_aload_n h d_M_constant_108 rfl ?_
    refine z_iconst (v := nI 5) h d_M_constant_109 (by decide) ?_
    refine z_iconst (v := nI 4) h d_M_constant_110 (by decide) ?_
    refine z_lconst (v := lN 1) h d_M_constant_111 (by decide) ?_
    refine z_cM h (ms_M_addTimes x_105.1 x_105.2 _ l1 G 5 4 1 (by decide) (by decide) (by decide) hV2 (by decide) (by rw [k5, k4]; omega)) (zf_M_addTimes (by decide)) wm_M_50 wi_M_addTimes ws_M_addTimes d_M_constant_112 (Nat.le_of_ble_eq_true rfl) rfl (fun x_112 hx_112 => ?_)
    have hV3 := hx_112
    rw [k5, k4, Nat.one_mul] at hV3
    refine z_aload_n h d_M_constant_115 rfl ?_
    refine z_bipush (v := nI 6) h d_M_constant_116 (by decide) ?_
    refine z_iload h d_M_constant_118 rfl ?_
    refine z_ineg h d_M_constant_120 ?_
    refine z_cM h (ms_M_down x_112.1 x_112.2 _ l1 G 6 4 (by decide) (by decide) (by decide) hV3) (zf_M_shift (by decide)) wm_M_46 wi_M_shift ws_M_shift d_M_constant_121 (Nat.le_of_ble_eq_true rfl) rfl (fun x_121 hx_121 => ?_)
    rw [un_ne (show 6 ≠ 5 by decide), un_eq, w2] at hx_121
    refine z_aload_n h d_M_constant_124 rfl ?_
    refine z_iconst (v := nI 5) h d_M_constant_125 (by decide) ?_
    refine z_iload h d_M_constant_126 rfl ?_
    refine z_ineg h d_M_constant_128 ?_
    refine z_cM h (ms_M_down x_121.1 x_121.2 _ l1 G 5 4 (by decide) (by decide) (by decide) hx_121) (zf_M_shift (by decide)) wm_M_46 wi_M_shift ws_M_shift d_M_constant_129 (Nat.le_of_ble_eq_true rfl) rfl (fun x_129 hx_129 => ?_)
    rw [un_ne (show 5 ≠ 6 by decide), un_eq, w3] at hx_129
    have f6 : un (un (un (un (un (un U 6 s) 4 wd) 6 (s - wd)) 5 (s + wd)) 6 ans) 5 ans 6 = ans := by rw [un_ne (by decide), un_eq]
    have f5 : un (un (un (un (un (un U 6 s) 4 wd) 6 (s - wd)) 5 (s + wd)) 6 ans) 5 ans 5 = ans := un_eq
    refine z_aload_n h d_M_constant_132 rfl ?_
    refine z_bipush (v := nI 6) h d_M_constant_133 (by decide) ?_
    refine z_iconst (v := nI 5) h d_M_constant_135 (by decide) ?_
    refine z_cM h (ms_M_order x_129.1 x_129.2 _ l1 G 6 5 (by decide) (by decide) hx_129.1 (hx_129.2 6 (by decide)) (hx_129.2 5 (by decide))) (zf_M_order (by decide)) wm_M_67 wi_M_order ws_M_order d_M_constant_136 (Nat.le_of_ble_eq_true rfl) rfl (fun x_136 hx_136 => ?_)
    rw [f6, f5, show ordI ans ans = nI 0 by unfold ordI; rw [if_neg (by omega), if_pos rfl]; rfl]
    refine z_if_eqN (tgt := 146) h d_M_constant_139 (by decide) (by omega) (fun c_139 => ?_) (fun c_139 => ?_)
    · refine z_iconst (v := nI 0) h d_M_constant_146 (by decide) ?_
      refine z_istore h d_M_constant_147 (by decide) ?_
      refine z_iincN h 4 d_M_constant_149 rfl (by decide) (by decide) ?_
      refine z_goto (tgt := 6) h d_M_constant_152 (by decide) ?_
      exact z_lv h rfl (Fin x_129.1 x_129.2 _ l1 hx_129 f6 h1)
    · exact absurd rfl (by omega)
  have hS0 : 8388608 ≤ S := by
    rw [← hS]
    exact Nat.le_trans (show 8388608 ≤ 1 * 32768 ^ 4 by decide) (Nat.mul_le_mul_right _ (Nat.pow_pos (by omega)))
  refine z_iconst (v := nI 1) h d_M_constant_0 (by decide) ?_
  refine z_istore h d_M_constant_1 (by decide) ?_
  refine z_iconst (v := nI 4) h d_M_constant_3 (by decide) ?_
  refine z_istore h d_M_constant_4 (by decide) ?_
  refine z_iload h d_M_constant_6 rfl ?_
  refine z_if_eqN (tgt := 155) h d_M_constant_8 (by decide) (by omega) (fun c_8 => ?_) (fun c_8 => ?_)
  · exact absurd c_8 (by decide)
  · refine z_aload_n h d_M_constant_11 rfl ?_
    refine z_iconst (v := nI 2) h d_M_constant_12 (by decide) ?_
    refine z_iload_n h d_M_constant_13 rfl ?_
    refine z_iload_n h d_M_constant_14 rfl ?_
    refine z_cM h (ms_M_power d n V lf G 2 b p (by decide) hM (by omega) (by omega) hc3) (zf_M_power (by decide)) wm_M_102 wi_M_power ws_M_power d_M_constant_15 (Nat.le_of_ble_eq_true rfl) rfl (fun x_15 hx_15 => ?_)
    refine z_aload_n h d_M_constant_18 rfl ?_
    refine z_iconst (v := nI 2) h d_M_constant_19 (by decide) ?_
    refine z_iload h d_M_constant_20 rfl ?_
    refine z_cM h (ms_M_up x_15.1 x_15.2 _ lf G 2 4 (by decide) (by decide) (by decide) hx_15 (by rw [un_eq, hS]; exact hc1)) (zf_M_shift (by decide)) wm_M_46 wi_M_shift ws_M_shift d_M_constant_22 (Nat.le_of_ble_eq_true rfl) rfl (fun x_22 hx_22 => ?_)
    rw [un_eq, un_un, hS] at hx_22
    have hM2 : MV x_22.1 (un x_22.2 5 0) (un (un V 2 S) 5 0) := MV_upd hx_22 hx_22.1 (fun _ _ => rfl) ⟨Nat.zero_le _, fun j => hx_22.1 _, rfl, Or.inl rfl⟩
    have h2 : un (un V 2 S) 5 0 2 = S := by rw [un_ne (by decide), un_eq]
    have h5 : un (un V 2 S) 5 0 5 = 0 := un_eq
    have h1 : ∀ U, Kp (un (un V 2 S) 5 0) U → U 1 = V 1 := fun U hU => by rw [hU 1 (by decide) (by decide) (by decide), un_ne (by decide), un_ne (by decide)]
    have hbS := MV_bl hM2 (show 2 < 10 by decide)
    rw [h2] at hbS
    have hKS : ∀ K, K ≤ 42001 → K * S ≤ 42001 * S := fun K hK => Nat.mul_le_mul_right S hK
    refine z_aload_n h d_M_constant_25 rfl ?_
    refine z_get (C := R_M) (T := F_M) (N := 10) h 1 d_M_constant_26 in_M rfl (by decide) wf_M_13 rfl rfl ?_
    refine z_iconst (v := nI 5) h d_M_constant_29 (by decide) ?_
    refine z_iconst (v := nI 0) h d_M_constant_30 (by decide) ?_
    refine z_iastoreN h d_M_constant_31 rfl (by omega) ?_
    show Z 0 0 (mW x_22.1 (un x_22.2 5 0) lf G) _ _ _
    rcases hw with rfl | rfl | rfl | rfl
    · refine z_iload_n h d_M_constant_32 rfl ?_
      refine z_if_neN (tgt := 43) h d_M_constant_33 (by decide) (by omega) (fun c_33 => ?_) (fun c_33 => ?_)
      · exact absurd rfl c_33
      · refine z_aload_n h d_M_constant_36 rfl ?_
        refine z_cM h (ms_M_arcs x_22.1 (un x_22.2 5 0) _ lf G S hM2 h2 h5 hc2) (zf_M_arcs (by decide)) wm_M_106 wi_M_arcs ws_M_arcs d_M_constant_37 (Nat.le_of_ble_eq_true rfl) rfl (fun x_37 hx_37 => ?_)
        refine z_goto (tgt := 71) h d_M_constant_40 (by decide) ?_
        obtain ⟨k1, k2, k3, k4, k5⟩ := hx_37
        have q1 := alt_nn (P := pA S 5) pA_anti x_37.2.1
        have q2 := alt_nn (P := pA S 239) pA_anti x_37.2.2
        have q3 := @pA_0 S 5
        refine z_lv h rfl (Mid x_37.1.1 x_37.1.2.1 x_37.1.2.2.1 x_37.1.2.2.2 (x_37.2.1 + x_37.2.2) _ k1 rfl (h1 _ k2) (Or.inl ⟨rfl, x_37.2.1, x_37.2.2, k4.1, k4.2, k5⟩) (by omega) ?_)
        refine Nat.lt_of_le_of_lt ?_ hc2
        omega
    · refine z_iload_n h d_M_constant_32 rfl ?_
      refine z_if_neN (tgt := 43) h d_M_constant_33 (by decide) (by omega) (fun c_33 => ?_) (fun c_33 => ?_)
      · refine z_iload_n h d_M_constant_43 rfl ?_
        refine z_iconst (v := nI 1) h d_M_constant_44 (by decide) ?_
        refine z_icmp_neN (tgt := 55) h d_M_constant_45 (by decide) (by omega) (fun c_45 => ?_) (fun c_45 => ?_)
        · exact absurd rfl c_45
        · refine z_aload_n h d_M_constant_48 rfl ?_
          refine z_cM h (ms_M_factorials x_22.1 (un x_22.2 5 0) _ lf G S hM2 h2 h5 hc2) (zf_M_factorials (by decide)) wm_M_110 wi_M_factorials ws_M_factorials d_M_constant_49 (Nat.le_of_ble_eq_true rfl) rfl (fun x_49 hx_49 => ?_)
          refine z_goto (tgt := 71) h d_M_constant_52 (by decide) ?_
          obtain ⟨k1, k2, k3, k4, k5⟩ := hx_49
          have q1 := @sE_le S x_49.2
          have q2 := hKS x_49.2 (by omega)
          refine z_lv h rfl (Mid x_49.1.1 x_49.1.2.1 x_49.1.2.2.1 x_49.1.2.2.2 x_49.2 _ k1 rfl (h1 _ k2) (Or.inr (Or.inl ⟨rfl, x_49.2, k4, k5⟩)) (by omega) ?_)
          refine Nat.lt_of_le_of_lt ?_ hc2
          omega
      · exact absurd c_33 (by decide)
    · refine z_iload_n h d_M_constant_32 rfl ?_
      refine z_if_neN (tgt := 43) h d_M_constant_33 (by decide) (by omega) (fun c_33 => ?_) (fun c_33 => ?_)
      · refine z_iload_n h d_M_constant_43 rfl ?_
        refine z_iconst (v := nI 1) h d_M_constant_44 (by decide) ?_
        refine z_icmp_neN (tgt := 55) h d_M_constant_45 (by decide) (by omega) (fun c_45 => ?_) (fun c_45 => ?_)
        · refine z_iload_n h d_M_constant_55 rfl ?_
          refine z_iconst (v := nI 3) h d_M_constant_56 (by decide) ?_
          refine z_icmp_neN (tgt := 67) h d_M_constant_57 (by decide) (by omega) (fun c_57 => ?_) (fun c_57 => ?_)
          · exact absurd rfl c_57
          · refine z_aload_n h d_M_constant_60 rfl ?_
            refine z_cM h (ms_M_halves x_22.1 (un x_22.2 5 0) _ lf G S hM2 h2 h5 hc2) (zf_M_halves (by decide)) wm_M_113 wi_M_halves ws_M_halves d_M_constant_61 (Nat.le_of_ble_eq_true rfl) rfl (fun x_61 hx_61 => ?_)
            refine z_goto (tgt := 71) h d_M_constant_64 (by decide) ?_
            obtain ⟨k1, k2, k3, k4, k5⟩ := hx_61
            have q1 := @sH_le S x_61.2
            have q2 := hKS x_61.2 (by omega)
            refine z_lv h rfl (Mid x_61.1.1 x_61.1.2.1 x_61.1.2.2.1 x_61.1.2.2.2 x_61.2 _ k1 rfl (h1 _ k2) (Or.inr (Or.inr (Or.inl ⟨rfl, x_61.2, k4, k5⟩))) (by omega) ?_)
            refine Nat.lt_of_le_of_lt ?_ hc2
            omega
        · exact absurd c_45 (by decide)
      · exact absurd c_33 (by decide)
    · refine z_iload_n h d_M_constant_32 rfl ?_
      refine z_if_neN (tgt := 43) h d_M_constant_33 (by decide) (by omega) (fun c_33 => ?_) (fun c_33 => ?_)
      · refine z_iload_n h d_M_constant_43 rfl ?_
        refine z_iconst (v := nI 1) h d_M_constant_44 (by decide) ?_
        refine z_icmp_neN (tgt := 55) h d_M_constant_45 (by decide) (by omega) (fun c_45 => ?_) (fun c_45 => ?_)
        · refine z_iload_n h d_M_constant_55 rfl ?_
          refine z_iconst (v := nI 3) h d_M_constant_56 (by decide) ?_
          refine z_icmp_neN (tgt := 67) h d_M_constant_57 (by decide) (by omega) (fun c_57 => ?_) (fun c_57 => ?_)
          · refine z_aload_n h d_M_constant_67 rfl ?_
            refine z_cM h (ms_M_cubes x_22.1 (un x_22.2 5 0) _ lf G S hM2 h2 h5 hc2) (zf_M_cubes (by decide)) wm_M_116 wi_M_cubes ws_M_cubes d_M_constant_68 (Nat.le_of_ble_eq_true rfl) rfl (fun x_68 hx_68 => ?_)
            obtain ⟨k1, k2, k3, k4, k5⟩ := hx_68
            have q1 := alt_nn (P := pC S) pC_anti x_68.2
            have q3 : pC S 0 ≤ S := Nat.le_trans (Nat.div_le_self _ _) (Nat.div_le_self _ _)
            refine z_lv h rfl (Mid x_68.1.1 x_68.1.2.1 x_68.1.2.2.1 x_68.1.2.2.2 (x_68.2 + 1) _ k1 rfl (h1 _ k2) (Or.inr (Or.inr (Or.inr ⟨rfl, x_68.2, k4, k5⟩))) (by omega) ?_)
            refine Nat.lt_of_le_of_lt ?_ hc2
            omega
          · exact absurd c_57 (by decide)
        · exact absurd c_45 (by decide)
      · exact absurd c_33 (by decide)
set_option maxRecDepth 100000 in
set_option maxHeartbeats 4000000 in
theorem ms_M_golden (d n V : Nat → Nat) (lf : Int64) (G : MG) (p b : Nat) (hM : MV d n V) (hp : p ≤ 6000) (hb : 2 ≤ b ∧ b < 37) (hbn : b ^ p ≤ 2 ^ 20000) : MS y_M_golden c_M_golden 3 none (rm 5) [.ref 0, .int (nI p), .int (nI b)] (mW d n lf G) (zP (X := X4 × Nat) (fun _ => none) (fun q => mW q.1.1 q.1.2.1 q.1.2.2.2 G) (fun q => MV q.1.1 q.1.2.1 q.1.2.2.1 ∧ IsR (5 * b ^ (2 * p)) q.2 ∧ q.1.2.2.1 0 = (q.2 + b ^ p) / 2 ∧ q.1.2.2.1 1 = V 1)) := by
  refine MS_of (own := R_M) (by decide) rfl (fun _ => Nat.le_of_ble_eq_true rfl) (fun Z h hr => ?_)
  have hb9 := hb.2
  have hc1 : b ^ (2 * p) < capM := cap2 (bn2 hbn rfl) (by decide)
  have hc2 : 5 * b ^ (2 * p) < capM := cap2 (pw_fit (by decide) hbn rfl) (by decide)
  have hc3 := cap_rt (pw_fit (show 5 < 2 ^ 63 by decide) hbn rfl) (show 40063 ≤ 41900 by decide)
  have hc4 : b ^ p < capM := (Nat.lt_of_le_of_lt (Nat.le_mul_of_pos_right _ (by decide)) (sc_cap hbn).1)
  refine z_aload_n h d_M_golden_0 rfl ?_
  refine z_iconst (v := nI 2) h d_M_golden_1 (by decide) ?_
  refine z_iload_n h d_M_golden_2 rfl ?_
  refine z_iconst (v := nI 2) h d_M_golden_3 (by decide) ?_
  refine z_iload_n h d_M_golden_4 rfl ?_
  refine z_imulN h d_M_golden_5 ?_
  refine z_cM h (ms_M_power d n V lf G 2 b (2 * p) (by decide) hM (by omega) (by omega) hc1) (zf_M_power (by decide)) wm_M_102 wi_M_power ws_M_power d_M_golden_6 (Nat.le_of_ble_eq_true rfl) rfl (fun x_6 hx_6 => ?_)
  refine z_aload_n h d_M_golden_9 rfl ?_
  refine z_iconst (v := nI 2) h d_M_golden_10 (by decide) ?_
  refine z_ldc2_w (v := lN 5) h d_M_golden_11 wv_M_90 ?_
  refine z_lconst (v := lN 0) h d_M_golden_14 (by decide) ?_
  refine z_cM h (ms_M_grow x_6.1 x_6.2 _ lf G 2 5 0 (by decide) hx_6.1 (hx_6.2 2 (by decide)) (by decide) (by decide) (by rw [un_eq, Nat.add_zero]; exact hc2)) (zf_M_grow (by decide)) wm_M_60 wi_M_grow ws_M_grow d_M_golden_15 (Nat.le_of_ble_eq_true rfl) rfl (fun x_15 hx_15 => ?_)
  have hV2 := MV_MU hx_6 hx_15
  rw [un_eq, un_un, Nat.add_zero] at hV2
  refine z_aload_n h d_M_golden_18 rfl ?_
  refine z_iconst (v := nI 5) h d_M_golden_19 (by decide) ?_
  refine z_iconst (v := nI 2) h d_M_golden_20 (by decide) ?_
  refine z_cM h (ms_M_rootOf x_15.1 x_15.2 _ lf G 5 2 (by decide) (by decide) (by decide) hV2 (by rw [un_eq]; exact hc3)) (zf_M_rootOf (by decide)) wm_M_121 wi_M_rootOf ws_M_rootOf d_M_golden_21 (Nat.le_of_ble_eq_true rfl) rfl (fun x_21 hx_21 => ?_)
  obtain ⟨k1, k2, k3⟩ := hx_21
  rw [un_eq] at k2
  have hr24 := rt24 (show 5 < 2 ^ 63 by decide) hbn k2.1
  have hsum : x_21.2.2 5 + 1 * b ^ p < capM := cap2 (add_gen (C := 20033) hr24 hbn (by decide) (by decide)) (by decide)
  refine z_aload_n h d_M_golden_24 rfl ?_
  refine z_iconst (v := nI 2) h d_M_golden_25 (by decide) ?_
  refine z_iload_n h d_M_golden_26 rfl ?_
  refine z_iload_n h d_M_golden_27 rfl ?_
  refine z_cM h (ms_M_power x_21.1 x_21.2.1 x_21.2.2 lf G 2 b p (by decide) k1 (by omega) (by omega) hc4) (zf_M_power (by decide)) wm_M_102 wi_M_power ws_M_power d_M_golden_28 (Nat.le_of_ble_eq_true rfl) rfl (fun x_28 hx_28 => ?_)
  refine z_aload_n h d_M_golden_31 rfl ?_
  refine z_iconst (v := nI 5) h d_M_golden_32 (by decide) ?_
  refine z_iconst (v := nI 2) h d_M_golden_33 (by decide) ?_
  refine z_lconst (v := lN 1) h d_M_golden_34 (by decide) ?_
  refine z_cM h (ms_M_addTimes x_28.1 x_28.2 _ lf G 5 2 1 (by decide) (by decide) (by decide) hx_28 (by decide) (by rw [un_ne (by decide), un_eq]; exact hsum)) (zf_M_addTimes (by decide)) wm_M_50 wi_M_addTimes ws_M_addTimes d_M_golden_35 (Nat.le_of_ble_eq_true rfl) rfl (fun x_35 hx_35 => ?_)
  rw [un_ne (show 5 ≠ 2 by decide), un_eq, Nat.one_mul] at hx_35
  refine z_aload_n h d_M_golden_38 rfl ?_
  refine z_iconst (v := nI 5) h d_M_golden_39 (by decide) ?_
  refine z_ldc2_w (v := lN 2) h d_M_golden_40 wv_M_73 ?_
  refine z_cM h (ms_M_lower x_35.1 x_35.2 _ lf G 5 2 (by decide) hx_35 (by decide) (by decide)) (zf_M_lower (by decide)) wm_M_87 wi_M_lower ws_M_lower d_M_golden_43 (Nat.le_of_ble_eq_true rfl) rfl (fun x_43 hx_43 => ?_)
  rw [un_eq, un_un] at hx_43
  refine z_aload_n h d_M_golden_46 rfl ?_
  refine z_iconst (v := nI 0) h d_M_golden_47 (by decide) ?_
  refine z_iconst (v := nI 5) h d_M_golden_48 (by decide) ?_
  refine z_cM h (ms_M_copy x_43.1 x_43.2 _ _ G 0 5 (by decide) (by decide) hx_43) (zf_M_copy (by decide)) wm_M_70 wi_M_copy ws_M_copy d_M_golden_49 (Nat.le_of_ble_eq_true rfl) rfl (fun x_49 hx_49 => ?_)
  refine hr.2.2.2.1 _ _ _ _ _ (Nat.le_refl _) (Nat.le_refl _) rfl d_M_golden_52 ?_
  rw [un_eq] at hx_49
  have f0 : un (un (un x_21.2.2 2 (b ^ p)) 5 ((x_21.2.2 5 + b ^ p) / 2)) 0 ((x_21.2.2 5 + b ^ p) / 2) 0 = (x_21.2.2 5 + b ^ p) / 2 := un_eq
  have f1 : un (un (un x_21.2.2 2 (b ^ p)) 5 ((x_21.2.2 5 + b ^ p) / 2)) 0 ((x_21.2.2 5 + b ^ p) / 2) 1 = V 1 := by
    rw [un_ne (by decide), un_ne (by decide), un_ne (by decide), k3 1 (by decide) (by decide), un_ne (by decide)]
  generalize un (un (un x_21.2.2 2 (b ^ p)) 5 ((x_21.2.2 5 + b ^ p) / 2)) 0 ((x_21.2.2 5 + b ^ p) / 2) = W at *
  exact ⟨((x_49.1, x_49.2, W, _), x_21.2.2 5), rfl, rfl, hx_49, k2, f0, f1⟩
set_option maxRecDepth 100000 in
set_option maxHeartbeats 4000000 in
theorem ms_M_mill (v b v2 b2 t wh p b' ans : Nat) (w : List va_E) (h0 : RS v b v2 b2 t w) (hw : wh < 5) (hp : p ≤ 6000) (hb : 2 ≤ b' ∧ b' < 37) (hnb : p * bl (b' - 1) ≤ 20000) (hans : wh ≠ 2 → ∀ s, RefS wh (b' ^ p * 32768 ^ 4) s → ∀ w, w ≤ 8388608 → w ≤ s ∧ (s - w) / 32768 ^ 4 = ans ∧ (s + w) / 32768 ^ 4 = ans) (hla : wh ≠ 2 → bl ans ≤ 24000) : MS y_M_mill c_M_mill 4 (some .int) (rm 7) [.ref 0, .int (nI wh), .int (nI p), .int (nI b')] w (fun r w' => ∃ y, (wh ≠ 2 → y = ans) ∧ (wh = 2 → ∃ x, IsR (5 * b' ^ (2 * p)) x ∧ y = (x + b' ^ p) / 2) ∧ RP (nI (nd b' y)) y b' v2 b2 0 r w') := by
  obtain ⟨d, n, V, lf, m, kn, dg, wd, rfl, hM, hV0, hV1, hK, hbb, hbb2, hv, hv2⟩ := h0
  refine MS_of (own := R_M) (by decide) rfl (fun _ => Nat.le_of_ble_eq_true rfl) (fun Z h hr => ?_)
  have hbn := bn_le hb.1 hnb
  have hb9 := hb.2
  refine z_aload_n h d_M_mill_0 rfl ?_
  refine z_iload_n h d_M_mill_1 rfl ?_
  refine z_if_lt (tgt := 10) h d_M_mill_2 (by decide) (fun c_2 => ?_) (fun c_2 => ?_)
  · exact absurd c_2 (nI_pos (by omega))
  · refine z_iload_n h d_M_mill_5 rfl ?_
    refine z_iconst (v := nI 4) h d_M_mill_6 (by decide) ?_
    refine z_icmp_leN (tgt := 14) h d_M_mill_7 (by decide) (by omega) (fun c_7 => ?_) (fun c_7 => ?_)
    · refine z_iconst (v := nI 0) h d_M_mill_14 (by decide) ?_
      refine z_iload_n h d_M_mill_15 rfl ?_
      refine z_iload_n h d_M_mill_16 rfl ?_
      refine z_cM h (ms_M_isWrong0 d n lf b b2 m kn t dg wd p b' hp hb hnb) (zf_M_isWrong (by decide)) wm_M_150 wi_M_isWrong ws_M_isWrong d_M_mill_17 (Nat.le_of_ble_eq_true rfl) rfl (fun x_17 hx_17 => ?_)
      refine z_if_eqN (tgt := 25) h d_M_mill_20 (by decide) (by omega) (fun c_20 => ?_) (fun c_20 => ?_)
      · refine z_iload_n h d_M_mill_25 rfl ?_
        refine z_iconst (v := nI 2) h d_M_mill_26 (by decide) ?_
        refine z_icmp_neN (tgt := 39) h d_M_mill_27 (by decide) (by omega) (fun c_27 => ?_) (fun c_27 => ?_)
        · refine z_aload_n h d_M_mill_39 rfl ?_
          refine z_iload_n h d_M_mill_40 rfl ?_
          refine z_iload_n h d_M_mill_41 rfl ?_
          refine z_iload_n h d_M_mill_42 rfl ?_
          refine z_cM h (ms_M_constant d n V lf (G0 b b2 m kn 0 dg wd) wh p b' ans hM (by omega) hp hb hbn (hans c_27)) (zf_M_constant (by decide)) wm_M_157 wi_M_constant ws_M_constant d_M_mill_43 (Nat.le_of_ble_eq_true rfl) rfl (fun x_43 hx_43 => ?_)
          obtain ⟨k1, k2, k3⟩ := hx_43
          refine z_aload_n h d_M_mill_46 rfl ?_
          refine z_iload_n h d_M_mill_47 rfl ?_
          refine z_cM h (ms_M_told x_43.1 x_43.2.1 x_43.2.2.1 x_43.2.2.2 b b2 m kn 0 ans v2 b' dg wd k1 k2 (by rw [k3, hV1]) hb (hla c_27)) (zf_M_told (by decide)) wm_M_160 wi_M_told ws_M_told d_M_mill_48 (Nat.le_of_ble_eq_true rfl) rfl (fun x_48 hx_48 => ?_)
          refine hr.1 _ _ _ _ _ _ (Nat.le_refl _) (Nat.le_refl _) rfl d_M_mill_51 ?_
          exact ⟨ans, fun _ => rfl, fun q => absurd q c_27, rfl, RS_of hx_48 hb hbb2 (hla c_27) hv2⟩
        · refine z_aload_n h d_M_mill_30 rfl ?_
          refine z_iload_n h d_M_mill_31 rfl ?_
          refine z_iload_n h d_M_mill_32 rfl ?_
          refine z_cM h (ms_M_golden d n V lf (G0 b b2 m kn 0 dg wd) p b' hM hp hb hbn) (zf_M_golden (by decide)) wm_M_154 wi_M_golden ws_M_golden d_M_mill_33 (Nat.le_of_ble_eq_true rfl) rfl (fun x_33 hx_33 => ?_)
          refine z_goto (tgt := 46) h d_M_mill_36 (by decide) ?_
          obtain ⟨k1, k2, k3, k4⟩ := hx_33
          have hly : bl ((x_33.2 + b' ^ p) / 2) ≤ 24000 := by
            have hr24 := rt24 (show 5 < 2 ^ 63 by decide) hbn k2.1
            have e1 := add_gen (C := 20033) hr24 hbn (by decide) (by decide)
            rw [Nat.one_mul] at e1
            exact Nat.le_trans (bl_lt (Nat.lt_of_le_of_lt (Nat.div_le_self _ _) e1)) (by decide)
          refine z_aload_n h d_M_mill_46 rfl ?_
          refine z_iload_n h d_M_mill_47 rfl ?_
          refine z_cM h (ms_M_told x_33.1.1 x_33.1.2.1 x_33.1.2.2.1 x_33.1.2.2.2 b b2 m kn 0 _ v2 b' dg wd k1 k3 (by rw [k4, hV1]) hb hly) (zf_M_told (by decide)) wm_M_160 wi_M_told ws_M_told d_M_mill_48 (Nat.le_of_ble_eq_true rfl) rfl (fun x_48 hx_48 => ?_)
          refine hr.1 _ _ _ _ _ _ (Nat.le_refl _) (Nat.le_refl _) rfl d_M_mill_51 ?_
          exact ⟨_, fun q => absurd c_27 q, fun _ => ⟨x_33.2, k2, rfl⟩, rfl, RS_of hx_48 hb hbb2 hly hv2⟩
      · exact absurd c_20 (by decide)
    · exact absurd c_7 (by omega)
set_option maxRecDepth 100000 in
set_option maxHeartbeats 4000000 in
theorem mf_M_mill1 (v b v2 b2 t : Nat) (a x y : Int32) (w : List va_E) (h0 : RS v b v2 b2 t w) (hx : a < 0 ∨ 4 < a ∨ ¬ (okN x ∧ okB y)) : MS y_M_mill c_M_mill 4 (some .int) (rm 7) [.ref 0, .int a, .int x, .int y] w (RP 0 v b v2 b2 1) := by
  obtain ⟨d, n, V, lf, m, kn, dg, wd, rfl, hM, hV0, hV1, hK, hbb, hbb2, hv, hv2⟩ := h0
  refine MS_of (own := R_M) (by decide) rfl (fun _ => Nat.le_of_ble_eq_true rfl) (fun Z h hr => ?_)
  have T : ∀ u, u ≤ 1 → (u = 1 ∨ ¬ (okN x ∧ okB y)) → Z 0 0 (mW d n lf (G0 b b2 m kn t dg wd)) [(0, .ref 0), (1, .int a), (2, .int x), (3, .int y)] 15 [.int (nI u), .ref 0] := by
    intro u hu hux
    refine z_iload_n h d_M_mill_15 rfl ?_
    refine z_iload_n h d_M_mill_16 rfl ?_
    refine z_cM h (ms_M_isWrong1 d n lf b b2 m kn t dg wd u x y hu hux) (zf_M_isWrong (by decide)) wm_M_150 wi_M_isWrong ws_M_isWrong d_M_mill_17 (Nat.le_of_ble_eq_true rfl) rfl (fun x_17 hx_17 => ?_)
    refine z_if_eqN (tgt := 25) h d_M_mill_20 (by decide) (by omega) (fun c_20 => ?_) (fun c_20 => ?_)
    · exact absurd c_20 (by decide)
    · refine z_iconst (v := nI 0) h d_M_mill_23 (by decide) ?_
      refine hr.1 _ _ _ _ _ _ (Nat.le_refl _) (Nat.le_refl _) rfl d_M_mill_24 ?_
      exact ⟨rfl, d, n, V, lf, m, kn, dg, wd, rfl, hM, hV0, hV1, hK, hbb, hbb2, hv, hv2⟩
  refine z_aload_n h d_M_mill_0 rfl ?_
  refine z_iload_n h d_M_mill_1 rfl ?_
  refine z_if_lt (tgt := 10) h d_M_mill_2 (by decide) (fun c_2 => ?_) (fun c_2 => ?_)
  · refine z_iconst (v := nI 1) h d_M_mill_10 (by decide) ?_
    refine z_goto (tgt := 15) h d_M_mill_11 (by decide) ?_
    exact z_lv h rfl (T 1 (by decide) (Or.inl rfl))
  · refine z_iload_n h d_M_mill_5 rfl ?_
    refine z_iconst (v := 4) h d_M_mill_6 (by decide) ?_
    refine z_icmp_le (tgt := 14) h d_M_mill_7 (by decide) (fun c_7 => ?_) (fun c_7 => ?_)
    · refine z_iconst (v := nI 0) h d_M_mill_14 (by decide) ?_
      refine z_lv h rfl (T 0 (by decide) (Or.inr ((hx.resolve_left c_2).resolve_left (Int32.not_lt.mpr c_7))))
    · refine z_iconst (v := nI 1) h d_M_mill_10 (by decide) ?_
      refine z_goto (tgt := 15) h d_M_mill_11 (by decide) ?_
      exact z_lv h rfl (T 1 (by decide) (Or.inl rfl))
set_option maxRecDepth 100000 in
set_option maxHeartbeats 4000000 in
theorem mf_M_mill2 (v b v2 b2 t wh p b' : Nat) (w : List va_E) (h0 : RS v b v2 b2 t w) (hw : wh < 5) (hp : p ≤ 6000) (hb : 2 ≤ b' ∧ b' < 37) (hnb : ¬ p * bl (b' - 1) ≤ 20000) : MS y_M_mill c_M_mill 4 (some .int) (rm 7) [.ref 0, .int (nI wh), .int (nI p), .int (nI b')] w (RP 0 v b v2 b2 2) := by
  obtain ⟨d, n, V, lf, m, kn, dg, wd, rfl, hM, hV0, hV1, hK, hbb, hbb2, hv, hv2⟩ := h0
  refine MS_of (own := R_M) (by decide) rfl (fun _ => Nat.le_of_ble_eq_true rfl) (fun Z h hr => ?_)
  refine z_aload_n h d_M_mill_0 rfl ?_
  refine z_iload_n h d_M_mill_1 rfl ?_
  refine z_if_lt (tgt := 10) h d_M_mill_2 (by decide) (fun c_2 => ?_) (fun c_2 => ?_)
  · exact absurd c_2 (nI_pos (by omega))
  · refine z_iload_n h d_M_mill_5 rfl ?_
    refine z_iconst (v := nI 4) h d_M_mill_6 (by decide) ?_
    refine z_icmp_leN (tgt := 14) h d_M_mill_7 (by decide) (by omega) (fun c_7 => ?_) (fun c_7 => ?_)
    · refine z_iconst (v := nI 0) h d_M_mill_14 (by decide) ?_
      refine z_iload_n h d_M_mill_15 rfl ?_
      refine z_iload_n h d_M_mill_16 rfl ?_
      refine z_cM h (ms_M_isWrong2 d n lf b b2 m kn t dg wd p b' hp hb hnb) (zf_M_isWrong (by decide)) wm_M_150 wi_M_isWrong ws_M_isWrong d_M_mill_17 (Nat.le_of_ble_eq_true rfl) rfl (fun x_17 hx_17 => ?_)
      refine z_if_eqN (tgt := 25) h d_M_mill_20 (by decide) (by omega) (fun c_20 => ?_) (fun c_20 => ?_)
      · exact absurd c_20 (by decide)
      · refine z_iconst (v := nI 0) h d_M_mill_23 (by decide) ?_
        refine hr.1 _ _ _ _ _ _ (Nat.le_refl _) (Nat.le_refl _) rfl d_M_mill_24 ?_
        exact ⟨rfl, d, n, V, lf, m, kn, dg, wd, rfl, hM, hV0, hV1, hK, hbb, hbb2, hv, hv2⟩
    · exact absurd c_7 (by omega)
