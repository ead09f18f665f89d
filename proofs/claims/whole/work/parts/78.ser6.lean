/-! DigitMill$Series: sumLogTwo, sumCubes -/
theorem nI_neg (k : Nat) : -nI k = iI (-(k : Int)) := by rw [nI_iI]; exact (Int32.ofInt_neg (k : Int)).symm
theorem mul_neg_c {a b : Int} : -a * b = -(a * b) := Int.neg_mul a b
set_option maxRecDepth 100000 in
set_option maxHeartbeats 4000000 in
theorem ms_S_sumLogTwo (D Q KM : Nat) (H : Nat → Nat) (r : Nat → Nat → Nat) (dp : Nat → Nat) (wk sm : Nat → Int) (hD : 1 ≤ D ∧ D ≤ 704) (hT : 1073741824 ^ D ≤ Q) (hs : ∀ i, i ≤ D → sm i = 0) (hKM : 7052 ≤ KM) (hH : ∀ k, k < KM → H k = (Q - H (k + 1)) * (k + 1) / (4 * (2 * (k + 1) + 1))) (hHQ : ∀ k, k ≤ KM → H k ≤ Q) : MS y_S_sumLogTwo c_S_sumLogTwo 2 none (rm 5) [.ref 0] (sX D r dp wk sm) (zP (X := (Nat → Int) × (Nat → Int)) (fun _ => none) (fun q => sX D r dp q.1 q.2) (fun q => lbd q.2 D 1152921504606846976 ∧ (bv q.2 (D + 1) * Q - ((3 * (Q - H 0) / 4 : Nat) : Int) * (1073741824 ^ D : Nat)).natAbs ≤ 536870912 * Q)) := by
  refine MS_of (own := R_S) (by decide) rfl (fun _ => Nat.le_of_ble_eq_true rfl) (fun Z h hr => ?_)
  obtain ⟨hD1, hD2⟩ := hD
  have hvT : ∀ (u : Nat → Int) (k : Nat), k ≤ KM → bv (ui u D (u D + 1)) (D + 1) * Q - ((Q - H k : Nat) : Int) * (1073741824 ^ D : Nat) = bv u (D + 1) * Q - (-((H k : Nat) : Int)) * (1073741824 ^ D : Nat) := fun u k hk => by
    rw [bv_ui (by omega), Int.ofNat_sub (hHQ k hk), Int.natCast_pow, show ((1073741824 : Nat) : Int) = 1073741824 from rfl, Int.add_mul, Int.sub_mul, Int.one_mul, Int.neg_mul, Int.mul_comm (Q : Int)]
    omega
  obtain ⟨K, hK⟩ : ∃ K, K = (D * 30 + 32) / 3 + 1 := ⟨_, rfl⟩
  have hK1 : K ≤ 7052 := by omega
  have L : ∀ (k : Nat) (u : Nat → Int), k ≤ K → (∀ i, i < min D (3 * k / 30 - 1) → u i = 0) → lbd u D 35184372088832 → 1073741824 * (bv u (D + 1) * Q - (-((H k : Nat) : Int)) * (1073741824 ^ D : Nat)).natAbs ≤ Q * (2147483648 * (K + 1) + (1 + 8 * (K * (K + 1) - k * (k + 1))) * 8 ^ k) → Z 0 0 (sX D r dp u sm) [(0, .ref 0), (1, .int (nI k))] 13 [] := by
    intro k
    induction k with
    | zero =>
      intro u hk hz hb he
      have e1 := e30 (e := 40000) he (by
        have : K * (K + 1) ≤ 7052 * 7053 := Nat.mul_le_mul hK1 (by omega)
        rw [Nat.zero_mul, Nat.sub_zero, Nat.pow_zero, Nat.mul_one]
        omega)
      rw [← hvT u 0 (Nat.zero_le _)] at e1
      refine z_iload_n h d_S_sumLogTwo_13 rfl ?_
      refine z_iconst (v := nI 1) h d_S_sumLogTwo_14 (by decide) ?_
      refine z_icmp_ltN (tgt := 57) h d_S_sumLogTwo_15 (by decide) (by omega) (fun c_15 => ?_) (fun c_15 => ?_)
      · refine z_aload_n h d_S_sumLogTwo_57 rfl ?_
        refine z_get (C := R_S) (T := F_S) (N := 5) h 2 d_S_sumLogTwo_58 in_S rfl (by decide) wf_S_20 rfl rfl ?_
        refine z_aload_n h d_S_sumLogTwo_61 rfl ?_
        refine z_get (C := R_S) (T := F_S) (N := 5) h 4 d_S_sumLogTwo_62 in_S rfl (by decide) wf_S_36 rfl rfl ?_
        refine z_dup2_11 h d_S_sumLogTwo_65 rfl rfl ?_
        refine z_laloadI h d_S_sumLogTwo_66 rfl (by omega) ?_
        refine z_lconst (v := 1) h d_S_sumLogTwo_67 (by decide) ?_
        rw [show (1 : Int64) = lI 1 from rfl]
        refine z_laddI h d_S_sumLogTwo_68 ?_
        refine z_lastoreI h d_S_sumLogTwo_69 rfl (by omega) ?_
        show Z 0 0 (sX D r dp (ui u D (u D + 1)) sm) _ _ _
        have hb1 : lbd (ui u D (u D + 1)) D 35184372088833 := fun i hi => by
          unfold ui
          split
          · have := hb D (Nat.le_refl _)
            omega
          · have := hb i hi
            omega
        generalize ui u D (u D + 1) = u1 at *
        have f1 := ms_S_fold D 4 0 3 3 35184372088833 (35184372088833 / 4 + 1) r dp u1 sm (by omega) (by decide) (by omega) (by decide) (by decide) hb1 (by decide) (by decide)
        refine z_aload_n h d_S_sumLogTwo_70 rfl ?_
        refine z_iconst (v := nI 3) h d_S_sumLogTwo_71 (by decide) ?_
        refine z_iconst (v := nI 4) h d_S_sumLogTwo_72 (by decide) ?_
        refine z_iconst (v := nI 0) h d_S_sumLogTwo_73 (by decide) ?_
        refine z_cR h (f1) (zf_S_fold (by decide)) wm_S_69 wi_S_fold ws_S_fold d_S_sumLogTwo_74 (Nat.le_of_ble_eq_true rfl) rfl (fun x_74 hx_74 => ?_)
        obtain ⟨-, b2, b3, b4, b5⟩ := hx_74
        obtain ⟨u2, pt, rest⟩ := x_74
        show Z 0 0 (sX D r dp u2 sm) _ _ _
        have g1 := div_fl (m := 3 * (Q - H 0)) (show 0 < 4 by decide)
        rw [show ((3 * (Q - H 0) : Nat) : Int) = 3 * ((Q - H 0 : Nat) : Int) from Int.natCast_mul _ _] at g1
        have v1 := fold_fin (m := 1) b3 b4 b5 g1.1 g1.2 hT (by decide) rfl (by decide) 40000 e1
        replace v1 : (bv u2 (D + 1) * Q - ((3 * (Q - H 0) / 4 : Nat) : Int) * (1073741824 ^ D : Nat)).natAbs ≤ (1 * 40000 + 3 + 1) * Q := v1
        replace b2 : ∀ i, 0 ≤ i → i ≤ D → -((1073741824 + (35184372088833 / 4 + 1)) * 3) ≤ u2 i ∧ u2 i ≤ (1073741824 + (35184372088833 / 4 + 1)) * 3 := b2
        refine z_aload_n h d_S_sumLogTwo_77 rfl ?_
        refine z_cR h (ms_S_gather D r dp u2 sm hD2) (zf_S_gather (by decide)) wm_S_73 wi_S_gather ws_S_gather d_S_sumLogTwo_78 (Nat.le_of_ble_eq_true rfl) rfl (fun x_78 hx_78 => ?_)
        refine hr.2.2.2.1 _ _ _ _ _ (Nat.le_refl _) (Nat.le_refl _) rfl d_S_sumLogTwo_81 ?_
        refine ⟨(u2, x_78), rfl, rfl, fun i hi => ?_, ?_⟩
        · have z1 := hx_78 i hi
          have z2 := hs i hi
          have z4 := b2 i (by omega) hi
          show _ ≤ x_78 i ∧ x_78 i ≤ _
          omega
        · show (bv x_78 (D + 1) * Q - _ * _).natAbs ≤ _
          have z1 : bv x_78 (D + 1) = bv u2 (D + 1) := bv_congr (fun i hi => by rw [hx_78 i (by omega), hs i (by omega), Int.zero_add])
          rw [z1]
          exact Nat.le_trans v1 (Nat.mul_le_mul_right Q (by decide))
      · exact absurd c_15 (by omega)
    | succ k ih =>
      intro u hk hz hb he
      have hmono : min D (3 * k / 30 - 1) ≤ min D (3 * (k + 1) / 30 - 1) := by omega
      have hlb := low_b (D := D) (q := 3 * (k + 1)) (w := 8 ^ (k + 1)) (by rw [Nat.pow_mul]; exact Nat.le_refl _)
      generalize hlow : min D (3 * (k + 1) / 30 - 1) = low at *
      have hlD : low ≤ D := by omega
      have hHk := hH k (by omega)
      have hfl := div_fl (m := (Q - H (k + 1)) * (k + 1)) (show 0 < 4 * (2 * (k + 1) + 1) by omega)
      rw [← hHk] at hfl
      have hcast : (((Q - H (k + 1)) * (k + 1) : Nat) : Int) = ((k + 1 : Nat) : Int) * ((Q - H (k + 1) : Nat) : Int) := by rw [Int.natCast_mul, Int.mul_comm]
      rw [hcast] at hfl
      have hfl1 : ((4 * (2 * (k + 1) + 1) : Nat) : Int) * (-((H k : Nat) : Int)) ≤ (-((k + 1 : Nat) : Int)) * ((Q - H (k + 1) : Nat) : Int) + ((4 * (2 * (k + 1) + 1) : Nat) : Int) := by
        rw [Int.mul_neg, Int.neg_mul]
        omega
      have hfl2 : (-((k + 1 : Nat) : Int)) * ((Q - H (k + 1) : Nat) : Int) ≤ ((4 * (2 * (k + 1) + 1) : Nat) : Int) * (-((H k : Nat) : Int)) + ((4 * (2 * (k + 1) + 1) : Nat) : Int) := by
        rw [Int.mul_neg, Int.neg_mul]
        omega
      have hPL := fl_div (F := k + 1) (x := 8) (dv := 4 * (2 * (k + 1) + 1)) (L := 35184372088833) (by omega) (by omega) (by decide)
      have hLP : (35184372088833 : Int) ≤ ((4 * (2 * (k + 1) + 1) : Nat) : Int) * ((35184372088833 / (4 * (2 * (k + 1) + 1)) + 1 : Nat) : Int) := by
        have := Nat.lt_mul_div_succ 35184372088833 (show 0 < 4 * (2 * (k + 1) + 1) by omega)
        rw [← Int.natCast_mul]
        omega
      have hdvE : 4 * (2 * (k + 1) + 1) = 4 * (2 * (k + 1) + 1) := rfl
      refine z_iload_n h d_S_sumLogTwo_13 rfl ?_
      refine z_iconst (v := nI 1) h d_S_sumLogTwo_14 (by decide) ?_
      refine z_icmp_ltN (tgt := 57) h d_S_sumLogTwo_15 (by decide) (by omega) (fun c_15 => ?_) (fun c_15 => ?_)
      · exact absurd c_15 (by omega)
      · refine z_aload_n h d_S_sumLogTwo_18 rfl ?_
        refine z_get (C := R_S) (T := F_S) (N := 5) h 2 d_S_sumLogTwo_19 in_S rfl (by decide) wf_S_20 rfl rfl ?_
        refine z_aload_n h d_S_sumLogTwo_22 rfl ?_
        refine z_get (C := R_S) (T := F_S) (N := 5) h 4 d_S_sumLogTwo_23 in_S rfl (by decide) wf_S_36 rfl rfl ?_
        refine z_dup2_11 h d_S_sumLogTwo_26 rfl rfl ?_
        refine z_laloadI h d_S_sumLogTwo_27 rfl (by omega) ?_
        refine z_lconst (v := 1) h d_S_sumLogTwo_28 (by decide) ?_
        rw [show (1 : Int64) = lI 1 from rfl]
        refine z_laddI h d_S_sumLogTwo_29 ?_
        refine z_lastoreI h d_S_sumLogTwo_30 rfl (by omega) ?_
        show Z 0 0 (sX D r dp (ui u D (u D + 1)) sm) _ _ _
        refine z_aload_n h d_S_sumLogTwo_31 rfl ?_
        refine z_iload_n h d_S_sumLogTwo_32 rfl ?_
        refine z_ineg h d_S_sumLogTwo_33 ?_
        rw [nI_neg]
        refine z_iconst (v := nI 4) h d_S_sumLogTwo_34 (by decide) ?_
        refine z_iconst (v := nI 2) h d_S_sumLogTwo_35 (by decide) ?_
        refine z_iload_n h d_S_sumLogTwo_36 rfl ?_
        refine z_imulN h d_S_sumLogTwo_37 ?_
        refine z_iconst (v := nI 1) h d_S_sumLogTwo_38 (by decide) ?_
        refine z_iaddN h d_S_sumLogTwo_39 ?_
        refine z_imulN h d_S_sumLogTwo_40 ?_
        refine z_aload_n h d_S_sumLogTwo_41 rfl ?_
        refine z_iconst (v := nI 3) h d_S_sumLogTwo_42 (by decide) ?_
        refine z_iload_n h d_S_sumLogTwo_43 rfl ?_
        refine z_imulN h d_S_sumLogTwo_44 ?_
        refine z_cR h (ms_S_lowest D (3 * (k + 1)) r dp _ sm (by omega) (by omega)) (zf_S_lowest (by decide)) wm_S_84 wi_S_lowest ws_S_lowest d_S_sumLogTwo_45 (Nat.le_of_ble_eq_true rfl) rfl (fun x_45 hx_45 => ?_)
        rw [hlow]
        have hz1 : ∀ i, i < low → ui u D (u D + 1) i = 0 := fun i hi => by rw [ui_ne (by omega)]; exact hz i hi
        have hb1 : lbd (ui u D (u D + 1)) D 35184372088833 := fun i hi => by
          unfold ui
          split
          · have := hb D (Nat.le_refl _)
            omega
          · have := hb i hi
            omega
        have hv1 := hvT u (k + 1) (by omega)
        generalize ui u D (u D + 1) = u1 at *
        have hfo := ms_S_fold D (4 * (2 * (k + 1) + 1)) low (k + 1) (-((k + 1 : Nat) : Int)) 35184372088833 ((35184372088833 / (4 * (2 * (k + 1) + 1)) + 1 : Nat) : Int) r dp u1 sm (by omega) (by omega) hlD (by omega) (by omega) hb1 (by decide) ⟨Int.natCast_nonneg _, hLP⟩
        refine z_cR h (hfo) (zf_S_fold (by decide)) wm_S_69 wi_S_fold ws_S_fold d_S_sumLogTwo_48 (Nat.le_of_ble_eq_true rfl) rfl (fun x_48 hx_48 => ?_)
        obtain ⟨k1, k2, k3, k4, k5⟩ := hx_48
        obtain ⟨u2, pt, rest⟩ := x_48
        show Z 0 0 (sX D r dp u2 sm) _ _ _
        replace k1 : ∀ i, i < low → u2 i = u1 i := k1
        have hst := fold_val (x := 8) (Q := Q) (G := ((Q - H (k + 1) : Nat) : Int)) (G' := -((H k : Nat) : Int)) (F := k + 1) hlD hz1 k1 k3 k4 k5 hfl1 hfl2 hT (by omega) (by omega) (by omega)
        rw [hv1] at hst
        have hC := C_step (x := 8) hk
        have her := er_step (F' := k + 1) (A' := 2147483648 * (K + 1)) (C' := 1 + 8 * (K * (K + 1) - k * (k + 1))) (w := 8 ^ (k + 1)) (w' := 8 ^ k) (by decide) hst he (by rw [Nat.mul_left_comm]; exact Nat.mul_le_mul_left _ hlb) (A_step (by decide) (by omega)) (by omega) (by rw [Nat.pow_succ, Nat.mul_comm])
        refine z_iincS h 1 d_S_sumLogTwo_51 rfl (by decide) (by decide) (by omega) ?_
        refine z_goto (tgt := 13) h d_S_sumLogTwo_54 (by decide) ?_
        rw [Nat.add_sub_cancel]
        refine z_lv h rfl (ih u2 (by omega) (fun i hi => ?_) (fun i hi => ?_) her)
        · rw [k1 i (by omega)]
          exact hz1 i (by omega)
        · by_cases q : i < low
          · rw [k1 i q, hz1 i q]
            decide
          · have hq := k2 i (by omega) hi
            have hbd : (1073741824 + ((35184372088833 / (4 * (2 * (k + 1) + 1)) + 1 : Nat) : Int)) * ((k + 1 : Nat) : Int) ≤ 35184372088832 := by
              have : (1073741824 + (35184372088833 / (4 * (2 * (k + 1) + 1)) + 1)) * (k + 1) ≤ 35184372088832 := by
                rw [Nat.add_mul, Nat.add_mul, Nat.mul_comm (35184372088833 / (4 * (2 * (k + 1) + 1)))]
                omega
              exact bd_cast this
            exact ⟨Int.le_trans (Int.neg_le_neg hbd) hq.1, Int.le_trans hq.2 hbd⟩
  have hT30 : 1073741824 * 1073741824 ^ D ≤ 8 ^ K := by
    rw [Nat.mul_comm, ← Nat.pow_succ, p30, show (8 : Nat) = 2 ^ 3 from rfl, ← Nat.pow_mul]
    exact Nat.pow_le_pow_right (by decide) (by omega)
  have hini : 1073741824 * (bv (fiJ wk 705 0) (D + 1) * Q - (-((H K : Nat) : Int)) * (1073741824 ^ D : Nat)).natAbs ≤ Q * (2147483648 * (K + 1) + (1 + 8 * (K * (K + 1) - K * (K + 1))) * 8 ^ K) := by
    have e1 := ini_er (w := wk) (D := D) (Q := Q) (g := H K) (A := 2147483648 * (K + 1)) (C := 1 + 8 * (K * (K + 1) - K * (K + 1))) (X := 8 ^ K) hD2 (by
      rw [Nat.sub_self, Nat.mul_zero, Nat.add_zero, Nat.one_mul]
      exact Nat.mul_le_mul (hHQ K (by omega)) hT30)
    rw [bv_fiJ hD2, Int.zero_mul, Int.zero_sub, Int.natAbs_neg] at e1 ⊢
    rw [Int.neg_mul, Int.natAbs_neg]
    exact e1
  refine z_aload_n h d_S_sumLogTwo_0 rfl ?_
  refine z_cR h (ms_S_begin D r dp wk sm) (zf_S_begin (by decide)) wm_S_77 wi_S_begin ws_S_begin d_S_sumLogTwo_1 (Nat.le_of_ble_eq_true rfl) rfl (fun x_1 hx_1 => ?_)
  refine z_aload_n h d_S_sumLogTwo_4 rfl ?_
  refine z_cR h (ms_S_bitsNeeded D r dp (fiJ wk 705 0) sm) (zf_S_bitsNeeded (by decide)) wm_S_80 wi_S_bitsNeeded ws_S_bitsNeeded d_S_sumLogTwo_5 (Nat.le_of_ble_eq_true rfl) rfl (fun x_5 hx_5 => ?_)
  refine z_iconst (v := nI 3) h d_S_sumLogTwo_8 (by decide) ?_
  refine z_idivN h d_S_sumLogTwo_9 (by omega) ?_
  refine z_iconst (v := nI 1) h d_S_sumLogTwo_10 (by decide) ?_
  refine z_iaddN h d_S_sumLogTwo_11 ?_
  rw [← hK]
  refine z_istore_n h d_S_sumLogTwo_12 (by decide) ?_
  refine z_lv h rfl (L K (fiJ wk 705 0) (Nat.le_refl _) (fun i hi => fiJ_0 (by omega)) (fun i hi => ?_) hini)
  rw [fiJ_0 (by omega)]
  decide
