/-! DigitMill$Series: sumE -/
def bs : Nat → Nat
  | 0 => 0
  | k + 1 => bs k + (bl (k + 1) - 1)
def fct : Nat → Nat
  | 0 => 1
  | k + 1 => (k + 1) * fct k
theorem bs_fct : ∀ k, 2 ^ bs k ≤ fct k
  | 0 => Nat.le_refl _
  | k + 1 => by
    show 2 ^ (bs k + (bl (k + 1) - 1)) ≤ (k + 1) * fct k
    rw [Nat.pow_add, Nat.mul_comm]
    exact Nat.mul_le_mul (bl_lb (by omega)) (bs_fct k)
theorem bl_mono9 {k : Nat} (h : 256 ≤ k) : 9 ≤ bl k := by
  have h1 := bl_ub k
  apply Nat.le_of_not_lt
  intro q
  have : 2 ^ bl k ≤ 2 ^ 8 := Nat.pow_le_pow_right (by decide) (by omega)
  have e : (2 : Nat) ^ 8 = 256 := by decide
  omega
theorem bs_lo (k : Nat) : 8 * k ≤ bs k + 2040 := by
  induction k with
  | zero => exact Nat.zero_le _
  | succ k ih =>
    have e : bs (k + 1) = bs k + (bl (k + 1) - 1) := rfl
    by_cases q : 256 ≤ k + 1
    · have := bl_mono9 q
      omega
    · omega
theorem bs_le : ∀ k, bs k ≤ k * k
  | 0 => Nat.zero_le _
  | k + 1 => by
    have ih := bs_le k
    have h1 : bl (k + 1) ≤ k + 1 := bl_lt (Nat.lt_pow_self (by decide))
    show bs k + (bl (k + 1) - 1) ≤ (k + 1) * (k + 1)
    rw [Nat.add_mul, Nat.mul_add]
    omega
theorem bs_ge : ∀ k, 4 ≤ k → k ≤ bs k
  | 0, h => absurd h (by decide)
  | k + 1, h => by
    show _ ≤ bs k + (bl (k + 1) - 1)
    by_cases q : 4 ≤ k
    · have ih := bs_ge k q
      have h1 : 2 ≤ bl (k + 1) := by
        apply Nat.le_of_not_lt
        intro q2
        have h2 := bl_ub (k + 1)
        have : 2 ^ bl (k + 1) ≤ 2 ^ 1 := Nat.pow_le_pow_right (by decide) (by omega)
        omega
      omega
    · obtain rfl : k = 3 := by omega
      decide
theorem bl_small2 {k : Nat} (h : k ≤ 3000) : bl k ≤ 12 := bl_lt (Nat.lt_of_le_of_lt h (by decide))
theorem bs_big {k : Nat} : k ≤ 3000 → bs k ≤ 12 * k := by
  induction k with
  | zero => intro _; exact Nat.zero_le _
  | succ k ih =>
    intro h
    have h1 := ih (by omega)
    have h2 := bl_small2 h
    show bs k + (bl (k + 1) - 1) ≤ 12 * (k + 1)
    omega
theorem E_step {k K : Nat} (h : k + 1 ≤ K) : 1 + (K * (K + 1) - (k + 1) * (k + 1 + 1)) + (k + 1) * 1 ≤ 1 + (K * (K + 1) - k * (k + 1)) := by
  have := C_step (x := 1) h
  omega
set_option maxRecDepth 100000 in
set_option maxHeartbeats 4000000 in
theorem ms_S_sumE (D Q : Nat) (G : Nat → Nat) (r : Nat → Nat → Nat) (dp : Nat → Nat) (wk sm : Nat → Int) (hD : 1 ≤ D ∧ D ≤ 704) (hT : 1073741824 ^ D ≤ Q) (hs : ∀ i, i ≤ D → sm i = 0) (hG : ∀ k, k < 3000 → G k = (G (k + 1) + Q) / (k + 1)) (hGQ : ∀ k, 1 ≤ k → k ≤ 3000 → G k ≤ Q) : MS y_S_sumE c_S_sumE 4 none (rm 5) [.ref 0] (sX D r dp wk sm) (zP (X := (Nat → Int) × (Nat → Int)) (fun _ => none) (fun q => sX D r dp q.1 q.2) (fun q => lbd q.2 D 1152921504606846976 ∧ (bv q.2 (D + 1) * Q - ((G 0 + Q : Nat) : Int) * (1073741824 ^ D : Nat)).natAbs ≤ 536870912 * Q)) := by
  refine MS_of (own := R_S) (by decide) rfl (fun _ => Nat.le_of_ble_eq_true rfl) (fun Z h hr => ?_)
  obtain ⟨hD1, hD2⟩ := hD
  have L : ∀ (K k : Nat), K ≤ 3000 → ∀ (u : Nat → Int), k ≤ K → (∀ i, i < min D (bs k / 30 - 1) → u i = 0) → lbd u D (if k = 0 then 17179869184 else 8589934592) → 1073741824 * (bv u (D + 1) * Q - ((G k : Nat) : Int) * (1073741824 ^ D : Nat)).natAbs ≤ Q * ((if k = 0 then 8589934592 else 4294967296) + (1 + (K * (K + 1) - k * (k + 1))) * fct k) → Z 0 0 (sX D r dp u sm) [(0, .ref 0), (1, .int (nI (bs k))), (2, .int (nI K)), (3, .int (nI k))] 41 [] := by
    intro K k hK
    induction k with
    | zero =>
      intro u hk hz hb he
      rw [if_pos rfl] at hb he
      have e1 := e30 (e := 20000) he (by
        have : K * (K + 1) ≤ 3000 * 3001 := Nat.mul_le_mul hK (by omega)
        rw [Nat.zero_mul, Nat.sub_zero, show fct 0 = 1 from rfl, Nat.mul_one]
        omega)
      refine z_iload_n h d_S_sumE_41 rfl ?_
      refine z_iconst (v := nI 1) h d_S_sumE_42 (by decide) ?_
      refine z_icmp_ltN (tgt := 85) h d_S_sumE_43 (by decide) (by omega) (fun c_43 => ?_) (fun c_43 => ?_)
      · refine z_aload_n h d_S_sumE_85 rfl ?_
        refine z_get (C := R_S) (T := F_S) (N := 5) h 2 d_S_sumE_86 in_S rfl (by decide) wf_S_20 rfl rfl ?_
        refine z_aload_n h d_S_sumE_89 rfl ?_
        refine z_get (C := R_S) (T := F_S) (N := 5) h 4 d_S_sumE_90 in_S rfl (by decide) wf_S_36 rfl rfl ?_
        refine z_dup2_11 h d_S_sumE_93 rfl rfl ?_
        refine z_laloadI h d_S_sumE_94 rfl (by omega) ?_
        refine z_lconst (v := 1) h d_S_sumE_95 (by decide) ?_
        rw [show (1 : Int64) = lI 1 from rfl]
        refine z_laddI h d_S_sumE_96 ?_
        refine z_lastoreI h d_S_sumE_97 rfl (by omega) ?_
        show Z 0 0 (sX D r dp (ui u D (u D + 1)) sm) _ _ _
        refine z_aload_n h d_S_sumE_98 rfl ?_
        refine z_cR h (ms_S_gather D r dp (ui u D (u D + 1)) sm hD2) (zf_S_gather (by decide)) wm_S_73 wi_S_gather ws_S_gather d_S_sumE_99 (Nat.le_of_ble_eq_true rfl) rfl (fun x_99 hx_99 => ?_)
        refine hr.2.2.2.1 _ _ _ _ _ (Nat.le_refl _) (Nat.le_refl _) rfl d_S_sumE_102 ?_
        refine ⟨(ui u D (u D + 1), x_99), rfl, rfl, fun i hi => ?_, ?_⟩
        · have z1 := hx_99 i hi
          have z2 := hs i hi
          have z3 : -17179869185 ≤ ui u D (u D + 1) i ∧ ui u D (u D + 1) i ≤ 17179869185 := by
            unfold ui
            split
            · have := hb D (Nat.le_refl _)
              omega
            · have := hb i hi
              omega
          show _ ≤ x_99 i ∧ x_99 i ≤ _
          omega
        · show (bv x_99 (D + 1) * Q - _ * _).natAbs ≤ _
          have z1 : bv x_99 (D + 1) = bv (ui u D (u D + 1)) (D + 1) := bv_congr (fun i hi => by rw [hx_99 i (by omega), hs i (by omega), Int.zero_add])
          rw [z1, bv_ui (by omega), Int.natCast_add]
          have e9 : (bv u (D + 1) + 1 * (1073741824 : Int) ^ D) * Q - ((G 0 : Int) + Q) * (1073741824 ^ D : Nat) = bv u (D + 1) * Q - ((G 0 : Nat) : Int) * (1073741824 ^ D : Nat) := by
            rw [Int.natCast_pow, show ((1073741824 : Nat) : Int) = 1073741824 from rfl, Int.add_mul, Int.add_mul, Int.one_mul, Int.mul_comm (Q : Int)]
            omega
          rw [e9]
          exact Nat.le_trans e1 (Nat.mul_le_mul_right Q (by decide))
      · exact absurd c_43 (by omega)
    | succ k ih =>
      intro u hk hz hb he
      rw [if_neg (by omega)] at hb he
      have hbk : bs (k + 1) = bs k + (bl (k + 1) - 1) := rfl
      have hbb := bs_big (show k + 1 ≤ 3000 by omega)
      have hbl := bl_small2 (show k + 1 ≤ 3000 by omega)
      have hbl1 := bl_ge1 (show 0 < k + 1 by omega)
      have hmono : min D (bs k / 30 - 1) ≤ min D (bs (k + 1) / 30 - 1) := by omega
      have hlb := low_b (D := D) (bs_fct (k + 1))
      generalize hlow : min D (bs (k + 1) / 30 - 1) = low at *
      have hlD : low ≤ D := by omega
      have hGk := hG k (by omega)
      have hfl := div_fl (m := G (k + 1) + Q) (show 0 < k + 1 by omega)
      rw [← hGk] at hfl
      have hfl1 : ((k + 1 : Nat) : Int) * ((G k : Nat) : Int) ≤ 1 * ((G (k + 1) + Q : Nat) : Int) + ((k + 1 : Nat) : Int) := by rw [Int.one_mul]; exact hfl.1
      have hfl2 : 1 * ((G (k + 1) + Q : Nat) : Int) ≤ ((k + 1 : Nat) : Int) * ((G k : Nat) : Int) + ((k + 1 : Nat) : Int) := by rw [Int.one_mul]; exact hfl.2
      have hLP : (8589934593 : Int) ≤ ((k + 1 : Nat) : Int) * ((8589934593 / (k + 1) + 1 : Nat) : Int) := by
        have := Nat.lt_mul_div_succ 8589934593 (show 0 < k + 1 by omega)
        rw [← Int.natCast_mul]
        omega
      refine z_iload_n h d_S_sumE_41 rfl ?_
      refine z_iconst (v := nI 1) h d_S_sumE_42 (by decide) ?_
      refine z_icmp_ltN (tgt := 85) h d_S_sumE_43 (by decide) (by omega) (fun c_43 => ?_) (fun c_43 => ?_)
      · exact absurd c_43 (by omega)
      · refine z_aload_n h d_S_sumE_46 rfl ?_
        refine z_get (C := R_S) (T := F_S) (N := 5) h 2 d_S_sumE_47 in_S rfl (by decide) wf_S_20 rfl rfl ?_
        refine z_aload_n h d_S_sumE_50 rfl ?_
        refine z_get (C := R_S) (T := F_S) (N := 5) h 4 d_S_sumE_51 in_S rfl (by decide) wf_S_36 rfl rfl ?_
        refine z_dup2_11 h d_S_sumE_54 rfl rfl ?_
        refine z_laloadI h d_S_sumE_55 rfl (by omega) ?_
        refine z_lconst (v := 1) h d_S_sumE_56 (by decide) ?_
        rw [show (1 : Int64) = lI 1 from rfl]
        refine z_laddI h d_S_sumE_57 ?_
        refine z_lastoreI h d_S_sumE_58 rfl (by omega) ?_
        show Z 0 0 (sX D r dp (ui u D (u D + 1)) sm) _ _ _
        refine z_aload_n h d_S_sumE_59 rfl ?_
        refine z_iconst (v := nI 1) h d_S_sumE_60 (by decide) ?_
        refine z_iload_n h d_S_sumE_61 rfl ?_
        refine z_aload_n h d_S_sumE_62 rfl ?_
        refine z_iload_n h d_S_sumE_63 rfl ?_
        refine z_cR h (ms_S_lowest D (bs (k + 1)) r dp _ sm (by omega) (by omega)) (zf_S_lowest (by decide)) wm_S_84 wi_S_lowest ws_S_lowest d_S_sumE_64 (Nat.le_of_ble_eq_true rfl) rfl (fun x_64 hx_64 => ?_)
        rw [hlow]
        have hz1 : ∀ i, i < low → ui u D (u D + 1) i = 0 := fun i hi => by rw [ui_ne (by omega)]; exact hz i hi
        have hb1 : lbd (ui u D (u D + 1)) D 8589934593 := fun i hi => by
          unfold ui
          split
          · have := hb D (Nat.le_refl _)
            omega
          · have := hb i hi
            omega
        have hv1 : bv (ui u D (u D + 1)) (D + 1) * Q - ((G (k + 1) + Q : Nat) : Int) * (1073741824 ^ D : Nat) = bv u (D + 1) * Q - ((G (k + 1) : Nat) : Int) * (1073741824 ^ D : Nat) := by
          rw [bv_ui (by omega), Int.natCast_add, Int.natCast_pow, show ((1073741824 : Nat) : Int) = 1073741824 from rfl, Int.add_mul, Int.add_mul, Int.one_mul, Int.mul_comm (Q : Int)]
          omega
        generalize ui u D (u D + 1) = u1 at *
        have hfo := ms_S_fold D (k + 1) low 1 1 8589934593 ((8589934593 / (k + 1) + 1 : Nat) : Int) r dp u1 sm (by omega) (by omega) hlD (by decide) (by decide) hb1 (by decide) ⟨Int.natCast_nonneg _, hLP⟩
        refine z_cR h (hfo) (zf_S_fold (by decide)) wm_S_69 wi_S_fold ws_S_fold d_S_sumE_67 (Nat.le_of_ble_eq_true rfl) rfl (fun x_67 hx_67 => ?_)
        obtain ⟨k1, k2, k3, k4, k5⟩ := hx_67
        obtain ⟨u2, pt, rest⟩ := x_67
        show Z 0 0 (sX D r dp u2 sm) _ _ _
        replace k1 : ∀ i, i < low → u2 i = u1 i := k1
        have hst := fold_val (x := k + 1) (Q := Q) (G := ((G (k + 1) + Q : Nat) : Int)) (G' := ((G k : Nat) : Int)) (F := 1) hlD hz1 k1 k3 k4 k5 hfl1 hfl2 hT (by omega) rfl (by omega)
        rw [hv1] at hst
        have her := er_step (F' := 1) (A' := if k = 0 then 8589934592 else 4294967296) (C' := 1 + (K * (K + 1) - k * (k + 1))) (w := fct (k + 1)) (w' := fct k) (by omega) hst he (by rw [Nat.one_mul, Nat.one_mul]; exact hlb) (by split <;> omega) (E_step hk) rfl
        refine z_iload_n h d_S_sumE_70 rfl ?_
        refine z_iload_n h d_S_sumE_71 rfl ?_
        refine z_cSN h (ms_D_bitsOf (k + 1) (by omega)) (zf_D_bitsOf (by decide)) wm_S_88 wt_D_bitsOf d_S_sumE_72 [] (by decide) rfl (Nat.le_of_ble_eq_true rfl) rfl (fun _ => rfl) (fun x_72 hx_72 => ?_)
        refine z_iconst (v := nI 1) h d_S_sumE_75 (by decide) ?_
        refine z_isubN h d_S_sumE_76 (by omega) ?_
        refine z_isubN h d_S_sumE_77 (by omega) ?_
        refine z_istore_n h d_S_sumE_78 (by decide) ?_
        rw [show bs (k + 1) - (bl (k + 1) - 1) = bs k by omega]
        refine z_iincS h 1 d_S_sumE_79 rfl (by decide) (by decide) (by omega) ?_
        refine z_goto (tgt := 41) h d_S_sumE_82 (by decide) ?_
        rw [Nat.add_sub_cancel]
        refine z_lv h rfl (ih u2 (by omega) (fun i hi => ?_) (fun i hi => ?_) her)
        · rw [k1 i (by omega)]
          exact hz1 i (by omega)
        · by_cases q : i < low
          · rw [k1 i q, hz1 i q]
            split <;> decide
          · have hq : -((1073741824 + ((8589934593 / (k + 1) + 1 : Nat) : Int)) * ((1 : Nat) : Int)) ≤ u2 i ∧ u2 i ≤ (1073741824 + ((8589934593 / (k + 1) + 1 : Nat) : Int)) * ((1 : Nat) : Int) := k2 i (by omega) hi
            have hdd : 8589934593 / (k + 1) ≤ 8589934593 := Nat.div_le_self _ _
            by_cases q0 : k = 0
            · rw [if_pos q0]
              omega
            · rw [if_neg q0]
              have hd2 : 8589934593 / (k + 1) ≤ 8589934593 / 2 := Nat.div_le_div_left (by omega) (by decide)
              omega
  have B : ∀ (f t : Nat), f + t = 3000 → (t = 0 ∨ bs (t - 1) < D * 30 + 32) → Z 0 0 (sX D r dp (fiJ wk 705 0) sm) [(0, .ref 0), (1, .int (nI (bs t))), (2, .int (nI t))] 8 [] := by
    intro f
    have Ex : ∀ t, t ≤ 3000 → D * 30 + 32 ≤ bs t → Z 0 0 (sX D r dp (fiJ wk 705 0) sm) [(0, .ref 0), (1, .int (nI (bs t))), (2, .int (nI t))] 39 [] := by
      intro t ht hbt
      have ht1 : 1 ≤ t := by
        apply Nat.le_of_not_lt
        intro q
        obtain rfl : t = 0 := by omega
        rw [show bs 0 = 0 from rfl] at hbt
        omega
      have hT30 : 1073741824 * 1073741824 ^ D ≤ fct t := by
        refine Nat.le_trans ?_ (bs_fct t)
        rw [Nat.mul_comm, ← Nat.pow_succ, p30]
        exact Nat.pow_le_pow_right (by decide) (by omega)
      refine z_iload_n h d_S_sumE_39 rfl ?_
      refine z_istore_n h d_S_sumE_40 (by decide) ?_
      refine z_lv h rfl (L t t ht (fiJ wk 705 0) (Nat.le_refl _) (fun i hi => fiJ_0 (by omega)) (fun i hi => ?_) (ini_er hD2 ?_))
      · rw [fiJ_0 (by omega)]
        split <;> decide
      · rw [Nat.sub_self, Nat.add_zero, Nat.one_mul]
        exact Nat.mul_le_mul (hGQ t ht1 ht) hT30
    induction f with
    | zero =>
      intro t hf hpre
      obtain rfl : t = 3000 := by omega
      have hbt := bs_lo 3000
      have hbb := bs_big (Nat.le_refl 3000)
      refine z_iload_n h d_S_sumE_8 rfl ?_
      refine z_aload_n h d_S_sumE_9 rfl ?_
      refine z_cR h (ms_S_bitsNeeded D r dp (fiJ wk 705 0) sm) (zf_S_bitsNeeded (by decide)) wm_S_80 wi_S_bitsNeeded ws_S_bitsNeeded d_S_sumE_10 (Nat.le_of_ble_eq_true rfl) rfl (fun x_10 hx_10 => ?_)
      refine z_icmp_geN (tgt := 39) h d_S_sumE_13 (by decide) (by omega) (fun c_13 => ?_) (fun c_13 => ?_)
      · exact z_lv h rfl (Ex 3000 (Nat.le_refl _) c_13)
      · exact absurd c_13 (by omega)
    | succ f ih =>
      intro t hf hpre
      have hbb := bs_big (show t ≤ 3000 by omega)
      have hbl := bl_small2 (show t + 1 ≤ 3000 by omega)
      have hbl1 := bl_ge1 (show 0 < t + 1 by omega)
      refine z_iload_n h d_S_sumE_8 rfl ?_
      refine z_aload_n h d_S_sumE_9 rfl ?_
      refine z_cR h (ms_S_bitsNeeded D r dp (fiJ wk 705 0) sm) (zf_S_bitsNeeded (by decide)) wm_S_80 wi_S_bitsNeeded ws_S_bitsNeeded d_S_sumE_10 (Nat.le_of_ble_eq_true rfl) rfl (fun x_10 hx_10 => ?_)
      refine z_icmp_geN (tgt := 39) h d_S_sumE_13 (by decide) (by omega) (fun c_13 => ?_) (fun c_13 => ?_)
      · exact z_lv h rfl (Ex t (by omega) c_13)
      · refine z_iload_n h d_S_sumE_16 rfl ?_
        refine z_aload_n h d_S_sumE_17 rfl ?_
        refine z_cR h (ms_S_bitsNeeded D r dp (fiJ wk 705 0) sm) (zf_S_bitsNeeded (by decide)) wm_S_80 wi_S_bitsNeeded ws_S_bitsNeeded d_S_sumE_18 (Nat.le_of_ble_eq_true rfl) rfl (fun x_18 hx_18 => ?_)
        refine z_icmp_geN (tgt := 39) h d_S_sumE_21 (by decide) (by omega) (fun c_21 => ?_) (fun c_21 => ?_)
        · exact absurd (Nat.le_trans c_21 (bs_ge t (by omega))) (by omega)
        · refine z_iincN h 1 d_S_sumE_24 rfl (by decide) (by decide) ?_
          refine z_iload_n h d_S_sumE_27 rfl ?_
          refine z_iload_n h d_S_sumE_28 rfl ?_
          refine z_cSN h (ms_D_bitsOf (t + 1) (by omega)) (zf_D_bitsOf (by decide)) wm_S_88 wt_D_bitsOf d_S_sumE_29 [] (by decide) rfl (Nat.le_of_ble_eq_true rfl) rfl (fun _ => rfl) (fun x_29 hx_29 => ?_)
          refine z_iconst (v := nI 1) h d_S_sumE_32 (by decide) ?_
          refine z_isubN h d_S_sumE_33 (by omega) ?_
          refine z_iaddN h d_S_sumE_34 ?_
          refine z_istore_n h d_S_sumE_35 (by decide) ?_
          refine z_goto (tgt := 8) h d_S_sumE_36 (by decide) ?_
          exact z_lv h rfl (ih (t + 1) (by omega) (Or.inr (by rw [Nat.add_sub_cancel]; exact c_13)))
  refine z_aload_n h d_S_sumE_0 rfl ?_
  refine z_cR h (ms_S_begin D r dp wk sm) (zf_S_begin (by decide)) wm_S_77 wi_S_begin ws_S_begin d_S_sumE_1 (Nat.le_of_ble_eq_true rfl) rfl (fun x_1 hx_1 => ?_)
  refine z_iconst (v := nI 0) h d_S_sumE_4 (by decide) ?_
  refine z_istore_n h d_S_sumE_5 (by decide) ?_
  refine z_iconst (v := nI 0) h d_S_sumE_6 (by decide) ?_
  refine z_istore_n h d_S_sumE_7 (by decide) ?_
  exact z_lv h rfl (B 3000 0 rfl (Or.inl rfl))
