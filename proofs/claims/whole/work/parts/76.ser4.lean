/-! DigitMill$Series: sumPi, sumE -/
theorem val_n1 {W W' t pt rest f G G' : Int} {Q T b dv : Nat} (hW : W = t * b) (ht : t = pt * dv + rest) (hW' : W' = f * pt * b) (hr : -(dv : Int) < rest ∧ rest < dv) (hG1 : dv * G' ≤ f * G + dv) (hG2 : f * G ≤ dv * G' + dv) : dv * (W' * Q - G' * T).natAbs ≤ f.natAbs * (W * Q - G * T).natAbs + (f.natAbs * (dv * b * Q) + dv * T) := by
  have e1 : (dv : Int) * (W' * Q - G' * T) = f * (W * Q - G * T) + (-(f * (rest * b * Q)) + (f * G - dv * G') * T) := by
    rw [hW', hW, ht]
    grind
  have h1 := congrArg Int.natAbs e1
  rw [Int.natAbs_mul, Int.natAbs_natCast] at h1
  rw [h1]
  refine Nat.le_trans (Int.natAbs_add_le _ _) (Nat.add_le_add (Nat.le_of_eq (Int.natAbs_mul _ _)) (Nat.le_trans (Int.natAbs_add_le _ _) (Nat.add_le_add ?_ ?_)))
  · rw [Int.natAbs_neg, Int.natAbs_mul, Int.natAbs_mul, Int.natAbs_mul, Int.natAbs_natCast, Int.natAbs_natCast]
    exact Nat.mul_le_mul_left _ (Nat.mul_le_mul_right _ (Nat.mul_le_mul_right _ (by omega)))
  · rw [Int.natAbs_mul, Int.natAbs_natCast]
    exact Nat.mul_le_mul_right _ (by omega)
/-- the last fold: all limbs -/
theorem fold_fin {D dv F m : Nat} {fa : Int} {wk wk' : Nat → Int} {pt rest : Int} {Q : Nat} {G G' : Int} (hr : -(dv : Int) < rest ∧ rest < dv) (ht : tv wk D (D + 1 - 0) = pt * dv + rest) (ht' : tv wk' D (D + 1 - 0) = fa * pt) (hG1 : dv * G' ≤ fa * G + dv) (hG2 : fa * G ≤ dv * G' + dv) (hT : 1073741824 ^ D ≤ Q) (hdv : 0 < dv) (hF : fa.natAbs = F) (hm : F ≤ m * dv) (e : Nat) (he : (bv wk (D + 1) * Q - G * (1073741824 ^ D : Nat)).natAbs ≤ e * Q) : (bv wk' (D + 1) * Q - G' * (1073741824 ^ D : Nat)).natAbs ≤ (m * e + F + 1) * Q := by
  subst hF
  have n1 := val_n1 (W := bv wk (D + 1)) (W' := bv wk' (D + 1)) (T := 1073741824 ^ D) (Q := Q) (b := 1) (t := tv wk D (D + 1 - 0)) (pt := pt) (rest := rest) (dv := dv) (f := fa) (G := G) (G' := G') (by rw [bv_low (low := 0) (by omega) (fun i hi => absurd hi (by omega))]; rfl) ht (by rw [bv_low (low := 0) (by omega) (fun i hi => absurd hi (by omega)), ht']; rfl) hr hG1 hG2
  apply Nat.le_of_mul_le_mul_left (c := dv) _ hdv
  generalize (bv wk' (D + 1) * Q - G' * (1073741824 ^ D : Nat)).natAbs = a' at *
  generalize (bv wk (D + 1) * Q - G * (1073741824 ^ D : Nat)).natAbs = a at *
  generalize fa.natAbs = F at *
  calc dv * a' ≤ F * a + (F * (dv * 1 * Q) + dv * 1073741824 ^ D) := n1
    _ ≤ m * dv * (e * Q) + (F * (dv * 1 * Q) + dv * Q) := Nat.add_le_add (Nat.mul_le_mul hm he) (Nat.add_le_add_left (Nat.mul_le_mul_left dv hT) _)
    _ = dv * ((m * e + F + 1) * Q) := by grind
theorem cast_c {m : Nat} : ((m : Nat) : Int) = (m : Int) := rfl
theorem sm_tri {a b c d q T x y : Int} {Q e1 e2 : Nat} (h1 : (a * Q - x * T).natAbs ≤ e1 * Q) (h2 : (b * Q - y * T).natAbs ≤ e2 * Q) : ((a + b) * Q - (x + y) * T).natAbs ≤ (e1 + e2) * Q := by
  rw [show (a + b) * (Q : Int) - (x + y) * T = (a * Q - x * T) + (b * Q - y * T) by rw [Int.add_mul, Int.add_mul]; omega, Nat.add_mul]
  exact Nat.le_trans (Int.natAbs_add_le _ _) (Nat.add_le_add h1 h2)
theorem e30 {a Q E e : Nat} (h : 1073741824 * a ≤ Q * E) (hE : E ≤ 1073741824 * e) : a ≤ e * Q := by
  apply Nat.le_of_mul_le_mul_left (c := 1073741824) _ (by decide)
  calc 1073741824 * a ≤ Q * E := h
    _ ≤ Q * (1073741824 * e) := Nat.mul_le_mul_left Q hE
    _ = 1073741824 * (e * Q) := by ac_rfl
set_option maxRecDepth 100000 in
set_option maxHeartbeats 4000000 in
theorem ms_S_sumPi (D Q KM1 KM2 : Nat) (G1 G2 : Nat → Nat) (r : Nat → Nat → Nat) (dp : Nat → Nat) (wk sm : Nat → Int) (hD : 1 ≤ D ∧ D ≤ 704) (hT : 1073741824 ^ D ≤ Q) (hs : ∀ i, i ≤ D → sm i = 0) (hK1 : 4502 ≤ KM1) (hK2 : 1340 ≤ KM2) (hG1 : ∀ k, k < KM1 → G1 k = (G1 (k + 1) + Q) * (2 * (k + 1)) / ((2 * (k + 1) + 1) * 26)) (hGQ1 : ∀ k, k ≤ KM1 → G1 k ≤ Q) (hG2 : ∀ k, k < KM2 → G2 k = (G2 (k + 1) + Q) * (2 * (k + 1)) / ((2 * (k + 1) + 1) * 57122)) (hGQ2 : ∀ k, k ≤ KM2 → G2 k ≤ Q) : MS y_S_sumPi c_S_sumPi 1 none (rm 5) [.ref 0] (sX D r dp wk sm) (zP (X := (Nat → Int) × (Nat → Int)) (fun _ => none) (fun q => sX D r dp q.1 q.2) (fun q => lbd q.2 D 1152921504606846976 ∧ (bv q.2 (D + 1) * Q - (((40 * (G1 0 + Q) / 13 : Nat) : Int) - ((478 * (G2 0 + Q) / 28561 : Nat) : Int)) * (1073741824 ^ D : Nat)).natAbs ≤ 536870912 * Q)) := by
  refine MS_of (own := R_S) (by decide) rfl (fun _ => Nat.le_of_ble_eq_true rfl) (fun Z h hr => ?_)
  obtain ⟨hD1, hD2⟩ := hD
  have q1 : (D * 30 + 32) * 10 / 47 + 1 ≤ 4502 := by omega
  have q2 : (D * 30 + 32) * 10 / 158 + 1 ≤ 1340 := by omega
  refine z_aload_n h d_S_sumPi_0 rfl ?_
  refine z_bipush (v := nI 26) h d_S_sumPi_1 (by decide) ?_
  refine z_bipush (v := nI 47) h d_S_sumPi_3 (by decide) ?_
  refine z_cR h (ms_S_foldArctan D 26 47 Q KM1 ((D * 30 + 32) * 10 / 47 + 1) G1 r dp wk sm ⟨hD1, hD2⟩ (by decide) (by decide) (by decide) (by omega) rfl (by omega) hT hG1 hGQ1) (zf_S_foldArctan (by decide)) wm_S_65 wi_S_foldArctan ws_S_foldArctan d_S_sumPi_5 (Nat.le_of_ble_eq_true rfl) rfl (fun x_5 hx_5 => ?_)
  obtain ⟨a1, a2⟩ := hx_5
  generalize hKa : (D * 30 + 32) * 10 / 47 + 1 = Ka at *
  have e1 := e30 (e := 40000) a2 (by
    have : Ka * (Ka + 1) ≤ 4502 * 4503 := Nat.mul_le_mul (by omega) (by omega)
    omega)
  generalize hu1 : x_5 = u1 at *
  have f1 := ms_S_fold D 13 0 40 40 35184372088833 (35184372088833 / 13 + 1) r dp u1 sm (by omega) (by decide) (by omega) (by decide) (by decide) a1 (by decide) (by decide)
  refine z_aload_n h d_S_sumPi_8 rfl ?_
  refine z_bipush (v := nI 40) h d_S_sumPi_9 (by decide) ?_
  refine z_bipush (v := nI 13) h d_S_sumPi_11 (by decide) ?_
  refine z_iconst (v := nI 0) h d_S_sumPi_13 (by decide) ?_
  refine z_cR h (f1) (zf_S_fold (by decide)) wm_S_69 wi_S_fold ws_S_fold d_S_sumPi_14 (Nat.le_of_ble_eq_true rfl) rfl (fun x_14 hx_14 => ?_)
  obtain ⟨-, b2, b3, b4, b5⟩ := hx_14
  obtain ⟨u2, pt, rest⟩ := x_14
  show Z 0 0 (sX D r dp u2 sm) _ _ _
  have g1 := div_fl (m := 40 * (G1 0 + Q)) (show 0 < 13 by decide)
  rw [show ((40 * (G1 0 + Q) : Nat) : Int) = 40 * ((G1 0 + Q : Nat) : Int) from Int.natCast_mul _ _] at g1
  have v1 := fold_fin (m := 4) b3 b4 b5 g1.1 g1.2 hT (by decide) rfl (by decide) 40000 e1
  replace v1 : (bv u2 (D + 1) * Q - ((40 * (G1 0 + Q) / 13 : Nat) : Int) * (1073741824 ^ D : Nat)).natAbs ≤ (4 * 40000 + 40 + 1) * Q := v1
  replace b2 : ∀ i, 0 ≤ i → i ≤ D → -((1073741824 + (35184372088833 / 13 + 1)) * 40) ≤ u2 i ∧ u2 i ≤ (1073741824 + (35184372088833 / 13 + 1)) * 40 := b2
  refine z_aload_n h d_S_sumPi_17 rfl ?_
  refine z_cR h (ms_S_gather D r dp u2 sm hD2) (zf_S_gather (by decide)) wm_S_73 wi_S_gather ws_S_gather d_S_sumPi_18 (Nat.le_of_ble_eq_true rfl) rfl (fun x_18 hx_18 => ?_)
  generalize hs1 : x_18 = s1 at *
  refine z_aload_n h d_S_sumPi_21 rfl ?_
  refine z_ldc (v := nI 57122) h d_S_sumPi_22 wv_S_76 ?_
  refine z_sipush (v := nI 158) h d_S_sumPi_24 (by decide) ?_
  refine z_cR h (ms_S_foldArctan D 57122 158 Q KM2 ((D * 30 + 32) * 10 / 158 + 1) G2 r dp u2 s1 ⟨hD1, hD2⟩ (by decide) (by decide) (by decide) (by omega) rfl (by omega) hT hG2 hGQ2) (zf_S_foldArctan (by decide)) wm_S_65 wi_S_foldArctan ws_S_foldArctan d_S_sumPi_27 (Nat.le_of_ble_eq_true rfl) rfl (fun x_27 hx_27 => ?_)
  obtain ⟨c1, c2⟩ := hx_27
  generalize hKb : (D * 30 + 32) * 10 / 158 + 1 = Kb at *
  have e2 := e30 (e := 40000) c2 (by
    have : Kb * (Kb + 1) ≤ 1340 * 1341 := Nat.mul_le_mul (by omega) (by omega)
    omega)
  generalize hu3 : x_27 = u3 at *
  have f2 := ms_S_fold D 28561 0 478 (-478) 35184372088833 (35184372088833 / 28561 + 1) r dp u3 s1 (by omega) (by decide) (by omega) (by decide) (by decide) c1 (by decide) (by decide)
  refine z_aload_n h d_S_sumPi_30 rfl ?_
  refine z_sipush (v := (-478)) h d_S_sumPi_31 (by decide) ?_
  refine z_sipush (v := nI 28561) h d_S_sumPi_34 (by decide) ?_
  refine z_iconst (v := nI 0) h d_S_sumPi_37 (by decide) ?_
  refine z_cR h (f2) (zf_S_fold (by decide)) wm_S_69 wi_S_fold ws_S_fold d_S_sumPi_38 (Nat.le_of_ble_eq_true rfl) rfl (fun x_38 hx_38 => ?_)
  obtain ⟨-, d2, d3, d4, d5⟩ := hx_38
  obtain ⟨u4, pt4, rest4⟩ := x_38
  show Z 0 0 (sX D r dp u4 s1) _ _ _
  have g2 := div_fl (m := 478 * (G2 0 + Q)) (show 0 < 28561 by decide)
  rw [show ((478 * (G2 0 + Q) : Nat) : Int) = 478 * ((G2 0 + Q : Nat) : Int) from Int.natCast_mul _ _] at g2
  have v2 := fold_fin (m := 1) (G' := -((478 * (G2 0 + Q) / 28561 : Nat) : Int)) d3 d4 d5 (by omega) (by omega) hT (by decide) rfl (by decide) 40000 e2
  replace v2 : (bv u4 (D + 1) * Q - (-((478 * (G2 0 + Q) / 28561 : Nat) : Int)) * (1073741824 ^ D : Nat)).natAbs ≤ (1 * 40000 + 478 + 1) * Q := v2
  replace d2 : ∀ i, 0 ≤ i → i ≤ D → -((1073741824 + (35184372088833 / 28561 + 1)) * 478) ≤ u4 i ∧ u4 i ≤ (1073741824 + (35184372088833 / 28561 + 1)) * 478 := d2
  refine z_aload_n h d_S_sumPi_41 rfl ?_
  refine z_cR h (ms_S_gather D r dp u4 s1 hD2) (zf_S_gather (by decide)) wm_S_73 wi_S_gather ws_S_gather d_S_sumPi_42 (Nat.le_of_ble_eq_true rfl) rfl (fun x_42 hx_42 => ?_)
  refine hr.2.2.2.1 _ _ _ _ _ (Nat.le_refl _) (Nat.le_refl _) rfl d_S_sumPi_45 ?_
  refine ⟨(u4, x_42), rfl, rfl, fun i hi => ?_, ?_⟩
  · have z1 := hx_42 i hi
    have z2 := hx_18 i hi
    have z3 := hs i hi
    have z4 := b2 i (by omega) hi
    have z5 := d2 i (by omega) hi
    show _ ≤ x_42 i ∧ x_42 i ≤ _
    omega
  · show (bv x_42 (D + 1) * Q - _ * _).natAbs ≤ _
    have z1 : bv x_42 (D + 1) = bv u2 (D + 1) + bv u4 (D + 1) := by
      rw [bv_add (w := s1) (u := u4) (fun i hi => hx_42 i (by omega))]
      congr 1
      exact bv_congr (fun i hi => by rw [hx_18 i (by omega), hs i (by omega), Int.zero_add])
    rw [z1, Int.sub_eq_add_neg]
    exact Nat.le_trans (sm_tri (c := 0) (d := 0) (q := 0) v1 v2) (Nat.mul_le_mul_right Q (by decide))
