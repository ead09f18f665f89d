/-! DigitMill$Series: sumCubes -/
def pz (k : Nat) : Nat := 205 * k * k + 250 * k + 77
def hz (Q h k : Nat) : Nat := (pz k * Q - h) * (k * k) / ((2 * k + 1) * (2 * k + 1)) * (k * k) / ((2 * k + 1) * (2 * k + 1)) * k / (32 * (2 * k + 1))
theorem cub_step {K k C : Nat} (h : k + 1 ≤ K) : C + 1044 * (K * K * K - (k + 1) * (k + 1) * (k + 1)) + 1044 * ((k + 1) * (k + 1)) ≤ C + 1044 * (K * K * K - k * k * k) := by
  have h1 : (k + 1) * (k + 1) * (k + 1) ≤ K * K * K := Nat.mul_le_mul (Nat.mul_le_mul h h) h
  have h2 : (k + 1) * (k + 1) * (k + 1) = k * k * k + 3 * (k * k) + 3 * k + 1 := by grind
  have h3 : (k + 1) * (k + 1) = k * k + 2 * k + 1 := by grind
  omega
theorem sqk_le {k K : Nat} (h : k ≤ K) : k * k ≤ K * K := Nat.mul_le_mul h h
theorem up_m {F b w m w' : Nat} (h : 1073741824 * b ≤ 1073741824 + w) (hw : w = m * w') (hm : 1 ≤ m) : 1073741824 * (F * b) ≤ m * F * (1073741824 + w') := by
  have e1 : 1073741824 ≤ m * 1073741824 := Nat.le_mul_of_pos_left _ hm
  calc 1073741824 * (F * b) = F * (1073741824 * b) := Nat.mul_left_comm _ _ _
    _ ≤ F * (m * (1073741824 + w')) := by
        refine Nat.mul_le_mul_left F ?_
        rw [Nat.mul_add, ← hw]
        omega
    _ = m * F * (1073741824 + w') := by rw [← Nat.mul_assoc, Nat.mul_comm F m]
/-- the three folds of a term -/
theorem cub_er {e e1 e2 e3 b Q A C k W : Nat} (hk : 1 ≤ k) (s1 : 4 * e1 ≤ e + 4 * ((k * k * b + 1) * Q)) (s2 : 4 * e2 ≤ e1 + 4 * ((k * k * b + 1) * Q)) (s3 : 64 * e3 ≤ e2 + 64 * ((k * b + 1) * Q)) (h2 : 1073741824 * e ≤ Q * (A + C * (1024 * W))) (h3 : 1073741824 * b ≤ 1073741824 + 1024 * W) (hA1 : A + 4 * (1073741824 * (k * k + 1)) ≤ 4 * A) (hA2 : A + 4 * (1073741824 * (4 * (k * k) + 1)) ≤ 4 * A) (hA3 : A + 64 * (1073741824 * (16 * k + 1)) ≤ 64 * A) : 1073741824 * e3 ≤ Q * (A + (C + 1044 * (k * k)) * W) := by
  have kk : k ≤ k * k := Nat.le_mul_of_pos_left k hk
  have t1 := er_step (F' := k * k) (A' := A) (C' := C + 4 * (k * k)) (w := 1024 * W) (w' := 256 * W) (by decide) s1 h2 (by have := up_m (F := k * k) (m := 1) h3 (Nat.one_mul _).symm (Nat.le_refl _); rw [Nat.one_mul] at this; exact this) hA1 (by omega) (by omega)
  have t2 := er_step (F' := 4 * (k * k)) (A' := A) (C' := C + 20 * (k * k)) (w := 256 * W) (w' := 64 * W) (by decide) s2 t1 (up_m (F := k * k) (m := 4) h3 (by omega) (by decide)) hA2 (by omega) (by omega)
  exact er_step (F' := 16 * k) (A' := A) (C' := C + 1044 * (k * k)) (w := 64 * W) (w' := W) (by decide) s3 t2 (up_m (F := k) (m := 16) h3 (by omega) (by decide)) hA3 (by omega) (by omega)
theorem pz_le {k : Nat} (hk : k ≤ 2116) : k * k ≤ 4477456 ∧ pz k ≤ 1000000000 := by
  have h1 := sqk_le hk
  unfold pz
  rw [Nat.mul_assoc]
  omega
/-- a fold by k^2 / (2k+1)^2 keeps the limbs below 2^53 -/
theorem cub_lim {k L : Nat} (hk1 : 1 ≤ k) (hk : k ≤ 2116) (hL : L ≤ 9007200328482816) : (1073741824 + (L / ((2 * k + 1) * (2 * k + 1)) + 1)) * (k * k) ≤ 9007199254740992 := by
  have h1 := (pz_le hk).1
  have h2 := fl_div (F := k * k) (x := 4) (dv := (2 * k + 1) * (2 * k + 1)) (L := L) (Nat.mul_pos (by omega) (by omega)) (by
    have : (2 * k + 1) * (2 * k + 1) = 4 * (k * k) + 4 * k + 1 := by grind
    omega) (by decide)
  rw [Nat.add_mul, Nat.add_mul, Nat.mul_comm (L / _)]
  have h3 : L / 4 ≤ 9007200328482816 / 4 := Nat.div_le_div_right hL
  omega
theorem lim_P {dv L : Nat} (hdv : 0 < dv) : (L : Int) ≤ (dv : Int) * ((L / dv + 1 : Nat) : Int) := by
  have := Nat.lt_mul_div_succ L hdv
  rw [← Int.natCast_mul]
  omega
set_option maxRecDepth 100000 in
set_option maxHeartbeats 4000000 in
theorem ms_S_sumCubes (D Q KM : Nat) (H : Nat → Nat) (r : Nat → Nat → Nat) (dp : Nat → Nat) (wk sm : Nat → Int) (hD : 1 ≤ D ∧ D ≤ 704) (hT : 1073741824 ^ D ≤ Q) (hs : ∀ i, i ≤ D → sm i = 0) (hKM : 2117 ≤ KM) (hH : ∀ k, k < KM → H k = hz Q (H (k + 1)) (k + 1)) (hHQ : ∀ k, k ≤ KM → H k ≤ 1048576 * Q) (hHp : ∀ k, k ≤ KM → H k ≤ pz k * Q) : MS y_S_sumCubes c_S_sumCubes 4 none (rm 5) [.ref 0] (sX D r dp wk sm) (zP (X := (Nat → Int) × (Nat → Int)) (fun _ => none) (fun q => sX D r dp q.1 q.2) (fun q => lbd q.2 D 1152921504606846976 ∧ (bv q.2 (D + 1) * Q - (((77 * Q - H 0) / 64 : Nat) : Int) * (1073741824 ^ D : Nat)).natAbs ≤ 536870912 * Q)) := by
  refine MS_of (own := R_S) (by decide) rfl (fun _ => Nat.le_of_ble_eq_true rfl) (fun Z h hr => ?_)
  obtain ⟨hD1, hD2⟩ := hD
  have hvT : ∀ (u : Nat → Int) (k : Nat), k ≤ KM → bv (ui u D (u D + (pz k : Int))) (D + 1) * Q - ((pz k * Q - H k : Nat) : Int) * (1073741824 ^ D : Nat) = bv u (D + 1) * Q - (-((H k : Nat) : Int)) * (1073741824 ^ D : Nat) := fun u k hk => by
    rw [bv_ui (by omega), Int.ofNat_sub (hHp k hk), Int.natCast_pow, show ((1073741824 : Nat) : Int) = 1073741824 from rfl, Int.natCast_mul, Int.add_mul, Int.sub_mul, Int.neg_mul, Int.mul_right_comm (pz k : Int)]
    omega
  obtain ⟨K, hK⟩ : ∃ K, K = (D * 30 + 32) / 10 + 1 := ⟨_, rfl⟩
  have hK1 : K ≤ 2116 := by omega
  have L : ∀ (k : Nat) (u : Nat → Int), k ≤ K → (∀ i, i < min D (10 * k / 30 - 1) → u i = 0) → lbd u D 9007199254740992 → 1073741824 * (bv u (D + 1) * Q - (-((H k : Nat) : Int)) * (1073741824 ^ D : Nat)).natAbs ≤ Q * (2147483648 * (4 * (K * K) + 16 * K + 1) + (1048576 + 1044 * (K * K * K - k * k * k)) * 1024 ^ k) → Z 0 0 (sX D r dp u sm) [(0, .ref 0), (1, .int (nI k))] 14 [] := by
    intro k
    induction k with
    | zero =>
      intro u hk hz hb he
      have e1 := e30 (e := 50000000) he (by
        have := (pz_le hK1).1
        have h3 : K * K * K ≤ 4477456 * 2116 := Nat.mul_le_mul this hK1
        rw [Nat.pow_zero, Nat.mul_one]
        omega)
      rw [← hvT u 0 (Nat.zero_le _)] at e1
      refine z_iload_n h d_S_sumCubes_14 rfl ?_
      refine z_iconst (v := nI 1) h d_S_sumCubes_15 (by decide) ?_
      refine z_icmp_ltN (tgt := 102) h d_S_sumCubes_16 (by decide) (by omega) (fun c_16 => ?_) (fun c_16 => ?_)
      · refine z_aload_n h d_S_sumCubes_102 rfl ?_
        refine z_get (C := R_S) (T := F_S) (N := 5) h 2 d_S_sumCubes_103 in_S rfl (by decide) wf_S_20 rfl rfl ?_
        refine z_aload_n h d_S_sumCubes_106 rfl ?_
        refine z_get (C := R_S) (T := F_S) (N := 5) h 4 d_S_sumCubes_107 in_S rfl (by decide) wf_S_36 rfl rfl ?_
        refine z_dup2_11 h d_S_sumCubes_110 rfl rfl ?_
        refine z_laloadI h d_S_sumCubes_111 rfl (by omega) ?_
        refine z_ldc2_w (v := 77) h d_S_sumCubes_112 wv_S_91 ?_
        rw [show (77 : Int64) = lI ((pz 0 : Nat) : Int) from rfl]
        refine z_laddI h d_S_sumCubes_115 ?_
        refine z_lastoreI h d_S_sumCubes_116 rfl (by omega) ?_
        show Z 0 0 (sX D r dp (ui u D (u D + (pz 0 : Int))) sm) _ _ _
        have hb1 : lbd (ui u D (u D + (pz 0 : Int))) D 9007200328482816 := fun i hi => by
          unfold ui
          rw [show ((pz 0 : Nat) : Int) = 77 from rfl]
          split
          · have := hb D (Nat.le_refl _)
            omega
          · have := hb i hi
            omega
        generalize ui u D (u D + (pz 0 : Int)) = u1 at *
        have f1 := ms_S_fold D 64 0 1 1 9007200328482816 (9007200328482816 / 64 + 1) r dp u1 sm (by omega) (by decide) (by omega) (by decide) (by decide) hb1 (by decide) (by decide)
        refine z_aload_n h d_S_sumCubes_117 rfl ?_
        refine z_iconst (v := nI 1) h d_S_sumCubes_118 (by decide) ?_
        refine z_bipush (v := nI 64) h d_S_sumCubes_119 (by decide) ?_
        refine z_iconst (v := nI 0) h d_S_sumCubes_121 (by decide) ?_
        refine z_cR h (f1) (zf_S_fold (by decide)) wm_S_69 wi_S_fold ws_S_fold d_S_sumCubes_122 (Nat.le_of_ble_eq_true rfl) rfl (fun x_122 hx_122 => ?_)
        obtain ⟨-, b2, b3, b4, b5⟩ := hx_122
        obtain ⟨u2, pt, rest⟩ := x_122
        show Z 0 0 (sX D r dp u2 sm) _ _ _
        have g1 := div_fl (m := pz 0 * Q - H 0) (show 0 < 64 by decide)
        have v1 := fold_fin (m := 1) (G' := (((pz 0 * Q - H 0) / 64 : Nat) : Int)) b3 b4 b5 (by rw [Int.one_mul]; exact g1.1) (by rw [Int.one_mul]; exact g1.2) hT (by decide) rfl (by decide) 50000000 e1
        replace v1 : (bv u2 (D + 1) * Q - (((77 * Q - H 0) / 64 : Nat) : Int) * (1073741824 ^ D : Nat)).natAbs ≤ (1 * 50000000 + 1 + 1) * Q := v1
        replace b2 : ∀ i, 0 ≤ i → i ≤ D → -((1073741824 + (9007200328482816 / 64 + 1)) * 1) ≤ u2 i ∧ u2 i ≤ (1073741824 + (9007200328482816 / 64 + 1)) * 1 := b2
        refine z_aload_n h d_S_sumCubes_125 rfl ?_
        refine z_cR h (ms_S_gather D r dp u2 sm hD2) (zf_S_gather (by decide)) wm_S_73 wi_S_gather ws_S_gather d_S_sumCubes_126 (Nat.le_of_ble_eq_true rfl) rfl (fun x_126 hx_126 => ?_)
        refine hr.2.2.2.1 _ _ _ _ _ (Nat.le_refl _) (Nat.le_refl _) rfl d_S_sumCubes_129 ?_
        refine ⟨(u2, x_126), rfl, rfl, fun i hi => ?_, ?_⟩
        · have z1 := hx_126 i hi
          have z2 := hs i hi
          have z4 := b2 i (by omega) hi
          show _ ≤ x_126 i ∧ x_126 i ≤ _
          omega
        · show (bv x_126 (D + 1) * Q - _ * _).natAbs ≤ _
          have z1 : bv x_126 (D + 1) = bv u2 (D + 1) := bv_congr (fun i hi => by rw [hx_126 i (by omega), hs i (by omega), Int.zero_add])
          rw [z1]
          exact Nat.le_trans v1 (Nat.mul_le_mul_right Q (by decide))
      · exact absurd c_16 (by omega)
    | succ k ih =>
      intro u hk hz hb he
      have hmono : min D (10 * k / 30 - 1) ≤ min D (10 * (k + 1) / 30 - 1) := by omega
      have hlb := low_b (D := D) (q := 10 * (k + 1)) (w := 1024 ^ (k + 1)) (by rw [Nat.pow_mul]; exact Nat.le_refl _)
      generalize hlow : min D (10 * (k + 1) / 30 - 1) = low at *
      have hlD : low ≤ D := by omega
      have hp9 := pz_le (show k + 1 ≤ 2116 by omega)
      have hod : (2 * (k + 1) + 1) * (2 * (k + 1) + 1) ≤ 4233 * 4233 := Nat.mul_le_mul (by omega) (by omega)
      have hod0 : 0 < (2 * (k + 1) + 1) * (2 * (k + 1) + 1) := Nat.mul_pos (by omega) (by omega)
      have hodx : 4 * ((k + 1) * (k + 1)) ≤ (2 * (k + 1) + 1) * (2 * (k + 1) + 1) := by
        have : (2 * (k + 1) + 1) * (2 * (k + 1) + 1) = 4 * ((k + 1) * (k + 1)) + 4 * (k + 1) + 1 := by grind
        omega
      have hHk := hH k (by omega)
      obtain ⟨M0, hM0⟩ : ∃ M0, M0 = pz (k + 1) * Q - H (k + 1) := ⟨_, rfl⟩
      obtain ⟨M1, hM1⟩ : ∃ M1, M1 = M0 * ((k + 1) * (k + 1)) / ((2 * (k + 1) + 1) * (2 * (k + 1) + 1)) := ⟨_, rfl⟩
      obtain ⟨M2, hM2⟩ : ∃ M2, M2 = M1 * ((k + 1) * (k + 1)) / ((2 * (k + 1) + 1) * (2 * (k + 1) + 1)) := ⟨_, rfl⟩
      have hM3 : H k = M2 * (k + 1) / (32 * (2 * (k + 1) + 1)) := by rw [hHk, hM2, hM1, hM0]; rfl
      have g1 := div_fl (m := M0 * ((k + 1) * (k + 1))) hod0
      have g2 := div_fl (m := M1 * ((k + 1) * (k + 1))) hod0
      have g3 := div_fl (m := M2 * (k + 1)) (show 0 < 32 * (2 * (k + 1) + 1) by omega)
      rw [← hM1, show ((M0 * ((k + 1) * (k + 1)) : Nat) : Int) = (((k + 1) * (k + 1) : Nat) : Int) * ((M0 : Nat) : Int) by rw [Int.natCast_mul, Int.mul_comm]] at g1
      rw [← hM2, show ((M1 * ((k + 1) * (k + 1)) : Nat) : Int) = (((k + 1) * (k + 1) : Nat) : Int) * ((M1 : Nat) : Int) by rw [Int.natCast_mul, Int.mul_comm]] at g2
      rw [← hM3, show ((M2 * (k + 1) : Nat) : Int) = ((k + 1 : Nat) : Int) * ((M2 : Nat) : Int) by rw [Int.natCast_mul, Int.mul_comm]] at g3
      have g3a : ((32 * (2 * (k + 1) + 1) : Nat) : Int) * (-((H k : Nat) : Int)) ≤ (-((k + 1 : Nat) : Int)) * ((M2 : Nat) : Int) + ((32 * (2 * (k + 1) + 1) : Nat) : Int) := by
        rw [Int.mul_neg, Int.neg_mul]
        omega
      have g3b : (-((k + 1 : Nat) : Int)) * ((M2 : Nat) : Int) ≤ ((32 * (2 * (k + 1) + 1) : Nat) : Int) * (-((H k : Nat) : Int)) + ((32 * (2 * (k + 1) + 1) : Nat) : Int) := by
        rw [Int.mul_neg, Int.neg_mul]
        omega
      have hv1 := hvT u (k + 1) (by omega)
      rw [← hM0] at hv1
      have hl1 := cub_lim (k := k + 1) (L := 9007200328482816) (by omega) (by omega) (Nat.le_refl _)
      have hl2 := cub_lim (k := k + 1) (L := 9007199254740992) (by omega) (by omega) (by decide)
      have hp1 := lim_P (L := 9007200328482816) hod0
      have hp2 := lim_P (L := 9007199254740992) hod0
      have hp3 := lim_P (L := 9007199254740992) (show 0 < 32 * (2 * (k + 1) + 1) by omega)
      have hKK := sqk_le hk
      refine z_iload_n h d_S_sumCubes_14 rfl ?_
      refine z_iconst (v := nI 1) h d_S_sumCubes_15 (by decide) ?_
      refine z_icmp_ltN (tgt := 102) h d_S_sumCubes_16 (by decide) (by omega) (fun c_16 => ?_) (fun c_16 => ?_)
      · exact absurd c_16 (by omega)
      · refine z_iconst (v := nI 2) h d_S_sumCubes_19 (by decide) ?_
        refine z_iload_n h d_S_sumCubes_20 rfl ?_
        refine z_imulN h d_S_sumCubes_21 ?_
        refine z_iconst (v := nI 1) h d_S_sumCubes_22 (by decide) ?_
        refine z_iaddN h d_S_sumCubes_23 ?_
        refine z_istore_n h d_S_sumCubes_24 (by decide) ?_
        refine z_aload_n h d_S_sumCubes_25 rfl ?_
        refine z_bipush (v := nI 10) h d_S_sumCubes_26 (by decide) ?_
        refine z_iload_n h d_S_sumCubes_28 rfl ?_
        refine z_imulN h d_S_sumCubes_29 ?_
        refine z_cR h (ms_S_lowest D (10 * (k + 1)) r dp u sm (by omega) (by omega)) (zf_S_lowest (by decide)) wm_S_84 wi_S_lowest ws_S_lowest d_S_sumCubes_30 (Nat.le_of_ble_eq_true rfl) rfl (fun x_30 hx_30 => ?_)
        rw [hlow]
        refine z_istore_n h d_S_sumCubes_33 (by decide) ?_
        refine z_aload_n h d_S_sumCubes_34 rfl ?_
        refine z_get (C := R_S) (T := F_S) (N := 5) h 2 d_S_sumCubes_35 in_S rfl (by decide) wf_S_20 rfl rfl ?_
        refine z_aload_n h d_S_sumCubes_38 rfl ?_
        refine z_get (C := R_S) (T := F_S) (N := 5) h 4 d_S_sumCubes_39 in_S rfl (by decide) wf_S_36 rfl rfl ?_
        refine z_dup2_11 h d_S_sumCubes_42 rfl rfl ?_
        refine z_laloadI h d_S_sumCubes_43 rfl (by omega) ?_
        refine z_sipush (v := nI 205) h d_S_sumCubes_44 (by decide) ?_
        refine z_iload_n h d_S_sumCubes_47 rfl ?_
        refine z_imulN h d_S_sumCubes_48 ?_
        refine z_iload_n h d_S_sumCubes_49 rfl ?_
        refine z_imulN h d_S_sumCubes_50 ?_
        refine z_sipush (v := nI 250) h d_S_sumCubes_51 (by decide) ?_
        refine z_iload_n h d_S_sumCubes_54 rfl ?_
        refine z_imulN h d_S_sumCubes_55 ?_
        refine z_iaddN h d_S_sumCubes_56 ?_
        refine z_bipush (v := nI 77) h d_S_sumCubes_57 (by decide) ?_
        refine z_iaddN h d_S_sumCubes_59 ?_
        refine z_i2lI h d_S_sumCubes_60 (show 205 * (k + 1) * (k + 1) + 250 * (k + 1) + 77 < 2 ^ 31 from Nat.lt_of_le_of_lt hp9.2 (by decide)) ?_
        refine z_laddI h d_S_sumCubes_61 ?_
        refine z_lastoreI h d_S_sumCubes_62 rfl (by omega) ?_
        show Z 0 0 (sX D r dp (ui u D (u D + ((pz (k + 1) : Nat) : Int))) sm) _ _ _
        have hz1 : ∀ i, i < low → ui u D (u D + ((pz (k + 1) : Nat) : Int)) i = 0 := fun i hi => by rw [ui_ne (by omega)]; exact hz i hi
        have hb1 : lbd (ui u D (u D + ((pz (k + 1) : Nat) : Int))) D 9007200328482816 := fun i hi => by
          unfold ui
          split
          · have := hb D (Nat.le_refl _)
            omega
          · have := hb i hi
            omega
        generalize ui u D (u D + ((pz (k + 1) : Nat) : Int)) = u1 at *
        have f1 := ms_S_fold D ((2 * (k + 1) + 1) * (2 * (k + 1) + 1)) low ((k + 1) * (k + 1)) (((k + 1) * (k + 1) : Nat) : Int) 9007200328482816 ((9007200328482816 / ((2 * (k + 1) + 1) * (2 * (k + 1) + 1)) + 1 : Nat) : Int) r dp u1 sm (by omega) (by omega) hlD (Nat.le_of_eq (Int.natAbs_natCast _)) (by omega) hb1 (by decide) ⟨Int.natCast_nonneg _, hp1⟩
        rw [← nI_iI] at f1
        refine z_aload_n h d_S_sumCubes_63 rfl ?_
        refine z_iload_n h d_S_sumCubes_64 rfl ?_
        refine z_iload_n h d_S_sumCubes_65 rfl ?_
        refine z_imulN h d_S_sumCubes_66 ?_
        refine z_iload_n h d_S_sumCubes_67 rfl ?_
        refine z_iload_n h d_S_sumCubes_68 rfl ?_
        refine z_imulN h d_S_sumCubes_69 ?_
        refine z_iload_n h d_S_sumCubes_70 rfl ?_
        refine z_cR h (f1) (zf_S_fold (by decide)) wm_S_69 wi_S_fold ws_S_fold d_S_sumCubes_71 (Nat.le_of_ble_eq_true rfl) rfl (fun x_71 hx_71 => ?_)
        obtain ⟨a1, a2, a3, a4, a5⟩ := hx_71
        obtain ⟨u2, pt, rest⟩ := x_71
        show Z 0 0 (sX D r dp u2 sm) _ _ _
        replace a1 : ∀ i, i < low → u2 i = u1 i := a1
        have hz2 : ∀ i, i < low → u2 i = 0 := fun i hi => by rw [a1 i hi, hz1 i hi]
        have s1 := fold_val (x := 4) (Q := Q) (G := ((M0 : Nat) : Int)) (G' := ((M1 : Nat) : Int)) (F := (k + 1) * (k + 1)) hlD hz1 a1 a3 a4 a5 g1.1 g1.2 hT hod0 (Int.natAbs_natCast _) hodx
        rw [hv1] at s1
        have hb2 : lbd u2 D 9007199254740992 := fun i hi => by
          by_cases q : i < low
          · rw [hz2 i q]
            decide
          · have hq := a2 i (by omega) hi
            exact ⟨Int.le_trans (Int.neg_le_neg (bd_cast hl1)) hq.1, Int.le_trans hq.2 (bd_cast hl1)⟩
        have f2 := ms_S_fold D ((2 * (k + 1) + 1) * (2 * (k + 1) + 1)) low ((k + 1) * (k + 1)) (((k + 1) * (k + 1) : Nat) : Int) 9007199254740992 ((9007199254740992 / ((2 * (k + 1) + 1) * (2 * (k + 1) + 1)) + 1 : Nat) : Int) r dp u2 sm (by omega) (by omega) hlD (Nat.le_of_eq (Int.natAbs_natCast _)) (by omega) hb2 (by decide) ⟨Int.natCast_nonneg _, hp2⟩
        rw [← nI_iI] at f2
        refine z_aload_n h d_S_sumCubes_74 rfl ?_
        refine z_iload_n h d_S_sumCubes_75 rfl ?_
        refine z_iload_n h d_S_sumCubes_76 rfl ?_
        refine z_imulN h d_S_sumCubes_77 ?_
        refine z_iload_n h d_S_sumCubes_78 rfl ?_
        refine z_iload_n h d_S_sumCubes_79 rfl ?_
        refine z_imulN h d_S_sumCubes_80 ?_
        refine z_iload_n h d_S_sumCubes_81 rfl ?_
        refine z_cR h (f2) (zf_S_fold (by decide)) wm_S_69 wi_S_fold ws_S_fold d_S_sumCubes_82 (Nat.le_of_ble_eq_true rfl) rfl (fun x_82 hx_82 => ?_)
        obtain ⟨b1, b2, b3, b4, b5⟩ := hx_82
        obtain ⟨u3, pt3, rest3⟩ := x_82
        show Z 0 0 (sX D r dp u3 sm) _ _ _
        replace b1 : ∀ i, i < low → u3 i = u2 i := b1
        have hz3 : ∀ i, i < low → u3 i = 0 := fun i hi => by rw [b1 i hi, hz2 i hi]
        have s2 := fold_val (x := 4) (Q := Q) (G := ((M1 : Nat) : Int)) (G' := ((M2 : Nat) : Int)) (F := (k + 1) * (k + 1)) hlD hz2 b1 b3 b4 b5 g2.1 g2.2 hT hod0 (Int.natAbs_natCast _) hodx
        have hb3 : lbd u3 D 9007199254740992 := fun i hi => by
          by_cases q : i < low
          · rw [hz3 i q]
            decide
          · have hq := b2 i (by omega) hi
            exact ⟨Int.le_trans (Int.neg_le_neg (bd_cast hl2)) hq.1, Int.le_trans hq.2 (bd_cast hl2)⟩
        have f3 := ms_S_fold D (32 * (2 * (k + 1) + 1)) low (k + 1) (-((k + 1 : Nat) : Int)) 9007199254740992 ((9007199254740992 / (32 * (2 * (k + 1) + 1)) + 1 : Nat) : Int) r dp u3 sm (by omega) (by omega) hlD (by omega) (by omega) hb3 (by decide) ⟨Int.natCast_nonneg _, hp3⟩
        refine z_aload_n h d_S_sumCubes_85 rfl ?_
        refine z_iload_n h d_S_sumCubes_86 rfl ?_
        refine z_ineg h d_S_sumCubes_87 ?_
        rw [nI_neg]
        refine z_bipush (v := nI 32) h d_S_sumCubes_88 (by decide) ?_
        refine z_iload_n h d_S_sumCubes_90 rfl ?_
        refine z_imulN h d_S_sumCubes_91 ?_
        refine z_iload_n h d_S_sumCubes_92 rfl ?_
        refine z_cR h (f3) (zf_S_fold (by decide)) wm_S_69 wi_S_fold ws_S_fold d_S_sumCubes_93 (Nat.le_of_ble_eq_true rfl) rfl (fun x_93 hx_93 => ?_)
        obtain ⟨d1, d2, d3, d4, d5⟩ := hx_93
        obtain ⟨u4, pt4, rest4⟩ := x_93
        show Z 0 0 (sX D r dp u4 sm) _ _ _
        replace d1 : ∀ i, i < low → u4 i = u3 i := d1
        have s3 := fold_val (x := 64) (Q := Q) (G := ((M2 : Nat) : Int)) (G' := -((H k : Nat) : Int)) (F := k + 1) hlD hz3 d1 d3 d4 d5 g3a g3b hT (by omega) (by omega) (by omega)
        rw [Nat.pow_succ, Nat.mul_comm (1024 ^ k)] at he hlb
        have her := cub_er (by omega) s1 s2 s3 he hlb (A_step (by decide) (by omega)) (A_step (by decide) (by omega)) (A_step (by decide) (by omega))
        have hcs := cub_step (C := 1048576) hk
        have her2 := Nat.le_trans her (Nat.mul_le_mul_left Q (Nat.add_le_add_left (Nat.mul_le_mul_right (1024 ^ k) hcs) _))
        refine z_iincS h 1 d_S_sumCubes_96 rfl (by decide) (by decide) (by omega) ?_
        refine z_goto (tgt := 14) h d_S_sumCubes_99 (by decide) ?_
        rw [Nat.add_sub_cancel]
        refine z_lv h rfl (ih u4 (by omega) (fun i hi => ?_) (fun i hi => ?_) her2)
        · rw [d1 i (by omega)]
          exact hz3 i (by omega)
        · by_cases q : i < low
          · rw [d1 i q, hz3 i q]
            decide
          · have hq := d2 i (by omega) hi
            have hbd : (1073741824 + ((9007199254740992 / (32 * (2 * (k + 1) + 1)) + 1 : Nat) : Int)) * ((k + 1 : Nat) : Int) ≤ 9007199254740992 := by
              have h8 := fl_div (F := k + 1) (x := 64) (dv := 32 * (2 * (k + 1) + 1)) (L := 9007199254740992) (by omega) (by omega) (by decide)
              have : (1073741824 + (9007199254740992 / (32 * (2 * (k + 1) + 1)) + 1)) * (k + 1) ≤ 9007199254740992 := by
                rw [Nat.add_mul, Nat.add_mul, Nat.mul_comm (9007199254740992 / (32 * (2 * (k + 1) + 1)))]
                omega
              exact bd_cast this
            exact ⟨Int.le_trans (Int.neg_le_neg hbd) hq.1, Int.le_trans hq.2 hbd⟩
  have hT30 : 1073741824 * 1073741824 ^ D ≤ 1024 ^ K := by
    rw [Nat.mul_comm, ← Nat.pow_succ, p30, show (1024 : Nat) = 2 ^ 10 from rfl, ← Nat.pow_mul]
    exact Nat.pow_le_pow_right (by decide) (by omega)
  have hini : 1073741824 * (bv (fiJ wk 705 0) (D + 1) * Q - (-((H K : Nat) : Int)) * (1073741824 ^ D : Nat)).natAbs ≤ Q * (2147483648 * (4 * (K * K) + 16 * K + 1) + (1048576 + 1044 * (K * K * K - K * K * K)) * 1024 ^ K) := by
    have e1 := ini_er (w := wk) (D := D) (Q := Q) (g := H K) (A := 2147483648 * (4 * (K * K) + 16 * K + 1)) (C := 1048576 + 1044 * (K * K * K - K * K * K)) (X := 1024 ^ K) hD2 (by
      rw [Nat.sub_self, Nat.mul_zero, Nat.add_zero, ← Nat.mul_assoc Q, Nat.mul_comm Q]
      exact Nat.mul_le_mul (hHQ K (by omega)) hT30)
    rw [bv_fiJ hD2, Int.zero_mul, Int.zero_sub, Int.natAbs_neg] at e1 ⊢
    rw [Int.neg_mul, Int.natAbs_neg]
    exact e1
  refine z_aload_n h d_S_sumCubes_0 rfl ?_
  refine z_cR h (ms_S_begin D r dp wk sm) (zf_S_begin (by decide)) wm_S_77 wi_S_begin ws_S_begin d_S_sumCubes_1 (Nat.le_of_ble_eq_true rfl) rfl (fun x_1 hx_1 => ?_)
  refine z_aload_n h d_S_sumCubes_4 rfl ?_
  refine z_cR h (ms_S_bitsNeeded D r dp (fiJ wk 705 0) sm) (zf_S_bitsNeeded (by decide)) wm_S_80 wi_S_bitsNeeded ws_S_bitsNeeded d_S_sumCubes_5 (Nat.le_of_ble_eq_true rfl) rfl (fun x_5 hx_5 => ?_)
  refine z_bipush (v := nI 10) h d_S_sumCubes_8 (by decide) ?_
  refine z_idivN h d_S_sumCubes_10 (by omega) ?_
  refine z_iconst (v := nI 1) h d_S_sumCubes_11 (by decide) ?_
  refine z_iaddN h d_S_sumCubes_12 ?_
  rw [← hK]
  refine z_istore_n h d_S_sumCubes_13 (by decide) ?_
  refine z_lv h rfl (L K (fiJ wk 705 0) (Nat.le_refl _) (fun i hi => fiJ_0 (by omega)) (fun i hi => ?_) hini)
  rw [fiJ_0 (by omega)]
  decide
