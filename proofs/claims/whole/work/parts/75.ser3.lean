/-! DigitMill$Series: how far off; foldArctan -/
theorem val_step {W W' t pt rest f G G' : Int} {Q T b dv x : Nat} (hW : W = t * b) (ht : t = pt * dv + rest) (hW' : W' = f * pt * b) (hr : -(dv : Int) < rest ∧ rest < dv) (hG1 : dv * G' ≤ f * G + dv) (hG2 : f * G ≤ dv * G' + dv) (hT : T ≤ Q) (hdv : 0 < dv) (hx : x * f.natAbs ≤ dv) : x * (W' * Q - G' * T).natAbs ≤ (W * Q - G * T).natAbs + x * ((f.natAbs * b + 1) * Q) := by
  have e1 : (dv : Int) * (W' * Q - G' * T) = f * (W * Q - G * T) + (-(f * (rest * b * Q)) + (f * G - dv * G') * T) := by
    rw [hW', hW, ht]
    grind
  have n1 : dv * (W' * Q - G' * T).natAbs ≤ f.natAbs * (W * Q - G * T).natAbs + (f.natAbs * (dv * b * Q) + dv * T) := by
    have h1 := congrArg Int.natAbs e1
    rw [Int.natAbs_mul, Int.natAbs_natCast] at h1
    rw [h1]
    refine Nat.le_trans (Int.natAbs_add_le _ _) (Nat.add_le_add (Nat.le_of_eq (Int.natAbs_mul _ _)) (Nat.le_trans (Int.natAbs_add_le _ _) (Nat.add_le_add ?_ ?_)))
    · rw [Int.natAbs_neg, Int.natAbs_mul, Int.natAbs_mul, Int.natAbs_mul, Int.natAbs_natCast, Int.natAbs_natCast]
      exact Nat.mul_le_mul_left _ (Nat.mul_le_mul_right _ (Nat.mul_le_mul_right _ (by omega)))
    · rw [Int.natAbs_mul, Int.natAbs_natCast]
      exact Nat.mul_le_mul_right _ (by omega)
  generalize (W' * Q - G' * T).natAbs = a' at *
  generalize (W * Q - G * T).natAbs = a at *
  generalize f.natAbs = F at *
  apply Nat.le_of_mul_le_mul_left (c := dv) _ hdv
  calc dv * (x * a') = x * (dv * a') := by ac_rfl
    _ ≤ x * (F * a + (F * (dv * b * Q) + dv * T)) := Nat.mul_le_mul_left x n1
    _ = x * F * a + dv * (x * (F * b * Q + T)) := by grind
    _ ≤ dv * a + dv * (x * ((F * b + 1) * Q)) := by
        refine Nat.add_le_add (Nat.mul_le_mul_right a hx) (Nat.mul_le_mul_left dv (Nat.mul_le_mul_left x ?_))
        rw [Nat.add_mul, Nat.one_mul]
        exact Nat.add_le_add_left hT _
    _ = dv * (a + x * ((F * b + 1) * Q)) := (Nat.mul_add _ _ _).symm
theorem er_step {e e' x F F' b Q A A' C C' w w' : Nat} (hx : 0 < x) (h1 : x * e' ≤ e + x * ((F * b + 1) * Q)) (h2 : 1073741824 * e ≤ Q * (A + C * w)) (h3 : 1073741824 * (F * b) ≤ F' * (1073741824 + w)) (h4 : A + x * (1073741824 * (F' + 1)) ≤ x * A') (h5 : C + x * F' ≤ C') (h6 : w = x * w') : 1073741824 * e' ≤ Q * (A' + C' * w') := by
  apply Nat.le_of_mul_le_mul_left (c := x) _ hx
  calc x * (1073741824 * e') = 1073741824 * (x * e') := by ac_rfl
    _ ≤ 1073741824 * (e + x * ((F * b + 1) * Q)) := Nat.mul_le_mul_left _ h1
    _ = 1073741824 * e + x * Q * (1073741824 * (F * b) + 1073741824) := by grind
    _ ≤ Q * (A + C * w) + x * Q * (F' * (1073741824 + w) + 1073741824) := Nat.add_le_add h2 (Nat.mul_le_mul_left _ (Nat.add_le_add_right h3 _))
    _ = Q * ((A + x * (1073741824 * (F' + 1))) + (C + x * F') * w) := by grind
    _ ≤ Q * (x * A' + C' * w) := Nat.mul_le_mul_left Q (Nat.add_le_add h4 (Nat.mul_le_mul_right w h5))
    _ = x * (Q * (A' + C' * w')) := by rw [h6]; grind
theorem pow10 {x t k : Nat} (h : 2 ^ t ≤ x ^ 10) : 2 ^ (k * t / 10) ≤ x ^ k := by
  have e1 : (2 ^ (k * t / 10)) ^ 10 ≤ (x ^ k) ^ 10 := by
    rw [← Nat.pow_mul, ← Nat.pow_mul]
    calc 2 ^ (k * t / 10 * 10) ≤ 2 ^ (t * k) := Nat.pow_le_pow_right (by decide) (by rw [Nat.mul_comm t k]; exact Nat.div_mul_le_self _ _)
      _ = (2 ^ t) ^ k := Nat.pow_mul _ _ _
      _ ≤ (x ^ 10) ^ k := Nat.pow_le_pow_left h k
      _ = x ^ (k * 10) := by rw [← Nat.pow_mul, Nat.mul_comm]
  exact (Nat.pow_le_pow_iff_left (by decide)).mp e1
theorem low_b {D q w : Nat} (h : 2 ^ q ≤ w) : 1073741824 * 1073741824 ^ (min D (q / 30 - 1)) ≤ 1073741824 + w := by
  by_cases e : q / 30 = 0
  · rw [e, Nat.zero_sub, Nat.min_zero, Nat.pow_zero]
    omega
  · have e1 : 1073741824 * 1073741824 ^ (min D (q / 30 - 1)) ≤ 2 ^ q := by
      rw [Nat.mul_comm, ← Nat.pow_succ, p30]
      exact Nat.pow_le_pow_right (by decide) (by omega)
    omega
/-- limbs bounded -/
abbrev lbd (w : Nat → Int) (D : Nat) (L : Int) : Prop := ∀ i, i ≤ D → -L ≤ w i ∧ w i ≤ L
theorem fl_div {F x dv L : Nat} (hdv : 0 < dv) (h : F * x ≤ dv) (hx : 0 < x) : F * (L / dv) ≤ L / x := by
  rw [Nat.le_div_iff_mul_le hx]
  calc F * (L / dv) * x = F * x * (L / dv) := by ac_rfl
    _ ≤ dv * (L / dv) := Nat.mul_le_mul_right _ h
    _ ≤ L := Nat.mul_div_le _ _
theorem div_fl {m dv : Nat} (hdv : 0 < dv) : (dv : Int) * ((m / dv : Nat) : Int) ≤ m + dv ∧ (m : Int) ≤ dv * ((m / dv : Nat) : Int) + dv := by
  have h1 := Nat.div_add_mod m dv
  have h2 := Nat.mod_lt m hdv
  have h3 : ((dv * (m / dv) : Nat) : Int) = (dv : Int) * ((m / dv : Nat) : Int) := Int.natCast_mul _ _
  omega
/-- one fold, seen from outside: value and limbs -/
theorem fold_val {D dv low F x : Nat} {fa : Int} {wk wk' : Nat → Int} {pt rest : Int} {Q : Nat} {G G' : Int} (hlow : low ≤ D) (hz : ∀ i, i < low → wk i = 0) (h1 : ∀ i, i < low → wk' i = wk i) (hr : -(dv : Int) < rest ∧ rest < dv) (ht : tv wk D (D + 1 - low) = pt * dv + rest) (ht' : tv wk' D (D + 1 - low) = fa * pt) (hG1 : dv * G' ≤ fa * G + dv) (hG2 : fa * G ≤ dv * G' + dv) (hT : 1073741824 ^ D ≤ Q) (hdv : 0 < dv) (hF : fa.natAbs = F) (hx : x * F ≤ dv) : x * (bv wk' (D + 1) * Q - G' * (1073741824 ^ D : Nat)).natAbs ≤ (bv wk (D + 1) * Q - G * (1073741824 ^ D : Nat)).natAbs + x * ((F * 1073741824 ^ low + 1) * Q) := by
  subst hF
  refine val_step (t := tv wk D (D + 1 - low)) (pt := pt) (rest := rest) (dv := dv) ?_ ht ?_ hr hG1 hG2 hT hdv hx
  · rw [bv_low (low := low) (by omega) hz, Int.natCast_pow]
    rfl
  · rw [bv_low (low := low) (by omega) (fun i hi => by rw [h1 i hi, hz i hi]), ht', Int.natCast_pow]
    rfl
theorem K_bits {N t : Nat} (ht : 0 < t) : N ≤ (N * 10 / t + 1) * t / 10 := by
  have h1 := Nat.lt_mul_div_succ (N * 10) ht
  rw [Nat.mul_comm t] at h1
  rw [Nat.le_div_iff_mul_le (by decide)]
  exact Nat.le_of_lt h1
theorem C_step {x K k : Nat} (hk : k + 1 ≤ K) : 1 + x * (K * (K + 1) - (k + 1) * (k + 1 + 1)) + x * (2 * (k + 1)) ≤ 1 + x * (K * (K + 1) - k * (k + 1)) := by
  have h1 : (k + 1) * (k + 1 + 1) ≤ K * (K + 1) := Nat.mul_le_mul hk (by omega)
  have h2 : (k + 1) * (k + 1 + 1) = k * (k + 1) + 2 * (k + 1) := by grind
  rw [Nat.add_assoc, ← Nat.mul_add]
  refine Nat.add_le_add_left (Nat.mul_le_mul_left x ?_) 1
  omega
theorem A_abs {y y2 a c d : Nat} (h0 : y2 = 2 * y) (h1 : d ≤ c) (h2 : 2 * y ≤ c) (h3 : a = c + c) : y2 + d ≤ a := by omega
theorem A_step {x K k : Nat} (hx : 2 ≤ x) (hk : k ≤ K) : 2147483648 * (K + 1) + x * (1073741824 * (k + 1)) ≤ x * (2147483648 * (K + 1)) :=
  A_abs (y := 1073741824 * (K + 1)) (c := x * (1073741824 * (K + 1))) (by omega) (Nat.mul_le_mul_left x (Nat.mul_le_mul_left _ (by omega))) (Nat.mul_le_mul_right _ hx) ((congrArg (fun q => x * q) (show 2147483648 * (K + 1) = 1073741824 * (K + 1) + 1073741824 * (K + 1) by omega)).trans (Nat.mul_add _ _ _))
/-- the same as whole numbers -/
theorem bd_cast {p q m : Nat} (h : (1073741824 + p) * q ≤ m) : (1073741824 + (p : Int)) * (q : Int) ≤ (m : Int) := by
  have e := Int.ofNat_le.mpr h
  rw [Int.natCast_mul, Int.natCast_add] at e
  exact e
theorem fiJ_0 {w : Nat → Int} {i : Nat} (h : i < 705) : fiJ w 705 0 i = 0 := if_pos h
theorem bv_fiJ {w : Nat → Int} {D : Nat} (h : D ≤ 704) : bv (fiJ w 705 0) (D + 1) = 0 := bv_zero (fun i hi => fiJ_0 (by omega))
/-- nothing yet, against the rest of the series -/
theorem ini_er {w : Nat → Int} {D Q g A C X : Nat} (hD : D ≤ 704) (hg : g * (1073741824 * 1073741824 ^ D) ≤ Q * (C * X)) : 1073741824 * (bv (fiJ w 705 0) (D + 1) * Q - ((g : Nat) : Int) * (1073741824 ^ D : Nat)).natAbs ≤ Q * (A + C * X) := by
  rw [bv_fiJ hD, Int.zero_mul, Int.zero_sub, Int.natAbs_neg, ← Int.natCast_mul, Int.natAbs_natCast, Nat.mul_left_comm]
  exact Nat.le_trans hg (Nat.mul_le_mul_left Q (Nat.le_add_left _ _))
set_option maxRecDepth 100000 in
set_option maxHeartbeats 4000000 in
theorem ms_S_foldArctan (D x t Q KM K : Nat) (G : Nat → Nat) (r : Nat → Nat → Nat) (dp : Nat → Nat) (wk sm : Nat → Int) (hD : 1 ≤ D ∧ D ≤ 704) (hx : 2 ≤ x ∧ x ≤ 60000) (ht : 47 ≤ t ∧ t ≤ 200) (hx10 : 2 ^ t ≤ x ^ 10) (hKx : K * x ≤ 130000000) (hK : K = (D * 30 + 32) * 10 / t + 1) (hKM : K ≤ KM) (hT : 1073741824 ^ D ≤ Q) (hG : ∀ k, k < KM → G k = (G (k + 1) + Q) * (2 * (k + 1)) / ((2 * (k + 1) + 1) * x)) (hGQ : ∀ k, k ≤ KM → G k ≤ Q) : MS y_S_foldArctan c_S_foldArctan 4 none (rm 4) [.ref 0, .int (nI x), .int (nI t)] (sX D r dp wk sm) (zP (X := Nat → Int) (fun _ => none) (fun q => sX D r dp q sm) (fun q => lbd q D 35184372088833 ∧ 1073741824 * (bv q (D + 1) * Q - ((G 0 + Q : Nat) : Int) * (1073741824 ^ D : Nat)).natAbs ≤ Q * (2147483648 * (2 * K + 1) + (1 + x * (K * (K + 1)))))) := by
  refine MS_of (own := R_S) (by decide) rfl (fun _ => Nat.le_of_ble_eq_true rfl) (fun Z h hr => ?_)
  obtain ⟨hx1, hx2⟩ := hx
  obtain ⟨ht1, ht2⟩ := ht
  obtain ⟨hD1, hD2⟩ := hD
  have hK1 : K ≤ 4502 := by
    rw [hK]
    have : (D * 30 + 32) * 10 / t ≤ (D * 30 + 32) * 10 / 47 := Nat.div_le_div_left ht1 (by decide)
    omega
  have hx0 : 0 < x := by omega
  have hT0 : 0 < 1073741824 ^ D := Nat.pow_pos (by decide)
  have L : ∀ (k : Nat) (u : Nat → Int), k ≤ K → (∀ i, i < min D (k * t / 10 / 30 - 1) → u i = 0) → lbd u D 35184372088832 → 1073741824 * (bv u (D + 1) * Q - ((G k : Nat) : Int) * (1073741824 ^ D : Nat)).natAbs ≤ Q * (2147483648 * (2 * K + 1) + (1 + x * (K * (K + 1) - k * (k + 1))) * x ^ k) → Z 0 0 (sX D r dp u sm) [(0, .ref 0), (1, .int (nI x)), (2, .int (nI t)), (3, .int (nI k))] 16 [] := by
    intro k
    induction k with
    | zero =>
      intro u hk hz hb he
      refine z_iload_n h d_S_foldArctan_16 rfl ?_
      refine z_iconst (v := nI 1) h d_S_foldArctan_17 (by decide) ?_
      refine z_icmp_ltN (tgt := 64) h d_S_foldArctan_18 (by decide) (by omega) (fun c_18 => ?_) (fun c_18 => ?_)
      · refine z_aload_n h d_S_foldArctan_64 rfl ?_
        refine z_get (C := R_S) (T := F_S) (N := 5) h 2 d_S_foldArctan_65 in_S rfl (by decide) wf_S_20 rfl rfl ?_
        refine z_aload_n h d_S_foldArctan_68 rfl ?_
        refine z_get (C := R_S) (T := F_S) (N := 5) h 4 d_S_foldArctan_69 in_S rfl (by decide) wf_S_36 rfl rfl ?_
        refine z_dup2_11 h d_S_foldArctan_72 rfl rfl ?_
        refine z_laloadI h d_S_foldArctan_73 rfl (by omega) ?_
        refine z_lconst (v := 1) h d_S_foldArctan_74 (by decide) ?_
        rw [show (1 : Int64) = lI 1 from rfl]
        refine z_laddI h d_S_foldArctan_75 ?_
        refine z_lastoreI h d_S_foldArctan_76 rfl (by omega) ?_
        refine hr.2.2.2.1 _ _ _ _ _ (Nat.le_refl _) (Nat.le_refl _) rfl d_S_foldArctan_77 ?_
        refine ⟨ui u D (u D + 1), rfl, rfl, fun i hi => ?_, ?_⟩
        · show _ ≤ ui u D (u D + 1) i ∧ ui u D (u D + 1) i ≤ _
          unfold ui
          split
          · have := hb D (Nat.le_refl _)
            omega
          · have := hb i hi
            omega
        · show 1073741824 * (bv (ui u D (u D + 1)) (D + 1) * Q - ((G 0 + Q : Nat) : Int) * (1073741824 ^ D : Nat)).natAbs ≤ _
          rw [Nat.pow_zero, Nat.mul_one, Nat.zero_mul, Nat.sub_zero] at he
          rw [bv_ui (by omega), Int.natCast_add]
          have e9 : (bv u (D + 1) + 1 * (1073741824 : Int) ^ D) * Q - ((G 0 : Int) + Q) * (1073741824 ^ D : Nat) = bv u (D + 1) * Q - ((G 0 : Nat) : Int) * (1073741824 ^ D : Nat) := by
            rw [Int.natCast_pow, show ((1073741824 : Nat) : Int) = 1073741824 from rfl, Int.add_mul, Int.add_mul, Int.one_mul, Int.mul_comm (Q : Int)]
            omega
          rw [e9]
          exact he
      · exact absurd c_18 (by omega)
    | succ k ih =>
      intro u hk hz hb he
      have hmono : min D (k * t / 10 / 30 - 1) ≤ min D ((k + 1) * t / 10 / 30 - 1) := by
        have : k * t / 10 / 30 ≤ (k + 1) * t / 10 / 30 := Nat.div_le_div_right (Nat.div_le_div_right (Nat.mul_le_mul_right t (by omega)))
        omega
      have hkt : (k + 1) * t ≤ 4502 * 200 := Nat.mul_le_mul (by omega) ht2
      have hlb := low_b (D := D) (pow10 (k := k + 1) hx10)
      generalize hlow : min D ((k + 1) * t / 10 / 30 - 1) = low at *
      have hlD : low ≤ D := by omega
      have hdv0 : 0 < (2 * (k + 1) + 1) * x := Nat.mul_pos (by omega) hx0
      have hdvB : (2 * (k + 1) + 1) * x < 1073741824 := by
        have q1 : (k + 1) * x ≤ K * x := Nat.mul_le_mul_right x hk
        have q2 : (2 * (k + 1) + 1) * x = 2 * ((k + 1) * x) + x := by rw [Nat.add_mul, Nat.one_mul, Nat.mul_assoc]
        omega
      have hfx : x * (2 * (k + 1)) ≤ (2 * (k + 1) + 1) * x := by rw [Nat.mul_comm]; exact Nat.mul_le_mul_right x (by omega)
      have hGk := hG k (by omega)
      have hfl := div_fl (m := (G (k + 1) + Q) * (2 * (k + 1))) hdv0
      rw [← hGk] at hfl
      have hcast : (((G (k + 1) + Q) * (2 * (k + 1)) : Nat) : Int) = ((2 * (k + 1) : Nat) : Int) * ((G (k + 1) + Q : Nat) : Int) := by rw [Int.natCast_mul, Int.mul_comm]
      rw [hcast] at hfl
      have hPL := fl_div (F := 2 * (k + 1)) (x := x) (dv := (2 * (k + 1) + 1) * x) (L := 35184372088833) hdv0 (by rw [Nat.mul_comm]; exact hfx) hx0
      have hLx : 35184372088833 / x ≤ 35184372088833 / 2 := Nat.div_le_div_left hx1 (by decide)
      have hLP : (35184372088833 : Int) ≤ (((2 * (k + 1) + 1) * x : Nat) : Int) * ((35184372088833 / ((2 * (k + 1) + 1) * x) + 1 : Nat) : Int) := by
        have := Nat.lt_mul_div_succ 35184372088833 hdv0
        rw [← Int.natCast_mul]
        omega
      generalize hdvE : (2 * (k + 1) + 1) * x = dv at *
      refine z_iload_n h d_S_foldArctan_16 rfl ?_
      refine z_iconst (v := nI 1) h d_S_foldArctan_17 (by decide) ?_
      refine z_icmp_ltN (tgt := 64) h d_S_foldArctan_18 (by decide) (by omega) (fun c_18 => ?_) (fun c_18 => ?_)
      · exact absurd c_18 (by omega)
      · refine z_aload_n h d_S_foldArctan_21 rfl ?_
        refine z_get (C := R_S) (T := F_S) (N := 5) h 2 d_S_foldArctan_22 in_S rfl (by decide) wf_S_20 rfl rfl ?_
        refine z_aload_n h d_S_foldArctan_25 rfl ?_
        refine z_get (C := R_S) (T := F_S) (N := 5) h 4 d_S_foldArctan_26 in_S rfl (by decide) wf_S_36 rfl rfl ?_
        refine z_dup2_11 h d_S_foldArctan_29 rfl rfl ?_
        refine z_laloadI h d_S_foldArctan_30 rfl (by omega) ?_
        refine z_lconst (v := 1) h d_S_foldArctan_31 (by decide) ?_
        rw [show (1 : Int64) = lI 1 from rfl]
        refine z_laddI h d_S_foldArctan_32 ?_
        refine z_lastoreI h d_S_foldArctan_33 rfl (by omega) ?_
        show Z 0 0 (sX D r dp (ui u D (u D + 1)) sm) _ _ _
        refine z_aload_n h d_S_foldArctan_34 rfl ?_
        refine z_iconst (v := nI 2) h d_S_foldArctan_35 (by decide) ?_
        refine z_iload_n h d_S_foldArctan_36 rfl ?_
        refine z_imulN h d_S_foldArctan_37 ?_
        refine z_iconst (v := nI 2) h d_S_foldArctan_38 (by decide) ?_
        refine z_iload_n h d_S_foldArctan_39 rfl ?_
        refine z_imulN h d_S_foldArctan_40 ?_
        refine z_iconst (v := nI 1) h d_S_foldArctan_41 (by decide) ?_
        refine z_iaddN h d_S_foldArctan_42 ?_
        refine z_iload_n h d_S_foldArctan_43 rfl ?_
        refine z_imulN h d_S_foldArctan_44 ?_
        refine z_aload_n h d_S_foldArctan_45 rfl ?_
        refine z_iload_n h d_S_foldArctan_46 rfl ?_
        refine z_iload_n h d_S_foldArctan_47 rfl ?_
        refine z_imulN h d_S_foldArctan_48 ?_
        refine z_bipush (v := nI 10) h d_S_foldArctan_49 (by decide) ?_
        refine z_idivN h d_S_foldArctan_51 (by omega) ?_
        refine z_cR h (ms_S_lowest D ((k + 1) * t / 10) r dp _ sm (by omega) (by omega)) (zf_S_lowest (by decide)) wm_S_84 wi_S_lowest ws_S_lowest d_S_foldArctan_52 (Nat.le_of_ble_eq_true rfl) rfl (fun x_52 hx_52 => ?_)
        rw [hlow]
        have hz1 : ∀ i, i < low → ui u D (u D + 1) i = 0 := fun i hi => by rw [ui_ne (by omega)]; exact hz i hi
        have hb1 : lbd (ui u D (u D + 1)) D 35184372088833 := fun i hi => by
          unfold ui
          split
          · have := hb D (Nat.le_refl _)
            omega
          · have := hb i hi
            omega
        have hv1 : bv (ui u D (u D + 1)) (D + 1) * Q - ((G (k + 1) + Q : Nat) : Int) * (1073741824 ^ D : Nat) = bv u (D + 1) * Q - ((G (k + 1) : Nat) : Int) * (1073741824 ^ D : Nat) := by
          rw [bv_ui (by omega), Int.natCast_add, Int.natCast_pow, show ((1073741824 : Nat) : Int) = 1073741824 from rfl, Int.add_mul, Int.add_mul, Int.one_mul, Int.mul_comm (Q : Int)]
          omega
        generalize ui u D (u D + 1) = u1 at *
        have hfo := ms_S_fold D dv low (2 * (k + 1)) ((2 * (k + 1) : Nat) : Int) 35184372088833 ((35184372088833 / dv + 1 : Nat) : Int) r dp u1 sm (by omega) ⟨hdv0, hdvB⟩ hlD (by omega) (by omega) hb1 (by decide) ⟨Int.natCast_nonneg _, hLP⟩
        rw [← nI_iI] at hfo
        have hdvI : nI ((2 * (k + 1) + 1) * x) = nI dv := by rw [hdvE]
        rw [hdvI]
        refine z_cR h (hfo) (zf_S_fold (by decide)) wm_S_69 wi_S_fold ws_S_fold d_S_foldArctan_55 (Nat.le_of_ble_eq_true rfl) rfl (fun x_55 hx_55 => ?_)
        obtain ⟨k1, k2, k3, k4, k5⟩ := hx_55
        obtain ⟨u2, pt, rest⟩ := x_55
        show Z 0 0 (sX D r dp u2 sm) _ _ _
        replace k1 : ∀ i, i < low → u2 i = u1 i := k1
        have hst := fold_val (x := x) (Q := Q) (G := ((G (k + 1) + Q : Nat) : Int)) (G' := ((G k : Nat) : Int)) (F := 2 * (k + 1)) hlD hz1 k1 k3 k4 k5 hfl.1 hfl.2 hT hdv0 (by omega) hfx
        rw [hv1] at hst
        have her := er_step (F' := 2 * (k + 1)) (A' := 2147483648 * (2 * K + 1)) (C' := 1 + x * (K * (K + 1) - k * (k + 1))) (w := x ^ (k + 1)) (w' := x ^ k) hx0 hst he (by rw [Nat.mul_left_comm]; exact Nat.mul_le_mul_left _ hlb) (A_step hx1 (by omega)) (C_step hk) (by rw [Nat.pow_succ, Nat.mul_comm])
        refine z_iincS h 1 d_S_foldArctan_58 rfl (by decide) (by decide) (by omega) ?_
        refine z_goto (tgt := 16) h d_S_foldArctan_61 (by decide) ?_
        rw [Nat.add_sub_cancel]
        refine z_lv h rfl (ih u2 (by omega) (fun i hi => ?_) (fun i hi => ?_) her)
        · rw [k1 i (by omega)]
          exact hz1 i (by omega)
        · by_cases q : i < low
          · rw [k1 i q, hz1 i q]
            decide
          · have hq := k2 i (by omega) hi
            have hbd : (1073741824 + ((35184372088833 / dv + 1 : Nat) : Int)) * ((2 * (k + 1) : Nat) : Int) ≤ 35184372088832 := by
              have : (1073741824 + (35184372088833 / dv + 1)) * (2 * (k + 1)) ≤ 35184372088832 := by
                rw [Nat.add_mul, Nat.add_mul, Nat.mul_comm (35184372088833 / dv)]
                omega
              exact bd_cast this
            exact ⟨Int.le_trans (Int.neg_le_neg hbd) hq.1, Int.le_trans hq.2 hbd⟩
  have hT30 : 1073741824 * 1073741824 ^ D ≤ x ^ K := by
    have q1 : 2 ^ (K * t / 10) ≤ x ^ K := pow10 hx10
    have q2 : D * 30 + 32 ≤ K * t / 10 := by rw [hK]; exact K_bits (by omega)
    refine Nat.le_trans ?_ q1
    rw [Nat.mul_comm, ← Nat.pow_succ, p30]
    exact Nat.pow_le_pow_right (by decide) (by omega)
  have hini : 1073741824 * (bv (fiJ wk 705 0) (D + 1) * Q - ((G K : Nat) : Int) * (1073741824 ^ D : Nat)).natAbs ≤ Q * (2147483648 * (2 * K + 1) + (1 + x * (K * (K + 1) - K * (K + 1))) * x ^ K) := by
    refine ini_er hD2 ?_
    rw [Nat.sub_self, Nat.mul_zero, Nat.add_zero, Nat.one_mul]
    exact Nat.mul_le_mul (hGQ K hKM) hT30
  refine z_aload_n h d_S_foldArctan_0 rfl ?_
  refine z_cR h (ms_S_begin D r dp wk sm) (zf_S_begin (by decide)) wm_S_77 wi_S_begin ws_S_begin d_S_foldArctan_1 (Nat.le_of_ble_eq_true rfl) rfl (fun x_1 hx_1 => ?_)
  refine z_aload_n h d_S_foldArctan_4 rfl ?_
  refine z_cR h (ms_S_bitsNeeded D r dp (fiJ wk 705 0) sm) (zf_S_bitsNeeded (by decide)) wm_S_80 wi_S_bitsNeeded ws_S_bitsNeeded d_S_foldArctan_5 (Nat.le_of_ble_eq_true rfl) rfl (fun x_5 hx_5 => ?_)
  refine z_bipush (v := nI 10) h d_S_foldArctan_8 (by decide) ?_
  refine z_imulN h d_S_foldArctan_10 ?_
  refine z_iload_n h d_S_foldArctan_11 rfl ?_
  refine z_idivN h d_S_foldArctan_12 (by omega) ?_
  refine z_iconst (v := nI 1) h d_S_foldArctan_13 (by decide) ?_
  refine z_iaddN h d_S_foldArctan_14 ?_
  rw [← hK]
  refine z_istore_n h d_S_foldArctan_15 (by decide) ?_
  refine z_lv h rfl (L K (fiJ wk 705 0) (Nat.le_refl _) (fun i hi => fiJ_0 (by omega)) (fun i hi => ?_) hini)
  rw [fiJ_0 (by omega)]
  decide
