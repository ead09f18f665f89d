/-! DigitMill$Series: values, gather, settle, row; how errors go on -/
/-- limbs from the lowest up -/
def bv (w : Nat → Int) : Nat → Int
  | 0 => 0
  | m + 1 => bv w m + w m * (1073741824 : Int) ^ m
theorem bv_congr {w u : Nat → Int} : ∀ {m : Nat}, (∀ i, i < m → w i = u i) → bv w m = bv u m
  | 0, _ => rfl
  | m + 1, h => by
    unfold bv
    rw [bv_congr (m := m) (fun i hi => h i (by omega)), h m (by omega)]
theorem bv_zero {w : Nat → Int} : ∀ {m : Nat}, (∀ i, i < m → w i = 0) → bv w m = 0
  | 0, _ => rfl
  | m + 1, h => by
    unfold bv
    rw [bv_zero (m := m) (fun i hi => h i (by omega)), h m (by omega), Int.zero_mul, Int.add_zero]
theorem bv_tv {w : Nat → Int} {D : Nat} : ∀ {c : Nat}, c ≤ D + 1 → tv w D c * (1073741824 : Int) ^ (D + 1 - c) + bv w (D + 1 - c) = bv w (D + 1)
  | 0, _ => by
    show 0 * _ + bv w (D + 1) = _
    rw [Int.zero_mul, Int.zero_add]
  | c + 1, h => by
    have ih := bv_tv (w := w) (D := D) (c := c) (by omega)
    rw [show D + 1 - c = (D - c) + 1 by omega] at ih
    rw [show D + 1 - (c + 1) = D - c by omega, ← ih]
    rw [show tv w D (c + 1) = tv w D c * 1073741824 + w (D - c) from rfl, show bv w (D - c + 1) = bv w (D - c) + w (D - c) * (1073741824 : Int) ^ (D - c) from rfl, Int.pow_succ, Int.add_mul, Int.mul_assoc, Int.mul_comm 1073741824]
    omega
/-- where the limbs below low are 0 -/
theorem bv_low {w : Nat → Int} {D low : Nat} (h : low ≤ D + 1) (hz : ∀ i, i < low → w i = 0) : bv w (D + 1) = tv w D (D + 1 - low) * (1073741824 : Int) ^ low := by
  have e := bv_tv (w := w) (D := D) (c := D + 1 - low) (by omega)
  rw [show D + 1 - (D + 1 - low) = low by omega, bv_zero hz, Int.add_zero] at e
  exact e.symm
theorem bv_add {w u v : Nat → Int} : ∀ {m : Nat}, (∀ i, i < m → v i = w i + u i) → bv v m = bv w m + bv u m
  | 0, _ => rfl
  | m + 1, h => by
    unfold bv
    rw [bv_add (m := m) (fun i hi => h i (by omega)), h m (by omega), Int.add_mul]
    omega
theorem bv_ui {w : Nat → Int} {i : Nat} {x : Int} : ∀ {m : Nat}, i < m → bv (ui w i (w i + x)) m = bv w m + x * (1073741824 : Int) ^ i
  | 0, h => absurd h (by omega)
  | m + 1, h => by
    unfold bv
    by_cases e : i = m
    · subst e
      rw [ui_eq, bv_congr (u := w) (fun j hj => ui_ne (by omega)), Int.add_mul]
      omega
    · rw [bv_ui (m := m) (by omega), ui_ne (fun q => e q.symm)]
      omega
theorem less_end {m D P : Nat} {c : Int} (hm : m < P) (hD : D < P) (h : (m : Int) + c * (P : Int) = (D : Int)) : m = D := by
  have hP : (0 : Int) < P := by omega
  rcases Int.lt_trichotomy c 0 with q | q | q
  · have e1 : c * (P : Int) ≤ -1 * (P : Int) := Int.mul_le_mul_of_nonneg_right (by omega) (by omega)
    omega
  · subst q
    omega
  · have e1 : 1 * (P : Int) ≤ c * (P : Int) := Int.mul_le_mul_of_nonneg_right (by omega) (by omega)
    omega
set_option maxRecDepth 100000 in
theorem ms_S_gather (D : Nat) (r : Nat → Nat → Nat) (dp : Nat → Nat) (wk sm : Nat → Int) (hD : D ≤ 704) : MS y_S_gather c_S_gather 2 none (rm 1) [.ref 0] (sX D r dp wk sm) (zP (X := Nat → Int) (fun _ => none) (fun q => sX D r dp wk q) (fun q => ∀ i, i ≤ D → q i = sm i + wk i)) := by
  refine MS_of (own := R_S) (by decide) rfl (fun _ => Nat.le_of_ble_eq_true rfl) (fun Z h hr => ?_)
  have L : ∀ (f k : Nat) (u : Nat → Int), f + k = D + 1 → (∀ i, i < k → u i = sm i + wk i) → (∀ i, k ≤ i → u i = sm i) → Z 0 0 (sX D r dp wk u) [(0, .ref 0), (1, .int (nI k))] 2 [] := by
    intro f
    induction f with
    | zero =>
      intro k u hf h1 h2
      refine z_iload_n h d_S_gather_2 rfl ?_
      refine z_aload_n h d_S_gather_3 rfl ?_
      refine z_get (C := R_S) (T := F_S) (N := 5) h 4 d_S_gather_4 in_S rfl (by decide) wf_S_36 rfl rfl ?_
      refine z_icmp_gtN (tgt := 31) h d_S_gather_7 (by decide) (by omega) (fun c_7 => ?_) (fun c_7 => ?_)
      · refine hr.2.2.2.1 _ _ _ _ _ (Nat.le_refl _) (Nat.le_refl _) rfl d_S_gather_31 ?_
        exact ⟨u, rfl, rfl, fun i hi => h1 i (by omega)⟩
      · exact absurd c_7 (by omega)
    | succ f ih =>
      intro k u hf h1 h2
      refine z_iload_n h d_S_gather_2 rfl ?_
      refine z_aload_n h d_S_gather_3 rfl ?_
      refine z_get (C := R_S) (T := F_S) (N := 5) h 4 d_S_gather_4 in_S rfl (by decide) wf_S_36 rfl rfl ?_
      refine z_icmp_gtN (tgt := 31) h d_S_gather_7 (by decide) (by omega) (fun c_7 => ?_) (fun c_7 => ?_)
      · exact absurd c_7 (by omega)
      · refine z_aload_n h d_S_gather_10 rfl ?_
        refine z_get (C := R_S) (T := F_S) (N := 5) h 3 d_S_gather_11 in_S rfl (by decide) wf_S_24 rfl rfl ?_
        refine z_iload_n h d_S_gather_14 rfl ?_
        refine z_dup2_11 h d_S_gather_15 rfl rfl ?_
        refine z_laloadI h d_S_gather_16 rfl (by omega) ?_
        refine z_aload_n h d_S_gather_17 rfl ?_
        refine z_get (C := R_S) (T := F_S) (N := 5) h 2 d_S_gather_18 in_S rfl (by decide) wf_S_20 rfl rfl ?_
        refine z_iload_n h d_S_gather_21 rfl ?_
        refine z_laloadI h d_S_gather_22 rfl (by omega) ?_
        refine z_laddI h d_S_gather_23 ?_
        refine z_lastoreI h d_S_gather_24 rfl (by omega) ?_
        refine z_iincN h 1 d_S_gather_25 rfl (by decide) (by decide) ?_
        refine z_goto (tgt := 2) h d_S_gather_28 (by decide) ?_
        refine z_lv h rfl (ih (k + 1) (ui u k (u k + wk k)) (by omega) (fun i hi => ?_) (fun i hi => ?_))
        · by_cases e : i = k
          · subst e
            rw [ui_eq, h2 i (by omega)]
          · rw [ui_ne e]
            exact h1 i (by omega)
        · rw [ui_ne (by omega)]
          exact h2 i (by omega)
  refine z_iconst (v := nI 0) h d_S_gather_0 (by decide) ?_
  refine z_istore_n h d_S_gather_1 (by decide) ?_
  exact z_lv h rfl (L (D + 1) 0 sm rfl (fun i hi => absurd hi (by omega)) (fun _ _ => rfl))
theorem nv_bv {a : Nat → Nat} : ∀ {m : Nat}, (nv 1073741824 a m : Int) = bv (fun j => (a j : Int)) m
  | 0 => rfl
  | m + 1 => by
    rw [nv_cast_s, nv_bv (m := m)]
    rfl
def ru (r : Nat → Nat → Nat) (W : Nat) (a : Nat → Nat) : Nat → Nat → Nat := fun j => if j = W then a else r j
set_option maxRecDepth 100000 in
set_option maxHeartbeats 4000000 in
theorem ms_S_settle0 (D T : Nat) (r : Nat → Nat → Nat) (dp : Nat → Nat) (wk sm : Nat → Int) (hD : 1 ≤ D ∧ D ≤ 704) (hr0 : ∀ j, r 0 j < 1073741824) (hsm : ∀ i, i ≤ D → -1152921504606846976 ≤ sm i ∧ sm i ≤ 1152921504606846976) (hT : bv sm (D + 1) - 1073741824 = T) (hT2 : T < 1073741824 ^ (D + 1)) : MS y_S_settle c_S_settle 6 none (rm 1) [.ref 0, .int (nI 0)] (sX D r dp wk sm) (zP (X := (Nat → Nat) × (Nat → Int)) (fun _ => none) (fun q => sX D (ru r 0 q.1) (un dp 0 D) wk q.2) (fun q => (∀ j, q.1 j < 1073741824) ∧ nv 1073741824 q.1 (D + 1) = T)) := by
  refine MS_of (own := R_S) (by decide) rfl (fun _ => Nat.le_of_ble_eq_true rfl) (fun Z h hr => ?_)
  have hs1 : ∀ i, i ≤ D → -1152921504606846977 ≤ ui sm 1 (sm 1 - 1) i ∧ ui sm 1 (sm 1 - 1) i ≤ 1152921504606846976 := fun i hi => by
    unfold ui
    split
    · have := hsm 1 (by omega)
      omega
    · have := hsm i hi
      omega
  have hv1 : bv (ui sm 1 (sm 1 - 1)) (D + 1) = T := by
    have e := bv_ui (w := sm) (i := 1) (x := -1) (m := D + 1) (by omega)
    rw [show sm 1 + -1 = sm 1 - 1 by omega, show (1073741824 : Int) ^ 1 = 1073741824 from rfl] at e
    rw [e]
    omega
  generalize hsu : ui sm 1 (sm 1 - 1) = su at *
  have L : ∀ (f k : Nat) (a : Nat → Nat) (c : Int), f + k = D + 1 → (∀ j, a j < 1073741824) → (-4294967296 ≤ c ∧ c ≤ 4294967296) → (nv 1073741824 a k : Int) + c * (1073741824 : Int) ^ k = bv su k → Z 0 0 (sX D (ru r 0 a) dp wk su) [(0, .ref 0), (1, .int (nI 0)), (2, .ref 2), (3, .long (lI c)), (5, .int (nI k))] 22 [] := by
    intro f
    induction f with
    | zero =>
      intro k a c hf ha hc hv
      obtain rfl : k = D + 1 := by omega
      refine z_iload h d_S_settle_22 rfl ?_
      refine z_aload_n h d_S_settle_24 rfl ?_
      refine z_get (C := R_S) (T := F_S) (N := 5) h 4 d_S_settle_25 in_S rfl (by decide) wf_S_36 rfl rfl ?_
      refine z_icmp_gtN (tgt := 62) h d_S_settle_28 (by decide) (by omega) (fun c_28 => ?_) (fun c_28 => ?_)
      · refine z_aload_n h d_S_settle_62 rfl ?_
        refine z_get (C := R_S) (T := F_S) (N := 5) h 1 d_S_settle_63 in_S rfl (by decide) wf_S_16 rfl rfl ?_
        refine z_iload_n h d_S_settle_66 rfl ?_
        refine z_aload_n h d_S_settle_67 rfl ?_
        refine z_get (C := R_S) (T := F_S) (N := 5) h 4 d_S_settle_68 in_S rfl (by decide) wf_S_36 rfl rfl ?_
        refine z_iastoreN h d_S_settle_71 rfl (by omega) ?_
        refine hr.2.2.2.1 _ _ _ _ _ (Nat.le_refl _) (Nat.le_refl _) rfl d_S_settle_72 ?_
        refine ⟨(a, su), rfl, rfl, ha, ?_⟩
        refine less_end (P := 1073741824 ^ (D + 1)) (c := c) (nv_lt (fun j _ => ha j)) hT2 ?_
        rw [Int.natCast_pow]
        rw [hv1] at hv
        exact hv
      · exact absurd c_28 (by omega)
    | succ f ih =>
      intro k a c hf ha hc hv
      have hsk := hs1 k (by omega)
      refine z_iload h d_S_settle_22 rfl ?_
      refine z_aload_n h d_S_settle_24 rfl ?_
      refine z_get (C := R_S) (T := F_S) (N := 5) h 4 d_S_settle_25 in_S rfl (by decide) wf_S_36 rfl rfl ?_
      refine z_icmp_gtN (tgt := 62) h d_S_settle_28 (by decide) (by omega) (fun c_28 => ?_) (fun c_28 => ?_)
      · exact absurd c_28 (by omega)
      · refine z_lload_n h d_S_settle_31 rfl ?_
        refine z_aload_n h d_S_settle_32 rfl ?_
        refine z_get (C := R_S) (T := F_S) (N := 5) h 3 d_S_settle_33 in_S rfl (by decide) wf_S_24 rfl rfl ?_
        refine z_iload h d_S_settle_36 rfl ?_
        refine z_laloadI h d_S_settle_38 rfl (by omega) ?_
        refine z_laddI h d_S_settle_39 ?_
        have hst : (nv 1073741824 a k : Int) + (c + su k) * (1073741824 : Int) ^ k = bv su (k + 1) := by
          unfold bv
          rw [← hv, Int.add_mul]
          omega
        generalize hw : c + su k = ww at *
        have hm := emod_nat ww
        have hl := emod_lt ww
        have hd := Int.mul_ediv_add_emod ww 1073741824
        have hs2 : -2 ^ 63 ≤ ww ∧ ww < 2 ^ 63 := by omega
        refine z_lstore_n h d_S_settle_40 (by decide) ?_
        refine z_aload_n h d_S_settle_41 rfl ?_
        refine z_iload h d_S_settle_42 rfl ?_
        refine z_lload_n h d_S_settle_44 rfl ?_
        refine z_ldc2_w (v := 1073741823) h d_S_settle_45 wv_S_93 ?_
        refine z_land30I h d_S_settle_48 ?_
        refine z_l2iM h d_S_settle_49 ?_
        refine z_iastoreN h d_S_settle_50 rfl (by omega) ?_
        refine z_lload_n h d_S_settle_51 rfl ?_
        refine z_bipush (v := 30) h d_S_settle_52 (by decide) ?_
        refine z_lshr30I h d_S_settle_54 hs2 ?_
        refine z_lstore_n h d_S_settle_55 (by decide) ?_
        refine z_iincN h 1 d_S_settle_56 rfl (by decide) (by decide) ?_
        refine z_goto (tgt := 22) h d_S_settle_59 (by decide) ?_
        refine z_lv (lv' := [(0, .ref 0), (1, .int (nI 0)), (2, .ref 2), (3, .long (lI (ww / 1073741824))), (5, .int (nI (k + 1)))]) h rfl (ih (k + 1) (un a k (ww % 1073741824).toNat) (ww / 1073741824) (by omega) (un_lt ha hl) (by omega) ?_)
        rw [nv_put, Int.natCast_add, Int.natCast_mul, hm, ← hst, Int.natCast_pow, Int.pow_succ, Int.add_assoc]
        congr 1
        rw [show (((1073741824 : Nat)) : Int) = 1073741824 from rfl, ← Int.mul_assoc (ww / 1073741824), Int.mul_right_comm (ww / 1073741824), ← Int.add_mul]
        congr 1
        omega
  refine z_aload_n h d_S_settle_0 rfl ?_
  refine z_get (C := R_S) (T := F_S) (N := 5) h 3 d_S_settle_1 in_S rfl (by decide) wf_S_24 rfl rfl ?_
  refine z_iconst (v := nI 1) h d_S_settle_4 (by decide) ?_
  refine z_dup2_11 h d_S_settle_5 rfl rfl ?_
  refine z_laloadI h d_S_settle_6 rfl (by omega) ?_
  refine z_lconst (v := 1) h d_S_settle_7 (by decide) ?_
  rw [show (1 : Int64) = lI 1 from rfl]
  refine z_lsubI h d_S_settle_8 ?_
  refine z_lastoreI h d_S_settle_9 rfl (by omega) ?_
  rw [hsu]
  refine z_aload_n h d_S_settle_10 rfl ?_
  refine z_get (C := R_S) (T := F_S) (N := 5) h 0 d_S_settle_11 in_S rfl (by decide) wf_S_11 rfl rfl ?_
  refine z_iload_n h d_S_settle_14 rfl ?_
  refine z_aaload (b := 2) h d_S_settle_15 rfl (vp_in_nI (by decide) (by decide)) rfl ?_
  refine z_astore_n h d_S_settle_16 (by decide) ?_
  refine z_lconst (v := lN 0) h d_S_settle_17 (by decide) ?_
  refine z_lstore_n h d_S_settle_18 (by decide) ?_
  refine z_iconst (v := nI 0) h d_S_settle_19 (by decide) ?_
  refine z_istore h d_S_settle_20 (by decide) ?_
  have e0 := L (D + 1) 0 (r 0) 0 rfl hr0 (by omega) rfl
  have e1 : ru r 0 (r 0) = r := funext fun j => by
    unfold ru
    split
    · rename_i q; rw [q]
    · rfl
  rw [e1] at e0
  exact z_lv h rfl e0
theorem ms_S_row0 (D : Nat) (r : Nat → Nat → Nat) (dp : Nat → Nat) (wk sm : Nat → Int) : MS y_S_row c_S_row 2 (some (.array .int)) (rm 1) [.ref 0, .int (nI 0)] (sX D r dp wk sm) (zP (X := Unit) (fun _ => some (.ref 2)) (fun _ => sX D r dp wk sm) (fun _ => True)) := by
  refine MS_of (own := R_S) (by decide) rfl (fun _ => Nat.le_of_ble_eq_true rfl) (fun Z h hr => ?_)
  refine z_aload_n h d_S_row_0 rfl ?_
  refine z_get (C := R_S) (T := F_S) (N := 5) h 0 d_S_row_1 in_S rfl (by decide) wf_S_11 rfl rfl ?_
  refine z_iload_n h d_S_row_4 rfl ?_
  refine z_aaload (b := 2) h d_S_row_5 rfl (vp_in_nI (by decide) (by decide)) rfl ?_
  refine hr.2.2.2.2 _ _ _ _ _ _ _ (Nat.le_refl _) (Nat.le_refl _) rfl d_S_row_6 ?_
  exact ⟨(), rfl, rfl, trivial⟩
set_option maxRecDepth 100000 in
set_option maxHeartbeats 4000000 in
theorem ms_S_settle1 (D T : Nat) (r : Nat → Nat → Nat) (dp : Nat → Nat) (wk sm : Nat → Int) (hD : 1 ≤ D ∧ D ≤ 704) (hr0 : ∀ j, r 1 j < 1073741824) (hsm : ∀ i, i ≤ D → -1152921504606846976 ≤ sm i ∧ sm i ≤ 1152921504606846976) (hT : bv sm (D + 1) - 1073741824 = T) (hT2 : T < 1073741824 ^ (D + 1)) : MS y_S_settle c_S_settle 6 none (rm 1) [.ref 0, .int (nI 1)] (sX D r dp wk sm) (zP (X := (Nat → Nat) × (Nat → Int)) (fun _ => none) (fun q => sX D (ru r 1 q.1) (un dp 1 D) wk q.2) (fun q => (∀ j, q.1 j < 1073741824) ∧ nv 1073741824 q.1 (D + 1) = T)) := by
  refine MS_of (own := R_S) (by decide) rfl (fun _ => Nat.le_of_ble_eq_true rfl) (fun Z h hr => ?_)
  have hs1 : ∀ i, i ≤ D → -1152921504606846977 ≤ ui sm 1 (sm 1 - 1) i ∧ ui sm 1 (sm 1 - 1) i ≤ 1152921504606846976 := fun i hi => by
    unfold ui
    split
    · have := hsm 1 (by omega)
      omega
    · have := hsm i hi
      omega
  have hv1 : bv (ui sm 1 (sm 1 - 1)) (D + 1) = T := by
    have e := bv_ui (w := sm) (i := 1) (x := -1) (m := D + 1) (by omega)
    rw [show sm 1 + -1 = sm 1 - 1 by omega, show (1073741824 : Int) ^ 1 = 1073741824 from rfl] at e
    rw [e]
    omega
  generalize hsu : ui sm 1 (sm 1 - 1) = su at *
  have L : ∀ (f k : Nat) (a : Nat → Nat) (c : Int), f + k = D + 1 → (∀ j, a j < 1073741824) → (-4294967296 ≤ c ∧ c ≤ 4294967296) → (nv 1073741824 a k : Int) + c * (1073741824 : Int) ^ k = bv su k → Z 0 0 (sX D (ru r 1 a) dp wk su) [(0, .ref 0), (1, .int (nI 1)), (2, .ref 3), (3, .long (lI c)), (5, .int (nI k))] 22 [] := by
    intro f
    induction f with
    | zero =>
      intro k a c hf ha hc hv
      obtain rfl : k = D + 1 := by omega
      refine z_iload h d_S_settle_22 rfl ?_
      refine z_aload_n h d_S_settle_24 rfl ?_
      refine z_get (C := R_S) (T := F_S) (N := 5) h 4 d_S_settle_25 in_S rfl (by decide) wf_S_36 rfl rfl ?_
      refine z_icmp_gtN (tgt := 62) h d_S_settle_28 (by decide) (by omega) (fun c_28 => ?_) (fun c_28 => ?_)
      · refine z_aload_n h d_S_settle_62 rfl ?_
        refine z_get (C := R_S) (T := F_S) (N := 5) h 1 d_S_settle_63 in_S rfl (by decide) wf_S_16 rfl rfl ?_
        refine z_iload_n h d_S_settle_66 rfl ?_
        refine z_aload_n h d_S_settle_67 rfl ?_
        refine z_get (C := R_S) (T := F_S) (N := 5) h 4 d_S_settle_68 in_S rfl (by decide) wf_S_36 rfl rfl ?_
        refine z_iastoreN h d_S_settle_71 rfl (by omega) ?_
        refine hr.2.2.2.1 _ _ _ _ _ (Nat.le_refl _) (Nat.le_refl _) rfl d_S_settle_72 ?_
        refine ⟨(a, su), rfl, rfl, ha, ?_⟩
        refine less_end (P := 1073741824 ^ (D + 1)) (c := c) (nv_lt (fun j _ => ha j)) hT2 ?_
        rw [Int.natCast_pow]
        rw [hv1] at hv
        exact hv
      · exact absurd c_28 (by omega)
    | succ f ih =>
      intro k a c hf ha hc hv
      have hsk := hs1 k (by omega)
      refine z_iload h d_S_settle_22 rfl ?_
      refine z_aload_n h d_S_settle_24 rfl ?_
      refine z_get (C := R_S) (T := F_S) (N := 5) h 4 d_S_settle_25 in_S rfl (by decide) wf_S_36 rfl rfl ?_
      refine z_icmp_gtN (tgt := 62) h d_S_settle_28 (by decide) (by omega) (fun c_28 => ?_) (fun c_28 => ?_)
      · exact absurd c_28 (by omega)
      · refine z_lload_n h d_S_settle_31 rfl ?_
        refine z_aload_n h d_S_settle_32 rfl ?_
        refine z_get (C := R_S) (T := F_S) (N := 5) h 3 d_S_settle_33 in_S rfl (by decide) wf_S_24 rfl rfl ?_
        refine z_iload h d_S_settle_36 rfl ?_
        refine z_laloadI h d_S_settle_38 rfl (by omega) ?_
        refine z_laddI h d_S_settle_39 ?_
        have hst : (nv 1073741824 a k : Int) + (c + su k) * (1073741824 : Int) ^ k = bv su (k + 1) := by
          unfold bv
          rw [← hv, Int.add_mul]
          omega
        generalize hw : c + su k = ww at *
        have hm := emod_nat ww
        have hl := emod_lt ww
        have hd := Int.mul_ediv_add_emod ww 1073741824
        have hs2 : -2 ^ 63 ≤ ww ∧ ww < 2 ^ 63 := by omega
        refine z_lstore_n h d_S_settle_40 (by decide) ?_
        refine z_aload_n h d_S_settle_41 rfl ?_
        refine z_iload h d_S_settle_42 rfl ?_
        refine z_lload_n h d_S_settle_44 rfl ?_
        refine z_ldc2_w (v := 1073741823) h d_S_settle_45 wv_S_93 ?_
        refine z_land30I h d_S_settle_48 ?_
        refine z_l2iM h d_S_settle_49 ?_
        refine z_iastoreN h d_S_settle_50 rfl (by omega) ?_
        refine z_lload_n h d_S_settle_51 rfl ?_
        refine z_bipush (v := 30) h d_S_settle_52 (by decide) ?_
        refine z_lshr30I h d_S_settle_54 hs2 ?_
        refine z_lstore_n h d_S_settle_55 (by decide) ?_
        refine z_iincN h 1 d_S_settle_56 rfl (by decide) (by decide) ?_
        refine z_goto (tgt := 22) h d_S_settle_59 (by decide) ?_
        refine z_lv (lv' := [(0, .ref 0), (1, .int (nI 1)), (2, .ref 3), (3, .long (lI (ww / 1073741824))), (5, .int (nI (k + 1)))]) h rfl (ih (k + 1) (un a k (ww % 1073741824).toNat) (ww / 1073741824) (by omega) (un_lt ha hl) (by omega) ?_)
        rw [nv_put, Int.natCast_add, Int.natCast_mul, hm, ← hst, Int.natCast_pow, Int.pow_succ, Int.add_assoc]
        congr 1
        rw [show (((1073741824 : Nat)) : Int) = 1073741824 from rfl, ← Int.mul_assoc (ww / 1073741824), Int.mul_right_comm (ww / 1073741824), ← Int.add_mul]
        congr 1
        omega
  refine z_aload_n h d_S_settle_0 rfl ?_
  refine z_get (C := R_S) (T := F_S) (N := 5) h 3 d_S_settle_1 in_S rfl (by decide) wf_S_24 rfl rfl ?_
  refine z_iconst (v := nI 1) h d_S_settle_4 (by decide) ?_
  refine z_dup2_11 h d_S_settle_5 rfl rfl ?_
  refine z_laloadI h d_S_settle_6 rfl (by omega) ?_
  refine z_lconst (v := 1) h d_S_settle_7 (by decide) ?_
  rw [show (1 : Int64) = lI 1 from rfl]
  refine z_lsubI h d_S_settle_8 ?_
  refine z_lastoreI h d_S_settle_9 rfl (by omega) ?_
  rw [hsu]
  refine z_aload_n h d_S_settle_10 rfl ?_
  refine z_get (C := R_S) (T := F_S) (N := 5) h 0 d_S_settle_11 in_S rfl (by decide) wf_S_11 rfl rfl ?_
  refine z_iload_n h d_S_settle_14 rfl ?_
  refine z_aaload (b := 3) h d_S_settle_15 rfl (vp_in_nI (by decide) (by decide)) rfl ?_
  refine z_astore_n h d_S_settle_16 (by decide) ?_
  refine z_lconst (v := lN 0) h d_S_settle_17 (by decide) ?_
  refine z_lstore_n h d_S_settle_18 (by decide) ?_
  refine z_iconst (v := nI 0) h d_S_settle_19 (by decide) ?_
  refine z_istore h d_S_settle_20 (by decide) ?_
  have e0 := L (D + 1) 0 (r 1) 0 rfl hr0 (by omega) rfl
  have e1 : ru r 1 (r 1) = r := funext fun j => by
    unfold ru
    split
    · rename_i q; rw [q]
    · rfl
  rw [e1] at e0
  exact z_lv h rfl e0
theorem ms_S_row1 (D : Nat) (r : Nat → Nat → Nat) (dp : Nat → Nat) (wk sm : Nat → Int) : MS y_S_row c_S_row 2 (some (.array .int)) (rm 1) [.ref 0, .int (nI 1)] (sX D r dp wk sm) (zP (X := Unit) (fun _ => some (.ref 3)) (fun _ => sX D r dp wk sm) (fun _ => True)) := by
  refine MS_of (own := R_S) (by decide) rfl (fun _ => Nat.le_of_ble_eq_true rfl) (fun Z h hr => ?_)
  refine z_aload_n h d_S_row_0 rfl ?_
  refine z_get (C := R_S) (T := F_S) (N := 5) h 0 d_S_row_1 in_S rfl (by decide) wf_S_11 rfl rfl ?_
  refine z_iload_n h d_S_row_4 rfl ?_
  refine z_aaload (b := 3) h d_S_row_5 rfl (vp_in_nI (by decide) (by decide)) rfl ?_
  refine hr.2.2.2.2 _ _ _ _ _ _ _ (Nat.le_refl _) (Nat.le_refl _) rfl d_S_row_6 ?_
  exact ⟨(), rfl, rfl, trivial⟩
set_option maxRecDepth 100000 in
set_option maxHeartbeats 4000000 in
theorem ms_S_settle3 (D T : Nat) (r : Nat → Nat → Nat) (dp : Nat → Nat) (wk sm : Nat → Int) (hD : 1 ≤ D ∧ D ≤ 704) (hr0 : ∀ j, r 3 j < 1073741824) (hsm : ∀ i, i ≤ D → -1152921504606846976 ≤ sm i ∧ sm i ≤ 1152921504606846976) (hT : bv sm (D + 1) - 1073741824 = T) (hT2 : T < 1073741824 ^ (D + 1)) : MS y_S_settle c_S_settle 6 none (rm 1) [.ref 0, .int (nI 3)] (sX D r dp wk sm) (zP (X := (Nat → Nat) × (Nat → Int)) (fun _ => none) (fun q => sX D (ru r 3 q.1) (un dp 3 D) wk q.2) (fun q => (∀ j, q.1 j < 1073741824) ∧ nv 1073741824 q.1 (D + 1) = T)) := by
  refine MS_of (own := R_S) (by decide) rfl (fun _ => Nat.le_of_ble_eq_true rfl) (fun Z h hr => ?_)
  have hs1 : ∀ i, i ≤ D → -1152921504606846977 ≤ ui sm 1 (sm 1 - 1) i ∧ ui sm 1 (sm 1 - 1) i ≤ 1152921504606846976 := fun i hi => by
    unfold ui
    split
    · have := hsm 1 (by omega)
      omega
    · have := hsm i hi
      omega
  have hv1 : bv (ui sm 1 (sm 1 - 1)) (D + 1) = T := by
    have e := bv_ui (w := sm) (i := 1) (x := -1) (m := D + 1) (by omega)
    rw [show sm 1 + -1 = sm 1 - 1 by omega, show (1073741824 : Int) ^ 1 = 1073741824 from rfl] at e
    rw [e]
    omega
  generalize hsu : ui sm 1 (sm 1 - 1) = su at *
  have L : ∀ (f k : Nat) (a : Nat → Nat) (c : Int), f + k = D + 1 → (∀ j, a j < 1073741824) → (-4294967296 ≤ c ∧ c ≤ 4294967296) → (nv 1073741824 a k : Int) + c * (1073741824 : Int) ^ k = bv su k → Z 0 0 (sX D (ru r 3 a) dp wk su) [(0, .ref 0), (1, .int (nI 3)), (2, .ref 5), (3, .long (lI c)), (5, .int (nI k))] 22 [] := by
    intro f
    induction f with
    | zero =>
      intro k a c hf ha hc hv
      obtain rfl : k = D + 1 := by omega
      refine z_iload h d_S_settle_22 rfl ?_
      refine z_aload_n h d_S_settle_24 rfl ?_
      refine z_get (C := R_S) (T := F_S) (N := 5) h 4 d_S_settle_25 in_S rfl (by decide) wf_S_36 rfl rfl ?_
      refine z_icmp_gtN (tgt := 62) h d_S_settle_28 (by decide) (by omega) (fun c_28 => ?_) (fun c_28 => ?_)
      · refine z_aload_n h d_S_settle_62 rfl ?_
        refine z_get (C := R_S) (T := F_S) (N := 5) h 1 d_S_settle_63 in_S rfl (by decide) wf_S_16 rfl rfl ?_
        refine z_iload_n h d_S_settle_66 rfl ?_
        refine z_aload_n h d_S_settle_67 rfl ?_
        refine z_get (C := R_S) (T := F_S) (N := 5) h 4 d_S_settle_68 in_S rfl (by decide) wf_S_36 rfl rfl ?_
        refine z_iastoreN h d_S_settle_71 rfl (by omega) ?_
        refine hr.2.2.2.1 _ _ _ _ _ (Nat.le_refl _) (Nat.le_refl _) rfl d_S_settle_72 ?_
        refine ⟨(a, su), rfl, rfl, ha, ?_⟩
        refine less_end (P := 1073741824 ^ (D + 1)) (c := c) (nv_lt (fun j _ => ha j)) hT2 ?_
        rw [Int.natCast_pow]
        rw [hv1] at hv
        exact hv
      · exact absurd c_28 (by omega)
    | succ f ih =>
      intro k a c hf ha hc hv
      have hsk := hs1 k (by omega)
      refine z_iload h d_S_settle_22 rfl ?_
      refine z_aload_n h d_S_settle_24 rfl ?_
      refine z_get (C := R_S) (T := F_S) (N := 5) h 4 d_S_settle_25 in_S rfl (by decide) wf_S_36 rfl rfl ?_
      refine z_icmp_gtN (tgt := 62) h d_S_settle_28 (by decide) (by omega) (fun c_28 => ?_) (fun c_28 => ?_)
      · exact absurd c_28 (by omega)
      · refine z_lload_n h d_S_settle_31 rfl ?_
        refine z_aload_n h d_S_settle_32 rfl ?_
        refine z_get (C := R_S) (T := F_S) (N := 5) h 3 d_S_settle_33 in_S rfl (by decide) wf_S_24 rfl rfl ?_
        refine z_iload h d_S_settle_36 rfl ?_
        refine z_laloadI h d_S_settle_38 rfl (by omega) ?_
        refine z_laddI h d_S_settle_39 ?_
        have hst : (nv 1073741824 a k : Int) + (c + su k) * (1073741824 : Int) ^ k = bv su (k + 1) := by
          unfold bv
          rw [← hv, Int.add_mul]
          omega
        generalize hw : c + su k = ww at *
        have hm := emod_nat ww
        have hl := emod_lt ww
        have hd := Int.mul_ediv_add_emod ww 1073741824
        have hs2 : -2 ^ 63 ≤ ww ∧ ww < 2 ^ 63 := by omega
        refine z_lstore_n h d_S_settle_40 (by decide) ?_
        refine z_aload_n h d_S_settle_41 rfl ?_
        refine z_iload h d_S_settle_42 rfl ?_
        refine z_lload_n h d_S_settle_44 rfl ?_
        refine z_ldc2_w (v := 1073741823) h d_S_settle_45 wv_S_93 ?_
        refine z_land30I h d_S_settle_48 ?_
        refine z_l2iM h d_S_settle_49 ?_
        refine z_iastoreN h d_S_settle_50 rfl (by omega) ?_
        refine z_lload_n h d_S_settle_51 rfl ?_
        refine z_bipush (v := 30) h d_S_settle_52 (by decide) ?_
        refine z_lshr30I h d_S_settle_54 hs2 ?_
        refine z_lstore_n h d_S_settle_55 (by decide) ?_
        refine z_iincN h 1 d_S_settle_56 rfl (by decide) (by decide) ?_
        refine z_goto (tgt := 22) h d_S_settle_59 (by decide) ?_
        refine z_lv (lv' := [(0, .ref 0), (1, .int (nI 3)), (2, .ref 5), (3, .long (lI (ww / 1073741824))), (5, .int (nI (k + 1)))]) h rfl (ih (k + 1) (un a k (ww % 1073741824).toNat) (ww / 1073741824) (by omega) (un_lt ha hl) (by omega) ?_)
        rw [nv_put, Int.natCast_add, Int.natCast_mul, hm, ← hst, Int.natCast_pow, Int.pow_succ, Int.add_assoc]
        congr 1
        rw [show (((1073741824 : Nat)) : Int) = 1073741824 from rfl, ← Int.mul_assoc (ww / 1073741824), Int.mul_right_comm (ww / 1073741824), ← Int.add_mul]
        congr 1
        omega
  refine z_aload_n h d_S_settle_0 rfl ?_
  refine z_get (C := R_S) (T := F_S) (N := 5) h 3 d_S_settle_1 in_S rfl (by decide) wf_S_24 rfl rfl ?_
  refine z_iconst (v := nI 1) h d_S_settle_4 (by decide) ?_
  refine z_dup2_11 h d_S_settle_5 rfl rfl ?_
  refine z_laloadI h d_S_settle_6 rfl (by omega) ?_
  refine z_lconst (v := 1) h d_S_settle_7 (by decide) ?_
  rw [show (1 : Int64) = lI 1 from rfl]
  refine z_lsubI h d_S_settle_8 ?_
  refine z_lastoreI h d_S_settle_9 rfl (by omega) ?_
  rw [hsu]
  refine z_aload_n h d_S_settle_10 rfl ?_
  refine z_get (C := R_S) (T := F_S) (N := 5) h 0 d_S_settle_11 in_S rfl (by decide) wf_S_11 rfl rfl ?_
  refine z_iload_n h d_S_settle_14 rfl ?_
  refine z_aaload (b := 5) h d_S_settle_15 rfl (vp_in_nI (by decide) (by decide)) rfl ?_
  refine z_astore_n h d_S_settle_16 (by decide) ?_
  refine z_lconst (v := lN 0) h d_S_settle_17 (by decide) ?_
  refine z_lstore_n h d_S_settle_18 (by decide) ?_
  refine z_iconst (v := nI 0) h d_S_settle_19 (by decide) ?_
  refine z_istore h d_S_settle_20 (by decide) ?_
  have e0 := L (D + 1) 0 (r 3) 0 rfl hr0 (by omega) rfl
  have e1 : ru r 3 (r 3) = r := funext fun j => by
    unfold ru
    split
    · rename_i q; rw [q]
    · rfl
  rw [e1] at e0
  exact z_lv h rfl e0
theorem ms_S_row3 (D : Nat) (r : Nat → Nat → Nat) (dp : Nat → Nat) (wk sm : Nat → Int) : MS y_S_row c_S_row 2 (some (.array .int)) (rm 1) [.ref 0, .int (nI 3)] (sX D r dp wk sm) (zP (X := Unit) (fun _ => some (.ref 5)) (fun _ => sX D r dp wk sm) (fun _ => True)) := by
  refine MS_of (own := R_S) (by decide) rfl (fun _ => Nat.le_of_ble_eq_true rfl) (fun Z h hr => ?_)
  refine z_aload_n h d_S_row_0 rfl ?_
  refine z_get (C := R_S) (T := F_S) (N := 5) h 0 d_S_row_1 in_S rfl (by decide) wf_S_11 rfl rfl ?_
  refine z_iload_n h d_S_row_4 rfl ?_
  refine z_aaload (b := 5) h d_S_row_5 rfl (vp_in_nI (by decide) (by decide)) rfl ?_
  refine hr.2.2.2.2 _ _ _ _ _ _ _ (Nat.le_refl _) (Nat.le_refl _) rfl d_S_row_6 ?_
  exact ⟨(), rfl, rfl, trivial⟩
set_option maxRecDepth 100000 in
set_option maxHeartbeats 4000000 in
theorem ms_S_settle4 (D T : Nat) (r : Nat → Nat → Nat) (dp : Nat → Nat) (wk sm : Nat → Int) (hD : 1 ≤ D ∧ D ≤ 704) (hr0 : ∀ j, r 4 j < 1073741824) (hsm : ∀ i, i ≤ D → -1152921504606846976 ≤ sm i ∧ sm i ≤ 1152921504606846976) (hT : bv sm (D + 1) - 1073741824 = T) (hT2 : T < 1073741824 ^ (D + 1)) : MS y_S_settle c_S_settle 6 none (rm 1) [.ref 0, .int (nI 4)] (sX D r dp wk sm) (zP (X := (Nat → Nat) × (Nat → Int)) (fun _ => none) (fun q => sX D (ru r 4 q.1) (un dp 4 D) wk q.2) (fun q => (∀ j, q.1 j < 1073741824) ∧ nv 1073741824 q.1 (D + 1) = T)) := by
  refine MS_of (own := R_S) (by decide) rfl (fun _ => Nat.le_of_ble_eq_true rfl) (fun Z h hr => ?_)
  have hs1 : ∀ i, i ≤ D → -1152921504606846977 ≤ ui sm 1 (sm 1 - 1) i ∧ ui sm 1 (sm 1 - 1) i ≤ 1152921504606846976 := fun i hi => by
    unfold ui
    split
    · have := hsm 1 (by omega)
      omega
    · have := hsm i hi
      omega
  have hv1 : bv (ui sm 1 (sm 1 - 1)) (D + 1) = T := by
    have e := bv_ui (w := sm) (i := 1) (x := -1) (m := D + 1) (by omega)
    rw [show sm 1 + -1 = sm 1 - 1 by omega, show (1073741824 : Int) ^ 1 = 1073741824 from rfl] at e
    rw [e]
    omega
  generalize hsu : ui sm 1 (sm 1 - 1) = su at *
  have L : ∀ (f k : Nat) (a : Nat → Nat) (c : Int), f + k = D + 1 → (∀ j, a j < 1073741824) → (-4294967296 ≤ c ∧ c ≤ 4294967296) → (nv 1073741824 a k : Int) + c * (1073741824 : Int) ^ k = bv su k → Z 0 0 (sX D (ru r 4 a) dp wk su) [(0, .ref 0), (1, .int (nI 4)), (2, .ref 6), (3, .long (lI c)), (5, .int (nI k))] 22 [] := by
    intro f
    induction f with
    | zero =>
      intro k a c hf ha hc hv
      obtain rfl : k = D + 1 := by omega
      refine z_iload h d_S_settle_22 rfl ?_
      refine z_aload_n h d_S_settle_24 rfl ?_
      refine z_get (C := R_S) (T := F_S) (N := 5) h 4 d_S_settle_25 in_S rfl (by decide) wf_S_36 rfl rfl ?_
      refine z_icmp_gtN (tgt := 62) h d_S_settle_28 (by decide) (by omega) (fun c_28 => ?_) (fun c_28 => ?_)
      · refine z_aload_n h d_S_settle_62 rfl ?_
        refine z_get (C := R_S) (T := F_S) (N := 5) h 1 d_S_settle_63 in_S rfl (by decide) wf_S_16 rfl rfl ?_
        refine z_iload_n h d_S_settle_66 rfl ?_
        refine z_aload_n h d_S_settle_67 rfl ?_
        refine z_get (C := R_S) (T := F_S) (N := 5) h 4 d_S_settle_68 in_S rfl (by decide) wf_S_36 rfl rfl ?_
        refine z_iastoreN h d_S_settle_71 rfl (by omega) ?_
        refine hr.2.2.2.1 _ _ _ _ _ (Nat.le_refl _) (Nat.le_refl _) rfl d_S_settle_72 ?_
        refine ⟨(a, su), rfl, rfl, ha, ?_⟩
        refine less_end (P := 1073741824 ^ (D + 1)) (c := c) (nv_lt (fun j _ => ha j)) hT2 ?_
        rw [Int.natCast_pow]
        rw [hv1] at hv
        exact hv
      · exact absurd c_28 (by omega)
    | succ f ih =>
      intro k a c hf ha hc hv
      have hsk := hs1 k (by omega)
      refine z_iload h d_S_settle_22 rfl ?_
      refine z_aload_n h d_S_settle_24 rfl ?_
      refine z_get (C := R_S) (T := F_S) (N := 5) h 4 d_S_settle_25 in_S rfl (by decide) wf_S_36 rfl rfl ?_
      refine z_icmp_gtN (tgt := 62) h d_S_settle_28 (by decide) (by omega) (fun c_28 => ?_) (fun c_28 => ?_)
      · exact absurd c_28 (by omega)
      · refine z_lload_n h d_S_settle_31 rfl ?_
        refine z_aload_n h d_S_settle_32 rfl ?_
        refine z_get (C := R_S) (T := F_S) (N := 5) h 3 d_S_settle_33 in_S rfl (by decide) wf_S_24 rfl rfl ?_
        refine z_iload h d_S_settle_36 rfl ?_
        refine z_laloadI h d_S_settle_38 rfl (by omega) ?_
        refine z_laddI h d_S_settle_39 ?_
        have hst : (nv 1073741824 a k : Int) + (c + su k) * (1073741824 : Int) ^ k = bv su (k + 1) := by
          unfold bv
          rw [← hv, Int.add_mul]
          omega
        generalize hw : c + su k = ww at *
        have hm := emod_nat ww
        have hl := emod_lt ww
        have hd := Int.mul_ediv_add_emod ww 1073741824
        have hs2 : -2 ^ 63 ≤ ww ∧ ww < 2 ^ 63 := by omega
        refine z_lstore_n h d_S_settle_40 (by decide) ?_
        refine z_aload_n h d_S_settle_41 rfl ?_
        refine z_iload h d_S_settle_42 rfl ?_
        refine z_lload_n h d_S_settle_44 rfl ?_
        refine z_ldc2_w (v := 1073741823) h d_S_settle_45 wv_S_93 ?_
        refine z_land30I h d_S_settle_48 ?_
        refine z_l2iM h d_S_settle_49 ?_
        refine z_iastoreN h d_S_settle_50 rfl (by omega) ?_
        refine z_lload_n h d_S_settle_51 rfl ?_
        refine z_bipush (v := 30) h d_S_settle_52 (by decide) ?_
        refine z_lshr30I h d_S_settle_54 hs2 ?_
        refine z_lstore_n h d_S_settle_55 (by decide) ?_
        refine z_iincN h 1 d_S_settle_56 rfl (by decide) (by decide) ?_
        refine z_goto (tgt := 22) h d_S_settle_59 (by decide) ?_
        refine z_lv (lv' := [(0, .ref 0), (1, .int (nI 4)), (2, .ref 6), (3, .long (lI (ww / 1073741824))), (5, .int (nI (k + 1)))]) h rfl (ih (k + 1) (un a k (ww % 1073741824).toNat) (ww / 1073741824) (by omega) (un_lt ha hl) (by omega) ?_)
        rw [nv_put, Int.natCast_add, Int.natCast_mul, hm, ← hst, Int.natCast_pow, Int.pow_succ, Int.add_assoc]
        congr 1
        rw [show (((1073741824 : Nat)) : Int) = 1073741824 from rfl, ← Int.mul_assoc (ww / 1073741824), Int.mul_right_comm (ww / 1073741824), ← Int.add_mul]
        congr 1
        omega
  refine z_aload_n h d_S_settle_0 rfl ?_
  refine z_get (C := R_S) (T := F_S) (N := 5) h 3 d_S_settle_1 in_S rfl (by decide) wf_S_24 rfl rfl ?_
  refine z_iconst (v := nI 1) h d_S_settle_4 (by decide) ?_
  refine z_dup2_11 h d_S_settle_5 rfl rfl ?_
  refine z_laloadI h d_S_settle_6 rfl (by omega) ?_
  refine z_lconst (v := 1) h d_S_settle_7 (by decide) ?_
  rw [show (1 : Int64) = lI 1 from rfl]
  refine z_lsubI h d_S_settle_8 ?_
  refine z_lastoreI h d_S_settle_9 rfl (by omega) ?_
  rw [hsu]
  refine z_aload_n h d_S_settle_10 rfl ?_
  refine z_get (C := R_S) (T := F_S) (N := 5) h 0 d_S_settle_11 in_S rfl (by decide) wf_S_11 rfl rfl ?_
  refine z_iload_n h d_S_settle_14 rfl ?_
  refine z_aaload (b := 6) h d_S_settle_15 rfl (vp_in_nI (by decide) (by decide)) rfl ?_
  refine z_astore_n h d_S_settle_16 (by decide) ?_
  refine z_lconst (v := lN 0) h d_S_settle_17 (by decide) ?_
  refine z_lstore_n h d_S_settle_18 (by decide) ?_
  refine z_iconst (v := nI 0) h d_S_settle_19 (by decide) ?_
  refine z_istore h d_S_settle_20 (by decide) ?_
  have e0 := L (D + 1) 0 (r 4) 0 rfl hr0 (by omega) rfl
  have e1 : ru r 4 (r 4) = r := funext fun j => by
    unfold ru
    split
    · rename_i q; rw [q]
    · rfl
  rw [e1] at e0
  exact z_lv h rfl e0
theorem ms_S_row4 (D : Nat) (r : Nat → Nat → Nat) (dp : Nat → Nat) (wk sm : Nat → Int) : MS y_S_row c_S_row 2 (some (.array .int)) (rm 1) [.ref 0, .int (nI 4)] (sX D r dp wk sm) (zP (X := Unit) (fun _ => some (.ref 6)) (fun _ => sX D r dp wk sm) (fun _ => True)) := by
  refine MS_of (own := R_S) (by decide) rfl (fun _ => Nat.le_of_ble_eq_true rfl) (fun Z h hr => ?_)
  refine z_aload_n h d_S_row_0 rfl ?_
  refine z_get (C := R_S) (T := F_S) (N := 5) h 0 d_S_row_1 in_S rfl (by decide) wf_S_11 rfl rfl ?_
  refine z_iload_n h d_S_row_4 rfl ?_
  refine z_aaload (b := 6) h d_S_row_5 rfl (vp_in_nI (by decide) (by decide)) rfl ?_
  refine hr.2.2.2.2 _ _ _ _ _ _ _ (Nat.le_refl _) (Nat.le_refl _) rfl d_S_row_6 ?_
  exact ⟨(), rfl, rfl, trivial⟩
