/-! roots of numbers times a power; the golden number -/
theorem pw_gen {a b n k E F G : Nat} (ha : a < 2 ^ F) (hb : b ^ n ≤ 2 ^ E) (hk : k = 2 * n) (hG : F + (E + E) = G) : a * b ^ k < 2 ^ G := by
  have e : b ^ k = b ^ n * b ^ n := by rw [hk, ← Nat.pow_add]; congr 1; omega
  have h1 : b ^ n * b ^ n ≤ 2 ^ E * 2 ^ E := Nat.mul_le_mul hb hb
  have h2 : a * (b ^ n * b ^ n) ≤ a * (2 ^ E * 2 ^ E) := Nat.mul_le_mul_left _ h1
  have h3 : a * (2 ^ E * 2 ^ E) < 2 ^ F * (2 ^ E * 2 ^ E) := Nat.mul_lt_mul_of_pos_right ha (Nat.mul_pos (Nat.pow_pos (by decide)) (Nat.pow_pos (by decide)))
  rw [e, ← hG, Nat.pow_add 2 F, Nat.pow_add 2 E]
  exact Nat.lt_of_le_of_lt h2 h3
theorem pw_fit {a b n k : Nat} (ha : a < 2 ^ 63) (hb : b ^ n ≤ 2 ^ 20000) (hk : k = 2 * n) : a * b ^ k < 2 ^ 40063 := pw_gen ha hb hk (by decide)
theorem sq_gen {x v A B C : Nat} (h1 : x * x ≤ v) (h2 : v < 2 ^ A) (h3 : A ≤ B + B) : x < 2 ^ B := by
  apply sq_lt
  rw [← Nat.pow_add]
  exact Nat.lt_of_le_of_lt h1 (Nat.lt_of_lt_of_le h2 (Nat.pow_le_pow_right (by decide) h3))
theorem add_gen {x y A B C : Nat} (h1 : x < 2 ^ A) (h2 : y ≤ 2 ^ B) (h3 : B ≤ A) (h4 : A + 1 ≤ C) : x + 1 * y < 2 ^ C := by
  have a1 : 2 ^ B ≤ 2 ^ A := Nat.pow_le_pow_right (by decide) h3
  have a2 : 2 ^ (A + 1) ≤ 2 ^ C := Nat.pow_le_pow_right (by decide) h4
  rw [Nat.pow_succ] at a2
  omega
theorem B1400 {v : Nat} (h : v < 2 ^ 40063) : v < 1073741824 ^ 1400 := by
  rw [p30]
  exact Nat.lt_of_lt_of_le h (Nat.pow_le_pow_right (by decide) (by decide))
theorem B1400s {v : Nat} (h : v < 2 ^ 40063) : bl v ≤ 41000 := Nat.le_trans (bl_lt h) (by decide)
set_option maxRecDepth 100000 in
set_option maxHeartbeats 8000000 in
theorem ms_B_makeRoot (a n b sl sr sq : Nat) (l r q : Nat → Nat) (ha : a < 2 ^ 63) (hn : n ≤ 6000) (hb : 2 ≤ b ∧ b < 37) (hbn : b ^ n ≤ 2 ^ 20000) (hl : ∀ j, l j < 1073741824) (hq : ∀ j, q j < 1073741824) (hsq : sq ≤ 1400) : MS y_B_makeRoot c_B_makeRoot 5 none (rm 5) [.ref 0, .long (lN a), .int (nI n), .int (nI b)] (bW sl sr sq l r q) (zP (X := Nat × Nat × (Nat → Nat) × (Nat → Nat) × Nat) (fun _ => none) (fun x => bW x.1 sr x.2.1 x.2.2.1 r x.2.2.2.1) (fun x => (x.1 ≤ 1400 ∧ ∀ j, x.2.2.1 j < 1073741824) ∧ IsR (a * b ^ (2 * n)) x.2.2.2.2 ∧ Rp 1073741824 1400 x.2.2.2.1 x.2.1 x.2.2.2.2)) := by
  refine MS_of (own := R_B) (by decide) rfl (fun _ => Nat.le_of_ble_eq_true rfl) (fun Z h hr => ?_)
  have hfit := pw_fit ha hbn (show 2 * n = 2 * n from rfl)
  obtain ⟨w9, hw9⟩ : ∃ w9, a * b ^ (2 * n) = w9 := ⟨_, rfl⟩
  have hB := B1400 hfit
  have hBs := B1400s hfit
  refine z_aload_n h d_B_makeRoot_0 rfl ?_
  refine z_get (C := R_B) (T := F_B) (N := 3) h 0 d_B_makeRoot_1 in_B rfl (by decide) wf_B_14 rfl rfl ?_
  refine z_lload_n h d_B_makeRoot_4 rfl ?_
  refine z_cV (C := R_H) (ci := 3) h (ms_H_assign 1400 sl a l (by decide) hl ha) (zf_H_assign (by decide)) wm_B_26 wi_H_assign ws_H_assign rfl ⟨_, rfl⟩ d_B_makeRoot_5 [1, 2] (by decide) rfl (Nat.le_of_ble_eq_true rfl) rfl (fun _ => rfl) (fun x_5 hx_5 => ?_)
  refine z_aload_n h d_B_makeRoot_8 rfl ?_
  refine z_get (C := R_B) (T := F_B) (N := 3) h 0 d_B_makeRoot_9 in_B rfl (by decide) wf_B_14 rfl rfl ?_
  refine z_iload h d_B_makeRoot_12 rfl ?_
  refine z_iconst (v := nI 2) h d_B_makeRoot_14 (by decide) ?_
  refine z_iload_n h d_B_makeRoot_15 rfl ?_
  refine z_imulN h d_B_makeRoot_16 ?_
  refine z_cV (C := R_H) (ci := 3) h (ms_H_raise 1400 x_5.2 a b (2 * n) x_5.1 (by decide) hx_5 hb (by omega) hB) (zf_H_raise (by decide)) wm_B_30 wi_H_raise ws_H_raise rfl ⟨_, rfl⟩ d_B_makeRoot_17 [1, 2] (by decide) rfl (Nat.le_of_ble_eq_true rfl) rfl (fun _ => rfl) (fun x_17 hx_17 => ?_)
  refine z_aload_n h d_B_makeRoot_20 rfl ?_
  refine z_cV (C := R_B) (ci := 0) h (ms_B_extractRoot x_17.2 sr sq (a * b ^ (2 * n)) x_17.1 r q hx_17 hq hsq hBs) (zf_B_extractRoot (by decide)) wm_B_34 wi_B_extractRoot ws_B_extractRoot rfl ⟨_, rfl⟩ d_B_makeRoot_21 [0, 1, 2, 3, 4, 5, 6] (by decide) rfl (Nat.le_of_ble_eq_true rfl) rfl (fun _ => rfl) (fun x_21 hx_21 => ?_)
  refine hr.2.2.2.1 _ _ _ _ _ (Nat.le_refl _) (Nat.le_refl _) rfl d_B_makeRoot_24 ?_
  exact ⟨x_21, rfl, rfl, hx_21⟩
set_option maxRecDepth 100000 in
set_option maxHeartbeats 8000000 in
theorem ms_B_makeGolden (n b sl sr sq : Nat) (l r q : Nat → Nat) (hn : n ≤ 6000) (hb : 2 ≤ b ∧ b < 37) (hbn : b ^ n ≤ 2 ^ 20000) (hl : ∀ j, l j < 1073741824) (hq : ∀ j, q j < 1073741824) (hsq : sq ≤ 1400) : MS y_B_makeGolden c_B_makeGolden 3 none (rm 6) [.ref 0, .int (nI n), .int (nI b)] (bW sl sr sq l r q) (zP (X := Nat × Nat × (Nat → Nat) × (Nat → Nat) × Nat) (fun _ => none) (fun x => bW x.1 sr x.2.1 x.2.2.1 r x.2.2.2.1) (fun x => (x.1 ≤ 1400 ∧ ∀ j, x.2.2.1 j < 1073741824) ∧ IsR (5 * b ^ (2 * n)) x.2.2.2.2 ∧ Rp 1073741824 1400 x.2.2.2.1 x.2.1 ((x.2.2.2.2 + b ^ n) / 2))) := by
  refine MS_of (own := R_B) (by decide) rfl (fun _ => Nat.le_of_ble_eq_true rfl) (fun Z h hr => ?_)
  have hfit := pw_fit (a := 5) (by decide) hbn (show 2 * n = 2 * n from rfl)
  have hB1 : 1 * b ^ n < 1073741824 ^ 1400 := by
    rw [Nat.one_mul]
    exact B1400 (Nat.lt_of_le_of_lt hbn (Nat.pow_lt_pow_right (by decide) (by decide)))
  refine z_aload_n h d_B_makeGolden_0 rfl ?_
  refine z_ldc2_w (v := lN 5) h d_B_makeGolden_1 wv_B_37 ?_
  refine z_iload_n h d_B_makeGolden_4 rfl ?_
  refine z_iload_n h d_B_makeGolden_5 rfl ?_
  refine z_cV (C := R_B) (ci := 0) h (ms_B_makeRoot 5 n b sl sr sq l r q (by decide) hn hb hbn hl hq hsq) (zf_B_makeRoot (by decide)) wm_B_39 wi_B_makeRoot ws_B_makeRoot rfl ⟨_, rfl⟩ d_B_makeGolden_6 [0, 1, 2, 3, 4, 5, 6] (by decide) rfl (Nat.le_of_ble_eq_true rfl) rfl (fun _ => rfl) (fun x_6 hx_6 => ?_)
  obtain ⟨⟨g1, g2⟩, g3, g4⟩ := hx_6
  have hy : x_6.2.2.2.2 + 1 * b ^ n < 1073741824 ^ 1400 := by
    have a1 : x_6.2.2.2.2 < 2 ^ 30000 := sq_gen (C := 0) g3.1 hfit (by decide)
    exact B1400 (add_gen a1 hbn (by decide) (by decide))
  refine z_aload_n h d_B_makeGolden_9 rfl ?_
  refine z_get (C := R_B) (T := F_B) (N := 3) h 0 d_B_makeGolden_10 in_B rfl (by decide) wf_B_14 rfl rfl ?_
  refine z_lconst (v := lN 1) h d_B_makeGolden_13 (by decide) ?_
  refine z_cV (C := R_H) (ci := 3) h (ms_H_assign 1400 x_6.1 1 x_6.2.2.1 (by decide) g2 (by decide)) (zf_H_assign (by decide)) wm_B_26 wi_H_assign ws_H_assign rfl ⟨_, rfl⟩ d_B_makeGolden_14 [1, 2] (by decide) rfl (Nat.le_of_ble_eq_true rfl) rfl (fun _ => rfl) (fun x_14 hx_14 => ?_)
  refine z_aload_n h d_B_makeGolden_17 rfl ?_
  refine z_get (C := R_B) (T := F_B) (N := 3) h 0 d_B_makeGolden_18 in_B rfl (by decide) wf_B_14 rfl rfl ?_
  refine z_iload_n h d_B_makeGolden_21 rfl ?_
  refine z_iload_n h d_B_makeGolden_22 rfl ?_
  refine z_cV (C := R_H) (ci := 3) h (ms_H_raise 1400 x_14.2 1 b n x_14.1 (by decide) hx_14 hb (by omega) hB1) (zf_H_raise (by decide)) wm_B_30 wi_H_raise ws_H_raise rfl ⟨_, rfl⟩ d_B_makeGolden_23 [1, 2] (by decide) rfl (Nat.le_of_ble_eq_true rfl) rfl (fun _ => rfl) (fun x_23 hx_23 => ?_)
  refine z_aload_n h d_B_makeGolden_26 rfl ?_
  refine z_get (C := R_B) (T := F_B) (N := 3) h 2 d_B_makeGolden_27 in_B rfl (by decide) wf_B_23 rfl rfl ?_
  refine z_aload_n h d_B_makeGolden_30 rfl ?_
  refine z_get (C := R_B) (T := F_B) (N := 3) h 0 d_B_makeGolden_31 in_B rfl (by decide) wf_B_14 rfl rfl ?_
  refine z_cV (C := R_H) (ci := 3) h (ms_H_increase 1400 x_6.2.1 1400 x_23.2 x_6.2.2.2.2 (1 * b ^ n) x_6.2.2.2.1 x_23.1 (by decide) (by decide) g4 hx_23 hx_23.1 hy) (zf_H_increase (by decide)) wm_B_43 wi_H_increase ws_H_increase rfl ⟨_, rfl⟩ d_B_makeGolden_34 [5, 6, 1, 2] (by decide) rfl (Nat.le_of_ble_eq_true rfl) rfl (fun _ => rfl) (fun x_34 hx_34 => ?_)
  refine z_aload_n h d_B_makeGolden_37 rfl ?_
  refine z_get (C := R_B) (T := F_B) (N := 3) h 2 d_B_makeGolden_38 in_B rfl (by decide) wf_B_23 rfl rfl ?_
  refine z_iconst (v := nI 1) h d_B_makeGolden_41 (by decide) ?_
  refine z_cV (C := R_H) (ci := 3) h (ms_H_lower 1400 x_34.2 (x_6.2.2.2.2 + 1 * b ^ n) 1 x_34.1 (by decide) hx_34.1 hx_34.2.1 hx_34.2.2.1 (by decide)) (zf_H_lower (by decide)) wm_B_47 wi_H_lower ws_H_lower rfl ⟨_, rfl⟩ d_B_makeGolden_42 [5, 6] (by decide) rfl (Nat.le_of_ble_eq_true rfl) rfl (fun _ => rfl) (fun x_42 hx_42 => ?_)
  refine hr.2.2.2.1 _ _ _ _ _ (Nat.le_refl _) (Nat.le_refl _) rfl d_B_makeGolden_45 ?_
  refine ⟨(x_23.2, x_42.2, x_23.1, x_42.1, x_6.2.2.2.2), rfl, rfl, ⟨hx_23.1, hx_23.2.1⟩, g3, ?_⟩
  have h9 := hx_42
  rw [Nat.one_mul, Nat.pow_one] at h9
  exact h9
