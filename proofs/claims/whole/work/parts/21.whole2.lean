/-! DigitMill$Whole: scale, copy, assign -/
set_option maxRecDepth 100000 in
set_option maxHeartbeats 4000000 in
/-- times f, and plus q -/
theorem ms_H_scale (N s v f q : Nat) (a : Nat → Nat) (hN : N < 2 ^ 31) (hR : Rp 1073741824 N a s v) (hf : f ≤ 1073741824) (hq : q < f) (hv : v * f + q < 1073741824 ^ N) : MS y_H_scale c_H_scale 6 none (rm 2) [.ref 0, .int (nI f), .int (nI q)] [wh 1 s, ar N a] (zP (X := (Nat → Nat) × Nat) (fun _ => none) (fun x => [wh 1 x.2, ar N x.1]) (fun x => Rp 1073741824 N x.1 x.2 (v * f + q))) := by
  refine MS_of (own := R_H) (by decide) rfl (fun _ => Nat.le_of_ble_eq_true rfl) (fun Z h hr => ?_)
  obtain ⟨hsN, ha, hnv, htop⟩ := hR
  have L : ∀ (m i c : Nat) (a' : Nat → Nat), i + m = s → (∀ j, a' j < 1073741824) → (∀ j, i ≤ j → a' j = a j) → c < f → nv 1073741824 a' i + c * 1073741824 ^ i = nv 1073741824 a i * f + q → Z 0 0 [wh 1 s, ar N a'] [(0, .ref 0), (1, .int (nI f)), (2, .int (nI q)), (3, .long (lN c)), (5, .int (nI i))] 6 [] := by
    intro m
    induction m with
    | zero =>
      intro i c a' him hb hj hc hval
      obtain rfl : i = s := by omega
      rw [hnv] at hval
      refine z_iload h d_H_scale_6 rfl ?_
      refine z_aload_n h d_H_scale_8 rfl ?_
      refine z_get (C := R_H) (T := F_H) (N := 2) h 1 d_H_scale_9 in_H rfl (by decide) wf_H_15 rfl rfl ?_
      refine z_icmp_geN (tgt := 53) h d_H_scale_12 (by decide) (by omega) (fun c_12 => ?_) (fun c_12 => ?_)
      · refine z_aload_n h d_H_scale_53 rfl ?_
        refine z_lload_n h d_H_scale_54 rfl ?_
        refine z_l2iN h d_H_scale_55 ?_
        refine z_cV (C := R_H) (ci := 3) h (ms_H_append N i c a' hN hsN (by omega)) (zf_H_append (by decide)) wm_H_51 wi_H_append ws_H_append rfl ⟨_, rfl⟩ d_H_scale_56 [0, 1] (by decide) rfl (Nat.le_of_ble_eq_true rfl) rfl (fun _ => rfl) (fun x_56 hx_56 => ?_)
        refine hr.2.2.2.1 _ _ _ _ _ (Nat.le_refl _) (Nat.le_refl _) rfl d_H_scale_59 ?_
        by_cases hc0 : c = 0 ∨ N ≤ i
        · have hc1 : c = 0 := by
            rcases hc0 with e | e
            · exact e
            · rcases Nat.eq_zero_or_pos c with e2 | e2
              · exact e2
              · have e3 : i = N := by omega
                have e4 : 1 * 1073741824 ^ i ≤ c * 1073741824 ^ i := Nat.mul_le_mul_right _ e2
                rw [e3] at e4 hval
                omega
          refine ⟨(a', i), rfl, by rw [if_pos hc0, if_pos hc0]; rfl, hsN, hb, by rw [hc1, Nat.zero_mul] at hval; exact hval, ?_⟩
          rcases htop with e | e
          · exact Or.inl e
          · have e5 : v * 1 ≤ v * f := Nat.mul_le_mul_left _ (by omega)
            exact Or.inr (Nat.le_trans e (by omega))
        · refine ⟨(un a' i c, i + 1), rfl, by rw [if_neg hc0, if_neg hc0]; rfl, by omega, un_lt hb (by omega), by rw [nv_put]; exact hval, Or.inr ?_⟩
          have e4 : 1 * 1073741824 ^ i ≤ c * 1073741824 ^ i := Nat.mul_le_mul_right _ (by omega)
          rw [Nat.add_sub_cancel]
          omega
      · exact absurd c_12 (by omega)
    | succ m ih =>
      intro i c a' him hb hj hc hval
      have hbi := hb i
      have hmul : a' i * f ≤ 1073741823 * f := Nat.mul_le_mul_right _ (by omega)
      have hs_45 : c + a' i * f < 2 ^ 63 := by omega
      refine z_iload h d_H_scale_6 rfl ?_
      refine z_aload_n h d_H_scale_8 rfl ?_
      refine z_get (C := R_H) (T := F_H) (N := 2) h 1 d_H_scale_9 in_H rfl (by decide) wf_H_15 rfl rfl ?_
      refine z_icmp_geN (tgt := 53) h d_H_scale_12 (by decide) (by omega) (fun c_12 => ?_) (fun c_12 => ?_)
      · exact absurd c_12 (by omega)
      · refine z_lload_n h d_H_scale_15 rfl ?_
        refine z_aload_n h d_H_scale_16 rfl ?_
        refine z_get (C := R_H) (T := F_H) (N := 2) h 0 d_H_scale_17 in_H rfl (by decide) wf_H_9 rfl rfl ?_
        refine z_iload h d_H_scale_20 rfl ?_
        refine z_ialoadN h d_H_scale_22 rfl (by omega) ?_
        refine z_i2lN h d_H_scale_23 (by omega) ?_
        refine z_iload_n h d_H_scale_24 rfl ?_
        refine z_i2lN h d_H_scale_25 (by omega) ?_
        refine z_lmulN h d_H_scale_26 ?_
        refine z_laddN h d_H_scale_27 ?_
        refine z_lstore_n h d_H_scale_28 (by decide) ?_
        refine z_aload_n h d_H_scale_29 rfl ?_
        refine z_get (C := R_H) (T := F_H) (N := 2) h 0 d_H_scale_30 in_H rfl (by decide) wf_H_9 rfl rfl ?_
        refine z_iload h d_H_scale_33 rfl ?_
        refine z_lload_n h d_H_scale_35 rfl ?_
        refine z_ldc2_w (v := lN 1073741823) h d_H_scale_36 wv_H_19 ?_
        refine z_land30N h d_H_scale_39 ?_
        refine z_l2iN h d_H_scale_40 ?_
        refine z_iastoreN h d_H_scale_41 rfl (by omega) ?_
        refine z_lload_n h d_H_scale_42 rfl ?_
        refine z_bipush (v := nI 30) h d_H_scale_43 (by decide) ?_
        refine z_lshr30N h d_H_scale_45 hs_45 ?_
        refine z_lstore_n h d_H_scale_46 (by decide) ?_
        refine z_iincN h 1 d_H_scale_47 rfl (by decide) (by decide) ?_
        refine z_goto (tgt := 6) h d_H_scale_50 (by decide) ?_
        refine z_lv (lv' := [(0, .ref 0), (1, .int (nI f)), (2, .int (nI q)), (3, .long (lN ((c + a' i * f) / 1073741824))), (5, .int (nI (i + 1)))]) h rfl ?_
        refine ih (i + 1) ((c + a' i * f) / 1073741824) (un a' i ((c + a' i * f) % 1073741824)) (by omega) (un_lt hb (by omega)) (fun j hj2 => by rw [un_ne (by omega)]; exact hj j (by omega)) (by omega) ?_
        rw [nv_put, nv_s, Nat.pow_succ, Nat.add_assoc, carry_step, hj i (Nat.le_refl i)]
        exact scale_step hval
  refine z_iload_n h d_H_scale_0 rfl ?_
  refine z_i2lN h d_H_scale_1 (by omega) ?_
  refine z_lstore_n h d_H_scale_2 (by decide) ?_
  refine z_iconst (v := nI 0) h d_H_scale_3 (by decide) ?_
  refine z_istore h d_H_scale_4 (by decide) ?_
  refine z_lv (lv' := [(0, .ref 0), (1, .int (nI f)), (2, .int (nI q)), (3, .long (lN q)), (5, .int (nI 0))]) h rfl ?_
  exact L s 0 q a (by omega) ha (fun _ _ => rfl) hq (by simp [nv])
theorem Rp_cpy {N M s v : Nat} {a b : Nat → Nat} (h : Rp 1073741824 M b s v) (hs : s ≤ N) (ha : ∀ j, a j < 1073741824) : Rp 1073741824 N (va_cpy b a 0 0 s) (trm (va_cpy b a 0 0 s) s) v := by
  obtain ⟨-, hb, hv, -⟩ := h
  refine Rp_trm hs (fun j => by unfold va_cpy; split; exact hb _; exact ha _) ?_
  rw [← hv]
  exact nv_congr fun j hj => by unfold va_cpy; rw [if_pos (by omega)]; congr 1; omega
set_option maxRecDepth 100000 in
set_option maxHeartbeats 4000000 in
/-- this becomes the other number -/
theorem ms_H_copy (N s M t v : Nat) (a b : Nat → Nat) (hN : N < 2 ^ 31) (hM : M < 2 ^ 31) (ht : t ≤ N) (ha : ∀ j, a j < 1073741824) (hb : Rp 1073741824 M b t v) : MS y_H_copy c_H_copy 2 none (rm 3) [.ref 0, .ref 2] [wh 1 s, ar N a, wh 3 t, ar M b] (zP (X := (Nat → Nat) × Nat) (fun _ => none) (fun x => [wh 1 x.2, ar N x.1, wh 3 t, ar M b]) (fun x => Rp 1073741824 N x.1 x.2 v)) := by
  refine MS_of (own := R_H) (by decide) rfl (fun _ => Nat.le_of_ble_eq_true rfl) (fun Z h hr => ?_)
  refine z_aload_n h d_H_copy_0 rfl ?_
  refine z_aload_n h d_H_copy_1 rfl ?_
  refine z_get (C := R_H) (T := F_H) (N := 2) h 0 d_H_copy_2 in_H rfl (by decide) wf_H_9 rfl rfl ?_
  refine z_aload_n h d_H_copy_5 rfl ?_
  refine z_get (C := R_H) (T := F_H) (N := 2) h 1 d_H_copy_6 in_H rfl (by decide) wf_H_15 rfl rfl ?_
  refine z_cV (C := R_H) (ci := 3) h (ms_H_load N s M t a b hN hM ⟨hb.1, ht⟩ (fun j => Nat.lt_trans (ha j) (by decide)) (fun j => Nat.lt_trans (hb.2.1 j) (by decide))) (zf_H_load (by decide)) wm_H_21 wi_H_load ws_H_load rfl ⟨_, rfl⟩ d_H_copy_9 [0, 1, 3] (by decide) rfl (Nat.le_of_ble_eq_true rfl) rfl (fun _ => rfl) (fun x_9 hx_9 => ?_)
  refine hr.2.2.2.1 _ _ _ _ _ (Nat.le_refl _) (Nat.le_refl _) rfl d_H_copy_12 ?_
  exact ⟨(va_cpy b a 0 0 t, trm (va_cpy b a 0 0 t) t), rfl, rfl, Rp_cpy hb ht ha⟩
set_option maxRecDepth 100000 in
set_option maxHeartbeats 4000000 in
/-- divided by what is above 0; the answer is what is left -/
theorem ms_H_shrink (N s v f : Nat) (a : Nat → Nat) (hN : N < 2 ^ 31) (hs : s ≤ N) (ha : ∀ j, a j < 1073741824) (hv : nv 1073741824 a s = v) (hf : 0 < f ∧ f ≤ 1073741824) : MS y_H_shrink c_H_shrink 9 (some .int) (rm 2) [.ref 0, .int (nI f)] [wh 1 s, ar N a] (zP (X := (Nat → Nat) × Nat) (fun _ => some (.int (nI (v % f)))) (fun x => [wh 1 x.2, ar N x.1]) (fun x => Rp 1073741824 N x.1 x.2 (v / f))) := by
  refine MS_of (own := R_H) (by decide) rfl (fun _ => Nat.le_of_ble_eq_true rfl) (fun Z h hr => ?_)
  obtain ⟨hf0, hf1⟩ := hf
  have L : ∀ (i r H : Nat) (a' : Nat → Nat), i ≤ s → (∀ j, a' j < 1073741824) → (∀ j, j < i → a' j = a j) → r < f → nv 1073741824 a' s = nv 1073741824 a' i + H * 1073741824 ^ i → v = H * f * 1073741824 ^ i + r * 1073741824 ^ i + nv 1073741824 a i → Z 0 0 [wh 1 s, ar N a'] [(0, .ref 0), (1, .int (nI f)), (2, .long (lN r)), (4, .int (nI i - 1))] 10 [] := by
    intro i
    induction i with
    | zero =>
      intro r q a' hi hb hj hr0 e1 e2
      simp only [nv, Nat.pow_zero, Nat.mul_one, Nat.zero_add, Nat.add_zero] at e1 e2
      refine z_iload h d_H_shrink_10 rfl ?_
      refine z_if_ltD (tgt := 62) h d_H_shrink_12 (by decide) (by omega) (fun c_12 => ?_) (fun y_12 c_12 => ?_)
      · refine z_aload_n h d_H_shrink_62 rfl ?_
        refine z_cV (C := R_H) (ci := 3) h (ms_H_trim N s a' hN hs (fun j => Nat.lt_trans (hb j) (by decide))) (zf_H_trim (by decide)) wm_H_37 wi_H_trim ws_H_trim rfl ⟨_, rfl⟩ d_H_shrink_63 [0, 1] (by decide) rfl (Nat.le_of_ble_eq_true rfl) rfl (fun _ => rfl) (fun x_63 hx_63 => ?_)
        refine z_lload_n h d_H_shrink_66 rfl ?_
        refine z_l2iN h d_H_shrink_67 ?_
        refine hr.1 _ _ _ _ _ _ (Nat.le_refl _) (Nat.le_refl _) rfl d_H_shrink_68 ?_
        have e3 : v / f = q := by rw [e2, Nat.mul_comm q f, Nat.mul_add_div hf0, Nat.div_eq_of_lt hr0, Nat.add_zero]
        have e4 : v % f = r := by rw [e2, Nat.mul_comm q f, Nat.mul_add_mod, Nat.mod_eq_of_lt hr0]
        exact ⟨(a', trm a' s), by rw [e4], rfl, Rp_trm hs hb (by rw [e1, e3])⟩
      · exact absurd c_12 (by omega)
    | succ i ih =>
      intro r q a' hi hb hj hr0 e1 e2
      have hbi := hb i
      have hs_18 : r < 2 ^ 33 := by omega
      have hs_27 : r < 2 ^ 33 ∧ a' i < 1073741824 := by omega
      have hs_34 : r * 1073741824 + a' i < 2 ^ 63 ∧ 0 < f ∧ f < 2 ^ 63 := by omega
      have hlt : (r * 1073741824 + a' i) / f < 1073741824 := by
        rw [Nat.div_lt_iff_lt_mul hf0]
        have : (r + 1) * 1073741824 ≤ f * 1073741824 := Nat.mul_le_mul_right _ (by omega)
        omega
      have hmd := Nat.div_add_mod (r * 1073741824 + a' i) f
      have hml := Nat.mod_lt (r * 1073741824 + a' i) hf0
      have hs_54 : (r * 1073741824 + a' i) / f * f ≤ r * 1073741824 + a' i := Nat.div_mul_le_self _ _
      have em := sub_dm (r * 1073741824 + a' i) f
      have e0 : nI (i + 1) - 1 = nI i := nI_pred i
      refine z_iload h d_H_shrink_10 rfl ?_
      refine z_if_ltD (tgt := 62) h d_H_shrink_12 (by decide) (by omega) (fun c_12 => ?_) (fun y_12 c_12 => ?_)
      · exact absurd c_12 (by omega)
      · rw [e0]
        refine z_lload_n h d_H_shrink_15 rfl ?_
        refine z_bipush (v := nI 30) h d_H_shrink_16 (by decide) ?_
        refine z_lshl30N h d_H_shrink_18 hs_18 ?_
        refine z_aload_n h d_H_shrink_19 rfl ?_
        refine z_get (C := R_H) (T := F_H) (N := 2) h 0 d_H_shrink_20 in_H rfl (by decide) wf_H_9 rfl rfl ?_
        refine z_iload h d_H_shrink_23 rfl ?_
        refine z_ialoadN h d_H_shrink_25 rfl (by omega) ?_
        refine z_i2lN h d_H_shrink_26 (by omega) ?_
        refine z_lorN h d_H_shrink_27 hs_27 ?_
        refine z_lstore h d_H_shrink_28 (by decide) ?_
        refine z_lload h d_H_shrink_30 rfl ?_
        refine z_iload_n h d_H_shrink_32 rfl ?_
        refine z_i2lN h d_H_shrink_33 (by omega) ?_
        refine z_ldivN h d_H_shrink_34 hs_34 ?_
        refine z_lstore h d_H_shrink_35 (by decide) ?_
        refine z_aload_n h d_H_shrink_37 rfl ?_
        refine z_get (C := R_H) (T := F_H) (N := 2) h 0 d_H_shrink_38 in_H rfl (by decide) wf_H_9 rfl rfl ?_
        refine z_iload h d_H_shrink_41 rfl ?_
        refine z_lload h d_H_shrink_43 rfl ?_
        refine z_l2iN h d_H_shrink_45 ?_
        refine z_iastoreN h d_H_shrink_46 rfl (by omega) ?_
        refine z_lload h d_H_shrink_47 rfl ?_
        refine z_lload h d_H_shrink_49 rfl ?_
        refine z_iload_n h d_H_shrink_51 rfl ?_
        refine z_i2lN h d_H_shrink_52 (by omega) ?_
        refine z_lmulN h d_H_shrink_53 ?_
        refine z_lsubN h d_H_shrink_54 hs_54 ?_
        rw [em]
        refine z_lstore_n h d_H_shrink_55 (by decide) ?_
        rw [← e0]
        refine z_iincD h d_H_shrink_56 rfl (by decide) ?_
        refine z_goto (tgt := 10) h d_H_shrink_59 (by decide) ?_
        refine z_lv (lv' := [(0, .ref 0), (1, .int (nI f)), (2, .long (lN ((r * 1073741824 + a' i) % f))), (4, .int (nI i - 1))]) h rfl ?_
        refine ih _ (q * 1073741824 + (r * 1073741824 + a' i) / f) (un a' i ((r * 1073741824 + a' i) / f)) (by omega) (un_lt hb hlt) (fun j hj2 => by rw [un_ne (by omega)]; exact hj j (by omega)) hml ?_ ?_
        · rw [nv_un (Nat.le_refl i)]
          have h9 := nv_upd (B := 1073741824) (a := a') (i := i) (x := (r * 1073741824 + a' i) / f) (s := s) (by omega)
          rw [e1, nv_s, Nat.pow_succ] at h9
          exact shrink_step2 h9
        · rw [e2, nv_s, Nat.pow_succ, ← hj i (by omega)]
          exact shrink_step hmd
  refine z_lconst (v := lN 0) h d_H_shrink_0 (by decide) ?_
  refine z_lstore_n h d_H_shrink_1 (by decide) ?_
  refine z_aload_n h d_H_shrink_2 rfl ?_
  refine z_get (C := R_H) (T := F_H) (N := 2) h 1 d_H_shrink_3 in_H rfl (by decide) wf_H_15 rfl rfl ?_
  refine z_iconst (v := 1) h d_H_shrink_6 (by decide) ?_
  refine z_isub h d_H_shrink_7 ?_
  refine z_istore h d_H_shrink_8 (by decide) ?_
  refine z_lv (lv' := [(0, .ref 0), (1, .int (nI f)), (2, .long (lN 0)), (4, .int (nI s - 1))]) h rfl ?_
  exact L s 0 0 a (Nat.le_refl s) ha (fun _ _ => rfl) hf0 (by omega) (by rw [hv]; omega)
