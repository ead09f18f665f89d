/-! DigitMill$Whole: raise, drop, lower, lift -/
set_option maxRecDepth 100000 in
set_option maxHeartbeats 4000000 in
/-- times b^e -/
theorem ms_H_raise (N s v b e : Nat) (a : Nat → Nat) (hN : N < 2 ^ 31) (hR : Rp 1073741824 N a s v) (hb : 2 ≤ b ∧ b < 37) (he : e < 2 ^ 31) (hv : v * b ^ e < 1073741824 ^ N) : MS y_H_raise c_H_raise 6 none (rm 3) [.ref 0, .int (nI b), .int (nI e)] [wh 1 s, ar N a] (zP (X := (Nat → Nat) × Nat) (fun _ => none) (fun x => [wh 1 x.2, ar N x.1]) (fun x => Rp 1073741824 N x.1 x.2 (v * b ^ e))) := by
  refine MS_of (own := R_H) (by decide) rfl (fun _ => Nat.le_of_ble_eq_true rfl) (fun Z h hr => ?_)
  obtain ⟨hg1, hg2, hg3⟩ := dpg_ok b hb.2 hb.1
  have hbp : ∀ k, 1 ≤ b ^ k := fun k => Nat.pow_pos (by omega)
  have hs_20 : e < 2 ^ 31 ∧ 0 < dpg b ∧ dpg b < 2 ^ 31 := by omega
  have hs_41 : e < 2 ^ 31 ∧ 0 < dpg b ∧ dpg b < 2 ^ 31 := by omega
  have hdm := Nat.div_add_mod e (dpg b)
  have hml := Nat.mod_lt e (show 0 < dpg b by omega)
  have hle : e / dpg b ≤ e := Nat.div_le_self _ _
  have hle2 : e % dpg b ≤ e := Nat.mod_le _ _
  have hup : ∀ k, k ≤ e → v * b ^ k < 1073741824 ^ N := fun k hk => by
    have : b ^ k ≤ b ^ e := Nat.pow_le_pow_right (by omega) hk
    exact Nat.lt_of_le_of_lt (Nat.mul_le_mul_left _ this) hv
  have L : ∀ (m i t : Nat) (a' : Nat → Nat), i + m = e / dpg b → Rp 1073741824 N a' t (v * b ^ (dpg b * i)) → Z 0 0 [wh 1 t, ar N a'] [(0, .ref 0), (1, .int (nI b)), (2, .int (nI e)), (3, .int (nI (dpg b))), (4, .int (nI (b ^ dpg b))), (5, .int (nI i))] 16 [] := by
    intro m
    induction m with
    | zero =>
      intro i t a' him hR'
      obtain rfl : i = e / dpg b := by omega
      have e1 : v * b ^ (dpg b * (e / dpg b)) * b ^ (e % dpg b) = v * b ^ e := by rw [Nat.mul_assoc, ← Nat.pow_add, hdm]
      have hpm : b ^ (e % dpg b) ≤ b ^ dpg b := Nat.pow_le_pow_right (by omega) (by omega)
      refine z_iload h d_H_raise_16 rfl ?_
      refine z_iload_n h d_H_raise_18 rfl ?_
      refine z_iload_n h d_H_raise_19 rfl ?_
      refine z_idivN h d_H_raise_20 hs_20 ?_
      refine z_icmp_geN (tgt := 37) h d_H_raise_21 (by decide) (by omega) (fun c_21 => ?_) (fun c_21 => ?_)
      · refine z_aload_n h d_H_raise_37 rfl ?_
        refine z_iload_n h d_H_raise_38 rfl ?_
        refine z_iload_n h d_H_raise_39 rfl ?_
        refine z_iload_n h d_H_raise_40 rfl ?_
        refine z_iremN h d_H_raise_41 hs_41 ?_
        refine z_cSN h (ms_D_power b (e % dpg b) (by omega) (by omega)) (zf_D_power (by decide)) wm_H_58 wt_D_power d_H_raise_42 [] (by decide) rfl (Nat.le_of_ble_eq_true rfl) rfl (fun _ => rfl) (fun x_42 hx_42 => ?_)
        refine z_l2iN h d_H_raise_45 ?_
        refine z_iconst (v := nI 0) h d_H_raise_46 (by decide) ?_
        refine z_cV (C := R_H) (ci := 3) h (ms_H_scale N t (v * b ^ (dpg b * (e / dpg b))) (b ^ (e % dpg b)) 0 a' hN hR' (by omega) (hbp _) (by rw [e1]; exact hv)) (zf_H_scale (by decide)) wm_H_62 wi_H_scale ws_H_scale rfl ⟨_, rfl⟩ d_H_raise_47 [0, 1] (by decide) rfl (Nat.le_of_ble_eq_true rfl) rfl (fun _ => rfl) (fun x_47 hx_47 => ?_)
        refine hr.2.2.2.1 _ _ _ _ _ (Nat.le_refl _) (Nat.le_refl _) rfl d_H_raise_50 ?_
        exact ⟨x_47, rfl, rfl, by have h9 := hx_47; rw [e1] at h9; exact h9⟩
      · exact absurd c_21 (by omega)
    | succ m ih =>
      intro i t a' him hR'
      have e1 : v * b ^ (dpg b * i) * b ^ dpg b = v * b ^ (dpg b * (i + 1)) := by rw [Nat.mul_assoc, ← Nat.pow_add]; rfl
      have hk : dpg b * (i + 1) ≤ e := by
        have : dpg b * (i + 1) ≤ dpg b * (e / dpg b) := Nat.mul_le_mul_left _ (by omega)
        omega
      refine z_iload h d_H_raise_16 rfl ?_
      refine z_iload_n h d_H_raise_18 rfl ?_
      refine z_iload_n h d_H_raise_19 rfl ?_
      refine z_idivN h d_H_raise_20 hs_20 ?_
      refine z_icmp_geN (tgt := 37) h d_H_raise_21 (by decide) (by omega) (fun c_21 => ?_) (fun c_21 => ?_)
      · exact absurd c_21 (by omega)
      · refine z_aload_n h d_H_raise_24 rfl ?_
        refine z_iload h d_H_raise_25 rfl ?_
        refine z_iconst (v := nI 0) h d_H_raise_27 (by decide) ?_
        refine z_cV (C := R_H) (ci := 3) h (ms_H_scale N t (v * b ^ (dpg b * i)) (b ^ dpg b) 0 a' hN hR' hg3 (hbp _) (by rw [e1]; exact hup _ hk)) (zf_H_scale (by decide)) wm_H_62 wi_H_scale ws_H_scale rfl ⟨_, rfl⟩ d_H_raise_28 [0, 1] (by decide) rfl (Nat.le_of_ble_eq_true rfl) rfl (fun _ => rfl) (fun x_28 hx_28 => ?_)
        refine z_iincN h 1 d_H_raise_31 rfl (by decide) (by decide) ?_
        refine z_goto (tgt := 16) h d_H_raise_34 (by decide) ?_
        refine z_lv (lv' := [(0, .ref 0), (1, .int (nI b)), (2, .int (nI e)), (3, .int (nI (dpg b))), (4, .int (nI (b ^ dpg b))), (5, .int (nI (i + 1)))]) h rfl ?_
        exact ih (i + 1) x_28.2 x_28.1 (by omega) (by have h9 := hx_28; rw [e1] at h9; exact h9)
  refine z_iload_n h d_H_raise_0 rfl ?_
  refine z_cSN h (ms_D_digitsPerGroup b hb.2) (zf_D_digitsPerGroup (by decide)) wm_H_55 wt_D_digitsPerGroup d_H_raise_1 [] (by decide) rfl (Nat.le_of_ble_eq_true rfl) rfl (fun _ => rfl) (fun x_1 hx_1 => ?_)
  refine z_istore_n h d_H_raise_4 (by decide) ?_
  refine z_iload_n h d_H_raise_5 rfl ?_
  refine z_iload_n h d_H_raise_6 rfl ?_
  refine z_cSN h (ms_D_power b (dpg b) (by omega) (by omega)) (zf_D_power (by decide)) wm_H_58 wt_D_power d_H_raise_7 [] (by decide) rfl (Nat.le_of_ble_eq_true rfl) rfl (fun _ => rfl) (fun x_7 hx_7 => ?_)
  refine z_l2iN h d_H_raise_10 ?_
  refine z_istore h d_H_raise_11 (by decide) ?_
  refine z_iconst (v := nI 0) h d_H_raise_13 (by decide) ?_
  refine z_istore h d_H_raise_14 (by decide) ?_
  refine z_lv (lv' := [(0, .ref 0), (1, .int (nI b)), (2, .int (nI e)), (3, .int (nI (dpg b))), (4, .int (nI (b ^ dpg b))), (5, .int (nI 0))]) h rfl ?_
  exact L (e / dpg b) 0 s a (by omega) (by rw [Nat.mul_zero, Nat.pow_zero, Nat.mul_one]; exact hR)
def sh (a : Nat → Nat) (k : Nat) : Nat → Nat := fun j => a (k + j)
theorem nv_split {B : Nat} {a : Nat → Nat} {k : Nat} : ∀ {m : Nat}, nv B a (k + m) = nv B a k + nv B (sh a k) m * B ^ k
  | 0 => by simp [nv]
  | m + 1 => by
    show nv B a (k + m) + a (k + m) * B ^ (k + m) = _
    rw [nv_split (m := m), nv_s, Nat.pow_add]
    show _ + a (k + m) * (B ^ k * B ^ m) = nv B a k + (nv B (sh a k) m + a (k + m) * B ^ m) * B ^ k
    grind
theorem max0 {s k : Nat} (hs : s < 2 ^ 30) (hk : k < 2 ^ 30) : (if (nI 0) < nI s - nI k then nI s - nI k else nI 0) = nI (s - k) := by
  by_cases e : k ≤ s
  · rw [pk_sub e]
    rcases Nat.eq_zero_or_pos (s - k) with q | q
    · rw [q, if_neg (by decide)]
    · rw [if_pos ((nI_ltI (by decide) (by omega)).mpr q)]
  · rw [if_neg (fun z => ?_), show s - k = 0 by omega]
    have := pk_sneg (a := s) (b := k) hk (by omega)
    rw [nI_0] at z
    exact absurd z (by rw [Int32.lt_iff_toInt_lt] at *; omega)
set_option maxRecDepth 100000 in
set_option maxHeartbeats 4000000 in
theorem ms_H_drop (N s k : Nat) (a : Nat → Nat) (hN : N < 2 ^ 30) (hs : s ≤ N) (hk : k < 2 ^ 30) : MS y_H_drop c_H_drop 3 none (rm 1) [.ref 0, .int (nI k)] [wh 1 s, ar N a] (zP (X := Unit) (fun _ => none) (fun _ => [wh 1 (s - k), ar N (va_cpy a a (s - (s - k)) 0 (s - k))]) (fun _ => True)) := by
  refine MS_of (own := R_H) (by decide) rfl (fun _ => Nat.le_of_ble_eq_true rfl) (fun Z h hr => ?_)
  refine z_iconst (v := nI 0) h d_H_drop_0 (by decide) ?_
  refine z_aload_n h d_H_drop_1 rfl ?_
  refine z_get (C := R_H) (T := F_H) (N := 2) h 1 d_H_drop_2 in_H rfl (by decide) wf_H_15 rfl rfl ?_
  refine z_iload_n h d_H_drop_5 rfl ?_
  refine z_isub h d_H_drop_6 ?_
  refine z_mmax h d_H_drop_7 wq_H_44 (by decide) (Nat.le_of_ble_eq_true rfl) (by decide) (by decide) ?_
  rw [max0 (by omega) hk]
  refine z_istore_n h d_H_drop_10 (by decide) ?_
  refine z_aload_n h d_H_drop_11 rfl ?_
  refine z_get (C := R_H) (T := F_H) (N := 2) h 0 d_H_drop_12 in_H rfl (by decide) wf_H_9 rfl rfl ?_
  refine z_aload_n h d_H_drop_15 rfl ?_
  refine z_get (C := R_H) (T := F_H) (N := 2) h 1 d_H_drop_16 in_H rfl (by decide) wf_H_15 rfl rfl ?_
  refine z_iload_n h d_H_drop_19 rfl ?_
  refine z_isubN h d_H_drop_20 (by omega) ?_
  refine z_aload_n h d_H_drop_21 rfl ?_
  refine z_get (C := R_H) (T := F_H) (N := 2) h 0 d_H_drop_22 in_H rfl (by decide) wf_H_9 rfl rfl ?_
  refine z_iconst (v := nI 0) h d_H_drop_25 (by decide) ?_
  refine z_iload_n h d_H_drop_26 rfl ?_
  refine z_copyN h d_H_drop_27 wm_H_31 rfl rfl (by omega) (by decide) (Nat.le_of_ble_eq_true rfl) ?_
  refine z_aload_n h d_H_drop_30 rfl ?_
  refine z_iload_n h d_H_drop_31 rfl ?_
  refine z_put (C := R_H) (T := F_H) (N := 2) (ty := .int) h 1 d_H_drop_32 in_H rfl ft_H_ok n_H (by decide) wf_H_15 rfl rfl rfl rfl rfl (Nat.le_of_ble_eq_true rfl) ?_
  refine hr.2.2.2.1 _ _ _ _ _ (Nat.le_refl _) (Nat.le_refl _) rfl d_H_drop_35 ?_
  exact ⟨(), rfl, rfl, trivial⟩
theorem drop_nv {N s k v : Nat} {a : Nat → Nat} (ha : ∀ j, a j < 1073741824) (hv : nv 1073741824 a s = v) : nv 1073741824 (va_cpy a a (s - (s - k)) 0 (s - k)) (s - k) = v / 1073741824 ^ k := by
  by_cases e : k ≤ s
  · have e1 : nv 1073741824 (va_cpy a a (s - (s - k)) 0 (s - k)) (s - k) = nv 1073741824 (sh a k) (s - k) := nv_congr fun j hj => by
      unfold va_cpy sh
      rw [if_pos (by omega)]
      congr 1
      omega
    have e2 := nv_split (B := 1073741824) (a := a) (k := k) (m := s - k)
    rw [show k + (s - k) = s by omega, hv] at e2
    have e3 : nv 1073741824 a k < 1073741824 ^ k := nv_lt fun j _ => ha j
    rw [e1, e2, Nat.add_mul_div_right _ _ (Nat.pow_pos (by decide)), Nat.div_eq_of_lt e3, Nat.zero_add]
  · rw [show s - k = 0 by omega]
    have e3 : v < 1073741824 ^ s := by rw [← hv]; exact nv_lt fun j _ => ha j
    have e4 : (1073741824 : Nat) ^ s ≤ 1073741824 ^ k := Nat.pow_le_pow_right (by decide) (by omega)
    rw [Nat.div_eq_of_lt (by omega)]
    rfl
theorem pow30 (q r : Nat) : (1073741824 : Nat) ^ q * 2 ^ r = 2 ^ (30 * q + r) := by
  rw [show (1073741824 : Nat) = 2 ^ 30 by decide, ← Nat.pow_mul, ← Nat.pow_add]
set_option maxRecDepth 100000 in
set_option maxHeartbeats 4000000 in
/-- divided by 2^k -/
theorem ms_H_lower (N s v k : Nat) (a : Nat → Nat) (hN : N < 2 ^ 30) (hs : s ≤ N) (ha : ∀ j, a j < 1073741824) (hv : nv 1073741824 a s = v) (hk : k < 2 ^ 30) : MS y_H_lower c_H_lower 2 none (rm 3) [.ref 0, .int (nI k)] [wh 1 s, ar N a] (zP (X := (Nat → Nat) × Nat) (fun _ => none) (fun x => [wh 1 x.2, ar N x.1]) (fun x => Rp 1073741824 N x.1 x.2 (v / 2 ^ k))) := by
  refine MS_of (own := R_H) (by decide) rfl (fun _ => Nat.le_of_ble_eq_true rfl) (fun Z h hr => ?_)
  have hs_4 : k < 2 ^ 31 ∧ 0 < 30 ∧ 30 < 2 ^ 31 := by omega
  have hs_13 : k < 2 ^ 31 ∧ 0 < 30 ∧ 30 < 2 ^ 31 := by omega
  have hp : 2 ^ (k % 30) ≤ 2 ^ 29 := Nat.pow_le_pow_right (by decide) (by omega)
  have hp0 : 0 < 2 ^ (k % 30) := Nat.pow_pos (by decide)
  have e1 : v / 1073741824 ^ (k / 30) / 2 ^ (k % 30) = v / 2 ^ k := by
    rw [Nat.div_div_eq_div_mul, pow30, show 30 * (k / 30) + k % 30 = k by omega]
  refine z_aload_n h d_H_lower_0 rfl ?_
  refine z_iload_n h d_H_lower_1 rfl ?_
  refine z_bipush (v := nI 30) h d_H_lower_2 (by decide) ?_
  refine z_idivN h d_H_lower_4 hs_4 ?_
  refine z_cV (C := R_H) (ci := 3) h (ms_H_drop N s (k / 30) a hN hs (by omega)) (zf_H_drop (by decide)) wm_H_75 wi_H_drop ws_H_drop rfl ⟨_, rfl⟩ d_H_lower_5 [0, 1] (by decide) rfl (Nat.le_of_ble_eq_true rfl) rfl (fun _ => rfl) (fun x_5 hx_5 => ?_)
  refine z_aload_n h d_H_lower_8 rfl ?_
  refine z_iconst (v := nI 1) h d_H_lower_9 (by decide) ?_
  refine z_iload_n h d_H_lower_10 rfl ?_
  refine z_bipush (v := nI 30) h d_H_lower_11 (by decide) ?_
  refine z_iremN h d_H_lower_13 hs_13 ?_
  refine z_ishlN h d_H_lower_14 ⟨by omega, by omega⟩ ?_
  rw [Nat.one_mul]
  refine z_cV (C := R_H) (ci := 3) h (ms_H_shrink N (s - k / 30) (v / 1073741824 ^ (k / 30)) (2 ^ (k % 30)) (va_cpy a a (s - (s - k / 30)) 0 (s - k / 30)) (by omega) (by omega) (fun j => by unfold va_cpy; split; exact ha _; exact ha _) (drop_nv (N := N) ha hv) ⟨hp0, by omega⟩) (zf_H_shrink (by decide)) wm_H_78 wi_H_shrink ws_H_shrink rfl ⟨_, rfl⟩ d_H_lower_15 [0, 1] (by decide) rfl (Nat.le_of_ble_eq_true rfl) rfl (fun _ => rfl) (fun x_15 hx_15 => ?_)
  refine z_pop h d_H_lower_18 rfl ?_
  refine hr.2.2.2.1 _ _ _ _ _ (Nat.le_refl _) (Nat.le_refl _) rfl d_H_lower_19 ?_
  exact ⟨x_15, rfl, rfl, by have h9 := hx_15; rw [e1] at h9; exact h9⟩
theorem lift_nv {s q v : Nat} {a : Nat → Nat} (hv : nv 1073741824 a s = v) : nv 1073741824 (fil (va_cpy a a 0 q s) 0 q 0) (s + q) = v * 1073741824 ^ q := by
  rw [Nat.add_comm, nv_split]
  have e1 : nv 1073741824 (fil (va_cpy a a 0 q s) 0 q 0) q = 0 := by
    have e2 : nv 1073741824 (fil (va_cpy a a 0 q s) 0 q 0) q = nv 1073741824 (lim a 0) q := nv_congr fun j hj => by unfold fil lim; rw [if_pos (by omega), if_neg (by omega)]
    rw [e2, lim_nv (Nat.zero_le q)]
    rfl
  have e3 : nv 1073741824 (sh (fil (va_cpy a a 0 q s) 0 q 0) q) s = nv 1073741824 a s := nv_congr fun j hj => by
    unfold sh fil va_cpy
    rw [if_neg (by omega), if_pos (by omega)]
    congr 1
    omega
  rw [e1, e3, hv, Nat.zero_add]
set_option maxRecDepth 100000 in
set_option maxHeartbeats 4000000 in
/-- times 2^k -/
theorem ms_H_lift (N s v k : Nat) (a : Nat → Nat) (hN : N < 2 ^ 30) (hR : Rp 1073741824 N a s v) (hk : k < 2 ^ 30) (hv : v * 2 ^ k < 1073741824 ^ N) : MS y_H_lift c_H_lift 3 none (rm 3) [.ref 0, .int (nI k)] [wh 1 s, ar N a] (zP (X := (Nat → Nat) × Nat) (fun _ => none) (fun x => [wh 1 x.2, ar N x.1]) (fun x => Rp 1073741824 N x.1 x.2 (v * 2 ^ k))) := by
  refine MS_of (own := R_H) (by decide) rfl (fun _ => Nat.le_of_ble_eq_true rfl) (fun Z h hr => ?_)
  have hs_3 : k < 2 ^ 31 ∧ 0 < 30 ∧ 30 < 2 ^ 31 := by omega
  have hs_68 : k < 2 ^ 31 ∧ 0 < 30 ∧ 30 < 2 ^ 31 := by omega
  have hsN := hR.1
  refine z_iload_n h d_H_lift_0 rfl ?_
  refine z_bipush (v := nI 30) h d_H_lift_1 (by decide) ?_
  refine z_idivN h d_H_lift_3 hs_3 ?_
  refine z_istore_n h d_H_lift_4 (by decide) ?_
  refine z_aload_n h d_H_lift_5 rfl ?_
  refine z_get (C := R_H) (T := F_H) (N := 2) h 1 d_H_lift_6 in_H rfl (by decide) wf_H_15 rfl rfl ?_
  refine z_if_leN (tgt := 74) h d_H_lift_9 (by decide) (by omega) (fun c_9 => ?_) (fun c_9 => ?_)
  · subst c_9
    have hv0 : v = 0 := hR.2.2.1.symm
    refine hr.2.2.2.1 _ _ _ _ _ (Nat.le_refl _) (Nat.le_refl _) rfl d_H_lift_74 ?_
    exact ⟨(a, 0), rfl, rfl, by rw [hv0, Nat.zero_mul]; rw [hv0] at hR; exact hR⟩
  · have hlow : 1073741824 ^ (s - 1) ≤ v := by
      rcases hR.2.2.2 with q | q
      · omega
      · exact q
    have hp0 : 0 < 2 ^ (k % 30) := Nat.pow_pos (by decide)
    have hp : 2 ^ (k % 30) ≤ 2 ^ 29 := Nat.pow_le_pow_right (by decide) (by omega)
    have ek : v * 1073741824 ^ (k / 30) * 2 ^ (k % 30) = v * 2 ^ k := by
      rw [Nat.mul_assoc, pow30, show 30 * (k / 30) + k % 30 = k by omega]
    have hfit : s + k / 30 ≤ N := by
      apply Nat.le_of_not_lt
      intro q
      have h1 : 1073741824 ^ (s - 1) * 1073741824 ^ (k / 30) ≤ v * 1073741824 ^ (k / 30) := Nat.mul_le_mul_right _ hlow
      rw [← Nat.pow_add] at h1
      have h2 : (1073741824 : Nat) ^ N ≤ 1073741824 ^ (s - 1 + k / 30) := Nat.pow_le_pow_right (by decide) (by omega)
      have h3 : v * 1073741824 ^ (k / 30) * 1 ≤ v * 1073741824 ^ (k / 30) * 2 ^ (k % 30) := Nat.mul_le_mul_left _ hp0
      omega
    have hR2 : Rp 1073741824 N (fil (va_cpy a a 0 (k / 30) s) 0 (k / 30) 0) (s + k / 30) (v * 1073741824 ^ (k / 30)) := by
      refine ⟨hfit, fun j => ?_, lift_nv hR.2.2.1, Or.inr ?_⟩
      · unfold fil va_cpy
        split
        · decide
        · split
          · exact hR.2.1 _
          · exact hR.2.1 _
      · have h1 : 1073741824 ^ (s - 1) * 1073741824 ^ (k / 30) ≤ v * 1073741824 ^ (k / 30) := Nat.mul_le_mul_right _ hlow
        rw [← Nat.pow_add] at h1
        rw [show s + k / 30 - 1 = s - 1 + k / 30 by omega]
        exact h1
    refine z_aload_n h d_H_lift_12 rfl ?_
    refine z_get (C := R_H) (T := F_H) (N := 2) h 1 d_H_lift_13 in_H rfl (by decide) wf_H_15 rfl rfl ?_
    refine z_iload_n h d_H_lift_16 rfl ?_
    refine z_iaddN h d_H_lift_17 ?_
    refine z_aload_n h d_H_lift_18 rfl ?_
    refine z_get (C := R_H) (T := F_H) (N := 2) h 0 d_H_lift_19 in_H rfl (by decide) wf_H_9 rfl rfl ?_
    refine z_alenN h d_H_lift_22 rfl ?_
    refine z_icmp_gtN (tgt := 74) h d_H_lift_23 (by decide) (by omega) (fun c_23 => ?_) (fun c_23 => ?_)
    · exact absurd c_23 (by omega)
    · refine z_aload_n h d_H_lift_26 rfl ?_
      refine z_get (C := R_H) (T := F_H) (N := 2) h 0 d_H_lift_27 in_H rfl (by decide) wf_H_9 rfl rfl ?_
      refine z_iconst (v := nI 0) h d_H_lift_30 (by decide) ?_
      refine z_aload_n h d_H_lift_31 rfl ?_
      refine z_get (C := R_H) (T := F_H) (N := 2) h 0 d_H_lift_32 in_H rfl (by decide) wf_H_9 rfl rfl ?_
      refine z_iload_n h d_H_lift_35 rfl ?_
      refine z_aload_n h d_H_lift_36 rfl ?_
      refine z_get (C := R_H) (T := F_H) (N := 2) h 1 d_H_lift_37 in_H rfl (by decide) wf_H_15 rfl rfl ?_
      refine z_copyN h d_H_lift_40 wm_H_31 rfl rfl (by omega) (by decide) (Nat.le_of_ble_eq_true rfl) ?_
      refine z_aload_n h d_H_lift_43 rfl ?_
      refine z_get (C := R_H) (T := F_H) (N := 2) h 0 d_H_lift_44 in_H rfl (by decide) wf_H_9 rfl rfl ?_
      refine z_iconst (v := nI 0) h d_H_lift_47 (by decide) ?_
      refine z_iload_n h d_H_lift_48 rfl ?_
      refine z_iconst (v := nI 0) h d_H_lift_49 (by decide) ?_
      refine z_cS h (ms_JA_fillI N 0 (k / 30) 0 (va_cpy a a 0 (k / 30) s) (Nat.zero_le _) (by omega) (by omega)) (zf_JA_fillI (by decide)) wm_H_69 wt_JA_fillI d_H_lift_50 [1] (by decide) rfl (Nat.le_of_ble_eq_true rfl) rfl (fun _ => rfl) (fun x_50 hx_50 => ?_)
      refine z_aload_n h d_H_lift_53 rfl ?_
      refine z_dup h d_H_lift_54 rfl ?_
      refine z_get (C := R_H) (T := F_H) (N := 2) h 1 d_H_lift_55 in_H rfl (by decide) wf_H_15 rfl rfl ?_
      refine z_iload_n h d_H_lift_58 rfl ?_
      refine z_iaddN h d_H_lift_59 ?_
      refine z_put (C := R_H) (T := F_H) (N := 2) (ty := .int) h 1 d_H_lift_60 in_H rfl ft_H_ok n_H (by decide) wf_H_15 rfl rfl rfl rfl rfl (Nat.le_of_ble_eq_true rfl) ?_
      refine z_aload_n h d_H_lift_63 rfl ?_
      refine z_iconst (v := nI 1) h d_H_lift_64 (by decide) ?_
      refine z_iload_n h d_H_lift_65 rfl ?_
      refine z_bipush (v := nI 30) h d_H_lift_66 (by decide) ?_
      refine z_iremN h d_H_lift_68 hs_68 ?_
      refine z_ishlN h d_H_lift_69 ⟨by omega, by omega⟩ ?_
      rw [Nat.one_mul]
      refine z_iconst (v := nI 0) h d_H_lift_70 (by decide) ?_
      refine z_cV (C := R_H) (ci := 3) h (ms_H_scale N (s + k / 30) (v * 1073741824 ^ (k / 30)) (2 ^ (k % 30)) 0 (fil (va_cpy a a 0 (k / 30) s) 0 (k / 30) 0) (by omega) hR2 (by omega) hp0 (by rw [ek]; exact hv)) (zf_H_scale (by decide)) wm_H_62 wi_H_scale ws_H_scale rfl ⟨_, rfl⟩ d_H_lift_71 [0, 1] (by decide) rfl (Nat.le_of_ble_eq_true rfl) rfl (fun _ => rfl) (fun x_71 hx_71 => ?_)
      refine hr.2.2.2.1 _ _ _ _ _ (Nat.le_refl _) (Nat.le_refl _) rfl d_H_lift_74 ?_
      exact ⟨x_71, rfl, rfl, by have h9 := hx_71; rw [ek] at h9; exact h9⟩
