/-! the whole root -/
theorem p30 (n : Nat) : (1073741824 : Nat) ^ n = 2 ^ (30 * n) := by rw [show (1073741824 : Nat) = 2 ^ 30 by decide, ← Nat.pow_mul]
theorem ext_num {v p s : Nat} (h0 : 0 < v) (hp : (bl v + 60 - 1) / 60 = p) (hs : (p * 2 * 30 - bl v) / 2 = s) : v * 2 ^ (2 * s) < 1073741824 ^ (2 * p) ∧ 1073741824 ^ (2 * (p - 1)) * 288230376151711744 ≤ v * 2 ^ (2 * s) ∧ 1 ≤ p := by
  have b0 := bl_ge1 h0
  have b1 := bl_ub v
  have b2 := bl_lb h0
  have hp1 : 1 ≤ p := by omega
  refine ⟨?_, ?_, hp1⟩
  · rw [p30]
    have : v * 2 ^ (2 * s) < 2 ^ bl v * 2 ^ (2 * s) := Nat.mul_lt_mul_of_pos_right b1 (Nat.pow_pos (by decide))
    rw [← Nat.pow_add] at this
    exact Nat.lt_of_lt_of_le this (Nat.pow_le_pow_right (by decide) (by omega))
  · rw [p30, show (288230376151711744 : Nat) = 2 ^ 58 by decide, ← Nat.pow_add]
    have : 2 ^ (bl v - 1) * 2 ^ (2 * s) ≤ v * 2 ^ (2 * s) := Nat.mul_le_mul_right _ b2
    rw [← Nat.pow_add] at this
    exact Nat.le_trans (Nat.pow_le_pow_right (by decide) (by omega)) this
theorem sq29 {H x : Nat} (h : IsR H x) (hH : 288230376151711744 ≤ H) : 1073741824 ≤ 2 * x := by
  apply Nat.le_of_not_lt
  intro z
  have h1 : (x + 1) * (x + 1) ≤ 536870912 * 536870912 := Nat.mul_le_mul (by omega) (by omega)
  have := h.2
  omega
theorem rest_le {H x : Nat} (h : IsR H x) : H - x * x ≤ 2 * x ∧ H = x * x + (H - x * x) := by
  obtain ⟨h1, h2⟩ := h
  have e : (x + 1) * (x + 1) = x * x + 2 * x + 1 := by grind
  omega
theorem nv2 {a : Nat → Nat} {j : Nat} : nv 1073741824 (sh a j) 2 = a j + a (j + 1) * 1073741824 := by
  show 0 + sh a j 0 * 1073741824 ^ 0 + sh a j 1 * 1073741824 ^ 1 = _
  unfold sh
  rw [Nat.zero_add, Nat.pow_zero, Nat.mul_one, Nat.pow_one, Nat.add_zero]
theorem first_inv {p v' x : Nat} {l q : Nat → Nat} (hp : 1 ≤ p) (hl : ∀ j, l j < 1073741824) (hv : nv 1073741824 l (2 * p) = v') (hlo : 1073741824 ^ (2 * (p - 1)) * 288230376151711744 ≤ v') (hq : ∀ j, q j < 1073741824) (hq0 : ∀ j, j < p + 1 → q j = 0) (hx : IsR (l (2 * p - 1) * 1073741824 + l (2 * p - 2)) x) (hxB : x < 1073741824) : RootInv p 1 l (un (un l (2 * p - 1) ((l (2 * p - 1) * 1073741824 + l (2 * p - 2) - x * x) / 1073741824)) (2 * p - 2) ((l (2 * p - 1) * 1073741824 + l (2 * p - 2) - x * x) % 1073741824)) (un (un q (p - 1) (2 * x % 1073741824)) p (2 * x / 1073741824)) x (l (2 * p - 1) * 1073741824 + l (2 * p - 2) - x * x) := by
  have e2 : 2 * (p - 1) = 2 * p - 2 := by omega
  have e3 : 2 * p - 2 + 1 = 2 * p - 1 := by omega
  obtain ⟨hr1, hr2⟩ := rest_le hx
  have hH : 288230376151711744 ≤ l (2 * p - 1) * 1073741824 + l (2 * p - 2) := by
    have s1 := nv_split (B := 1073741824) (a := l) (k := 2 * p - 2) (m := 2)
    rw [show 2 * p - 2 + 2 = 2 * p by omega, hv, nv2, e3] at s1
    have s2 : nv 1073741824 l (2 * p - 2) < 1073741824 ^ (2 * p - 2) := nv_lt fun j _ => hl j
    rw [e2] at hlo
    apply Nat.le_of_not_lt
    intro z
    have s3 : (l (2 * p - 2) + l (2 * p - 1) * 1073741824 + 1) * 1073741824 ^ (2 * p - 2) ≤ 288230376151711744 * 1073741824 ^ (2 * p - 2) := Nat.mul_le_mul_right _ (by omega)
    rw [Nat.add_mul, Nat.one_mul] at s3
    rw [Nat.mul_comm] at hlo
    generalize (1073741824 : Nat) ^ (2 * p - 2) = Q at *
    omega
  have h29 := sq29 hx hH
  generalize hHd : l (2 * p - 1) * 1073741824 + l (2 * p - 2) = H at hr1 hr2
  generalize hRd : H - x * x = R at hr1 hr2
  have hRB : R / 1073741824 < 1073741824 := by omega
  refine ⟨un_lt (un_lt hl hRB) (by omega), un_lt (un_lt hq (by omega)) (by omega), fun j hj => ?_, fun j hj => ?_, ?_, ?_, ?_, hr1, by rw [Nat.pow_one]; exact h29, by rw [Nat.pow_one]; exact hxB⟩
  · rw [un_ne (by omega), un_ne (by omega)]
  · rw [un_ne (by omega), un_ne (by omega)]
    exact hq0 j (by omega)
  · rw [e2, nv2, un_eq, e3, un_ne (by omega), un_eq]
    omega
  · rw [nv2, un_ne (by omega), un_eq, show p - 1 + 1 = p by omega, un_eq]
    omega
  · rw [e2, nv2, e3, ← hr2, ← hHd]
    omega
set_option maxRecDepth 100000 in
set_option maxHeartbeats 8000000 in
/-- the result becomes the square root of left, rounded down -/
theorem ms_B_extractRoot (sl sr sq v : Nat) (l r q : Nat → Nat) (hv : Rp 1073741824 1400 l sl v) (hq : ∀ j, q j < 1073741824) (hsq : sq ≤ 1400) (hbl : bl v ≤ 41000) : MS y_B_extractRoot c_B_extractRoot 4 none (rm 4) [.ref 0] (bW sl sr sq l r q) (zP (X := Nat × Nat × (Nat → Nat) × (Nat → Nat) × Nat) (fun _ => none) (fun x => bW x.1 sr x.2.1 x.2.2.1 r x.2.2.2.1) (fun x => (x.1 ≤ 1400 ∧ ∀ j, x.2.2.1 j < 1073741824) ∧ IsR v x.2.2.2.2 ∧ Rp 1073741824 1400 x.2.2.2.1 x.2.1 x.2.2.2.2)) := by
  refine MS_of (own := R_B) (by decide) rfl (fun _ => Nat.le_of_ble_eq_true rfl) (fun Z h hr => ?_)
  obtain ⟨p, hp⟩ : ∃ p, (bl v + 60 - 1) / 60 = p := ⟨_, rfl⟩
  have hp700 : p ≤ 684 := by omega
  have hs_14 : bl v + 60 - 1 < 2 ^ 31 ∧ 0 < 60 ∧ 60 < 2 ^ 31 := by omega
  refine z_aload_n h d_B_extractRoot_0 rfl ?_
  refine z_get (C := R_B) (T := F_B) (N := 3) h 0 d_B_extractRoot_1 in_B rfl (by decide) wf_B_14 rfl rfl ?_
  refine z_cV (C := R_H) (ci := 3) h (ms_H_length 1400 sl v l (by decide) hv) (zf_H_length (by decide)) wm_B_91 wi_H_length ws_H_length rfl ⟨_, rfl⟩ d_B_extractRoot_4 [1, 2] (by decide) rfl (Nat.le_of_ble_eq_true rfl) rfl (fun _ => rfl) (fun x_4 hx_4 => ?_)
  refine z_bipush (v := nI 60) h d_B_extractRoot_7 (by decide) ?_
  refine z_iaddN h d_B_extractRoot_9 ?_
  refine z_iconst (v := nI 1) h d_B_extractRoot_10 (by decide) ?_
  refine z_isubN h d_B_extractRoot_11 (by omega) ?_
  refine z_bipush (v := nI 60) h d_B_extractRoot_12 (by decide) ?_
  refine z_idivN h d_B_extractRoot_14 hs_14 ?_
  rw [hp]
  refine z_istore_n h d_B_extractRoot_15 (by decide) ?_
  refine z_aload_n h d_B_extractRoot_16 rfl ?_
  refine z_get (C := R_B) (T := F_B) (N := 3) h 2 d_B_extractRoot_17 in_B rfl (by decide) wf_B_23 rfl rfl ?_
  refine z_iload_n h d_B_extractRoot_20 rfl ?_
  refine z_iconst (v := nI 1) h d_B_extractRoot_21 (by decide) ?_
  refine z_iaddN h d_B_extractRoot_22 ?_
  refine z_cV (C := R_H) (ci := 3) h (ms_H_zero 1400 sq (p + 1) q (by decide) (by omega)) (zf_H_zero (by decide)) wm_B_54 wi_H_zero ws_H_zero rfl ⟨_, rfl⟩ d_B_extractRoot_23 [5, 6] (by decide) rfl (Nat.le_of_ble_eq_true rfl) rfl (fun _ => rfl) (fun x_23 hx_23 => ?_)
  have hf : ∀ j, fil q 0 (p + 1) 0 j < 1073741824 := fun j => by
    unfold fil
    split
    · decide
    · exact hq j
  have hf0 : ∀ j, j < p + 1 → fil q 0 (p + 1) 0 j = 0 := fun j hj => by unfold fil; rw [if_pos (by omega)]
  refine z_iload_n h d_B_extractRoot_26 rfl ?_
  refine z_if_neN (tgt := 38) h d_B_extractRoot_27 (by decide) (by omega) (fun c_27 => ?_) (fun c_27 => ?_)
  · obtain ⟨s, hs⟩ : ∃ s, (p * 2 * 30 - bl v) / 2 = s := ⟨_, rfl⟩
    have hv0 : 0 < v := by
      rcases Nat.eq_zero_or_pos v with e | e
      · subst e
        have : bl 0 = 0 := rfl
        omega
      · exact e
    obtain ⟨n1, n2, hp1⟩ := ext_num hv0 hp hs
    have hs2 : s < 2 ^ 20 := by omega
    have hs_53 : p * 2 * 30 - bl v < 2 ^ 31 ∧ 0 < 2 ∧ 2 < 2 ^ 31 := by omega
    have hfit : v * 2 ^ (2 * s) < 1073741824 ^ 1400 := Nat.lt_of_lt_of_le n1 (Nat.pow_le_pow_right (by decide) (by omega))
    refine z_iload_n h d_B_extractRoot_38 rfl ?_
    refine z_iconst (v := nI 2) h d_B_extractRoot_39 (by decide) ?_
    refine z_imulN h d_B_extractRoot_40 ?_
    refine z_bipush (v := nI 30) h d_B_extractRoot_41 (by decide) ?_
    refine z_imulN h d_B_extractRoot_43 ?_
    refine z_aload_n h d_B_extractRoot_44 rfl ?_
    refine z_get (C := R_B) (T := F_B) (N := 3) h 0 d_B_extractRoot_45 in_B rfl (by decide) wf_B_14 rfl rfl ?_
    refine z_cV (C := R_H) (ci := 3) h (ms_H_length 1400 sl v l (by decide) hv) (zf_H_length (by decide)) wm_B_91 wi_H_length ws_H_length rfl ⟨_, rfl⟩ d_B_extractRoot_48 [1, 2] (by decide) rfl (Nat.le_of_ble_eq_true rfl) rfl (fun _ => rfl) (fun x_48 hx_48 => ?_)
    refine z_isubN h d_B_extractRoot_51 (by omega) ?_
    refine z_iconst (v := nI 2) h d_B_extractRoot_52 (by decide) ?_
    refine z_idivN h d_B_extractRoot_53 hs_53 ?_
    rw [hs]
    refine z_istore_n h d_B_extractRoot_54 (by decide) ?_
    refine z_aload_n h d_B_extractRoot_55 rfl ?_
    refine z_get (C := R_B) (T := F_B) (N := 3) h 0 d_B_extractRoot_56 in_B rfl (by decide) wf_B_14 rfl rfl ?_
    refine z_iconst (v := nI 2) h d_B_extractRoot_59 (by decide) ?_
    refine z_iload_n h d_B_extractRoot_60 rfl ?_
    refine z_imulN h d_B_extractRoot_61 ?_
    refine z_cV (C := R_H) (ci := 3) h (ms_H_lift 1400 sl v (2 * s) l (by decide) hv (by omega) hfit) (zf_H_lift (by decide)) wm_B_65 wi_H_lift ws_H_lift rfl ⟨_, rfl⟩ d_B_extractRoot_62 [1, 2] (by decide) rfl (Nat.le_of_ble_eq_true rfl) rfl (fun _ => rfl) (fun x_62 hx_62 => ?_)
    obtain ⟨l', s1⟩ := x_62
    dsimp only at hx_62
    have hs1 : s1 = 2 * p := by
      have h9 : 1073741824 ^ (2 * p - 1) ≤ v * 2 ^ (2 * s) := by
        refine Nat.le_trans ?_ n2
        rw [show 2 * p - 1 = 2 * (p - 1) + 1 by omega, Nat.pow_succ]
        exact Nat.mul_le_mul_left _ (by decide)
      have h8 := Rp_uniq hx_62 h9 (by rw [show 2 * p - 1 + 1 = 2 * p by omega]; exact n1)
      omega
    subst hs1
    have hl' := hx_62.2.1
    have hvn := hx_62.2.2.1
    obtain ⟨v', hv'⟩ : ∃ v', v * 2 ^ (2 * s) = v' := ⟨_, rfl⟩
    rw [hv'] at hvn n2
    refine z_aload_n h d_B_extractRoot_65 rfl ?_
    refine z_iload_n h d_B_extractRoot_66 rfl ?_
    refine z_cV (C := R_B) (ci := 0) h (ms_B_takeFirst p (2 * p) sr (p + 1) l' r (fil q 0 (p + 1) 0) hl' hp1 (by omega) hf0) (zf_B_takeFirstRootLimb (by decide)) wm_B_95 wi_B_takeFirstRootLimb ws_B_takeFirstRootLimb rfl ⟨_, rfl⟩ d_B_extractRoot_67 [0, 1, 2, 3, 4, 5, 6] (by decide) rfl (Nat.le_of_ble_eq_true rfl) rfl (fun _ => rfl) (fun x_67 hx_67 => ?_)
    have hI1 := first_inv hp1 hl' hvn n2 hf hf0 hx_67.1 hx_67.2
    have L : ∀ (m k rt R : Nat) (x y : Nat → Nat), k + m = p → 1 ≤ k → RootInv p k l' x y rt R → Z 0 0 (bW (2 * p) sr (p + 1) x r y) [(0, .ref 0), (1, .int (nI p)), (2, .int (nI s)), (3, .int (nI k))] 72 [] := by
      intro m
      induction m with
      | zero =>
        intro k rt R x y hkm hk1 hI
        obtain rfl : k = p := by omega
        obtain ⟨i1, i2, i3, i4, i5, i6, i7, i8, i9, i10⟩ := hI
        rw [Nat.sub_self, sh_0] at i6
        rw [Nat.sub_self, Nat.mul_zero, sh_0, hvn] at i7
        refine z_iload_n h d_B_extractRoot_72 rfl ?_
        refine z_iload_n h d_B_extractRoot_73 rfl ?_
        refine z_icmp_geN (tgt := 89) h d_B_extractRoot_74 (by decide) (by omega) (fun c_74 => ?_) (fun c_74 => ?_)
        · refine z_aload_n h d_B_extractRoot_89 rfl ?_
          refine z_get (C := R_B) (T := F_B) (N := 3) h 2 d_B_extractRoot_90 in_B rfl (by decide) wf_B_23 rfl rfl ?_
          refine z_iload_n h d_B_extractRoot_93 rfl ?_
          refine z_iconst (v := nI 1) h d_B_extractRoot_94 (by decide) ?_
          refine z_iaddN h d_B_extractRoot_95 ?_
          refine z_cV (C := R_H) (ci := 3) h (ms_H_lower 1400 (k + 1) (2 * rt) (s + 1) y (by decide) (by omega) i2 i6 (by omega)) (zf_H_lower (by decide)) wm_B_47 wi_H_lower ws_H_lower rfl ⟨_, rfl⟩ d_B_extractRoot_96 [5, 6] (by decide) rfl (Nat.le_of_ble_eq_true rfl) rfl (fun _ => rfl) (fun x_96 hx_96 => ?_)
          refine hr.2.2.2.1 _ _ _ _ _ (Nat.le_refl _) (Nat.le_refl _) rfl d_B_extractRoot_99 ?_
          have e1 : 2 * rt / 2 ^ (s + 1) = rt / 2 ^ s := by rw [Nat.pow_succ, Nat.mul_comm (2 ^ s) 2, ← Nat.div_div_eq_div_mul, Nat.mul_div_cancel_left _ (by decide)]
          have e2 : IsR (v * 2 ^ (2 * s)) rt := by
            rw [hv', i7]
            have e3 : (rt + 1) * (rt + 1) = rt * rt + 2 * rt + 1 := by grind
            exact ⟨by omega, by omega⟩
          refine ⟨(2 * k, x_96.2, x, x_96.1, rt / 2 ^ s), rfl, rfl, ⟨by show 2 * k ≤ 1400; omega, i1⟩, root_low e2, ?_⟩
          have h9 := hx_96
          rw [e1] at h9
          exact h9
        · exact absurd c_74 (by omega)
      | succ m ih =>
        intro k rt R x y hkm hk1 hI
        obtain ⟨k, rfl⟩ : ∃ z, k = z + 1 := ⟨k - 1, by omega⟩
        obtain ⟨fr, hfr⟩ : ∃ fr, fr + (k + 1) + 1 = p := ⟨p - 1 - (k + 1), by omega⟩
        obtain ⟨i1, i2, i3, i4, i5, i6, i7, i8, i9, i10⟩ := id hI
        have e1 : p - (k + 1) = fr + 1 := by omega
        rw [e1] at i5 i6
        have hlo : x (2 * fr) + x (2 * fr + 1) * 1073741824 < 1073741824 * 1073741824 := by
          have a1 := i1 (2 * fr)
          have a2 := i1 (2 * fr + 1)
          omega
        obtain ⟨t, ht, ht1, ht2⟩ := root_ex (B := 1073741824) i8 hlo
        obtain ⟨W, hW⟩ : ∃ W, nv 1073741824 (sh x (2 * fr)) (k + 1 + 3) = W := ⟨_, rfl⟩
        have hWe : W = (x (2 * fr) + x (2 * fr + 1) * 1073741824) + R * (1073741824 * 1073741824) := by
          rw [← hW, show k + 1 + 3 = k + 1 + 1 + 2 from rfl, nv_sh2]
          rw [show 2 * (fr + 1) = 2 * fr + 2 by omega] at i5
          rw [i5]
        rw [← hWe] at ht1 ht2
        have hWR : W < (2 * rt + 1) * 1152921504606846976 := by
          have : R * 1152921504606846976 ≤ 2 * rt * 1152921504606846976 := Nat.mul_le_mul_right _ i8
          omega
        have hc := ms_B_takeRootLimb p k fr (2 * p) sr (p + 1) (2 * rt) W t x r y i1 i2 hfr (by omega) i6 (by omega) i9 (Nat.mul_lt_mul_of_pos_left i10 (by decide)) hW hWR ht ht1 ht2
        clear i5 i6 i7 i8 i9 i10 hWR hWe hlo
        refine z_iload_n h d_B_extractRoot_72 rfl ?_
        refine z_iload_n h d_B_extractRoot_73 rfl ?_
        refine z_icmp_geN (tgt := 89) h d_B_extractRoot_74 (by decide) (by omega) (fun c_74 => ?_) (fun c_74 => ?_)
        · exact absurd c_74 (by omega)
        · refine z_aload_n h d_B_extractRoot_77 rfl ?_
          refine z_iload_n h d_B_extractRoot_78 rfl ?_
          refine z_iload_n h d_B_extractRoot_79 rfl ?_
          refine z_cV (C := R_B) (ci := 0) h (hc) (zf_B_takeRootLimb (by decide)) wm_B_98 wi_B_takeRootLimb ws_B_takeRootLimb rfl ⟨_, rfl⟩ d_B_extractRoot_80 [0, 1, 2, 3, 4, 5, 6] (by decide) rfl (Nat.le_of_ble_eq_true rfl) rfl (fun _ => rfl) (fun x_80 hx_80 => ?_)
          obtain ⟨b1, b2, b3, b4, b5, b6⟩ := hx_80
          have hI2 := root_inv_next hfr hl' hI ht W hW ht1 ht2 b1 b2 b3 b4 b5 b6
          refine z_iincN h 1 d_B_extractRoot_83 rfl (by decide) (by decide) ?_
          refine z_goto (tgt := 72) h d_B_extractRoot_86 (by decide) ?_
          exact z_lv h rfl (ih (k + 1 + 1) _ _ x_80.1 x_80.2 (by omega) (by omega) hI2)
    refine z_iconst (v := nI 1) h d_B_extractRoot_70 (by decide) ?_
    refine z_istore_n h d_B_extractRoot_71 (by decide) ?_
    exact z_lv h rfl (L (p - 1) 1 _ _ _ _ (by omega) (Nat.le_refl 1) hI1)
  · have hb0 : bl v = 0 := by omega
    have hv0 : v = 0 := by
      rcases Nat.eq_zero_or_pos v with e | e
      · exact e
      · have := bl_ge1 e
        omega
    subst c_27
    refine z_aload_n h d_B_extractRoot_30 rfl ?_
    refine z_get (C := R_B) (T := F_B) (N := 3) h 2 d_B_extractRoot_31 in_B rfl (by decide) wf_B_23 rfl rfl ?_
    refine z_cV (C := R_H) (ci := 3) h (ms_H_trim 1400 (0 + 1) (fil q 0 (0 + 1) 0) (by decide) (by decide) (fun j => Nat.lt_trans (hf j) (by decide))) (zf_H_trim (by decide)) wm_B_74 wi_H_trim ws_H_trim rfl ⟨_, rfl⟩ d_B_extractRoot_34 [5, 6] (by decide) rfl (Nat.le_of_ble_eq_true rfl) rfl (fun _ => rfl) (fun x_34 hx_34 => ?_)
    refine hr.2.2.2.1 _ _ _ _ _ (Nat.le_refl _) (Nat.le_refl _) rfl d_B_extractRoot_37 ?_
    refine ⟨(sl, trm (fil q 0 (0 + 1) 0) (0 + 1), l, fil q 0 (0 + 1) 0, 0), rfl, rfl, ⟨hv.1, hv.2.1⟩, by rw [hv0]; exact (show IsR 0 0 from ⟨by decide, by decide⟩), ?_⟩
    refine Rp_trm (by decide) hf ?_
    show 0 + fil q 0 (0 + 1) 0 0 * 1073741824 ^ 0 = 0
    rw [hf0 0 (by omega), Nat.zero_mul]
