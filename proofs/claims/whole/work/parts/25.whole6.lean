/-! DigitMill$Whole: absorbsCarry, decrease, multiply -/
set_option maxRecDepth 100000 in
set_option maxHeartbeats 4000000 in
/-- whether a limb of lo .. hi - 1 isn't the greatest -/
theorem ms_H_absorbsCarry (N s lo hi : Nat) (a : Nat → Nat) (hN : N < 2 ^ 31) (hs : s ≤ N) (ha : ∀ j, a j < 1073741824) (hh : lo < 2 ^ 31 ∧ hi < 2 ^ 31) : MS y_H_absorbsCarry c_H_absorbsCarry 4 (some .boolean) (rm 2) [.ref 0, .int (nI lo), .int (nI hi)] [wh 1 s, ar N a] (zP (X := Nat) (fun x => some (.int (nI x))) (fun _ => [wh 1 s, ar N a]) (fun x => (x = 1 ∧ ∃ j, lo ≤ j ∧ j < hi ∧ lim a s j ≠ 1073741823) ∨ (x = 0 ∧ ∀ j, lo ≤ j → j < hi → lim a s j = 1073741823))) := by
  refine MS_of (own := R_H) (by decide) rfl (fun _ => Nat.le_of_ble_eq_true rfl) (fun Z h hr => ?_)
  have L : ∀ (m i : Nat), (hi ≤ i ∧ m = 0) ∨ i + m = hi → lo ≤ i → i < 2 ^ 31 → (∀ j, lo ≤ j → j < i → lim a s j = 1073741823) → Z 0 0 [wh 1 s, ar N a] [(0, .ref 0), (1, .int (nI lo)), (2, .int (nI hi)), (3, .int (nI i))] 2 [] := by
    intro m
    induction m with
    | zero =>
      intro i him hli hi31 hj
      refine z_iload_n h d_H_absorbsCarry_2 rfl ?_
      refine z_iload_n h d_H_absorbsCarry_3 rfl ?_
      refine z_icmp_geN (tgt := 25) h d_H_absorbsCarry_4 (by decide) (by omega) (fun c_4 => ?_) (fun c_4 => ?_)
      · refine z_iconst (v := nI 0) h d_H_absorbsCarry_25 (by decide) ?_
        refine hr.2.1 _ _ _ _ _ _ (Nat.le_refl _) (Nat.le_refl _) rfl rfl d_H_absorbsCarry_26 ?_
        exact ⟨0, rfl, rfl, Or.inr ⟨rfl, fun j q1 q2 => hj j q1 (by omega)⟩⟩
      · exact absurd c_4 (by omega)
    | succ m ih =>
      intro i him hli hi31 hj
      have hlb : (if i < s then a i else 0) = lim a s i := rfl
      have h2 := lim_lt (s := s) (by decide) ha i
      refine z_iload_n h d_H_absorbsCarry_2 rfl ?_
      refine z_iload_n h d_H_absorbsCarry_3 rfl ?_
      refine z_icmp_geN (tgt := 25) h d_H_absorbsCarry_4 (by decide) (by omega) (fun c_4 => ?_) (fun c_4 => ?_)
      · exact absurd c_4 (by omega)
      · refine z_aload_n h d_H_absorbsCarry_7 rfl ?_
        refine z_iload_n h d_H_absorbsCarry_8 rfl ?_
        refine z_cV (C := R_H) (ci := 3) h (ms_H_limbAt N s i a hN hs hi31) (zf_H_limbAt (by decide)) wm_H_47 wi_H_limbAt ws_H_limbAt rfl ⟨_, rfl⟩ d_H_absorbsCarry_9 [0, 1] (by decide) rfl (Nat.le_of_ble_eq_true rfl) rfl (fun _ => rfl) (fun x_9 hx_9 => ?_)
        rw [hlb]
        refine z_ldc (v := nI 1073741823) h d_H_absorbsCarry_12 wv_H_50 ?_
        refine z_icmp_eqN (tgt := 19) h d_H_absorbsCarry_14 (by decide) (by omega) (fun c_14 => ?_) (fun c_14 => ?_)
        · refine z_iincN h 1 d_H_absorbsCarry_19 rfl (by decide) (by decide) ?_
          refine z_goto (tgt := 2) h d_H_absorbsCarry_22 (by decide) ?_
          refine z_lv h rfl (ih (i + 1) (by omega) (by omega) (by omega) (fun j q1 q2 => ?_))
          by_cases e : j = i
          · rw [e]; exact c_14
          · exact hj j q1 (by omega)
        · refine z_iconst (v := nI 1) h d_H_absorbsCarry_17 (by decide) ?_
          refine hr.2.1 _ _ _ _ _ _ (Nat.le_refl _) (Nat.le_refl _) rfl rfl d_H_absorbsCarry_18 ?_
          exact ⟨1, rfl, rfl, Or.inl ⟨rfl, i, hli, by omega, c_14⟩⟩
  refine z_iload_n h d_H_absorbsCarry_0 rfl ?_
  refine z_istore_n h d_H_absorbsCarry_1 (by decide) ?_
  refine z_lv (lv' := [(0, .ref 0), (1, .int (nI lo)), (2, .int (nI hi)), (3, .int (nI lo))]) h rfl ?_
  exact L (hi - lo) lo (by omega) (Nat.le_refl lo) hh.1 (fun j q1 q2 => absurd q1 (by omega))
theorem dec_and {x y b : Nat} (hx : x < 1073741824) (hy : y < 1073741824) (hb : b ≤ 1) : (nI x - nI y + iI (-(b : Int))) &&& 1073741823 = nI (if x < y + b then x + 1073741824 - y - b else x - y - b) := by
  rw [nI_iI x, nI_iI y, iI_sub, iI_add, iI_and30, nI_iI]
  congr 1
  split <;> omega
theorem dec_shr {x y b : Nat} (hx : x < 1073741824) (hy : y < 1073741824) (hb : b ≤ 1) : (nI x - nI y + iI (-(b : Int))) >>> ((30 : Int32) &&& 31) = iI (-((if x < y + b then 1 else 0 : Nat) : Int)) := by
  rw [nI_iI x, nI_iI y, iI_sub, iI_add, iI_shr30 (by omega) (by omega)]
  congr 1
  split <;> omega
theorem dec_step {m b x y P n1 n2 r b' B : Nat} (h : m + n2 = n1 + b * P) (hr : r + y + b = x + b' * B) : (m + r * P) + (n2 + y * P) = (n1 + x * P) + b' * (P * B) := by
  have e : (r + y + b) * P = (x + b' * B) * P := by rw [hr]
  grind
set_option maxRecDepth 100000 in
set_option maxHeartbeats 4000000 in
theorem ms_H_decrease (N s M t v u : Nat) (a b : Nat → Nat) (hN : N < 2 ^ 31) (hM : M < 2 ^ 31) (ha : Rp 1073741824 N a s v) (hb : Rp 1073741824 M b t u) (hvu : u ≤ v) : MS y_H_decrease c_H_decrease 5 none (rm 2) [.ref 0, .ref 2] [wh 1 s, ar N a, wh 3 t, ar M b] (zP (X := (Nat → Nat) × Nat) (fun _ => none) (fun x => [wh 1 x.2, ar N x.1, wh 3 t, ar M b]) (fun x => Rp 1073741824 N x.1 x.2 (v - u))) := by
  refine MS_of (own := R_H) (by decide) rfl (fun _ => Nat.le_of_ble_eq_true rfl) (fun Z h hr => ?_)
  have hts : t ≤ s := by
    apply Nat.le_of_not_lt
    intro q
    have := Rp_size (by decide) ha hb q
    omega
  obtain ⟨hs, ha1, ha2, ha3⟩ := ha
  obtain ⟨ht1, hb1, hb2, hb3⟩ := hb
  have L : ∀ (m i c : Nat) (a' : Nat → Nat), i + m = s → (∀ j, a' j < 1073741824) → (∀ j, i ≤ j → a' j = a j) → c ≤ 1 → nv 1073741824 a' i + nv 1073741824 (lim b t) i = nv 1073741824 a i + c * 1073741824 ^ i → Z 0 0 [wh 1 s, ar N a', wh 3 t, ar M b] [(0, .ref 0), (1, .ref 2), (2, .int (iI (-(c : Int)))), (3, .int (nI i))] 4 [] := by
    intro m
    induction m with
    | zero =>
      intro i c a' him hb' hj hc hval
      obtain rfl : i = s := by omega
      rw [lim_nv hts, ha2, hb2] at hval
      have hlt : nv 1073741824 a' i < 1073741824 ^ i := nv_lt fun j _ => hb' j
      have hc0 : c = 0 := by
        rcases Nat.eq_zero_or_pos c with q | q
        · exact q
        · have : 1 * 1073741824 ^ i ≤ c * 1073741824 ^ i := Nat.mul_le_mul_right _ q
          omega
      subst hc0
      refine z_iload_n h d_H_decrease_4 rfl ?_
      refine z_aload_n h d_H_decrease_5 rfl ?_
      refine z_get (C := R_H) (T := F_H) (N := 2) h 1 d_H_decrease_6 in_H rfl (by decide) wf_H_15 rfl rfl ?_
      refine z_icmp_geN (tgt := 51) h d_H_decrease_9 (by decide) (by omega) (fun c_9 => ?_) (fun c_9 => ?_)
      · refine z_aload_n h d_H_decrease_51 rfl ?_
        refine z_cV (C := R_H) (ci := 3) h (ms_H_trim N i a' hN hs (fun j => Nat.lt_trans (hb' j) (by decide))) (zf_H_trim (by decide)) wm_H_37 wi_H_trim ws_H_trim rfl ⟨_, rfl⟩ d_H_decrease_52 [0, 1] (by decide) rfl (Nat.le_of_ble_eq_true rfl) rfl (fun _ => rfl) (fun x_52 hx_52 => ?_)
        refine hr.2.2.2.1 _ _ _ _ _ (Nat.le_refl _) (Nat.le_refl _) rfl d_H_decrease_55 ?_
        exact ⟨(a', trm a' i), rfl, rfl, Rp_trm hs hb' (show nv 1073741824 a' i = v - u by omega)⟩
      · exact absurd c_9 (by omega)
    | succ m ih =>
      intro i c a' him hb' hj hc hval
      have hlb : (if i < t then b i else 0) = lim b t i := rfl
      have h1 := hb' i
      have h2 := lim_lt (s := t) (by decide) hb1 i
      refine z_iload_n h d_H_decrease_4 rfl ?_
      refine z_aload_n h d_H_decrease_5 rfl ?_
      refine z_get (C := R_H) (T := F_H) (N := 2) h 1 d_H_decrease_6 in_H rfl (by decide) wf_H_15 rfl rfl ?_
      refine z_icmp_geN (tgt := 51) h d_H_decrease_9 (by decide) (by omega) (fun c_9 => ?_) (fun c_9 => ?_)
      · exact absurd c_9 (by omega)
      · refine z_aload_n h d_H_decrease_12 rfl ?_
        refine z_get (C := R_H) (T := F_H) (N := 2) h 0 d_H_decrease_13 in_H rfl (by decide) wf_H_9 rfl rfl ?_
        refine z_iload_n h d_H_decrease_16 rfl ?_
        refine z_ialoadN h d_H_decrease_17 rfl (by omega) ?_
        refine z_aload_n h d_H_decrease_18 rfl ?_
        refine z_iload_n h d_H_decrease_19 rfl ?_
        refine z_cV (C := R_H) (ci := 3) h (ms_H_limbAt M t i b hM ht1 (by omega)) (zf_H_limbAt (by decide)) wm_H_47 wi_H_limbAt ws_H_limbAt rfl ⟨_, rfl⟩ d_H_decrease_20 [2, 3] (by decide) rfl (Nat.le_of_ble_eq_true rfl) rfl (fun _ => rfl) (fun x_20 hx_20 => ?_)
        rw [hlb]
        refine z_isub h d_H_decrease_23 ?_
        refine z_iload_n h d_H_decrease_24 rfl ?_
        refine z_iadd h d_H_decrease_25 ?_
        refine z_istore h d_H_decrease_26 (by decide) ?_
        refine z_aload_n h d_H_decrease_28 rfl ?_
        refine z_get (C := R_H) (T := F_H) (N := 2) h 0 d_H_decrease_29 in_H rfl (by decide) wf_H_9 rfl rfl ?_
        refine z_iload_n h d_H_decrease_32 rfl ?_
        refine z_iload h d_H_decrease_33 rfl ?_
        refine z_ldc (v := 1073741823) h d_H_decrease_35 wv_H_50 ?_
        refine z_iand h d_H_decrease_37 ?_
        refine z_topi (dec_and h1 h2 hc) ?_
        refine z_iastoreN h d_H_decrease_38 rfl (by omega) ?_
        refine z_iload h d_H_decrease_39 rfl ?_
        refine z_bipush (v := 30) h d_H_decrease_41 (by decide) ?_
        refine z_ishr h d_H_decrease_43 ?_
        refine z_topi (dec_shr h1 h2 hc) ?_
        refine z_istore_n h d_H_decrease_44 (by decide) ?_
        refine z_iincN h 1 d_H_decrease_45 rfl (by decide) (by decide) ?_
        refine z_goto (tgt := 4) h d_H_decrease_48 (by decide) ?_
        refine z_lv (lv' := [(0, .ref 0), (1, .ref 2), (2, .int (iI (-((if a' i < lim b t i + c then 1 else 0 : Nat) : Int)))), (3, .int (nI (i + 1)))]) h rfl ?_
        refine ih (i + 1) _ (un a' i _) (by omega) (un_lt hb' (by split <;> omega)) (fun j hj2 => by rw [un_ne (by omega)]; exact hj j (by omega)) (by split <;> omega) ?_
        rw [nv_put, nv_s, nv_s, Nat.pow_succ, ← hj i (Nat.le_refl i)]
        exact dec_step hval (by split <;> omega)
  refine z_iconst (v := 0) h d_H_decrease_0 (by decide) ?_
  refine z_istore_n h d_H_decrease_1 (by decide) ?_
  refine z_iconst (v := nI 0) h d_H_decrease_2 (by decide) ?_
  refine z_istore_n h d_H_decrease_3 (by decide) ?_
  refine z_lv (lv' := [(0, .ref 0), (1, .ref 2), (2, .int (iI (-((0 : Nat) : Int)))), (3, .int (nI 0))]) h rfl ?_
  exact L s 0 0 a (by omega) ha1 (fun _ _ => rfl) (by omega) (by simp [nv])
theorem mul_step {m c P x f n g U Q y : Nat} (h : m + c * (P * Q) = n + f * U * P) : m + (c + (f * y + x)) * (P * Q) = (n + x * (P * Q)) + f * (U + y * Q) * P := by grind
theorem fil_nv {a : Nat → Nat} {t : Nat} (n : Nat) (h : n ≤ t) : nv 1073741824 (fil a 0 t 0) n = 0 := by
  have e2 : nv 1073741824 (fil a 0 t 0) n = nv 1073741824 (lim a 0) n := nv_congr fun j hj => by unfold fil lim; rw [if_pos (by omega), if_neg (by omega)]
  rw [e2, lim_nv (Nat.zero_le n)]
  rfl
set_option maxRecDepth 100000 in
set_option maxHeartbeats 4000000 in
/-- this becomes the product of two others -/
theorem ms_H_multiply (N s c0 sa Na sb Nb v u : Nat) (c a b : Nat → Nat) (hN : N < 2 ^ 30) (hNa : Na < 2 ^ 30) (hNb : Nb < 2 ^ 30) (hc : ∀ j, c j < 1073741824) (ha : Rp 1073741824 Na a sa v) (hb : Rp 1073741824 Nb b sb u) (hfit : sa + sb ≤ N) : MS y_H_multiply c_H_multiply 9 none (rm 4) [.ref 0, .ref 2, .ref 4] [wh 1 s, ar N c, wh 3 sa, ar Na a, wh 5 sb, ar Nb b] (zP (X := (Nat → Nat) × Nat) (fun _ => none) (fun x => [wh 1 x.2, ar N x.1, wh 3 sa, ar Na a, wh 5 sb, ar Nb b]) (fun x => Rp 1073741824 N x.1 x.2 (v * u))) := by
  refine MS_of (own := R_H) (by decide) rfl (fun _ => Nat.le_of_ble_eq_true rfl) (fun Z h hr => ?_)
  obtain ⟨hsa, ha1, ha2, ha3⟩ := ha
  obtain ⟨hsb, hb1, hb2, hb3⟩ := hb
  have L : ∀ (m i : Nat) (c' : Nat → Nat) (lv : List (Nat × Value)), i + m = sa → (∀ j, c' j < 1073741824) → (∀ j, i + sb ≤ j → j < sa + sb → c' j = 0) → nv 1073741824 c' (i + sb) = nv 1073741824 a i * u → Z 0 0 [wh 1 (sa + sb), ar N c', wh 3 sa, ar Na a, wh 5 sb, ar Nb b] [(0, .ref 0), (1, .ref 2), (2, .ref 4), (3, .int (nI i))] 15 [] := by
    intro m
    induction m with
    | zero =>
      intro i c' lv him hb' hz hval
      obtain rfl : i = sa := by omega
      rw [ha2] at hval
      refine z_iload_n h d_H_multiply_15 rfl ?_
      refine z_aload_n h d_H_multiply_16 rfl ?_
      refine z_get (C := R_H) (T := F_H) (N := 2) h 1 d_H_multiply_17 in_H rfl (by decide) wf_H_15 rfl rfl ?_
      refine z_icmp_geN (tgt := 137) h d_H_multiply_20 (by decide) (by omega) (fun c_20 => ?_) (fun c_20 => ?_)
      · refine z_aload_n h d_H_multiply_137 rfl ?_
        refine z_cV (C := R_H) (ci := 3) h (ms_H_trim N (i + sb) c' (by omega) hfit (fun j => Nat.lt_trans (hb' j) (by decide))) (zf_H_trim (by decide)) wm_H_37 wi_H_trim ws_H_trim rfl ⟨_, rfl⟩ d_H_multiply_138 [0, 1] (by decide) rfl (Nat.le_of_ble_eq_true rfl) rfl (fun _ => rfl) (fun x_138 hx_138 => ?_)
        refine hr.2.2.2.1 _ _ _ _ _ (Nat.le_refl _) (Nat.le_refl _) rfl d_H_multiply_141 ?_
        exact ⟨(c', trm c' (i + sb)), rfl, rfl, Rp_trm hfit hb' hval⟩
      · exact absurd c_20 (by omega)
    | succ m ih =>
      intro i c' lv him hb' hz hval
      have hai := ha1 i
      have I : ∀ (q j r : Nat) (d : Nat → Nat), j + q = sb → (∀ k, d k < 1073741824) → (∀ k, i + j ≤ k → d k = c' k) → r < 1073741824 → nv 1073741824 d (i + j) + r * (1073741824 ^ i * 1073741824 ^ j) = nv 1073741824 c' (i + j) + a i * nv 1073741824 b j * 1073741824 ^ i → Z 0 0 [wh 1 (sa + sb), ar N d, wh 3 sa, ar Na a, wh 5 sb, ar Nb b] [(0, .ref 0), (1, .ref 2), (2, .ref 4), (3, .int (nI i)), (4, .long (lN (a i))), (6, .long (lN r)), (8, .int (nI j))] 52 [] := by
        intro q
        induction q with
        | zero =>
          intro j r d hjq hd hdk hr0 hv2
          obtain rfl : j = sb := by omega
          rw [hb2, hval] at hv2
          refine z_iload h d_H_multiply_52 rfl ?_
          refine z_aload_n h d_H_multiply_54 rfl ?_
          refine z_get (C := R_H) (T := F_H) (N := 2) h 1 d_H_multiply_55 in_H rfl (by decide) wf_H_15 rfl rfl ?_
          refine z_icmp_geN (tgt := 117) h d_H_multiply_58 (by decide) (by omega) (fun c_58 => ?_) (fun c_58 => ?_)
          · refine z_aload_n h d_H_multiply_117 rfl ?_
            refine z_get (C := R_H) (T := F_H) (N := 2) h 0 d_H_multiply_118 in_H rfl (by decide) wf_H_9 rfl rfl ?_
            refine z_iload_n h d_H_multiply_121 rfl ?_
            refine z_aload_n h d_H_multiply_122 rfl ?_
            refine z_get (C := R_H) (T := F_H) (N := 2) h 1 d_H_multiply_123 in_H rfl (by decide) wf_H_15 rfl rfl ?_
            refine z_iaddN h d_H_multiply_126 ?_
            refine z_lload h d_H_multiply_127 rfl ?_
            refine z_l2iN h d_H_multiply_129 ?_
            refine z_iastoreN h d_H_multiply_130 rfl (by omega) ?_
            refine z_iincN h 1 d_H_multiply_131 rfl (by decide) (by decide) ?_
            refine z_goto (tgt := 15) h d_H_multiply_134 (by decide) ?_
            refine z_lv (lv' := [(0, .ref 0), (1, .ref 2), (2, .ref 4), (3, .int (nI (i + 1)))]) h rfl ?_
            refine ih (i + 1) (un d (i + j) r) [] (by omega) (un_lt hd hr0) (fun k q1 q2 => by rw [un_ne (by omega), hdk k (by omega)]; exact hz k (by omega) q2) ?_
            rw [show i + 1 + j = i + j + 1 by omega, nv_put, Nat.pow_add, hv2, nv_s]
            grind
          · exact absurd c_58 (by omega)
        | succ q ih2 =>
          intro j r d hjq hd hdk hr0 hv2
          have hbj := hb1 j
          have hdj := hd (i + j)
          have hm : a i * b j ≤ 1073741823 * 1073741823 := Nat.mul_le_mul (by omega) (by omega)
          have hs_108 : r + (a i * b j + d (i + j)) < 2 ^ 63 := by omega
          refine z_iload h d_H_multiply_52 rfl ?_
          refine z_aload_n h d_H_multiply_54 rfl ?_
          refine z_get (C := R_H) (T := F_H) (N := 2) h 1 d_H_multiply_55 in_H rfl (by decide) wf_H_15 rfl rfl ?_
          refine z_icmp_geN (tgt := 117) h d_H_multiply_58 (by decide) (by omega) (fun c_58 => ?_) (fun c_58 => ?_)
          · exact absurd c_58 (by omega)
          · refine z_lload h d_H_multiply_61 rfl ?_
            refine z_lload h d_H_multiply_63 rfl ?_
            refine z_aload_n h d_H_multiply_65 rfl ?_
            refine z_get (C := R_H) (T := F_H) (N := 2) h 0 d_H_multiply_66 in_H rfl (by decide) wf_H_9 rfl rfl ?_
            refine z_iload h d_H_multiply_69 rfl ?_
            refine z_ialoadN h d_H_multiply_71 rfl (by omega) ?_
            refine z_i2lN h d_H_multiply_72 (by omega) ?_
            refine z_lmulN h d_H_multiply_73 ?_
            refine z_aload_n h d_H_multiply_74 rfl ?_
            refine z_get (C := R_H) (T := F_H) (N := 2) h 0 d_H_multiply_75 in_H rfl (by decide) wf_H_9 rfl rfl ?_
            refine z_iload_n h d_H_multiply_78 rfl ?_
            refine z_iload h d_H_multiply_79 rfl ?_
            refine z_iaddN h d_H_multiply_81 ?_
            refine z_ialoadN h d_H_multiply_82 rfl (by omega) ?_
            refine z_i2lN h d_H_multiply_83 (by omega) ?_
            refine z_laddN h d_H_multiply_84 ?_
            refine z_laddN h d_H_multiply_85 ?_
            refine z_lstore h d_H_multiply_86 (by decide) ?_
            refine z_aload_n h d_H_multiply_88 rfl ?_
            refine z_get (C := R_H) (T := F_H) (N := 2) h 0 d_H_multiply_89 in_H rfl (by decide) wf_H_9 rfl rfl ?_
            refine z_iload_n h d_H_multiply_92 rfl ?_
            refine z_iload h d_H_multiply_93 rfl ?_
            refine z_iaddN h d_H_multiply_95 ?_
            refine z_lload h d_H_multiply_96 rfl ?_
            refine z_ldc2_w (v := lN 1073741823) h d_H_multiply_98 wv_H_19 ?_
            refine z_land30N h d_H_multiply_101 ?_
            refine z_l2iN h d_H_multiply_102 ?_
            refine z_iastoreN h d_H_multiply_103 rfl (by omega) ?_
            refine z_lload h d_H_multiply_104 rfl ?_
            refine z_bipush (v := nI 30) h d_H_multiply_106 (by decide) ?_
            refine z_lshr30N h d_H_multiply_108 hs_108 ?_
            refine z_lstore h d_H_multiply_109 (by decide) ?_
            refine z_iincN h 1 d_H_multiply_111 rfl (by decide) (by decide) ?_
            refine z_goto (tgt := 52) h d_H_multiply_114 (by decide) ?_
            refine z_lv (lv' := [(0, .ref 0), (1, .ref 2), (2, .ref 4), (3, .int (nI i)), (4, .long (lN (a i))), (6, .long (lN ((r + (a i * b j + d (i + j))) / 1073741824))), (8, .int (nI (j + 1)))]) h rfl ?_
            refine ih2 (j + 1) ((r + (a i * b j + d (i + j))) / 1073741824) (un d (i + j) ((r + (a i * b j + d (i + j))) % 1073741824)) (by omega) (un_lt hd (by omega)) (fun k q1 => by rw [un_ne (by omega)]; exact hdk k (by omega)) (by omega) ?_
            rw [show i + (j + 1) = i + j + 1 by omega, nv_put, nv_s, nv_s, Nat.pow_succ, ← Nat.mul_assoc (1073741824 ^ i) (1073741824 ^ j) 1073741824, Nat.pow_add, Nat.add_assoc, carry_step, hdk (i + j) (Nat.le_refl _)]
            exact mul_step (g := 0) hv2
      refine z_iload_n h d_H_multiply_15 rfl ?_
      refine z_aload_n h d_H_multiply_16 rfl ?_
      refine z_get (C := R_H) (T := F_H) (N := 2) h 1 d_H_multiply_17 in_H rfl (by decide) wf_H_15 rfl rfl ?_
      refine z_icmp_geN (tgt := 137) h d_H_multiply_20 (by decide) (by omega) (fun c_20 => ?_) (fun c_20 => ?_)
      · exact absurd c_20 (by omega)
      · refine z_iload_n h d_H_multiply_23 rfl ?_
        refine z_aload_n h d_H_multiply_24 rfl ?_
        refine z_get (C := R_H) (T := F_H) (N := 2) h 1 d_H_multiply_25 in_H rfl (by decide) wf_H_15 rfl rfl ?_
        refine z_iaddN h d_H_multiply_28 ?_
        refine z_aload_n h d_H_multiply_29 rfl ?_
        refine z_get (C := R_H) (T := F_H) (N := 2) h 0 d_H_multiply_30 in_H rfl (by decide) wf_H_9 rfl rfl ?_
        refine z_alenN h d_H_multiply_33 rfl ?_
        refine z_icmp_geN (tgt := 137) h d_H_multiply_34 (by decide) (by omega) (fun c_34 => ?_) (fun c_34 => ?_)
        · exact absurd c_34 (by omega)
        · refine z_aload_n h d_H_multiply_37 rfl ?_
          refine z_get (C := R_H) (T := F_H) (N := 2) h 0 d_H_multiply_38 in_H rfl (by decide) wf_H_9 rfl rfl ?_
          refine z_iload_n h d_H_multiply_41 rfl ?_
          refine z_ialoadN h d_H_multiply_42 rfl (by omega) ?_
          refine z_i2lN h d_H_multiply_43 (by omega) ?_
          refine z_lstore h d_H_multiply_44 (by decide) ?_
          refine z_lconst (v := lN 0) h d_H_multiply_46 (by decide) ?_
          refine z_lstore h d_H_multiply_47 (by decide) ?_
          refine z_iconst (v := nI 0) h d_H_multiply_49 (by decide) ?_
          refine z_istore h d_H_multiply_50 (by decide) ?_
          refine z_lv (lv' := [(0, .ref 0), (1, .ref 2), (2, .ref 4), (3, .int (nI i)), (4, .long (lN (a i))), (6, .long (lN 0)), (8, .int (nI 0))]) h rfl ?_
          exact I sb 0 0 c' (by omega) hb' (fun _ _ => rfl) (by decide) (by simp [nv])
  refine z_aload_n h d_H_multiply_0 rfl ?_
  refine z_aload_n h d_H_multiply_1 rfl ?_
  refine z_get (C := R_H) (T := F_H) (N := 2) h 1 d_H_multiply_2 in_H rfl (by decide) wf_H_15 rfl rfl ?_
  refine z_aload_n h d_H_multiply_5 rfl ?_
  refine z_get (C := R_H) (T := F_H) (N := 2) h 1 d_H_multiply_6 in_H rfl (by decide) wf_H_15 rfl rfl ?_
  refine z_iaddN h d_H_multiply_9 ?_
  refine z_cV (C := R_H) (ci := 3) h (ms_H_zero N s (sa + sb) c (by omega) hfit) (zf_H_zero (by decide)) wm_H_66 wi_H_zero ws_H_zero rfl ⟨_, rfl⟩ d_H_multiply_10 [0, 1] (by decide) rfl (Nat.le_of_ble_eq_true rfl) rfl (fun _ => rfl) (fun x_10 hx_10 => ?_)
  refine z_iconst (v := nI 0) h d_H_multiply_13 (by decide) ?_
  refine z_istore_n h d_H_multiply_14 (by decide) ?_
  refine z_lv (lv' := [(0, .ref 0), (1, .ref 2), (2, .ref 4), (3, .int (nI 0))]) h rfl ?_
  refine L sa 0 (fil c 0 (sa + sb) 0) [] (by omega) (fun j => by unfold fil; split; decide; exact hc j) (fun j q1 q2 => by unfold fil; rw [if_pos (by omega)]) ?_
  rw [Nat.zero_add, fil_nv _ (by omega)]
  simp [nv]
/-! takeAway: factor times some limbs of another number come off, from a place on -/
theorem ta_step {m c x f y n1 n2 : Int} {P B : Int} (h : m + c * P = n1 - f * n2) (q r : Int) (e : q * B + r = c + (x - f * y)) : (m + r * P) + q * (P * B) = (n1 + x * P) - f * (n2 + y * P) := by
  have e2 : (m + r * P) + q * (P * B) = m + (q * B + r) * P := by grind
  rw [e2, e]
  grind
theorem nv_cast_s {a : Nat → Nat} {i : Nat} : (nv 1073741824 a (i + 1) : Int) = (nv 1073741824 a i : Int) + (a i : Int) * (1073741824 : Int) ^ i := by
  rw [nv_s]
  simp
set_option maxRecDepth 100000 in
set_option maxHeartbeats 4000000 in
theorem ms_H_takeAway (N s at_ M t fr many : Nat) (φ : Int) (a b : Nat → Nat) (hN : N < 2 ^ 30) (hM : M < 2 ^ 30) (ha : ∀ j, a j < 1073741824) (hb : ∀ j, b j < 2 ^ 31) (h1 : at_ + many < N) (h2 : fr + many ≤ M) (hφ : -1 ≤ φ ∧ φ < 1073741824) : MS y_H_takeAway c_H_takeAway 10 (some .int) (rm 1) [.ref 0, .int (nI at_), .ref 2, .int (nI fr), .int (nI many), .long (lI φ)] [wh 1 s, ar N a, wh 3 t, ar M b] (zP (X := (Nat → Nat) × Int) (fun x => some (.int (iI x.2))) (fun x => [wh 1 s, ar N x.1, wh 3 t, ar M b]) (fun x => (∀ j, x.1 j < 1073741824) ∧ (∀ j, (j < at_ ∨ at_ + many < j) → x.1 j = a j) ∧ (nv 1073741824 (sh x.1 at_) (many + 1) : Int) + x.2 * (1073741824 : Int) ^ (many + 1) = nv 1073741824 (sh a at_) (many + 1) - φ * nv 1073741824 (sh b fr) many ∧ -4294967296 ≤ x.2 ∧ x.2 ≤ 4294967296)) := by
  refine MS_of (own := R_H) (by decide) rfl (fun _ => Nat.le_of_ble_eq_true rfl) (fun Z h hr => ?_)
  have L : ∀ (m i : Nat) (c : Int) (a' : Nat → Nat), i + m = many → (∀ j, a' j < 1073741824) → (∀ j, (j < at_ ∨ at_ + i ≤ j) → a' j = a j) → -4294967296 ≤ c ∧ c ≤ 4294967296 → (nv 1073741824 (sh a' at_) i : Int) + c * (1073741824 : Int) ^ i = nv 1073741824 (sh a at_) i - φ * nv 1073741824 (sh b fr) i → Z 0 0 [wh 1 s, ar N a', wh 3 t, ar M b] [(0, .ref 0), (1, .int (nI at_)), (2, .ref 2), (3, .int (nI fr)), (4, .int (nI many)), (5, .long (lI φ)), (7, .long (lI c)), (9, .int (nI i))] 32 [] := by
    intro m
    induction m with
    | zero =>
      intro i c a' him ha' hj hc hval
      obtain rfl : i = many := by omega
      have hai := ha' (at_ + i)
      have e9 : (a' (at_ + i) : Int) = sh a at_ i := by rw [hj (at_ + i) (by omega)]; rfl
      have hs1 : -2 ^ 63 ≤ c + (a' (at_ + i) : Int) ∧ c + (a' (at_ + i) : Int) < 2 ^ 63 := by omega
      have hm := emod_nat (c + (a' (at_ + i) : Int))
      have hl := emod_lt (c + (a' (at_ + i) : Int))
      have hd := Int.mul_ediv_add_emod (c + (a' (at_ + i) : Int)) 1073741824
      refine z_iload h d_H_takeAway_32 rfl ?_
      refine z_iload h d_H_takeAway_34 rfl ?_
      refine z_icmp_geN (tgt := 97) h d_H_takeAway_36 (by decide) (by omega) (fun c_36 => ?_) (fun c_36 => ?_)
      · refine z_lload h d_H_takeAway_97 rfl ?_
        refine z_aload_n h d_H_takeAway_99 rfl ?_
        refine z_get (C := R_H) (T := F_H) (N := 2) h 0 d_H_takeAway_100 in_H rfl (by decide) wf_H_9 rfl rfl ?_
        refine z_iload_n h d_H_takeAway_103 rfl ?_
        refine z_iload h d_H_takeAway_104 rfl ?_
        refine z_iaddN h d_H_takeAway_106 ?_
        refine z_ialoadN h d_H_takeAway_107 rfl (by omega) ?_
        refine z_i2lI h d_H_takeAway_108 (by omega) ?_
        refine z_laddI h d_H_takeAway_109 ?_
        refine z_lstore h d_H_takeAway_110 (by decide) ?_
        refine z_aload_n h d_H_takeAway_112 rfl ?_
        refine z_get (C := R_H) (T := F_H) (N := 2) h 0 d_H_takeAway_113 in_H rfl (by decide) wf_H_9 rfl rfl ?_
        refine z_iload_n h d_H_takeAway_116 rfl ?_
        refine z_iload h d_H_takeAway_117 rfl ?_
        refine z_iaddN h d_H_takeAway_119 ?_
        refine z_lload h d_H_takeAway_120 rfl ?_
        refine z_ldc2_w (v := 1073741823) h d_H_takeAway_122 wv_H_19 ?_
        refine z_land30I h d_H_takeAway_125 ?_
        refine z_l2iM h d_H_takeAway_126 ?_
        refine z_iastoreN h d_H_takeAway_127 rfl (by omega) ?_
        refine z_lload h d_H_takeAway_128 rfl ?_
        refine z_bipush (v := 30) h d_H_takeAway_130 (by decide) ?_
        refine z_lshr30I h d_H_takeAway_132 hs1 ?_
        refine z_l2iI h d_H_takeAway_133 ?_
        refine hr.1 _ _ _ _ _ _ (Nat.le_refl _) (Nat.le_refl _) rfl d_H_takeAway_134 ?_
        refine ⟨(un a' (at_ + i) ((c + (a' (at_ + i) : Int)) % 1073741824).toNat, (c + (a' (at_ + i) : Int)) / 1073741824), rfl, rfl, un_lt ha' hl, fun j hjj => by show un a' _ _ j = a j; rw [un_ne (by omega)]; exact hj j (by omega), ?_, by show (-4294967296 : Int) ≤ (c + (a' (at_ + i) : Int)) / 1073741824; omega, by show (c + (a' (at_ + i) : Int)) / 1073741824 ≤ (4294967296 : Int); omega⟩
        have e1 : nv 1073741824 (sh (un a' (at_ + i) ((c + (a' (at_ + i) : Int)) % 1073741824).toNat) at_) i = nv 1073741824 (sh a' at_) i := nv_congr fun j hj2 => by unfold sh; rw [un_ne (by omega)]
        have e2 : sh (un a' (at_ + i) ((c + (a' (at_ + i) : Int)) % 1073741824).toNat) at_ i = ((c + (a' (at_ + i) : Int)) % 1073741824).toNat := un_eq
        show (nv 1073741824 (sh (un a' (at_ + i) ((c + (a' (at_ + i) : Int)) % 1073741824).toNat) at_) (i + 1) : Int) + (c + (a' (at_ + i) : Int)) / 1073741824 * (1073741824 : Int) ^ (i + 1) = _
        rw [nv_cast_s, nv_cast_s, e1, e2, hm, Int.pow_succ, ← e9]
        have e3 := ta_step (P := (1073741824 : Int) ^ i) (B := 1073741824) (x := (a' (at_ + i) : Int)) (y := 0) hval ((c + (a' (at_ + i) : Int)) / 1073741824) ((c + (a' (at_ + i) : Int)) % 1073741824) (by rw [Int.mul_comm, hd]; omega)
        rw [e3]
        simp
      · exact absurd c_36 (by omega)
    | succ m ih =>
      intro i c a' him ha' hj hc hval
      have hai := ha' (at_ + i)
      have hbi := hb (fr + i)
      have e9 : (a' (at_ + i) : Int) = sh a at_ i := by rw [hj (at_ + i) (by omega)]; rfl
      have e8 : (b (fr + i) : Int) = sh b fr i := rfl
      have hp1 : φ * (b (fr + i) : Int) ≤ 1073741823 * 2147483648 := by
        rcases Int.le_total 0 φ with q | q
        · exact Int.mul_le_mul (by omega) (by omega) (by omega) (by omega)
        · have := Int.mul_nonpos_of_nonpos_of_nonneg q (show (0 : Int) ≤ b (fr + i) by omega)
          omega
      have hp2 : -2147483648 ≤ φ * (b (fr + i) : Int) := by
        have h9 : -1 * (b (fr + i) : Int) ≤ φ * (b (fr + i) : Int) := Int.mul_le_mul_of_nonneg_right hφ.1 (by omega)
        omega
      generalize hw : c + ((a' (at_ + i) : Int) - φ * (b (fr + i) : Int)) = ww
      have hs1 : -2 ^ 63 ≤ ww ∧ ww < 2 ^ 63 := by omega
      have hm := emod_nat ww
      have hl := emod_lt ww
      have hd := Int.mul_ediv_add_emod ww 1073741824
      refine z_iload h d_H_takeAway_32 rfl ?_
      refine z_iload h d_H_takeAway_34 rfl ?_
      refine z_icmp_geN (tgt := 97) h d_H_takeAway_36 (by decide) (by omega) (fun c_36 => ?_) (fun c_36 => ?_)
      · exact absurd c_36 (by omega)
      · refine z_lload h d_H_takeAway_39 rfl ?_
        refine z_aload_n h d_H_takeAway_41 rfl ?_
        refine z_get (C := R_H) (T := F_H) (N := 2) h 0 d_H_takeAway_42 in_H rfl (by decide) wf_H_9 rfl rfl ?_
        refine z_iload_n h d_H_takeAway_45 rfl ?_
        refine z_iload h d_H_takeAway_46 rfl ?_
        refine z_iaddN h d_H_takeAway_48 ?_
        refine z_ialoadN h d_H_takeAway_49 rfl (by omega) ?_
        refine z_i2lI h d_H_takeAway_50 (by omega) ?_
        refine z_lload h d_H_takeAway_51 rfl ?_
        refine z_aload_n h d_H_takeAway_53 rfl ?_
        refine z_get (C := R_H) (T := F_H) (N := 2) h 0 d_H_takeAway_54 in_H rfl (by decide) wf_H_9 rfl rfl ?_
        refine z_iload_n h d_H_takeAway_57 rfl ?_
        refine z_iload h d_H_takeAway_58 rfl ?_
        refine z_iaddN h d_H_takeAway_60 ?_
        refine z_ialoadN h d_H_takeAway_61 rfl (by omega) ?_
        refine z_i2lI h d_H_takeAway_62 (by omega) ?_
        refine z_lmulI h d_H_takeAway_63 ?_
        refine z_lsubI h d_H_takeAway_64 ?_
        refine z_laddI h d_H_takeAway_65 ?_
        rw [hw]
        refine z_lstore h d_H_takeAway_66 (by decide) ?_
        refine z_aload_n h d_H_takeAway_68 rfl ?_
        refine z_get (C := R_H) (T := F_H) (N := 2) h 0 d_H_takeAway_69 in_H rfl (by decide) wf_H_9 rfl rfl ?_
        refine z_iload_n h d_H_takeAway_72 rfl ?_
        refine z_iload h d_H_takeAway_73 rfl ?_
        refine z_iaddN h d_H_takeAway_75 ?_
        refine z_lload h d_H_takeAway_76 rfl ?_
        refine z_ldc2_w (v := 1073741823) h d_H_takeAway_78 wv_H_19 ?_
        refine z_land30I h d_H_takeAway_81 ?_
        refine z_l2iM h d_H_takeAway_82 ?_
        refine z_iastoreN h d_H_takeAway_83 rfl (by omega) ?_
        refine z_lload h d_H_takeAway_84 rfl ?_
        refine z_bipush (v := 30) h d_H_takeAway_86 (by decide) ?_
        refine z_lshr30I h d_H_takeAway_88 hs1 ?_
        refine z_lstore h d_H_takeAway_89 (by decide) ?_
        refine z_iincN h 1 d_H_takeAway_91 rfl (by decide) (by decide) ?_
        refine z_goto (tgt := 32) h d_H_takeAway_94 (by decide) ?_
        refine z_lv (lv' := [(0, .ref 0), (1, .int (nI at_)), (2, .ref 2), (3, .int (nI fr)), (4, .int (nI many)), (5, .long (lI φ)), (7, .long (lI (ww / 1073741824))), (9, .int (nI (i + 1)))]) h rfl ?_
        refine ih (i + 1) (ww / 1073741824) (un a' (at_ + i) (ww % 1073741824).toNat) (by omega) (un_lt ha' hl) (fun j hjj => by rw [un_ne (by omega)]; exact hj j (by omega)) (by omega) ?_
        have e1 : nv 1073741824 (sh (un a' (at_ + i) (ww % 1073741824).toNat) at_) i = nv 1073741824 (sh a' at_) i := nv_congr fun j hj2 => by unfold sh; rw [un_ne (by omega)]
        have e2 : sh (un a' (at_ + i) (ww % 1073741824).toNat) at_ i = (ww % 1073741824).toNat := un_eq
        rw [nv_cast_s, nv_cast_s, nv_cast_s, e1, e2, hm, Int.pow_succ, ← e9, ← e8]
        exact ta_step hval (ww / 1073741824) (ww % 1073741824) (by rw [Int.mul_comm, hd, ← hw])
  refine z_lconst (v := 0) h d_H_takeAway_0 (by decide) ?_
  refine z_lstore h d_H_takeAway_1 (by decide) ?_
  refine z_iload_n h d_H_takeAway_3 rfl ?_
  refine z_iload h d_H_takeAway_4 rfl ?_
  refine z_iaddN h d_H_takeAway_6 ?_
  refine z_aload_n h d_H_takeAway_7 rfl ?_
  refine z_get (C := R_H) (T := F_H) (N := 2) h 0 d_H_takeAway_8 in_H rfl (by decide) wf_H_9 rfl rfl ?_
  refine z_alenN h d_H_takeAway_11 rfl ?_
  refine z_icmp_geN (tgt := 27) h d_H_takeAway_12 (by decide) (by omega) (fun c_12 => ?_) (fun c_12 => ?_)
  · exact absurd c_12 (by omega)
  · refine z_iload_n h d_H_takeAway_15 rfl ?_
    refine z_iload h d_H_takeAway_16 rfl ?_
    refine z_iaddN h d_H_takeAway_18 ?_
    refine z_aload_n h d_H_takeAway_19 rfl ?_
    refine z_get (C := R_H) (T := F_H) (N := 2) h 0 d_H_takeAway_20 in_H rfl (by decide) wf_H_9 rfl rfl ?_
    refine z_alenN h d_H_takeAway_23 rfl ?_
    refine z_icmp_leN (tgt := 29) h d_H_takeAway_24 (by decide) (by omega) (fun c_24 => ?_) (fun c_24 => ?_)
    · refine z_iconst (v := nI 0) h d_H_takeAway_29 (by decide) ?_
      refine z_istore h d_H_takeAway_30 (by decide) ?_
      refine z_lv (lv' := [(0, .ref 0), (1, .int (nI at_)), (2, .ref 2), (3, .int (nI fr)), (4, .int (nI many)), (5, .long (lI φ)), (7, .long (lI 0)), (9, .int (nI 0))]) h rfl ?_
      exact L many 0 0 a (by omega) ha (fun _ _ => rfl) (by omega) (by simp [nv])
    · exact absurd c_24 (by omega)
