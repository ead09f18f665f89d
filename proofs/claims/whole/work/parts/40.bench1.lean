/-! DigitMill$Bench: long division -/
abbrev bW (sl sr sq : Nat) (l r q : Nat → Nat) : List va_E := [.inr (0, [.ref 1, .ref 3, .ref 5]), wh 2 sl, ar 1400 l, wh 4 sr, ar 1400 r, wh 6 sq, ar 1400 q]
theorem nv_sh1 {B : Nat} {a : Nat → Nat} {k m : Nat} : nv B (sh a k) (m + 1) = a k + nv B (sh a (k + 1)) m * B := by
  have e := nv_split (B := B) (a := sh a k) (k := 1) (m := m)
  rw [Nat.add_comm 1 m] at e
  rw [e, Nat.pow_one]
  have e1 : nv B (sh a k) 1 = a k := by
    show 0 + sh a k 0 * B ^ 0 = a k
    unfold sh
    simp
  have e2 : nv B (sh (sh a k) 1) m = nv B (sh a (k + 1)) m := nv_congr fun j _ => by unfold sh; congr 1; omega
  rw [e1, e2]
theorem sh_0 (a : Nat → Nat) : sh a 0 = a := by
  funext j
  unfold sh
  rw [Nat.zero_add]
/-- the first limbs' guess of a limb of the quotient -/
theorem guess_ok {h d B P D0 W0 : Nat} (hP : 0 < P) (hd : B ≤ 2 * d) (hd0 : 0 < d) (hD0 : D0 < P) (hW0 : W0 < P) (hW : h * P + W0 < (d * P + D0) * B) : (h * P + W0) / (d * P + D0) ≤ min (B - 1) (h / d) ∧ min (B - 1) (h / d) * (d * P + D0) < (h * P + W0) + 2 * (d * P + D0) := by
  have hD : 0 < d * P + D0 := by
    have := Nat.mul_pos hd0 hP
    omega
  have q1 : (h * P + W0) / (d * P + D0) < B := by rw [Nat.div_lt_iff_lt_mul hD, Nat.mul_comm B]; exact hW
  have hB0 : 0 < B := Nat.lt_of_le_of_lt (Nat.zero_le _) q1
  have q2 : (h * P + W0) / (d * P + D0) ≤ h / d := by
    rw [Nat.le_div_iff_mul_le hd0]
    have h1 := Nat.div_mul_le_self (h * P + W0) (d * P + D0)
    generalize (h * P + W0) / (d * P + D0) = q at h1 ⊢
    apply Nat.le_of_lt_succ
    apply Nat.lt_of_mul_lt_mul_right (a := P)
    have h2 : q * (d * P + D0) = q * d * P + q * D0 := by grind
    have h3 : (h + 1) * P = h * P + P := by grind
    show q * d * P < (h + 1) * P
    omega
  refine ⟨by omega, ?_⟩
  have g1 : min (B - 1) (h / d) ≤ h / d := Nat.min_le_right _ _
  have g2 : min (B - 1) (h / d) ≤ B - 1 := Nat.min_le_left _ _
  generalize min (B - 1) (h / d) = g at g1 g2 ⊢
  have g3 : g * d ≤ h := Nat.le_trans (Nat.mul_le_mul_right _ g1) (Nat.div_mul_le_self h d)
  have g4 : g * d * P ≤ h * P := Nat.mul_le_mul_right _ g3
  have g5 : g * D0 ≤ (B - 1) * P := Nat.mul_le_mul g2 (Nat.le_of_lt hD0)
  have g6 : B * P ≤ 2 * d * P := Nat.mul_le_mul_right _ hd
  have g7 : (B - 1) * P < B * P := Nat.mul_lt_mul_of_pos_right (by omega) hP
  have e1 : g * (d * P + D0) = g * d * P + g * D0 := by grind
  have e2 : 2 * d * P = 2 * (d * P) := by grind
  omega
theorem phi_ok {x : Nat} (h : x < 1073741824) : -1 ≤ (x : Int) ∧ (x : Int) < 1073741824 := by omega
theorem ow_range {ow BB m X : Int} (hB : 0 < BB) (h0 : 0 ≤ m) (h1 : m < BB) (e : m + ow * BB = X) (hX1 : -BB ≤ X) (hX2 : X < BB) : (ow = 0 ∧ 0 ≤ X ∧ m = X) ∨ (ow = -1 ∧ X < 0) := by
  have a1 : ow < 1 := by
    apply Int.lt_of_not_ge
    intro q
    have : 1 * BB ≤ ow * BB := Int.mul_le_mul_of_nonneg_right q (by omega)
    omega
  have a2 : -2 < ow := by
    apply Int.lt_of_not_ge
    intro q
    have : ow * BB ≤ -2 * BB := Int.mul_le_mul_of_nonneg_right q (by omega)
    omega
  rcases (show ow = 0 ∨ ow = -1 by omega) with rfl | rfl
  · left
    omega
  · right
    omega
set_option maxRecDepth 100000 in
set_option maxHeartbeats 8000000 in
theorem ms_B_quotientLimb (at_ sl n sq W D : Nat) (l r q : Nat → Nat) (hl : ∀ j, l j < 1073741824) (hr1 : ∀ j, r j < 1073741824) (hn : 1 ≤ n) (hroom : at_ + n < 1400) (hW : nv 1073741824 (sh l at_) (n + 1) = W) (hD : nv 1073741824 r n = D) (htop : 536870912 ≤ r (n - 1)) (hWD : W < D * 1073741824) : MS y_B_quotientLimb c_B_quotientLimb 9 (some .int) (rm 2) [.ref 0, .int (nI at_)] (bW sl n sq l r q) (zP (X := Nat → Nat) (fun _ => some (.int (nI (W / D)))) (fun x => bW sl n sq x r q) (fun x => (∀ j, x j < 1073741824) ∧ (∀ j, (j < at_ ∨ at_ + n < j) → x j = l j) ∧ nv 1073741824 (sh x at_) (n + 1) = W % D)) := by
  refine MS_of (own := R_B) (by decide) rfl (fun _ => Nat.le_of_ble_eq_true rfl) (fun Z h hr => ?_)
  obtain ⟨n, rfl⟩ : ∃ k, n = k + 1 := ⟨n - 1, by omega⟩
  rw [Nat.add_sub_cancel] at htop
  have hP : 0 < (1073741824 : Nat) ^ n := Nat.pow_pos (by decide)
  have hD0 : nv 1073741824 r n < 1073741824 ^ n := nv_lt fun j _ => hr1 j
  have hW0 : nv 1073741824 (sh l at_) n < 1073741824 ^ n := nv_lt fun j _ => hl _
  have eD : D = r n * 1073741824 ^ n + nv 1073741824 r n := by rw [← hD, nv_s]; omega
  have eW : W = (l (at_ + (n + 1)) * 1073741824 + l (at_ + n)) * 1073741824 ^ n + nv 1073741824 (sh l at_) n := by
    rw [← hW, nv_s, nv_s, Nat.pow_succ]
    show nv 1073741824 (sh l at_) n + l (at_ + n) * 1073741824 ^ n + l (at_ + (n + 1)) * (1073741824 ^ n * 1073741824) = _
    grind
  have g := guess_ok (B := 1073741824) (P := 1073741824 ^ n) (h := l (at_ + (n + 1)) * 1073741824 + l (at_ + n)) (d := r n) (D0 := nv 1073741824 r n) (W0 := nv 1073741824 (sh l at_) n) hP (by omega) (by omega) hD0 hW0 (by rw [← eW, ← eD]; exact hWD)
  rw [← eW, ← eD] at g
  have hDpos : 0 < D := by rcases Nat.eq_zero_or_pos D with e | e; rw [e, Nat.zero_mul] at hWD; omega; exact e
  have hDlt : D < 1073741824 ^ (n + 1) := by rw [← hD]; exact nv_lt fun j _ => hr1 j
  have hl1 := hl (at_ + (n + 1))
  have hl2 := hl (at_ + n)
  have hrn := hr1 n
  have hwq := Nat.div_add_mod W D
  have hwm := Nat.mod_lt W hDpos
  have hs_22 : l (at_ + (n + 1)) < 2 ^ 33 := by omega
  have hs_37 : l (at_ + (n + 1)) < 2 ^ 33 ∧ l (at_ + n) < 1073741824 := by omega
  have hs_55 : l (at_ + (n + 1)) * 1073741824 + l (at_ + n) < 2 ^ 63 ∧ 0 < r n ∧ r n < 2 ^ 63 := by omega
  have hBB : (1073741824 : Int) ^ (n + 1 + 1) = (((1073741824 : Nat) ^ (n + 1 + 1) : Nat) : Int) := by simp
  have hB2 : 4 * D < 1073741824 ^ (n + 1 + 1) := by rw [Nat.pow_succ 1073741824 (n + 1)]; omega
  have hWlt : W < 1073741824 ^ (n + 1 + 1) := by rw [← hW]; exact nv_lt fun j _ => hl _
  have L : ∀ (m t gs : Nat) (x : Nat → Nat) (ow : Int), t + m = 2 → gs < 1073741824 → (∀ j, x j < 1073741824) → (∀ j, (j < at_ ∨ at_ + (n + 1) < j) → x j = l j) → (nv 1073741824 (sh x at_) (n + 1 + 1) : Int) + ow * (1073741824 : Int) ^ (n + 1 + 1) = (W : Int) - gs * D → gs * D < W + m * D → W / D ≤ gs → Z 0 0 (bW sl (n + 1) sq x r q) [(0, .ref 0), (1, .int (nI at_)), (2, .int (nI (n + 1))), (5, .long (lN gs)), (7, .int (iI ow)), (8, .int (nI t))] 82 [] := by
    intro m
    have K : ∀ (gs m : Nat) (x : Nat → Nat) (ow : Int), m ≤ 2 → (∀ j, x j < 1073741824) → (nv 1073741824 (sh x at_) (n + 1 + 1) : Int) + ow * (1073741824 : Int) ^ (n + 1 + 1) = (W : Int) - gs * D → gs * D < W + m * D → (ow = 0 ∧ gs * D ≤ W ∧ nv 1073741824 (sh x at_) (n + 1 + 1) = W - gs * D) ∨ (ow = -1 ∧ W < gs * D) := by
      intro gs m x ow hm hx e hlt
      have h9 : nv 1073741824 (sh x at_) (n + 1 + 1) < 1073741824 ^ (n + 1 + 1) := nv_lt fun j _ => hx _
      rw [hBB] at e
      have hm2 : m * D ≤ 2 * D := Nat.mul_le_mul_right _ hm
      have c1 : ((gs * D : Nat) : Int) = gs * D := by simp
      rw [← c1] at e
      generalize gs * D = y at *
      generalize m * D = y2 at *
      generalize (1073741824 : Nat) ^ (n + 1 + 1) = BB at *
      rcases ow_range (BB := (BB : Int)) (by omega) (by omega) (by omega) e (by omega) (by omega) with ⟨q1, q2, q3⟩ | ⟨q1, q2⟩
      · exact Or.inl ⟨q1, by omega, by omega⟩
      · exact Or.inr ⟨q1, by omega⟩
    have X : ∀ (t gs m : Nat) (x : Nat → Nat), (∀ j, x j < 1073741824) → (∀ j, (j < at_ ∨ at_ + (n + 1) < j) → x j = l j) → gs * D ≤ W → nv 1073741824 (sh x at_) (n + 1 + 1) = W - gs * D → W / D ≤ gs → Z 0 0 (bW sl (n + 1) sq x r q) [(0, .ref 0), (1, .int (nI at_)), (2, .int (nI (n + 1))), (5, .long (lN gs)), (7, .int (iI 0)), (8, .int (nI t))] 127 [] := by
      intro t gs m x hx hxl hle hval hge
      have e1 : gs = W / D := Nat.le_antisymm ((Nat.le_div_iff_mul_le hDpos).mpr hle) hge
      refine z_lload h d_B_quotientLimb_127 rfl ?_
      refine z_l2iN h d_B_quotientLimb_129 ?_
      refine hr.1 _ _ _ _ _ _ (Nat.le_refl _) (Nat.le_refl _) rfl d_B_quotientLimb_130 ?_
      refine ⟨x, by rw [e1], rfl, hx, hxl, ?_⟩
      rw [hval, e1]
      exact sub_dm W D
    induction m with
    | zero =>
      intro t gs x ow htm hgs hx hxl e hlt hge
      rcases K gs 0 x ow (by omega) hx e hlt with ⟨rfl, q2, q3⟩ | ⟨rfl, q2⟩
      · refine z_iload h d_B_quotientLimb_82 rfl ?_
        refine z_if_ge (tgt := 127) h d_B_quotientLimb_84 (by decide) (fun c_84 => ?_) (fun c_84 => ?_)
        · exact X t gs 0 x hx hxl q2 q3 hge
        · exact absurd (by decide) c_84
      · exfalso
        omega
    | succ m ih =>
      intro t gs x ow htm hgs hx hxl e hlt hge
      rcases K gs (m + 1) x ow (by omega) hx e hlt with ⟨rfl, q2, q3⟩ | ⟨rfl, q2⟩
      · refine z_iload h d_B_quotientLimb_82 rfl ?_
        refine z_if_ge (tgt := 127) h d_B_quotientLimb_84 (by decide) (fun c_84 => ?_) (fun c_84 => ?_)
        · exact X t gs 0 x hx hxl q2 q3 hge
        · exact absurd (by decide) c_84
      · have hg1 : W / D < gs := by
          rw [Nat.div_lt_iff_lt_mul hDpos]
          exact q2
        obtain ⟨gs, rfl⟩ : ∃ k, gs = k + 1 := ⟨gs - 1, (Nat.succ_pred_eq_of_pos (Nat.lt_of_le_of_lt (Nat.zero_le _) hg1)).symm⟩
        refine z_iload h d_B_quotientLimb_82 rfl ?_
        refine z_if_ge (tgt := 127) h d_B_quotientLimb_84 (by decide) (fun c_84 => ?_) (fun c_84 => ?_)
        · exact absurd c_84 (by decide)
        · refine z_iload h d_B_quotientLimb_87 rfl ?_
          refine z_iconst (v := nI 2) h d_B_quotientLimb_89 (by decide) ?_
          refine z_icmp_geN (tgt := 127) h d_B_quotientLimb_90 (by decide) (by omega) (fun c_90 => ?_) (fun c_90 => ?_)
          · exact absurd c_90 (by omega)
          · refine z_lload h d_B_quotientLimb_93 rfl ?_
            refine z_lconst (v := lN 1) h d_B_quotientLimb_95 (by decide) ?_
            refine z_lsubN h d_B_quotientLimb_96 (by omega) ?_
            refine z_lstore h d_B_quotientLimb_97 (by decide) ?_
            refine z_iload h d_B_quotientLimb_99 rfl ?_
            refine z_aload_n h d_B_quotientLimb_101 rfl ?_
            refine z_get (C := R_B) (T := F_B) (N := 3) h 0 d_B_quotientLimb_102 in_B rfl (by decide) wf_B_14 rfl rfl ?_
            refine z_iload_n h d_B_quotientLimb_105 rfl ?_
            refine z_aload_n h d_B_quotientLimb_106 rfl ?_
            refine z_get (C := R_B) (T := F_B) (N := 3) h 1 d_B_quotientLimb_107 in_B rfl (by decide) wf_B_20 rfl rfl ?_
            refine z_iconst (v := nI 0) h d_B_quotientLimb_110 (by decide) ?_
            refine z_iload_n h d_B_quotientLimb_111 rfl ?_
            rw [Nat.add_sub_cancel]
            refine z_ldc2_w (v := (-1)) h d_B_quotientLimb_112 wv_B_89 ?_
            refine z_topl (y := lI (-1)) (by decide) ?_
            refine z_cV (C := R_H) (ci := 3) h (ms_H_takeAway 1400 sl at_ 1400 (n + 1) 0 (n + 1) (-1) x r (by decide) (by decide) hx (fun j => Nat.lt_trans (hr1 j) (by decide)) (by omega) (by omega) (by omega)) (zf_H_takeAway (by decide)) wm_B_85 wi_H_takeAway ws_H_takeAway rfl ⟨_, rfl⟩ d_B_quotientLimb_115 [1, 2, 3, 4] (by decide) rfl (Nat.le_of_ble_eq_true rfl) rfl (fun _ => rfl) (fun x_115 hx_115 => ?_)
            refine z_iaddI h d_B_quotientLimb_118 ?_
            refine z_istore h d_B_quotientLimb_119 (by decide) ?_
            refine z_iincN h 1 d_B_quotientLimb_121 rfl (by decide) (by decide) ?_
            refine z_goto (tgt := 82) h d_B_quotientLimb_124 (by decide) ?_
            obtain ⟨p1, p2, p3, p4, p5⟩ := hx_115
            rw [sh_0, hD] at p3
            refine z_lv h rfl (ih (t + 1) gs x_115.1 (-1 + x_115.2) (by omega) (by omega) p1 (fun j hj => (p2 j hj).trans (hxl j hj)) ?_ ?_ (by omega))
            · have c2 : (((gs + 1 : Nat) : Int)) * D = gs * D + D := by rw [Int.natCast_add]; grind
              rw [c2] at e
              rw [Int.add_mul]
              omega
            · rw [Nat.add_mul, Nat.add_mul] at hlt
              omega
  have hgl : min 1073741823 ((l (at_ + (n + 1)) * 1073741824 + l (at_ + n)) / r n) < 1073741824 := Nat.lt_of_le_of_lt (Nat.min_le_left _ _) (by decide)
  have hd9 : (l (at_ + (n + 1)) * 1073741824 + l (at_ + n)) / r n ≤ l (at_ + (n + 1)) * 1073741824 + l (at_ + n) := Nat.div_le_self _ _
  refine z_aload_n h d_B_quotientLimb_0 rfl ?_
  refine z_get (C := R_B) (T := F_B) (N := 3) h 1 d_B_quotientLimb_1 in_B rfl (by decide) wf_B_20 rfl rfl ?_
  refine z_getN (C := R_H) (T := F_H) (N := 2) h 1 d_B_quotientLimb_4 in_H rfl (by decide) wf_B_50 rfl rfl ?_
  refine z_istore_n h d_B_quotientLimb_7 (by decide) ?_
  refine z_aload_n h d_B_quotientLimb_8 rfl ?_
  refine z_get (C := R_B) (T := F_B) (N := 3) h 0 d_B_quotientLimb_9 in_B rfl (by decide) wf_B_14 rfl rfl ?_
  refine z_getN (C := R_H) (T := F_H) (N := 2) h 0 d_B_quotientLimb_12 in_H rfl (by decide) wf_B_57 rfl rfl ?_
  refine z_iload_n h d_B_quotientLimb_15 rfl ?_
  refine z_iload_n h d_B_quotientLimb_16 rfl ?_
  refine z_iaddN h d_B_quotientLimb_17 ?_
  refine z_ialoadN h d_B_quotientLimb_18 rfl (by omega) ?_
  refine z_i2lN h d_B_quotientLimb_19 (by omega) ?_
  refine z_bipush (v := nI 30) h d_B_quotientLimb_20 (by decide) ?_
  refine z_lshl30N h d_B_quotientLimb_22 hs_22 ?_
  refine z_aload_n h d_B_quotientLimb_23 rfl ?_
  refine z_get (C := R_B) (T := F_B) (N := 3) h 0 d_B_quotientLimb_24 in_B rfl (by decide) wf_B_14 rfl rfl ?_
  refine z_getN (C := R_H) (T := F_H) (N := 2) h 0 d_B_quotientLimb_27 in_H rfl (by decide) wf_B_57 rfl rfl ?_
  refine z_iload_n h d_B_quotientLimb_30 rfl ?_
  refine z_iload_n h d_B_quotientLimb_31 rfl ?_
  refine z_iaddN h d_B_quotientLimb_32 ?_
  refine z_iconst (v := nI 1) h d_B_quotientLimb_33 (by decide) ?_
  refine z_isubN h d_B_quotientLimb_34 (by omega) ?_
  rw [show at_ + (n + 1) - 1 = at_ + n from rfl]
  refine z_ialoadN h d_B_quotientLimb_35 rfl (by omega) ?_
  refine z_i2lN h d_B_quotientLimb_36 (by omega) ?_
  refine z_lorN h d_B_quotientLimb_37 hs_37 ?_
  refine z_lstore_n h d_B_quotientLimb_38 (by decide) ?_
  refine z_ldc2_w (v := lN 1073741823) h d_B_quotientLimb_39 wv_B_77 ?_
  refine z_lload_n h d_B_quotientLimb_42 rfl ?_
  refine z_aload_n h d_B_quotientLimb_43 rfl ?_
  refine z_get (C := R_B) (T := F_B) (N := 3) h 1 d_B_quotientLimb_44 in_B rfl (by decide) wf_B_20 rfl rfl ?_
  refine z_getN (C := R_H) (T := F_H) (N := 2) h 0 d_B_quotientLimb_47 in_H rfl (by decide) wf_B_57 rfl rfl ?_
  refine z_iload_n h d_B_quotientLimb_50 rfl ?_
  refine z_iconst (v := nI 1) h d_B_quotientLimb_51 (by decide) ?_
  refine z_isubN h d_B_quotientLimb_52 (by omega) ?_
  rw [Nat.add_sub_cancel]
  refine z_ialoadN h d_B_quotientLimb_53 rfl (by omega) ?_
  refine z_i2lN h d_B_quotientLimb_54 (by omega) ?_
  refine z_ldivN h d_B_quotientLimb_55 hs_55 ?_
  refine z_mminlN h d_B_quotientLimb_56 wq_B_79 (by decide) (Nat.le_of_ble_eq_true rfl) (by decide) (by decide) (by omega) ?_
  refine z_lstore h d_B_quotientLimb_59 (by decide) ?_
  refine z_aload_n h d_B_quotientLimb_61 rfl ?_
  refine z_get (C := R_B) (T := F_B) (N := 3) h 0 d_B_quotientLimb_62 in_B rfl (by decide) wf_B_14 rfl rfl ?_
  refine z_iload_n h d_B_quotientLimb_65 rfl ?_
  refine z_aload_n h d_B_quotientLimb_66 rfl ?_
  refine z_get (C := R_B) (T := F_B) (N := 3) h 1 d_B_quotientLimb_67 in_B rfl (by decide) wf_B_20 rfl rfl ?_
  refine z_iconst (v := nI 0) h d_B_quotientLimb_70 (by decide) ?_
  refine z_iload_n h d_B_quotientLimb_71 rfl ?_
  refine z_lload h d_B_quotientLimb_72 rfl ?_
  refine z_topl (lN_lI _) ?_
  refine z_cV (C := R_H) (ci := 3) h (ms_H_takeAway 1400 sl at_ 1400 (n + 1) 0 (n + 1) (min 1073741823 ((l (at_ + (n + 1)) * 1073741824 + l (at_ + n)) / r n) : Nat) l r (by decide) (by decide) hl (fun j => Nat.lt_trans (hr1 j) (by decide)) (by omega) (by omega) (phi_ok hgl)) (zf_H_takeAway (by decide)) wm_B_85 wi_H_takeAway ws_H_takeAway rfl ⟨_, rfl⟩ d_B_quotientLimb_74 [1, 2, 3, 4] (by decide) rfl (Nat.le_of_ble_eq_true rfl) rfl (fun _ => rfl) (fun x_74 hx_74 => ?_)
  refine z_istore h d_B_quotientLimb_77 (by decide) ?_
  refine z_iconst (v := nI 0) h d_B_quotientLimb_79 (by decide) ?_
  refine z_istore h d_B_quotientLimb_80 (by decide) ?_
  obtain ⟨p1, p2, p3, p4, p5⟩ := hx_74
  rw [sh_0, hD, hW] at p3
  exact z_lv h rfl (L 2 0 _ x_74.1 x_74.2 rfl hgl p1 p2 p3 g.2 g.1)
theorem quo_step {v H D P B n2 lo W q r : Nat} (h : v = H * D * (P * B) + (lo + W * P)) (e : W = q * D + r) : v = (H * B + q) * D * P + (lo + r * P) := by
  rw [h, e]
  grind
theorem Rp_uniq {N s n v : Nat} {a : Nat → Nat} (h : Rp 1073741824 N a s v) (h1 : 1073741824 ^ n ≤ v) (h2 : v < 1073741824 ^ (n + 1)) : s = n + 1 := by
  have a1 := Rp_lt h
  rcases Nat.lt_trichotomy s (n + 1) with q | q | q
  · have : (1073741824 : Nat) ^ s ≤ 1073741824 ^ n := Nat.pow_le_pow_right (by decide) (by omega)
    omega
  · exact q
  · rcases h.2.2.2 with e | e
    · omega
    · have : (1073741824 : Nat) ^ (n + 1) ≤ 1073741824 ^ (s - 1) := Nat.pow_le_pow_right (by decide) (by omega)
      omega
theorem fit_1000 {v k s : Nat} (h : v < 1073741824 ^ s) (hs : s ≤ 1000) (hk : 2 ^ k ≤ 2 ^ 29) : v * 2 ^ k < 1073741824 ^ (s + 1) ∧ v * 2 ^ k < 1073741824 ^ 1400 := by
  have a3 : v * 2 ^ k < 1073741824 ^ s * 1073741824 := by
    have b1 : v * 2 ^ k ≤ v * 1073741824 := Nat.mul_le_mul_left _ (by omega)
    have b2 : v * 1073741824 < 1073741824 ^ s * 1073741824 := Nat.mul_lt_mul_of_pos_right h (by decide)
    omega
  rw [← Nat.pow_succ] at a3
  exact ⟨a3, Nat.lt_of_lt_of_le a3 (Nat.pow_le_pow_right (by decide) (by omega))⟩
/-- lifted so that its top limb's highest bit is set -/
theorem lift_top {N n u k : Nat} {r r' : Nat → Nat} {s2 : Nat} (hu : Rp 1073741824 N r (n + 1) u) (hk : 30 - bl (r n) = k) (h2 : Rp 1073741824 N r' s2 (u * 2 ^ k)) : s2 = n + 1 ∧ 536870912 ≤ r' n := by
  have htop := Rp_top (by decide) hu
  have h0 : 0 < r n := Nat.pos_of_ne_zero htop
  have hbl1 : bl (r n) ≤ 30 := bl_lt (show r n < 2 ^ 30 from hu.2.1 n)
  have hbl0 := bl_ge1 h0
  have a1 := bl_lb h0
  have a2 := bl_ub (r n)
  have hlo : nv 1073741824 r n < 1073741824 ^ n := nv_lt fun j _ => hu.2.1 j
  have e : u = nv 1073741824 r n + r n * 1073741824 ^ n := hu.2.2.1.symm
  have c1 : 2 ^ (bl (r n) - 1) * 2 ^ k = 536870912 := by rw [← Nat.pow_add, show bl (r n) - 1 + k = 29 by omega]
  have c2 : 2 ^ bl (r n) * 2 ^ k = 1073741824 := by rw [← Nat.pow_add, show bl (r n) + k = 30 by omega]
  have d1 : 536870912 ≤ r n * 2 ^ k := by rw [← c1]; exact Nat.mul_le_mul_right _ a1
  have d2 : (r n + 1) * 2 ^ k ≤ 1073741824 := by rw [← c2]; exact Nat.mul_le_mul_right _ a2
  have e1 : 536870912 * 1073741824 ^ n ≤ u * 2 ^ k := by
    have b1 : r n * 2 ^ k * 1073741824 ^ n ≤ u * 2 ^ k := by
      rw [e, Nat.add_mul, Nat.mul_right_comm]
      omega
    exact Nat.le_trans (Nat.mul_le_mul_right _ d1) b1
  have e2 : u * 2 ^ k < 1073741824 ^ (n + 1) := by
    have b1 : u < (r n + 1) * 1073741824 ^ n := by rw [Nat.add_mul]; omega
    have b2 : u * 2 ^ k < (r n + 1) * 1073741824 ^ n * 2 ^ k := Nat.mul_lt_mul_of_pos_right b1 (Nat.pow_pos (by decide))
    rw [Nat.mul_right_comm] at b2
    have b3 : (r n + 1) * 2 ^ k * 1073741824 ^ n ≤ 1073741824 * 1073741824 ^ n := Nat.mul_le_mul_right _ d2
    rw [Nat.pow_succ, Nat.mul_comm (1073741824 ^ n)]
    omega
  have e3 : 1073741824 ^ n ≤ u * 2 ^ k := by omega
  have hs := Rp_uniq h2 e3 e2
  subst hs
  refine ⟨rfl, ?_⟩
  apply Nat.le_of_not_lt
  intro q
  have f1 : nv 1073741824 r' n < 1073741824 ^ n := nv_lt fun j _ => h2.2.1 j
  have f2 : u * 2 ^ k = nv 1073741824 r' n + r' n * 1073741824 ^ n := h2.2.2.1.symm
  have f3 : (r' n + 1) * 1073741824 ^ n ≤ 536870912 * 1073741824 ^ n := Nat.mul_le_mul_right _ q
  rw [Nat.add_mul] at f3
  omega
set_option maxRecDepth 100000 in
set_option maxHeartbeats 8000000 in
/-- the result becomes left / right, and left what is left -/
theorem ms_B_makeQuotient (sl sr sq v u : Nat) (l r q : Nat → Nat) (hv : Rp 1073741824 1400 l sl v) (hu : Rp 1073741824 1400 r sr u) (hq : ∀ j, q j < 1073741824) (hu0 : 0 < u) (h1 : sl ≤ 1000) : MS y_B_makeQuotient c_B_makeQuotient 4 none (rm 4) [.ref 0] (bW sl sr sq l r q) (zP (X := Nat × Nat × Nat × (Nat → Nat) × (Nat → Nat) × (Nat → Nat)) (fun _ => none) (fun x => bW x.1 x.2.1 x.2.2.1 x.2.2.2.1 x.2.2.2.2.1 x.2.2.2.2.2) (fun x => Rp 1073741824 1400 x.2.2.2.1 x.1 (v % u) ∧ (x.2.1 ≤ 1400 ∧ ∀ j, x.2.2.2.2.1 j < 1073741824) ∧ Rp 1073741824 1400 x.2.2.2.2.2 x.2.2.1 (v / u))) := by
  refine MS_of (own := R_B) (by decide) rfl (fun _ => Nat.le_of_ble_eq_true rfl) (fun Z h hr => ?_)
  have hsr := hu.1
  have hsr0 : 0 < sr := by
    rcases Nat.eq_zero_or_pos sr with e | e
    · subst e
      have : u = 0 := hu.2.2.1.symm
      omega
    · exact e
  refine z_aload_n h d_B_makeQuotient_0 rfl ?_
  refine z_get (C := R_B) (T := F_B) (N := 3) h 0 d_B_makeQuotient_1 in_B rfl (by decide) wf_B_14 rfl rfl ?_
  refine z_getN (C := R_H) (T := F_H) (N := 2) h 1 d_B_makeQuotient_4 in_H rfl (by decide) wf_B_50 rfl rfl ?_
  refine z_aload_n h d_B_makeQuotient_7 rfl ?_
  refine z_get (C := R_B) (T := F_B) (N := 3) h 1 d_B_makeQuotient_8 in_B rfl (by decide) wf_B_20 rfl rfl ?_
  refine z_getN (C := R_H) (T := F_H) (N := 2) h 1 d_B_makeQuotient_11 in_H rfl (by decide) wf_B_50 rfl rfl ?_
  refine z_icmp_ltN (tgt := 27) h d_B_makeQuotient_14 (by decide) (by omega) (fun c_14 => ?_) (fun c_14 => ?_)
  · have hlt : v < u := Rp_size (by decide) hv hu c_14
    refine z_aload_n h d_B_makeQuotient_27 rfl ?_
    refine z_get (C := R_B) (T := F_B) (N := 3) h 2 d_B_makeQuotient_28 in_B rfl (by decide) wf_B_23 rfl rfl ?_
    refine z_iconst (v := nI 0) h d_B_makeQuotient_31 (by decide) ?_
    refine z_cV (C := R_H) (ci := 3) h (ms_H_zero 1400 sq 0 q (by decide) (by decide)) (zf_H_zero (by decide)) wm_B_54 wi_H_zero ws_H_zero rfl ⟨_, rfl⟩ d_B_makeQuotient_32 [5, 6] (by decide) rfl (Nat.le_of_ble_eq_true rfl) rfl (fun _ => rfl) (fun x_32 hx_32 => ?_)
    refine hr.2.2.2.1 _ _ _ _ _ (Nat.le_refl _) (Nat.le_refl _) rfl d_B_makeQuotient_35 ?_
    refine ⟨(sl, sr, 0, l, r, fil q 0 0 0), rfl, rfl, ?_, ⟨hsr, hu.2.1⟩, ?_⟩
    · rw [Nat.mod_eq_of_lt hlt]
      exact hv
    · rw [Nat.div_eq_of_lt hlt, fil_0]
      exact ⟨Nat.zero_le _, hq, rfl, Or.inl rfl⟩
  · refine z_aload_n h d_B_makeQuotient_17 rfl ?_
    refine z_get (C := R_B) (T := F_B) (N := 3) h 1 d_B_makeQuotient_18 in_B rfl (by decide) wf_B_20 rfl rfl ?_
    refine z_getN (C := R_H) (T := F_H) (N := 2) h 1 d_B_makeQuotient_21 in_H rfl (by decide) wf_B_50 rfl rfl ?_
    refine z_if_neN (tgt := 36) h d_B_makeQuotient_24 (by decide) (by omega) (fun c_24 => ?_) (fun c_24 => ?_)
    · obtain ⟨n, rfl⟩ : ∃ k, sr = k + 1 := ⟨sr - 1, by omega⟩
      have htop := Rp_top (by decide) hu
      have hrn := hu.2.1 n
      have hbl1 : bl (r n) ≤ 30 := bl_lt (show r n < 2 ^ 30 from hrn)
      have hbl0 := bl_ge1 (Nat.pos_of_ne_zero htop)
      refine z_bipush (v := nI 30) h d_B_makeQuotient_36 (by decide) ?_
      refine z_aload_n h d_B_makeQuotient_38 rfl ?_
      refine z_get (C := R_B) (T := F_B) (N := 3) h 1 d_B_makeQuotient_39 in_B rfl (by decide) wf_B_20 rfl rfl ?_
      refine z_getN (C := R_H) (T := F_H) (N := 2) h 0 d_B_makeQuotient_42 in_H rfl (by decide) wf_B_57 rfl rfl ?_
      refine z_aload_n h d_B_makeQuotient_45 rfl ?_
      refine z_get (C := R_B) (T := F_B) (N := 3) h 1 d_B_makeQuotient_46 in_B rfl (by decide) wf_B_20 rfl rfl ?_
      refine z_getN (C := R_H) (T := F_H) (N := 2) h 1 d_B_makeQuotient_49 in_H rfl (by decide) wf_B_50 rfl rfl ?_
      refine z_iconst (v := nI 1) h d_B_makeQuotient_52 (by decide) ?_
      refine z_isubN h d_B_makeQuotient_53 (by omega) ?_
      rw [Nat.add_sub_cancel]
      refine z_ialoadN h d_B_makeQuotient_54 rfl (by omega) ?_
      refine z_cSN h (ms_D_bitsOf (r n) (by omega)) (zf_D_bitsOf (by decide)) wm_B_61 wt_D_bitsOf d_B_makeQuotient_55 [] (by decide) rfl (Nat.le_of_ble_eq_true rfl) rfl (fun _ => rfl) (fun x_55 hx_55 => ?_)
      refine z_isubN h d_B_makeQuotient_58 (by omega) ?_
      refine z_istore_n h d_B_makeQuotient_59 (by decide) ?_
      generalize hk : 30 - bl (r n) = k
      have hk30 : k < 30 := by omega
      have h2k : 2 ^ k ≤ 2 ^ 29 := Nat.pow_le_pow_right (by decide) (by omega)
      obtain ⟨hv1, hvB⟩ := fit_1000 (Rp_lt hv) h1 h2k
      obtain ⟨hu1, huB⟩ := fit_1000 (Rp_lt hu) (by omega) h2k
      refine z_aload_n h d_B_makeQuotient_60 rfl ?_
      refine z_get (C := R_B) (T := F_B) (N := 3) h 0 d_B_makeQuotient_61 in_B rfl (by decide) wf_B_14 rfl rfl ?_
      refine z_iload_n h d_B_makeQuotient_64 rfl ?_
      refine z_cV (C := R_H) (ci := 3) h (ms_H_lift 1400 sl v k l (by decide) hv (by omega) hvB) (zf_H_lift (by decide)) wm_B_65 wi_H_lift ws_H_lift rfl ⟨_, rfl⟩ d_B_makeQuotient_65 [1, 2] (by decide) rfl (Nat.le_of_ble_eq_true rfl) rfl (fun _ => rfl) (fun x_65 hx_65 => ?_)
      refine z_aload_n h d_B_makeQuotient_68 rfl ?_
      refine z_get (C := R_B) (T := F_B) (N := 3) h 1 d_B_makeQuotient_69 in_B rfl (by decide) wf_B_20 rfl rfl ?_
      refine z_iload_n h d_B_makeQuotient_72 rfl ?_
      refine z_cV (C := R_H) (ci := 3) h (ms_H_lift 1400 (n + 1) u k r (by decide) hu (by omega) huB) (zf_H_lift (by decide)) wm_B_65 wi_H_lift ws_H_lift rfl ⟨_, rfl⟩ d_B_makeQuotient_73 [3, 4] (by decide) rfl (Nat.le_of_ble_eq_true rfl) rfl (fun _ => rfl) (fun x_73 hx_73 => ?_)
      obtain ⟨hs2, htop2⟩ := lift_top hu hk hx_73
      obtain ⟨r', s2⟩ := x_73
      obtain ⟨l', s1⟩ := x_65
      dsimp only at hx_73 hx_65 hs2 htop2
      subst hs2
      have hlow : 1073741824 ^ n ≤ v := by
        rcases hv.2.2.2 with e | e
        · omega
        · exact Nat.le_trans (Nat.pow_le_pow_right (by decide) (by omega)) e
      have hlow2 : 1073741824 ^ n ≤ v * 2 ^ k := Nat.le_trans hlow (Nat.le_mul_of_pos_right v (Nat.pow_pos (by decide)))
      have hs1 : n + 1 ≤ s1 ∧ s1 ≤ 1001 := by
        have a1 := Rp_lt hx_65
        constructor
        · apply Nat.le_of_not_lt
          intro z
          have : (1073741824 : Nat) ^ s1 ≤ 1073741824 ^ n := Nat.pow_le_pow_right (by decide) (by omega)
          omega
        · apply Nat.le_of_not_lt
          intro z
          rcases hx_65.2.2.2 with e | e
          · omega
          · have : (1073741824 : Nat) ^ (sl + 1) ≤ 1073741824 ^ (s1 - 1) := Nat.pow_le_pow_right (by decide) (by omega)
            omega
      have hDl : u * 2 ^ k < 1073741824 ^ (n + 1) := Rp_lt hx_73
      have hDn : nv 1073741824 r' (n + 1) = u * 2 ^ k := hx_73.2.2.1
      generalize hDD : u * 2 ^ k = D at *
      generalize hvv : v * 2 ^ k = v' at *
      have hDlow : 1073741824 ^ n ≤ D := by
        rcases hx_73.2.2.2 with e | e
        · omega
        · exact e
      have L : ∀ (i H : Nat) (x y : Nat → Nat), i ≤ s1 - (n + 1) + 1 → (∀ j, x j < 1073741824) → (∀ j, y j < 1073741824) → v' = H * D * 1073741824 ^ i + nv 1073741824 x (i + (n + 1)) → nv 1073741824 (sh x i) (n + 1) < D → nv 1073741824 (sh y i) (s1 - (n + 1) + 1 - i) = H → Z 0 0 (bW s1 (n + 1) (s1 - (n + 1) + 1) x r' y) [(0, .ref 0), (1, .int (nI k)), (2, .int (nI (s1 - (n + 1)))), (3, .int (nI i - 1))] 111 [] := by
        intro i
        induction i with
        | zero =>
          intro H x y hi hx hy hval hlt hH
          rw [Nat.pow_zero, Nat.mul_one, Nat.zero_add] at hval
          rw [sh_0] at hlt hH
          rw [Nat.sub_zero] at hH
          have e1 : v' / D = H := by rw [hval, Nat.mul_comm H D, Nat.mul_add_div (by omega), Nat.div_eq_of_lt hlt, Nat.add_zero]
          have e2 : v' % D = nv 1073741824 x (n + 1) := by rw [hval, Nat.mul_comm H D, Nat.mul_add_mod, Nat.mod_eq_of_lt hlt]
          have e3 : v' / D = v / u := by rw [← hDD, ← hvv, Nat.mul_div_mul_right _ _ (Nat.pow_pos (by decide))]
          have e4 : v' % D = v % u * 2 ^ k := by rw [← hDD, ← hvv, Nat.mul_mod_mul_right]
          refine z_iload_n h d_B_makeQuotient_111 rfl ?_
          refine z_if_ltD (tgt := 135) h d_B_makeQuotient_112 (by decide) (by omega) (fun c_112 => ?_) (fun y_112 c_112 => ?_)
          · refine z_aload_n h d_B_makeQuotient_135 rfl ?_
            refine z_get (C := R_B) (T := F_B) (N := 3) h 2 d_B_makeQuotient_136 in_B rfl (by decide) wf_B_23 rfl rfl ?_
            refine z_cV (C := R_H) (ci := 3) h (ms_H_trim 1400 (s1 - (n + 1) + 1) y (by decide) (by omega) (fun j => Nat.lt_trans (hy j) (by decide))) (zf_H_trim (by decide)) wm_B_74 wi_H_trim ws_H_trim rfl ⟨_, rfl⟩ d_B_makeQuotient_139 [5, 6] (by decide) rfl (Nat.le_of_ble_eq_true rfl) rfl (fun _ => rfl) (fun x_139 hx_139 => ?_)
            refine z_aload_n h d_B_makeQuotient_142 rfl ?_
            refine z_get (C := R_B) (T := F_B) (N := 3) h 0 d_B_makeQuotient_143 in_B rfl (by decide) wf_B_14 rfl rfl ?_
            refine z_aload_n h d_B_makeQuotient_146 rfl ?_
            refine z_get (C := R_B) (T := F_B) (N := 3) h 1 d_B_makeQuotient_147 in_B rfl (by decide) wf_B_20 rfl rfl ?_
            refine z_getN (C := R_H) (T := F_H) (N := 2) h 1 d_B_makeQuotient_150 in_H rfl (by decide) wf_B_50 rfl rfl ?_
            refine z_putN (C := R_H) (T := F_H) (N := 2) (ty := .int) h 1 d_B_makeQuotient_153 in_H rfl ft_H_ok n_H (by decide) wf_B_50 rfl rfl rfl rfl rfl (Nat.le_of_ble_eq_true rfl) ?_
            refine z_aload_n h d_B_makeQuotient_156 rfl ?_
            refine z_get (C := R_B) (T := F_B) (N := 3) h 0 d_B_makeQuotient_157 in_B rfl (by decide) wf_B_14 rfl rfl ?_
            refine z_cV (C := R_H) (ci := 3) h (ms_H_trim 1400 (n + 1) x (by decide) (by omega) (fun j => Nat.lt_trans (hx j) (by decide))) (zf_H_trim (by decide)) wm_B_74 wi_H_trim ws_H_trim rfl ⟨_, rfl⟩ d_B_makeQuotient_160 [1, 2] (by decide) rfl (Nat.le_of_ble_eq_true rfl) rfl (fun _ => rfl) (fun x_160 hx_160 => ?_)
            refine z_aload_n h d_B_makeQuotient_163 rfl ?_
            refine z_get (C := R_B) (T := F_B) (N := 3) h 0 d_B_makeQuotient_164 in_B rfl (by decide) wf_B_14 rfl rfl ?_
            refine z_iload_n h d_B_makeQuotient_167 rfl ?_
            refine z_cV (C := R_H) (ci := 3) h (ms_H_lower 1400 (trm x (n + 1)) (v' % D) k x (by decide) (Nat.le_trans (trm_le x _) (by omega)) hx (by rw [trm_nv, e2]) (by omega)) (zf_H_lower (by decide)) wm_B_47 wi_H_lower ws_H_lower rfl ⟨_, rfl⟩ d_B_makeQuotient_168 [1, 2] (by decide) rfl (Nat.le_of_ble_eq_true rfl) rfl (fun _ => rfl) (fun x_168 hx_168 => ?_)
            refine hr.2.2.2.1 _ _ _ _ _ (Nat.le_refl _) (Nat.le_refl _) rfl d_B_makeQuotient_171 ?_
            refine ⟨(x_168.2, n + 1, trm y (s1 - (n + 1) + 1), x_168.1, r', y), rfl, rfl, ?_, ⟨by show n + 1 ≤ 1400; omega, hx_73.2.1⟩, ?_⟩
            · have h9 := hx_168
              rw [e4, Nat.mul_div_cancel _ (Nat.pow_pos (by decide))] at h9
              exact h9
            · exact Rp_trm (by omega) hy (by rw [hH, ← e1, e3])
          · exact absurd c_112 (by omega)
        | succ i ih =>
          intro H x y hi hx hy hval hlt hH
          have e0 : nI (i + 1) - 1 = nI i := nI_pred i
          have hxi := hx i
          have hWe : nv 1073741824 (sh x i) (n + 1 + 1) = x i + nv 1073741824 (sh x (i + 1)) (n + 1) * 1073741824 := nv_sh1
          have hWD : nv 1073741824 (sh x i) (n + 1 + 1) < D * 1073741824 := by
            have : (nv 1073741824 (sh x (i + 1)) (n + 1) + 1) * 1073741824 ≤ D * 1073741824 := Nat.mul_le_mul_right _ hlt
            omega
          generalize hW : nv 1073741824 (sh x i) (n + 1 + 1) = W at hWD
          have hD0 : 0 < D := by omega
          have hWq : W / D < 1073741824 := by rw [Nat.div_lt_iff_lt_mul hD0, Nat.mul_comm]; exact hWD
          have hWm := Nat.mod_lt W hD0
          have hWdm := Nat.div_add_mod W D
          refine z_iload_n h d_B_makeQuotient_111 rfl ?_
          refine z_if_ltD (tgt := 135) h d_B_makeQuotient_112 (by decide) (by omega) (fun c_112 => ?_) (fun y_112 c_112 => ?_)
          · exact absurd c_112 (by omega)
          · rw [e0]
            refine z_aload_n h d_B_makeQuotient_115 rfl ?_
            refine z_get (C := R_B) (T := F_B) (N := 3) h 2 d_B_makeQuotient_116 in_B rfl (by decide) wf_B_23 rfl rfl ?_
            refine z_getN (C := R_H) (T := F_H) (N := 2) h 0 d_B_makeQuotient_119 in_H rfl (by decide) wf_B_57 rfl rfl ?_
            refine z_iload_n h d_B_makeQuotient_122 rfl ?_
            refine z_aload_n h d_B_makeQuotient_123 rfl ?_
            refine z_iload_n h d_B_makeQuotient_124 rfl ?_
            refine z_cV (C := R_B) (ci := 0) h (ms_B_quotientLimb i s1 (n + 1) (s1 - (n + 1) + 1) W D x r' y hx hx_73.2.1 (by omega) (by omega) hW hDn htop2 hWD) (zf_B_quotientLimb (by decide)) wm_B_71 wi_B_quotientLimb ws_B_quotientLimb rfl ⟨_, rfl⟩ d_B_makeQuotient_125 [0, 1, 2, 3, 4, 5, 6] (by decide) rfl (Nat.le_of_ble_eq_true rfl) rfl (fun _ => rfl) (fun x_125 hx_125 => ?_)
            obtain ⟨p1, p2, p3⟩ := hx_125
            refine z_iastoreN h d_B_makeQuotient_128 rfl (by omega) ?_
            rw [← e0]
            refine z_iincD h d_B_makeQuotient_129 rfl (by decide) ?_
            refine z_goto (tgt := 111) h d_B_makeQuotient_132 (by decide) ?_
            have f1 : nv 1073741824 (sh x_125 i) (n + 1 + 1) = nv 1073741824 (sh x_125 i) (n + 1) + sh x_125 i (n + 1) * 1073741824 ^ (n + 1) := nv_s
            have f2 : nv 1073741824 (sh x_125 i) (n + 1) = W % D := by
              rcases Nat.eq_zero_or_pos (sh x_125 i (n + 1)) with z | z
              · rw [z, Nat.zero_mul] at f1
                exact f1.symm.trans p3
              · have : 1 * 1073741824 ^ (n + 1) ≤ sh x_125 i (n + 1) * 1073741824 ^ (n + 1) := Nat.mul_le_mul_right _ z
                omega
            refine z_lv h rfl (ih (H * 1073741824 + W / D) x_125 (un y i (W / D)) (by omega) p1 (un_lt hy hWq) ?_ (by rw [f2]; exact hWm) ?_)
            · have g1 := nv_split (B := 1073741824) (a := x) (k := i) (m := n + 1 + 1)
              have g2 := nv_split (B := 1073741824) (a := x_125) (k := i) (m := n + 1)
              have g3 : nv 1073741824 x_125 i = nv 1073741824 x i := nv_congr fun j hj => p2 j (Or.inl hj)
              rw [g2, g3, f2]
              rw [hW] at g1
              rw [show i + 1 + (n + 1) = i + (n + 1 + 1) by omega, g1, Nat.pow_succ] at hval
              exact quo_step (n2 := 0) hval (by rw [Nat.mul_comm]; exact hWdm.symm)
            · rw [show s1 - (n + 1) + 1 - i = s1 - (n + 1) + 1 - (i + 1) + 1 by omega, nv_sh1, un_eq]
              have g4 : nv 1073741824 (sh (un y i (W / D)) (i + 1)) (s1 - (n + 1) + 1 - (i + 1)) = H := by
                rw [← hH]
                exact nv_congr fun j _ => by unfold sh; rw [un_ne (by omega)]
              rw [g4]
              omega
      refine z_aload_n h d_B_makeQuotient_76 rfl ?_
      refine z_get (C := R_B) (T := F_B) (N := 3) h 0 d_B_makeQuotient_77 in_B rfl (by decide) wf_B_14 rfl rfl ?_
      refine z_getN (C := R_H) (T := F_H) (N := 2) h 1 d_B_makeQuotient_80 in_H rfl (by decide) wf_B_50 rfl rfl ?_
      refine z_aload_n h d_B_makeQuotient_83 rfl ?_
      refine z_get (C := R_B) (T := F_B) (N := 3) h 1 d_B_makeQuotient_84 in_B rfl (by decide) wf_B_20 rfl rfl ?_
      refine z_getN (C := R_H) (T := F_H) (N := 2) h 1 d_B_makeQuotient_87 in_H rfl (by decide) wf_B_50 rfl rfl ?_
      refine z_isubN h d_B_makeQuotient_90 (by omega) ?_
      refine z_istore_n h d_B_makeQuotient_91 (by decide) ?_
      refine z_aload_n h d_B_makeQuotient_92 rfl ?_
      refine z_get (C := R_B) (T := F_B) (N := 3) h 0 d_B_makeQuotient_93 in_B rfl (by decide) wf_B_14 rfl rfl ?_
      refine z_cV (C := R_H) (ci := 3) h (ms_H_openTop 1400 s1 l' (by decide) (by omega)) (zf_H_openTop (by decide)) wm_B_68 wi_H_openTop ws_H_openTop rfl ⟨_, rfl⟩ d_B_makeQuotient_96 [1, 2] (by decide) rfl (Nat.le_of_ble_eq_true rfl) rfl (fun _ => rfl) (fun x_96 hx_96 => ?_)
      refine z_aload_n h d_B_makeQuotient_99 rfl ?_
      refine z_get (C := R_B) (T := F_B) (N := 3) h 2 d_B_makeQuotient_100 in_B rfl (by decide) wf_B_23 rfl rfl ?_
      refine z_iload_n h d_B_makeQuotient_103 rfl ?_
      refine z_iconst (v := nI 1) h d_B_makeQuotient_104 (by decide) ?_
      refine z_iaddN h d_B_makeQuotient_105 ?_
      refine z_cV (C := R_H) (ci := 3) h (ms_H_zero 1400 sq (s1 - (n + 1) + 1) q (by decide) (by omega)) (zf_H_zero (by decide)) wm_B_54 wi_H_zero ws_H_zero rfl ⟨_, rfl⟩ d_B_makeQuotient_106 [5, 6] (by decide) rfl (Nat.le_of_ble_eq_true rfl) rfl (fun _ => rfl) (fun x_106 hx_106 => ?_)
      refine z_iload_n h d_B_makeQuotient_109 rfl ?_
      refine z_topi (nI_pred (s1 - (n + 1))).symm ?_
      refine z_istore_n h d_B_makeQuotient_110 (by decide) ?_
      refine z_lv h rfl (L (s1 - (n + 1) + 1) 0 (un l' s1 0) (fil q 0 (s1 - (n + 1) + 1) 0) (Nat.le_refl _) (un_lt hx_65.2.1 (by decide)) (fun j => by unfold fil; split; decide; exact hq j) ?_ ?_ ?_)
      · rw [show s1 - (n + 1) + 1 + (n + 1) = s1 + 1 by omega, nv_put, Nat.zero_mul, Nat.zero_mul, Nat.zero_mul, Nat.zero_add, Nat.add_zero]
        exact hx_65.2.2.1.symm
      · rw [nv_s]
        have g5 : sh (un l' s1 0) (s1 - (n + 1) + 1) n = 0 := by unfold sh; rw [show s1 - (n + 1) + 1 + n = s1 by omega, un_eq]
        have g6 : nv 1073741824 (sh (un l' s1 0) (s1 - (n + 1) + 1)) n < 1073741824 ^ n := nv_lt fun j _ => un_lt hx_65.2.1 (by decide) _
        rw [g5, Nat.zero_mul, Nat.add_zero]
        omega
      · rw [Nat.sub_self]
        rfl
    · exact absurd c_24 (by omega)
