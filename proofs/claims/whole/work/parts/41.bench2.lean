/-! square roots -/
def IsR (v y : Nat) : Prop := y * y ≤ v ∧ v < (y + 1) * (y + 1)
theorem IsR_ex : ∀ v, ∃ y, IsR v y
  | 0 => ⟨0, by unfold IsR; omega⟩
  | v + 1 => by
    obtain ⟨y, h1, h2⟩ := IsR_ex v
    by_cases e : (y + 1) * (y + 1) ≤ v + 1
    · refine ⟨y + 1, e, ?_⟩
      have : (y + 1 + 1) * (y + 1 + 1) = (y + 1) * (y + 1) + 2 * (y + 1) + 1 := by grind
      omega
    · exact ⟨y, by omega, by omega⟩
theorem sq_lt {x y : Nat} (h : x * x < y * y) : x < y := by
  apply Nat.lt_of_not_le
  intro q
  have := Nat.mul_le_mul q q
  omega
theorem IsR_uniq {v x y : Nat} (h1 : IsR v x) (h2 : IsR v y) : x = y := by
  have a : x < y + 1 := sq_lt (Nat.lt_of_le_of_lt h1.1 h2.2)
  have b : y < x + 1 := sq_lt (Nat.lt_of_le_of_lt h2.1 h1.2)
  omega
/-- one more limb of a root -/
theorem root_ex {r R B low : Nat} (hR : R ≤ 2 * r) (hlow : low < B * B) : ∃ t, t < B ∧ t * (2 * r * B + t) ≤ low + R * (B * B) ∧ low + R * (B * B) < (t + 1) * (2 * r * B + (t + 1)) := by
  obtain ⟨y, h1, h2⟩ := IsR_ex (r * B * (r * B) + (low + R * (B * B)))
  have a1 : r * B ≤ y := by
    apply Nat.le_of_lt_succ
    apply sq_lt
    exact Nat.lt_of_le_of_lt (Nat.le_add_right _ _) h2
  have a2 : y < (r + 1) * B := by
    apply sq_lt
    have e1 : (r + 1) * B * ((r + 1) * B) = r * B * (r * B) + (2 * r) * (B * B) + B * B := by grind
    have e2 : R * (B * B) ≤ 2 * r * (B * B) := Nat.mul_le_mul_right _ hR
    rw [e1]
    omega
  obtain ⟨t, rfl⟩ : ∃ t, y = r * B + t := ⟨y - r * B, by omega⟩
  refine ⟨t, ?_, ?_, ?_⟩
  · rw [Nat.add_mul, Nat.one_mul] at a2
    omega
  · have e3 : (r * B + t) * (r * B + t) = r * B * (r * B) + t * (2 * r * B + t) := by grind
    omega
  · have e3 : (r * B + t + 1) * (r * B + t + 1) = r * B * (r * B) + (t + 1) * (2 * r * B + (t + 1)) := by grind
    omega
theorem root_guess {D d P B W t : Nat} (hB : 2 ≤ B) (hP : 0 < P) (hdB : B ≤ d) (h1 : d * P ≤ D) (h2 : D < (d + 1) * P) (ht : t < B) (ht1 : t * (D * B + t) ≤ W) (ht2 : W < (t + 1) * (D * B + (t + 1))) : t ≤ min (B - 1) (W / (P * B) / d) ∧ min (B - 1) (W / (P * B) / d) ≤ t + 1 := by
  have hd0 : 0 < d := by omega
  have hPB : 0 < P * B := Nat.mul_pos hP (by omega)
  constructor
  · have a1 : t ≤ W / (P * B) / d := by
      rw [Nat.le_div_iff_mul_le hd0, Nat.le_div_iff_mul_le hPB]
      have e1 : t * d * (P * B) = t * (d * P * B) := by grind
      have e2 : t * (d * P * B) ≤ t * (D * B + t) := Nat.mul_le_mul_left _ (by have := Nat.mul_le_mul_right B h1; omega)
      omega
    omega
  · apply Nat.le_of_not_lt
    intro q
    have g1 : min (B - 1) (W / (P * B) / d) ≤ W / (P * B) / d := Nat.min_le_right _ _
    have g2 : min (B - 1) (W / (P * B) / d) ≤ B - 1 := Nat.min_le_left _ _
    generalize min (B - 1) (W / (P * B) / d) = g at g1 g2 q
    rw [Nat.le_div_iff_mul_le hd0, Nat.le_div_iff_mul_le hPB] at g1
    obtain ⟨g, rfl⟩ : ∃ z, g = z + 1 := ⟨g - 1, by omega⟩
    have b1 : (t + 1) * (D * B + (t + 1)) ≤ g * (D * B + g) := Nat.mul_le_mul (by omega) (by omega)
    have b2 : D * B + B ≤ (d + 1) * P * B := by
      have := Nat.mul_le_mul_right B (show D + 1 ≤ (d + 1) * P from h2)
      rw [Nat.add_mul, Nat.one_mul] at this
      exact this
    have b3 : g * (D * B + g) ≤ g * ((d + 1) * P * B) := Nat.mul_le_mul_left _ (by omega)
    have b4 : (g + 1) * d * (P * B) = g * d * (P * B) + d * (P * B) := by grind
    have b5 : g * ((d + 1) * P * B) = g * d * (P * B) + g * (P * B) := by grind
    have b6 : (g + 1) * (P * B) ≤ d * (P * B) := Nat.mul_le_mul_right _ (by omega)
    rw [Nat.add_mul, Nat.one_mul] at b6
    omega
theorem root_low {v s r : Nat} (h : IsR (v * 2 ^ (2 * s)) r) : IsR v (r / 2 ^ s) := by
  have hp : 0 < 2 ^ s := Nat.pow_pos (by decide)
  have e : 2 ^ (2 * s) = 2 ^ s * 2 ^ s := by rw [← Nat.pow_add]; congr 1; omega
  rw [e] at h
  obtain ⟨h1, h2⟩ := h
  generalize 2 ^ s = P at *
  have a1 := Nat.div_mul_le_self r P
  have a2 : r < (r / P + 1) * P := by
    have := Nat.div_add_mod r P
    have := Nat.mod_lt r hp
    rw [Nat.add_mul, Nat.mul_comm (r / P)]
    omega
  generalize r / P = y at *
  constructor
  · apply Nat.le_of_mul_le_mul_right (c := P * P) _ (Nat.mul_pos hp hp)
    have := Nat.mul_le_mul a1 a1
    have e2 : y * P * (y * P) = y * y * (P * P) := by grind
    omega
  · apply Nat.lt_of_mul_lt_mul_right (a := P * P)
    have := Nat.mul_le_mul (show r + 1 ≤ (y + 1) * P from a2) (show r + 1 ≤ (y + 1) * P from a2)
    have e2 : (y + 1) * P * ((y + 1) * P) = (y + 1) * (y + 1) * (P * P) := by grind
    omega
theorem lshl1 : ∀ k, k < 30 → lN 1 <<< ((nI k).toInt64 &&& 63) = lN (2 ^ k) := by decide +kernel
theorem lN_orD {m i b : Nat} (hb : b < 2 ^ i) (h : 2 ^ i * m + b < 2 ^ 63) : lN (2 ^ i * m) ||| lN b = lN (2 ^ i * m + b) := by
  apply Int64.toBitVec_inj.mp
  rw [Int64.toBitVec_or]
  show BitVec.ofNat 64 _ ||| BitVec.ofNat 64 _ = BitVec.ofNat 64 _
  apply BitVec.eq_of_toNat_eq
  rw [BitVec.toNat_or, BitVec.toNat_ofNat, BitVec.toNat_ofNat, BitVec.toNat_ofNat, Nat.mod_eq_of_lt (by omega), Nat.mod_eq_of_lt (by omega), Nat.mod_eq_of_lt (by omega)]
  exact (Nat.two_pow_add_eq_or_of_lt hb m).symm
set_option maxRecDepth 100000 in
set_option maxHeartbeats 4000000 in
theorem ms_B_setTwice (at_ x sl sr sq : Nat) (l r q : Nat → Nat) (hx : x < 1073741824) (h1 : at_ + 1 < 1400) (hq : q (at_ + 1) < 1073741824) : MS y_B_setTwice c_B_setTwice 4 none (rm 1) [.ref 0, .int (nI at_), .long (lN x)] (bW sl sr sq l r q) (zP (X := Unit) (fun _ => none) (fun _ => bW sl sr sq l r (un (un q at_ (2 * x % 1073741824)) (at_ + 1) (q (at_ + 1) + 2 * x / 1073741824))) (fun _ => True)) := by
  refine MS_of (own := R_B) (by decide) rfl (fun _ => Nat.le_of_ble_eq_true rfl) (fun Z h hr => ?_)
  have hs_38 : 2 * x < 2 ^ 63 := by omega
  refine z_aload_n h d_B_setTwice_0 rfl ?_
  refine z_get (C := R_B) (T := F_B) (N := 3) h 2 d_B_setTwice_1 in_B rfl (by decide) wf_B_23 rfl rfl ?_
  refine z_getN (C := R_H) (T := F_H) (N := 2) h 0 d_B_setTwice_4 in_H rfl (by decide) wf_B_57 rfl rfl ?_
  refine z_iload_n h d_B_setTwice_7 rfl ?_
  refine z_ldc2_w (v := lN 2) h d_B_setTwice_8 wv_B_105 ?_
  refine z_lload_n h d_B_setTwice_11 rfl ?_
  refine z_lmulN h d_B_setTwice_12 ?_
  refine z_ldc2_w (v := lN 1073741823) h d_B_setTwice_13 wv_B_77 ?_
  refine z_land30N h d_B_setTwice_16 ?_
  refine z_l2iN h d_B_setTwice_17 ?_
  refine z_iastoreN h d_B_setTwice_18 rfl (by omega) ?_
  refine z_aload_n h d_B_setTwice_19 rfl ?_
  refine z_get (C := R_B) (T := F_B) (N := 3) h 2 d_B_setTwice_20 in_B rfl (by decide) wf_B_23 rfl rfl ?_
  refine z_getN (C := R_H) (T := F_H) (N := 2) h 0 d_B_setTwice_23 in_H rfl (by decide) wf_B_57 rfl rfl ?_
  refine z_iload_n h d_B_setTwice_26 rfl ?_
  refine z_iconst (v := nI 1) h d_B_setTwice_27 (by decide) ?_
  refine z_iaddN h d_B_setTwice_28 ?_
  refine z_dup2_11 h d_B_setTwice_29 rfl rfl ?_
  refine z_ialoadN h d_B_setTwice_30 rfl (by omega) ?_
  rw [un_ne (show at_ + 1 ≠ at_ by omega)]
  refine z_ldc2_w (v := lN 2) h d_B_setTwice_31 wv_B_105 ?_
  refine z_lload_n h d_B_setTwice_34 rfl ?_
  refine z_lmulN h d_B_setTwice_35 ?_
  refine z_bipush (v := nI 30) h d_B_setTwice_36 (by decide) ?_
  refine z_lshr30N h d_B_setTwice_38 hs_38 ?_
  refine z_l2iN h d_B_setTwice_39 ?_
  refine z_iaddN h d_B_setTwice_40 ?_
  refine z_iastoreN h d_B_setTwice_41 rfl (by omega) ?_
  refine hr.2.2.2.1 _ _ _ _ _ (Nat.le_refl _) (Nat.le_refl _) rfl d_B_setTwice_42 ?_
  exact ⟨(), rfl, rfl, trivial⟩
set_option maxRecDepth 100000 in
set_option maxHeartbeats 8000000 in
theorem ms_B_takeFirst (p sl sr sq : Nat) (l r q : Nat → Nat) (hl : ∀ j, l j < 1073741824) (hp : 1 ≤ p) (h2p : 2 * p ≤ 1400) (hq : ∀ j, j < p + 1 → q j = 0) : MS y_B_takeFirstRootLimb c_B_takeFirstRootLimb 10 none (rm 2) [.ref 0, .int (nI p)] (bW sl sr sq l r q) (zP (X := Nat) (fun _ => none) (fun x => bW sl sr sq (un (un l (2 * p - 1) ((l (2 * p - 1) * 1073741824 + l (2 * p - 2) - x * x) / 1073741824)) (2 * p - 2) ((l (2 * p - 1) * 1073741824 + l (2 * p - 2) - x * x) % 1073741824)) r (un (un q (p - 1) (2 * x % 1073741824)) p (2 * x / 1073741824))) (fun x => IsR (l (2 * p - 1) * 1073741824 + l (2 * p - 2)) x ∧ x < 1073741824)) := by
  refine MS_of (own := R_B) (by decide) rfl (fun _ => Nat.le_of_ble_eq_true rfl) (fun Z h hr => ?_)
  have hl1 := hl (2 * p - 1)
  have hl2 := hl (2 * p - 2)
  generalize hH : l (2 * p - 1) * 1073741824 + l (2 * p - 2) = H at hr
  have hHlt : H < 1152921504606846976 := by omega
  have L : ∀ (i m : Nat), i ≤ 30 → 2 ^ i * m < 1073741824 → 2 ^ i * m * (2 ^ i * m) ≤ H → H < 2 ^ i * (m + 1) * (2 ^ i * (m + 1)) → Z 0 0 (bW sl sr sq l r q) [(0, .ref 0), (1, .int (nI p)), (2, .int (nI (2 * p - 1))), (3, .long (lN H)), (5, .long (lN (2 ^ i * m))), (7, .int (nI i - 1))] 40 [] := by
    intro i
    induction i with
    | zero =>
      intro m hi hm h1 h2
      rw [Nat.pow_zero, Nat.one_mul] at *
      have hle : m * m ≤ H := h1
      have hs_95 : H - m * m < 2 ^ 63 := by omega
      have hq0 := hq p (by omega)
      refine z_iload h d_B_takeFirstRootLimb_40 rfl ?_
      refine z_if_ltD (tgt := 74) h d_B_takeFirstRootLimb_42 (by decide) (by omega) (fun c_42 => ?_) (fun y_42 c_42 => ?_)
      · refine z_lload_n h d_B_takeFirstRootLimb_74 rfl ?_
        refine z_lload h d_B_takeFirstRootLimb_75 rfl ?_
        refine z_lload h d_B_takeFirstRootLimb_77 rfl ?_
        refine z_lmulN h d_B_takeFirstRootLimb_79 ?_
        refine z_lsubN h d_B_takeFirstRootLimb_80 hle ?_
        refine z_lstore h d_B_takeFirstRootLimb_81 (by decide) ?_
        refine z_aload_n h d_B_takeFirstRootLimb_83 rfl ?_
        refine z_get (C := R_B) (T := F_B) (N := 3) h 0 d_B_takeFirstRootLimb_84 in_B rfl (by decide) wf_B_14 rfl rfl ?_
        refine z_getN (C := R_H) (T := F_H) (N := 2) h 0 d_B_takeFirstRootLimb_87 in_H rfl (by decide) wf_B_57 rfl rfl ?_
        refine z_iload_n h d_B_takeFirstRootLimb_90 rfl ?_
        refine z_lload h d_B_takeFirstRootLimb_91 rfl ?_
        refine z_bipush (v := nI 30) h d_B_takeFirstRootLimb_93 (by decide) ?_
        refine z_lshr30N h d_B_takeFirstRootLimb_95 hs_95 ?_
        refine z_l2iN h d_B_takeFirstRootLimb_96 ?_
        refine z_iastoreN h d_B_takeFirstRootLimb_97 rfl (by omega) ?_
        refine z_aload_n h d_B_takeFirstRootLimb_98 rfl ?_
        refine z_get (C := R_B) (T := F_B) (N := 3) h 0 d_B_takeFirstRootLimb_99 in_B rfl (by decide) wf_B_14 rfl rfl ?_
        refine z_getN (C := R_H) (T := F_H) (N := 2) h 0 d_B_takeFirstRootLimb_102 in_H rfl (by decide) wf_B_57 rfl rfl ?_
        refine z_iload_n h d_B_takeFirstRootLimb_105 rfl ?_
        refine z_iconst (v := nI 1) h d_B_takeFirstRootLimb_106 (by decide) ?_
        refine z_isubN h d_B_takeFirstRootLimb_107 (by omega) ?_
        rw [show 2 * p - 1 - 1 = 2 * p - 2 by omega]
        refine z_lload h d_B_takeFirstRootLimb_108 rfl ?_
        refine z_ldc2_w (v := lN 1073741823) h d_B_takeFirstRootLimb_110 wv_B_77 ?_
        refine z_land30N h d_B_takeFirstRootLimb_113 ?_
        refine z_l2iN h d_B_takeFirstRootLimb_114 ?_
        refine z_iastoreN h d_B_takeFirstRootLimb_115 rfl (by omega) ?_
        refine z_aload_n h d_B_takeFirstRootLimb_116 rfl ?_
        refine z_iload_n h d_B_takeFirstRootLimb_117 rfl ?_
        refine z_iconst (v := nI 1) h d_B_takeFirstRootLimb_118 (by decide) ?_
        refine z_isubN h d_B_takeFirstRootLimb_119 (by omega) ?_
        refine z_lload h d_B_takeFirstRootLimb_120 rfl ?_
        refine z_cV (C := R_B) (ci := 0) h (ms_B_setTwice (p - 1) m sl sr sq _ r q hm (by omega) (by rw [hq _ (by omega)]; decide)) (zf_B_setTwice (by decide)) wm_B_101 wi_B_setTwice ws_B_setTwice rfl ⟨_, rfl⟩ d_B_takeFirstRootLimb_122 [0, 1, 2, 3, 4, 5, 6] (by decide) rfl (Nat.le_of_ble_eq_true rfl) rfl (fun _ => rfl) (fun x_122 hx_122 => ?_)
        refine hr.2.2.2.1 _ _ _ _ _ (Nat.le_refl _) (Nat.le_refl _) rfl d_B_takeFirstRootLimb_125 ?_
        refine ⟨m, rfl, ?_, ⟨hle, h2⟩, hm⟩
        rw [hq (p - 1 + 1) (by omega), show p - 1 + 1 = p by omega, Nat.zero_add]
        rfl
      · exact absurd c_42 (by omega)
    | succ i ih =>
      intro m hi hm h1 h2
      have e0 : nI (i + 1) - 1 = nI i := nI_pred i
      have hpi : 0 < 2 ^ i := Nat.pow_pos (by decide)
      have hpi2 : 2 ^ i ≤ 2 ^ 29 := Nat.pow_le_pow_right (by decide) (by omega)
      have e1 : 2 ^ (i + 1) * m + 2 ^ i = 2 ^ i * (2 * m + 1) := by rw [Nat.pow_succ]; grind
      have e2 : 2 ^ (i + 1) * m = 2 ^ i * (2 * m) := by rw [Nat.pow_succ]; grind
      have e3 : 2 ^ (i + 1) * (m + 1) = 2 ^ i * (2 * m + 1 + 1) := by rw [Nat.pow_succ]; grind
      have hlt : 2 ^ (i + 1) * m + 2 ^ i < 1073741824 := by
        have a1 : 2 ^ (i + 1) * 2 ^ (29 - i) = 1073741824 := by rw [← Nat.pow_add, show i + 1 + (29 - i) = 30 by omega]
        have a2 : m < 2 ^ (29 - i) := by
          apply Nat.lt_of_mul_lt_mul_left (a := 2 ^ (i + 1))
          rw [a1]
          exact hm
        have a3 : 2 ^ (i + 1) * (m + 1) ≤ 2 ^ (i + 1) * 2 ^ (29 - i) := Nat.mul_le_mul_left _ a2
        rw [a1, Nat.mul_add, Nat.mul_one, Nat.pow_succ] at a3
        rw [Nat.pow_succ]
        omega
      have hsq : (2 ^ (i + 1) * m + 2 ^ i) * (2 ^ (i + 1) * m + 2 ^ i) ≤ 1073741823 * 1073741823 := Nat.mul_le_mul (by omega) (by omega)
      refine z_iload h d_B_takeFirstRootLimb_40 rfl ?_
      refine z_if_ltD (tgt := 74) h d_B_takeFirstRootLimb_42 (by decide) (by omega) (fun c_42 => ?_) (fun y_42 c_42 => ?_)
      · exact absurd c_42 (by omega)
      · rw [e0]
        refine z_lload h d_B_takeFirstRootLimb_45 rfl ?_
        refine z_lconst (v := lN 1) h d_B_takeFirstRootLimb_47 (by decide) ?_
        refine z_iload h d_B_takeFirstRootLimb_48 rfl ?_
        refine z_lshl h d_B_takeFirstRootLimb_50 (z_topl (lshl1 i (by omega)) ?_)
        refine z_lor h d_B_takeFirstRootLimb_51 (z_topl (lN_orD (Nat.pow_lt_pow_right (by decide) (by omega)) (by omega)) ?_)
        refine z_lstore h d_B_takeFirstRootLimb_52 (by decide) ?_
        refine z_lload h d_B_takeFirstRootLimb_54 rfl ?_
        refine z_lload h d_B_takeFirstRootLimb_56 rfl ?_
        refine z_lmulN h d_B_takeFirstRootLimb_58 ?_
        refine z_lload_n h d_B_takeFirstRootLimb_59 rfl ?_
        refine z_lcmp_gtN (tgt := 68) h d_B_takeFirstRootLimb_60 d_B_takeFirstRootLimb_61 (by decide) (by omega) (fun c_60 => ?_) (fun c_60 => ?_)
        · rw [← e0]
          refine z_iincD h d_B_takeFirstRootLimb_68 rfl (by decide) ?_
          refine z_goto (tgt := 40) h d_B_takeFirstRootLimb_71 (by decide) ?_
          rw [e2] at h1 hm
          rw [e2]
          refine z_lv h rfl (ih (2 * m) (by omega) hm h1 ?_)
          rw [e1] at c_60
          exact c_60
        · rw [← e0]
          refine z_lload h d_B_takeFirstRootLimb_64 rfl ?_
          refine z_lstore h d_B_takeFirstRootLimb_66 (by decide) ?_
          refine z_iincD h d_B_takeFirstRootLimb_68 rfl (by decide) ?_
          refine z_goto (tgt := 40) h d_B_takeFirstRootLimb_71 (by decide) ?_
          rw [e1]
          rw [e1] at c_60 hlt
          rw [e3] at h2
          exact z_lv h rfl (ih (2 * m + 1) (by omega) hlt c_60 h2)
  have hs_18 : l (2 * p - 1) < 2 ^ 33 := by omega
  have hs_31 : l (2 * p - 1) < 2 ^ 33 ∧ l (2 * p - 2) < 1073741824 := by omega
  refine z_iconst (v := nI 2) h d_B_takeFirstRootLimb_0 (by decide) ?_
  refine z_iload_n h d_B_takeFirstRootLimb_1 rfl ?_
  refine z_imulN h d_B_takeFirstRootLimb_2 ?_
  refine z_iconst (v := nI 1) h d_B_takeFirstRootLimb_3 (by decide) ?_
  refine z_isubN h d_B_takeFirstRootLimb_4 (by omega) ?_
  refine z_istore_n h d_B_takeFirstRootLimb_5 (by decide) ?_
  refine z_aload_n h d_B_takeFirstRootLimb_6 rfl ?_
  refine z_get (C := R_B) (T := F_B) (N := 3) h 0 d_B_takeFirstRootLimb_7 in_B rfl (by decide) wf_B_14 rfl rfl ?_
  refine z_getN (C := R_H) (T := F_H) (N := 2) h 0 d_B_takeFirstRootLimb_10 in_H rfl (by decide) wf_B_57 rfl rfl ?_
  refine z_iload_n h d_B_takeFirstRootLimb_13 rfl ?_
  refine z_ialoadN h d_B_takeFirstRootLimb_14 rfl (by omega) ?_
  refine z_i2lN h d_B_takeFirstRootLimb_15 (by omega) ?_
  refine z_bipush (v := nI 30) h d_B_takeFirstRootLimb_16 (by decide) ?_
  refine z_lshl30N h d_B_takeFirstRootLimb_18 hs_18 ?_
  refine z_aload_n h d_B_takeFirstRootLimb_19 rfl ?_
  refine z_get (C := R_B) (T := F_B) (N := 3) h 0 d_B_takeFirstRootLimb_20 in_B rfl (by decide) wf_B_14 rfl rfl ?_
  refine z_getN (C := R_H) (T := F_H) (N := 2) h 0 d_B_takeFirstRootLimb_23 in_H rfl (by decide) wf_B_57 rfl rfl ?_
  refine z_iload_n h d_B_takeFirstRootLimb_26 rfl ?_
  refine z_iconst (v := nI 1) h d_B_takeFirstRootLimb_27 (by decide) ?_
  refine z_isubN h d_B_takeFirstRootLimb_28 (by omega) ?_
  rw [show 2 * p - 1 - 1 = 2 * p - 2 by omega]
  refine z_ialoadN h d_B_takeFirstRootLimb_29 rfl (by omega) ?_
  refine z_i2lN h d_B_takeFirstRootLimb_30 (by omega) ?_
  refine z_lorN h d_B_takeFirstRootLimb_31 hs_31 ?_
  rw [hH]
  refine z_lstore_n h d_B_takeFirstRootLimb_32 (by decide) ?_
  refine z_lconst (v := lN 0) h d_B_takeFirstRootLimb_33 (by decide) ?_
  refine z_lstore h d_B_takeFirstRootLimb_34 (by decide) ?_
  refine z_bipush (v := nI 29) h d_B_takeFirstRootLimb_36 (by decide) (z_topi (y := nI 30 - 1) (by decide) ?_)
  refine z_istore h d_B_takeFirstRootLimb_38 (by decide) ?_
  exact z_lv h rfl (L 30 0 (Nat.le_refl _) (by decide) (Nat.zero_le _) (by omega))
