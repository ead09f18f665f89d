/-! the next limb of a root -/
theorem nv_hi2 {a : Nat → Nat} {j k : Nat} : nv 1073741824 (sh a j) (k + 1 + 1) = nv 1073741824 (sh a j) k + (a (j + k + 1) * 1073741824 + a (j + k)) * 1073741824 ^ k := by
  rw [nv_s, nv_s, Nat.pow_succ]
  show nv 1073741824 (sh a j) k + a (j + k) * 1073741824 ^ k + a (j + (k + 1)) * (1073741824 ^ k * 1073741824) = _
  rw [show j + (k + 1) = j + k + 1 by omega]
  grind
theorem nv_hi3 {a : Nat → Nat} {j k : Nat} : nv 1073741824 (sh a j) (k + 1 + 1 + 1) = nv 1073741824 (sh a j) k + ((a (j + k + 2) * 1073741824 + a (j + k + 1)) * 1073741824 + a (j + k)) * 1073741824 ^ k := by
  rw [nv_s, nv_hi2, Nat.pow_succ, Nat.pow_succ]
  show _ + a (j + (k + 1 + 1)) * (1073741824 ^ k * 1073741824 * 1073741824) = _
  rw [show j + (k + 1 + 1) = j + k + 2 by omega]
  grind
/-- twice the root, one limb longer -/
theorem twice_ok {y y2 : Nat → Nat} {fr k t D : Nat} (hy : ∀ j, y j < 1073741824) (hyy : ∀ j, j ≠ fr → y2 j = y j) (hD : nv 1073741824 (sh y (fr + 1)) (k + 1) = D) (hev : D % 2 = 0) (ht : t < 1073741824) : (∀ j, un (un y2 fr (2 * t % 1073741824)) (fr + 1) (y2 (fr + 1) + 2 * t / 1073741824) j < 1073741824) ∧ (∀ j, (j ≠ fr ∧ j ≠ fr + 1) → un (un y2 fr (2 * t % 1073741824)) (fr + 1) (y2 (fr + 1) + 2 * t / 1073741824) j = y j) ∧ nv 1073741824 (sh (un (un y2 fr (2 * t % 1073741824)) (fr + 1) (y2 (fr + 1) + 2 * t / 1073741824)) fr) (k + 2) = D * 1073741824 + 2 * t := by
  have e1 : y2 (fr + 1) = y (fr + 1) := hyy _ (by omega)
  have e2 : D = y (fr + 1) + nv 1073741824 (sh y (fr + 1 + 1)) k * 1073741824 := by rw [← hD]; exact nv_sh1
  have e3 := hy (fr + 1)
  have e4 : y (fr + 1) % 2 = 0 := by omega
  rw [e1]
  refine ⟨fun j => ?_, fun j hj => ?_, ?_⟩
  · by_cases q : j = fr + 1
    · rw [q, un_eq]; omega
    · rw [un_ne q]
      by_cases q2 : j = fr
      · rw [q2, un_eq]; omega
      · rw [un_ne q2, hyy j q2]; exact hy j
  · rw [un_ne hj.2, un_ne hj.1, hyy j hj.1]
  · rw [nv_sh1, nv_sh1, un_eq, un_ne (show fr ≠ fr + 1 by omega), un_eq]
    have e5 : nv 1073741824 (sh (un (un y2 fr (2 * t % 1073741824)) (fr + 1) (y (fr + 1) + 2 * t / 1073741824)) (fr + 1 + 1)) k = nv 1073741824 (sh y (fr + 1 + 1)) k := nv_congr fun j _ => by
      unfold sh
      rw [un_ne (by omega), un_ne (by omega), hyy _ (by omega)]
    rw [e5]
    omega
theorem db_lt {D P : Nat} (h : D < 2 * P) (hp : 0 < P) : D * 1073741824 + 2 * 1073741824 + 1 < P * 1237940039285380274899124224 := by omega
/-- what comes off with the guess g, which is t or one more -/
theorem tr_num {W E1 E2 nx BB : Nat} {ow : Int} {g t : Nat} (hn : nx < BB) (hW : W < BB) (h1 : E1 ≤ W) (h2 : W < E2) (h3 : E2 < E1 + BB) (hg : (g = t ∧ (nx : Int) + ow * BB = W - E1) ∨ (g = t + 1 ∧ (nx : Int) + ow * BB = W - E2)) : (g = t ∧ ow = 0 ∧ nx = W - E1) ∨ (g = t + 1 ∧ ow = -1 ∧ (nx : Int) + (-1) * BB = W - E2) := by
  rcases hg with ⟨e, q⟩ | ⟨e, q⟩
  · rcases ow_range (BB := (BB : Int)) (by omega) (by omega) (by omega) q (by omega) (by omega) with ⟨q1, q2, q3⟩ | ⟨q1, q2⟩
    · exact Or.inl ⟨e, q1, by omega⟩
    · omega
  · rcases ow_range (BB := (BB : Int)) (by omega) (by omega) (by omega) q (by omega) (by omega) with ⟨q1, q2, q3⟩ | ⟨q1, q2⟩
    · omega
    · refine Or.inr ⟨e, q1, ?_⟩
      rw [q1] at q
      exact q
theorem tr_num2 {W E1 E2 nx n2 BB U : Nat} {o2 : Int} (hn : n2 < BB) (hW : W < BB) (h1 : E1 ≤ W) (hE : E2 = E1 + U) (q : (nx : Int) + (-1) * BB = W - E2) (q2 : (n2 : Int) + o2 * BB = nx - (-1) * U) : n2 = W - E1 := by
  have q3 : (n2 : Int) + (-1 + o2) * BB = ((W - E1 : Nat) : Int) := by
    rw [Int.add_mul]
    omega
  rcases ow_range (BB := (BB : Int)) (by omega) (by omega) (by omega) q3 (by omega) (by omega) with ⟨q1, q2, q4⟩ | ⟨q1, q2⟩
  · omega
  · omega
def trA (x x1 : Nat → Nat) (at_ m : Nat) (φ : Int) (U : Nat) (ow : Int) : Prop := (∀ j, x1 j < 1073741824) ∧ (∀ j, (j < at_ ∨ at_ + m < j) → x1 j = x j) ∧ (nv 1073741824 (sh x1 at_) (m + 1) : Int) + ow * (1073741824 : Int) ^ (m + 1) = nv 1073741824 (sh x at_) (m + 1) - φ * U
set_option maxRecDepth 100000 in
set_option maxHeartbeats 8000000 in
/-- the walk alone, its numbers as premises -/
theorem ms_B_takeRootLimb0 (p k fr sl sr sq d hh g t F : Nat) (x r y : Nat → Nat) (hx : ∀ j, x j < 1073741824) (hy : ∀ j, y j < 1073741824) (hfr : fr + k + 1 = p) (h2p : 2 * p ≤ 1400) (hk : 1 ≤ k) (hd : y p * 1073741824 + y (p - 1) = d) (hd0 : 0 < d ∧ d < 2 ^ 31) (hhe : (x (2 * fr + k + 2) * 1073741824 + x (2 * fr + k + 1)) * 1073741824 + x (2 * fr + k) = hh) (hh2 : x (2 * fr + k + 2) * 1073741824 + x (2 * fr + k + 1) < 2 ^ 33) (hh3 : hh < 2 ^ 63) (hg : min 1073741823 (hh / d) = g) (hgB : g < 1073741824) (ht : t < 1073741824)
    (T1 : ∀ x1 ow, trA x x1 (2 * fr) (k + 2) (g : Nat) (nv 1073741824 (sh (un y fr g) fr) (k + 2)) ow → (g = t ∧ ow = 0 ∧ nv 1073741824 (sh x1 (2 * fr)) (k + 3) = F) ∨ (g = t + 1 ∧ ow = -1 ∧ ∀ x2 o2, trA x1 x2 (2 * fr) (k + 2) (-1) (nv 1073741824 (sh (un (un y fr g) fr (2 * t + 1)) fr) (k + 2)) o2 → nv 1073741824 (sh x2 (2 * fr)) (k + 3) = F)) : MS y_B_takeRootLimb c_B_takeRootLimb 12 none (rm 2) [.ref 0, .int (nI p), .int (nI k)] (bW sl sr sq x r y) (zP (X := (Nat → Nat) × (Nat → Nat)) (fun _ => none) (fun z => bW sl sr sq z.1 r (un (un z.2 fr (2 * t % 1073741824)) (fr + 1) (z.2 (fr + 1) + 2 * t / 1073741824))) (fun z => (∀ j, z.1 j < 1073741824) ∧ (∀ j, j < 2 * fr → z.1 j = x j) ∧ (∀ j, j ≠ fr → z.2 j = y j) ∧ nv 1073741824 (sh z.1 (2 * fr)) (k + 3) = F)) := by
  refine MS_of (own := R_B) (by decide) rfl (fun _ => Nat.le_of_ble_eq_true rfl) (fun Z h hr => ?_)
  have hyp := hy p
  have hyp1 := hy (p - 1)
  have hxt := hx (2 * fr + k)
  have hxt1 := hx (2 * fr + k + 1)
  have hxt2 := hx (2 * fr + k + 2)
  have E : ∀ (x' y2 : Nat → Nat) (lv : List (Nat × Value)), zg lv 0 = some (.ref 0) → zg lv 3 = some (.int (nI fr)) → zg lv 10 = some (.long (lN t)) → (∀ j, x' j < 1073741824) → (∀ j, j < 2 * fr → x' j = x j) → (∀ j, j ≠ fr → y2 j = y j) → nv 1073741824 (sh x' (2 * fr)) (k + 3) = F → Z 0 0 (bW sl sr sq x' r y2) lv 199 [] := by
    intro x' y2 lv hl0 hl3 hl10 b1 b2 b3 b4
    refine z_lv (lv' := [(0, .ref 0), (3, .int (nI fr)), (10, .long (lN t))]) h (by simp only [List.map_cons, List.map_nil, hl0, hl3, hl10]) ?_
    refine z_aload_n h d_B_takeRootLimb_199 rfl ?_
    refine z_iload_n h d_B_takeRootLimb_200 rfl ?_
    refine z_lload h d_B_takeRootLimb_201 rfl ?_
    refine z_cV (C := R_B) (ci := 0) h (ms_B_setTwice fr t sl sr sq x' r y2 ht (by omega) (by rw [b3 _ (by omega)]; exact hy _)) (zf_B_setTwice (by decide)) wm_B_101 wi_B_setTwice ws_B_setTwice rfl ⟨_, rfl⟩ d_B_takeRootLimb_203 [0, 1, 2, 3, 4, 5, 6] (by decide) rfl (Nat.le_of_ble_eq_true rfl) rfl (fun _ => rfl) (fun x_203 hx_203 => ?_)
    refine hr.2.2.2.1 _ _ _ _ _ (Nat.le_refl _) (Nat.le_refl _) rfl d_B_takeRootLimb_206 ?_
    exact ⟨(x', y2), rfl, rfl, b1, b2, b3, b4⟩
  have hs_29 : y p < 2 ^ 33 := by omega
  have hs_42 : y p < 2 ^ 33 ∧ y (p - 1) < 1073741824 := by omega
  have hs_60 : x (2 * fr + k + 2) < 2 ^ 33 := by omega
  have hs_74 : x (2 * fr + k + 2) < 2 ^ 33 ∧ x (2 * fr + k + 1) < 1073741824 := by omega
  have hs_81 := hh2
  have hs_93 : x (2 * fr + k + 2) * 1073741824 + x (2 * fr + k + 1) < 2 ^ 33 ∧ x (2 * fr + k) < 1073741824 := ⟨hh2, hxt⟩
  have hs_110 : hh < 2 ^ 63 ∧ 0 < d ∧ d < 2 ^ 63 := by omega
  have hq63 : hh / d < 2 ^ 63 := Nat.lt_of_le_of_lt (Nat.div_le_self _ _) hh3
  have efr : p - 1 - k = fr := by omega
  refine z_iload_n h d_B_takeRootLimb_0 rfl ?_
  refine z_iconst (v := nI 1) h d_B_takeRootLimb_1 (by decide) ?_
  refine z_isubN h d_B_takeRootLimb_2 (by omega) ?_
  refine z_iload_n h d_B_takeRootLimb_3 rfl ?_
  refine z_isubN h d_B_takeRootLimb_4 (by omega) ?_
  rw [efr]
  refine z_istore_n h d_B_takeRootLimb_5 (by decide) ?_
  refine z_iconst (v := nI 2) h d_B_takeRootLimb_6 (by decide) ?_
  refine z_iload_n h d_B_takeRootLimb_7 rfl ?_
  refine z_imulN h d_B_takeRootLimb_8 ?_
  refine z_istore h d_B_takeRootLimb_9 (by decide) ?_
  refine z_iload h d_B_takeRootLimb_11 rfl ?_
  refine z_iload_n h d_B_takeRootLimb_13 rfl ?_
  refine z_iaddN h d_B_takeRootLimb_14 ?_
  refine z_istore h d_B_takeRootLimb_15 (by decide) ?_
  refine z_aload_n h d_B_takeRootLimb_17 rfl ?_
  refine z_get (C := R_B) (T := F_B) (N := 3) h 2 d_B_takeRootLimb_18 in_B rfl (by decide) wf_B_23 rfl rfl ?_
  refine z_getN (C := R_H) (T := F_H) (N := 2) h 0 d_B_takeRootLimb_21 in_H rfl (by decide) wf_B_57 rfl rfl ?_
  refine z_iload_n h d_B_takeRootLimb_24 rfl ?_
  refine z_ialoadN h d_B_takeRootLimb_25 rfl (by omega) ?_
  refine z_i2lN h d_B_takeRootLimb_26 (by omega) ?_
  refine z_bipush (v := nI 30) h d_B_takeRootLimb_27 (by decide) ?_
  refine z_lshl30N h d_B_takeRootLimb_29 hs_29 ?_
  refine z_aload_n h d_B_takeRootLimb_30 rfl ?_
  refine z_get (C := R_B) (T := F_B) (N := 3) h 2 d_B_takeRootLimb_31 in_B rfl (by decide) wf_B_23 rfl rfl ?_
  refine z_getN (C := R_H) (T := F_H) (N := 2) h 0 d_B_takeRootLimb_34 in_H rfl (by decide) wf_B_57 rfl rfl ?_
  refine z_iload_n h d_B_takeRootLimb_37 rfl ?_
  refine z_iconst (v := nI 1) h d_B_takeRootLimb_38 (by decide) ?_
  refine z_isubN h d_B_takeRootLimb_39 (by omega) ?_
  refine z_ialoadN h d_B_takeRootLimb_40 rfl (by omega) ?_
  refine z_i2lN h d_B_takeRootLimb_41 (by omega) ?_
  refine z_lorN h d_B_takeRootLimb_42 hs_42 ?_
  rw [hd]
  refine z_lstore h d_B_takeRootLimb_43 (by decide) ?_
  refine z_aload_n h d_B_takeRootLimb_45 rfl ?_
  refine z_get (C := R_B) (T := F_B) (N := 3) h 0 d_B_takeRootLimb_46 in_B rfl (by decide) wf_B_14 rfl rfl ?_
  refine z_getN (C := R_H) (T := F_H) (N := 2) h 0 d_B_takeRootLimb_49 in_H rfl (by decide) wf_B_57 rfl rfl ?_
  refine z_iload h d_B_takeRootLimb_52 rfl ?_
  refine z_iconst (v := nI 2) h d_B_takeRootLimb_54 (by decide) ?_
  refine z_iaddN h d_B_takeRootLimb_55 ?_
  refine z_ialoadN h d_B_takeRootLimb_56 rfl (by omega) ?_
  refine z_i2lN h d_B_takeRootLimb_57 (by omega) ?_
  refine z_bipush (v := nI 30) h d_B_takeRootLimb_58 (by decide) ?_
  refine z_lshl30N h d_B_takeRootLimb_60 hs_60 ?_
  refine z_aload_n h d_B_takeRootLimb_61 rfl ?_
  refine z_get (C := R_B) (T := F_B) (N := 3) h 0 d_B_takeRootLimb_62 in_B rfl (by decide) wf_B_14 rfl rfl ?_
  refine z_getN (C := R_H) (T := F_H) (N := 2) h 0 d_B_takeRootLimb_65 in_H rfl (by decide) wf_B_57 rfl rfl ?_
  refine z_iload h d_B_takeRootLimb_68 rfl ?_
  refine z_iconst (v := nI 1) h d_B_takeRootLimb_70 (by decide) ?_
  refine z_iaddN h d_B_takeRootLimb_71 ?_
  refine z_ialoadN h d_B_takeRootLimb_72 rfl (by omega) ?_
  refine z_i2lN h d_B_takeRootLimb_73 (by omega) ?_
  refine z_lorN h d_B_takeRootLimb_74 hs_74 ?_
  refine z_lstore h d_B_takeRootLimb_75 (by decide) ?_
  refine z_lload h d_B_takeRootLimb_77 rfl ?_
  refine z_bipush (v := nI 30) h d_B_takeRootLimb_79 (by decide) ?_
  refine z_lshl30N h d_B_takeRootLimb_81 hs_81 ?_
  refine z_aload_n h d_B_takeRootLimb_82 rfl ?_
  refine z_get (C := R_B) (T := F_B) (N := 3) h 0 d_B_takeRootLimb_83 in_B rfl (by decide) wf_B_14 rfl rfl ?_
  refine z_getN (C := R_H) (T := F_H) (N := 2) h 0 d_B_takeRootLimb_86 in_H rfl (by decide) wf_B_57 rfl rfl ?_
  refine z_iload h d_B_takeRootLimb_89 rfl ?_
  refine z_ialoadN h d_B_takeRootLimb_91 rfl (by omega) ?_
  refine z_i2lN h d_B_takeRootLimb_92 (by omega) ?_
  refine z_lorN h d_B_takeRootLimb_93 hs_93 ?_
  rw [hhe]
  refine z_lstore h d_B_takeRootLimb_94 (by decide) ?_
  refine z_lload h d_B_takeRootLimb_96 rfl ?_
  refine z_lconst (v := lN 0) h d_B_takeRootLimb_98 (by decide) ?_
  refine z_lcmp_leN (tgt := 117) h d_B_takeRootLimb_99 d_B_takeRootLimb_100 (by decide) (by omega) (fun c_99 => ?_) (fun c_99 => ?_)
  · exact absurd c_99 (by omega)
  · refine z_ldc2_w (v := lN 1073741823) h d_B_takeRootLimb_103 wv_B_77 ?_
    refine z_lload h d_B_takeRootLimb_106 rfl ?_
    refine z_lload h d_B_takeRootLimb_108 rfl ?_
    refine z_ldivN h d_B_takeRootLimb_110 hs_110 ?_
    refine z_mminlN h d_B_takeRootLimb_111 wq_B_79 (by decide) (Nat.le_of_ble_eq_true rfl) (by decide) (by decide) ⟨by decide, hq63⟩ ?_
    rw [hg]
    refine z_goto (tgt := 118) h d_B_takeRootLimb_114 (by decide) ?_
    refine z_lstore h d_B_takeRootLimb_118 (by decide) ?_
    refine z_aload_n h d_B_takeRootLimb_120 rfl ?_
    refine z_get (C := R_B) (T := F_B) (N := 3) h 2 d_B_takeRootLimb_121 in_B rfl (by decide) wf_B_23 rfl rfl ?_
    refine z_getN (C := R_H) (T := F_H) (N := 2) h 0 d_B_takeRootLimb_124 in_H rfl (by decide) wf_B_57 rfl rfl ?_
    refine z_iload_n h d_B_takeRootLimb_127 rfl ?_
    refine z_lload h d_B_takeRootLimb_128 rfl ?_
    refine z_l2iN h d_B_takeRootLimb_130 ?_
    refine z_iastoreN h d_B_takeRootLimb_131 rfl (by omega) ?_
    refine z_aload_n h d_B_takeRootLimb_132 rfl ?_
    refine z_get (C := R_B) (T := F_B) (N := 3) h 0 d_B_takeRootLimb_133 in_B rfl (by decide) wf_B_14 rfl rfl ?_
    refine z_iload h d_B_takeRootLimb_136 rfl ?_
    refine z_aload_n h d_B_takeRootLimb_138 rfl ?_
    refine z_get (C := R_B) (T := F_B) (N := 3) h 2 d_B_takeRootLimb_139 in_B rfl (by decide) wf_B_23 rfl rfl ?_
    refine z_iload_n h d_B_takeRootLimb_142 rfl ?_
    refine z_iload_n h d_B_takeRootLimb_143 rfl ?_
    refine z_iconst (v := nI 2) h d_B_takeRootLimb_144 (by decide) ?_
    refine z_iaddN h d_B_takeRootLimb_145 ?_
    refine z_lload h d_B_takeRootLimb_146 rfl ?_
    refine z_topl (lN_lI _) ?_
    refine z_cV (C := R_H) (ci := 3) h (ms_H_takeAway 1400 sl (2 * fr) 1400 sq fr (k + 2) (g : Nat) x (un y fr g) (by decide) (by decide) hx (fun j => Nat.lt_trans (un_lt hy hgB j) (by decide)) (by omega) (by omega) (phi_ok hgB)) (zf_H_takeAway (by decide)) wm_B_85 wi_H_takeAway ws_H_takeAway rfl ⟨_, rfl⟩ d_B_takeRootLimb_148 [1, 2, 5, 6] (by decide) rfl (Nat.le_of_ble_eq_true rfl) rfl (fun _ => rfl) (fun x_148 hx_148 => ?_)
    obtain ⟨p1, p2, p3, p4, p5⟩ := hx_148
    have hpx : ∀ j, j < 2 * fr → x_148.1 j = x j := fun j hj => p2 j (Or.inl hj)
    rcases T1 x_148.1 x_148.2 ⟨p1, p2, p3⟩ with ⟨e, q1, q3⟩ | ⟨e, q1, q3⟩
    · refine z_topi (y := iI 0) (by rw [q1]) ?_
      subst e
      refine z_if_ge (tgt := 199) h d_B_takeRootLimb_151 (by decide) (fun c_151 => ?_) (fun c_151 => ?_)
      · exact E x_148.1 (un y fr g) _ rfl rfl rfl p1 hpx (fun j hj => un_ne hj) q3
      · exact absurd (by decide) c_151
    · refine z_topi (y := iI (-1)) (by rw [q1]) ?_
      subst e
      refine z_if_ge (tgt := 199) h d_B_takeRootLimb_151 (by decide) (fun c_151 => ?_) (fun c_151 => ?_)
      · exact absurd c_151 (by decide)
      · refine z_lload h d_B_takeRootLimb_154 rfl ?_
        refine z_lconst (v := lN 1) h d_B_takeRootLimb_156 (by decide) ?_
        refine z_lsubN h d_B_takeRootLimb_157 (Nat.le_add_left 1 t) ?_
        rw [Nat.add_sub_cancel]
        refine z_lstore h d_B_takeRootLimb_158 (by decide) ?_
        refine z_aload_n h d_B_takeRootLimb_160 rfl ?_
        refine z_get (C := R_B) (T := F_B) (N := 3) h 2 d_B_takeRootLimb_161 in_B rfl (by decide) wf_B_23 rfl rfl ?_
        refine z_getN (C := R_H) (T := F_H) (N := 2) h 0 d_B_takeRootLimb_164 in_H rfl (by decide) wf_B_57 rfl rfl ?_
        refine z_iload_n h d_B_takeRootLimb_167 rfl ?_
        refine z_ldc2_w (v := lN 2) h d_B_takeRootLimb_168 wv_B_105 ?_
        refine z_lload h d_B_takeRootLimb_171 rfl ?_
        refine z_lmulN h d_B_takeRootLimb_173 ?_
        refine z_lconst (v := lN 1) h d_B_takeRootLimb_174 (by decide) ?_
        refine z_laddN h d_B_takeRootLimb_175 ?_
        refine z_l2iN h d_B_takeRootLimb_176 ?_
        refine z_iastoreN h d_B_takeRootLimb_177 rfl (by omega) ?_
        refine z_aload_n h d_B_takeRootLimb_178 rfl ?_
        refine z_get (C := R_B) (T := F_B) (N := 3) h 0 d_B_takeRootLimb_179 in_B rfl (by decide) wf_B_14 rfl rfl ?_
        refine z_iload h d_B_takeRootLimb_182 rfl ?_
        refine z_aload_n h d_B_takeRootLimb_184 rfl ?_
        refine z_get (C := R_B) (T := F_B) (N := 3) h 2 d_B_takeRootLimb_185 in_B rfl (by decide) wf_B_23 rfl rfl ?_
        refine z_iload_n h d_B_takeRootLimb_188 rfl ?_
        refine z_iload_n h d_B_takeRootLimb_189 rfl ?_
        refine z_iconst (v := nI 2) h d_B_takeRootLimb_190 (by decide) ?_
        refine z_iaddN h d_B_takeRootLimb_191 ?_
        refine z_ldc2_w (v := (-1)) h d_B_takeRootLimb_192 wv_B_89 ?_
        refine z_topl (y := lI (-1)) (by decide) ?_
        refine z_cV (C := R_H) (ci := 3) h (ms_H_takeAway 1400 sl (2 * fr) 1400 sq fr (k + 2) (-1) x_148.1 (un (un y fr (t + 1)) fr (2 * t + 1)) (by decide) (by decide) p1 (un_lt (fun j => Nat.lt_trans (un_lt hy hgB j) (by decide)) (by omega)) (by omega) (by omega) (by omega)) (zf_H_takeAway (by decide)) wm_B_85 wi_H_takeAway ws_H_takeAway rfl ⟨_, rfl⟩ d_B_takeRootLimb_195 [1, 2, 5, 6] (by decide) rfl (Nat.le_of_ble_eq_true rfl) rfl (fun _ => rfl) (fun x_195 hx_195 => ?_)
        obtain ⟨r1, r2, r3, r4, r5⟩ := hx_195
        refine z_pop h d_B_takeRootLimb_198 rfl ?_
        exact E x_195.1 (un (un y fr (t + 1)) fr (2 * t + 1)) _ rfl rfl rfl r1 (fun j hj => (r2 j (Or.inl hj)).trans (hpx j hj)) (fun j hj => by rw [un_ne hj, un_ne hj]) (q3 x_195.1 x_195.2 ⟨r1, r2, r3⟩)
