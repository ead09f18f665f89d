/-! DigitMill's public methods: find -/
def fnd (P : Nat → Prop) [DecidablePred P] : Nat → Nat → Option Nat
  | _, 0 => none
  | p, f + 1 => if P p then some p else fnd P (p + 1) f
def win (b v N n p : Nat) : Nat := v / b ^ (N - p - n) % b ^ n
def fndI (o : Option Nat) : Int32 := match o with
  | none => -1
  | some p => nI p
theorem pow_12 {b n : Nat} (hb : b < 37) (hn : n ≤ 12) : b ^ n < 2 ^ 63 := by
  have h1 : b ^ n ≤ 36 ^ n := Nat.pow_le_pow_left (by omega) n
  have h2 : (36 : Nat) ^ n ≤ 36 ^ 12 := Nat.pow_le_pow_right (by decide) hn
  have h3 : (36 : Nat) ^ 12 < 2 ^ 63 := by decide
  omega
theorem win_step {b X d n c m : Nat} (hb : 2 ≤ b) (hd : d < b) (hn : 1 ≤ n) (hm : min c n = m) : (X % b ^ m % b ^ (n - 1)) * b + d = (X * b + d) % b ^ (min (c + 1) n) := by
  have e1 : X % b ^ m % b ^ (n - 1) = X % b ^ (min m (n - 1)) := by
    rcases Nat.le_total m (n - 1) with q | q
    · rw [Nat.min_eq_left q]
      exact Nat.mod_eq_of_lt (Nat.lt_of_lt_of_le (Nat.mod_lt _ (Nat.pow_pos (by omega))) (Nat.pow_le_pow_right (by omega) q))
    · rw [Nat.min_eq_right q]
      exact Nat.mod_mod_of_dvd _ (Nat.pow_dvd_pow b q)
  have e2 : min (c + 1) n = min m (n - 1) + 1 := by omega
  rw [e1, e2]
  generalize min m (n - 1) = k
  rw [Nat.pow_succ, Nat.mul_comm (b ^ k) b, Nat.mod_mul]
  have e3 : (X * b + d) / b = X := by
    rw [Nat.mul_comm, Nat.mul_add_div (by omega), Nat.div_eq_of_lt hd, Nat.add_zero]
  have e4 : (X * b + d) % b = d := by
    rw [Nat.mul_comm, Nat.mul_add_mod, Nat.mod_eq_of_lt hd]
  rw [e3, e4, Nat.mul_comm b]
  omega
theorem div_step {b v k : Nat} (hb : 0 < b) : v / b ^ (k + 1) * b + v / b ^ k % b = v / b ^ k := by
  rw [Nat.pow_succ, ← Nat.div_div_eq_div_mul, Nat.mul_comm]
  exact Nat.div_add_mod _ _
theorem nI_back {i c n : Nat} (h : n ≤ c + 1) : nI (i + c) - nI n + nI 1 = nI (i + (c + 1 - n)) := by
  rw [nI_iI, nI_iI, nI_iI, nI_iI, iI_sub, iI_add]
  congr 1
  omega
theorem idx9 {i c n : Nat} (h : n ≤ c + 1) : i + (c + 1 - n) + 1 = i + (c + 1 + 1 - n) := by omega
set_option maxRecDepth 100000 in
set_option maxHeartbeats 4000000 in
theorem ms_D_find (v b v2 b2 x n i : Nat) (w : List va_E) (h0 : DS v b v2 b2 w) (hx : x < b ^ n) (hn : 1 ≤ n ∧ n ≤ 12) (hi : i < 2 ^ 31) (hnd : nd b v < 2 ^ 30) : MS y_D_find c_D_find 12 (some .int) (rm 7) [.ref 0, .long (lN x), .int (nI n), .int (nI i)] w (fun r w' => r = some (.int (fndI (fnd (fun p => win b v (nd b v) n p = x) i (nd b v + 1 - n - i)))) ∧ DS v b v2 b2 w') := by
  refine MS_of (own := R_D) (by decide) rfl (fun _ => Nat.le_of_ble_eq_true rfl) (fun Z h hr => ?_)
  obtain ⟨gu, pg, dg, td, s, a, g, pw, gu2, pg2, dg2, td2, s2, a2, g2, pw2, sl, sr, sq, l, r, q, rfl, h1, h2, h3, h4, h5⟩ := h0
  have hb := h1.2.1
  have hx63 : x < 2 ^ 63 := Nat.lt_trans hx (pow_12 hb.2 hn.2)
  have hp1 : b ^ (n - 1) < 2 ^ 63 := pow_12 hb.2 (by omega)
  have hp0 : 0 < b ^ (n - 1) := Nat.pow_pos (by omega)
  have hxb : x / b < b ^ (n - 1) := by
    rw [Nat.div_lt_iff_lt_mul (by omega), ← Nat.pow_succ, show (n - 1).succ = n by omega]
    exact hx
  have hnv : v < b ^ nd b v := (nd_spec hb.1 v).2.1
  have hs_56 : x < 2 ^ 63 ∧ 0 < b ∧ b < 2 ^ 63 := by omega
  refine z_iload_n h d_D_find_0 rfl ?_
  refine z_iconst (v := nI 1) h d_D_find_1 (by decide) ?_
  refine z_icmp_ltN (tgt := 22) h d_D_find_2 (by decide) (by omega) (fun c_2 => ?_) (fun c_2 => ?_)
  · exact absurd c_2 (by omega)
  · refine z_iload_n h d_D_find_5 rfl ?_
    refine z_bipush (v := nI 12) h d_D_find_6 (by decide) ?_
    refine z_icmp_gtN (tgt := 22) h d_D_find_8 (by decide) (by omega) (fun c_8 => ?_) (fun c_8 => ?_)
    · exact absurd c_8 (by omega)
    · refine z_lload_n h d_D_find_11 rfl ?_
      refine z_lconst (v := lN 0) h d_D_find_12 (by decide) ?_
      refine z_lcmp_ltN (tgt := 22) h d_D_find_13 d_D_find_14 (by decide) (by omega) (fun c_13 => ?_) (fun c_13 => ?_)
      · exact absurd c_13 (by omega)
      · refine z_iload h d_D_find_17 rfl ?_
        refine z_if_ge (tgt := 32) h d_D_find_19 (by decide) (fun c_19 => ?_) (fun c_19 => ?_)
        · refine z_aload_n h d_D_find_32 rfl ?_
          refine z_get (C := R_D) (T := F_D) (N := 4) h 0 d_D_find_33 in_D rfl (by decide) wf_D_12 rfl rfl ?_
          refine z_getN (C := R_T) (T := F_T) (N := 8) h 1 d_D_find_36 in_T rfl (by decide) wf_D_92 rfl rfl ?_
          refine z_iload_n h d_D_find_39 rfl ?_
          refine z_iconst (v := nI 1) h d_D_find_40 (by decide) ?_
          refine z_isubN h d_D_find_41 (by omega) ?_
          refine z_cS h (ms_D_power b (n - 1) (by omega) (by omega)) (zf_D_power (by decide)) wm_D_182 wt_D_power d_D_find_42 [] (by decide) rfl (Nat.le_of_ble_eq_true rfl) rfl (fun _ => rfl) (fun x_42 hx_42 => ?_)
          refine z_lstore h d_D_find_45 (by decide) ?_
          refine z_lload_n h d_D_find_47 rfl ?_
          refine z_aload_n h d_D_find_48 rfl ?_
          refine z_get (C := R_D) (T := F_D) (N := 4) h 0 d_D_find_49 in_D rfl (by decide) wf_D_12 rfl rfl ?_
          refine z_getN (C := R_T) (T := F_T) (N := 8) h 1 d_D_find_52 in_T rfl (by decide) wf_D_92 rfl rfl ?_
          refine z_i2lN h d_D_find_55 (by omega) ?_
          refine z_ldivN h d_D_find_56 hs_56 ?_
          refine z_lload h d_D_find_57 rfl ?_
          refine z_lcmp_ltN (tgt := 73) h d_D_find_59 d_D_find_60 (by decide) ⟨by omega, hp1⟩ (fun c_59 => ?_) (fun c_59 => ?_)
          · show Z 0 0 (dW b gu pg dg td s a g pw b2 gu2 pg2 dg2 td2 s2 a2 g2 pw2 sl sr sq l r q []) _ _ _
            refine z_aload_n h d_D_find_73 rfl ?_
            refine z_dV (C := R_D) (ci := 4) h (ms_D_digits v b v2 b2 _ ⟨gu, pg, dg, td, s, a, g, pw, gu2, pg2, dg2, td2, s2, a2, g2, pw2, sl, sr, sq, l, r, q, rfl, h1, h2, h3, h4, h5⟩) (zf_D_digits (by decide)) wm_D_114 wi_D_digits ws_D_digits rfl ⟨_, rfl⟩ d_D_find_74 (by decide) is18 (by decide) rfl (Nat.le_of_ble_eq_true rfl) rfl (fun _ _ hp => DT_len hp.2) (fun r_74 w_74 hp_74 => ?_)
            obtain ⟨rfl, hT⟩ := hp_74
            rw [put18n (DT_len hT) rfl]
            obtain ⟨gu', pg', dg', s', a', g', pw', gu2', pg2', dg2', td2', s2', a2', g2', pw2', sl', sr', sq', l', r', q', rfl, k1, rfl, k2, k3, k4, k5⟩ := hT
            have hds : DS v b v2 b2 (dW b gu' pg' (nd b v) 1 s' a' g' pw' b2 gu2' pg2' dg2' td2' s2' a2' g2' pw2' sl' sr' sq' l' r' q' []) := ⟨gu', pg', nd b v, 1, s', a', g', pw', gu2', pg2', dg2', td2', s2', a2', g2', pw2', sl', sr', sq', l', r', q', rfl, k1, k2, k3, k4, k5⟩
            generalize hNe : nd b v = N at *
            have L : ∀ (f c : Nat), (f = N - (i + c)) → (c = 0 ∨ i + c ≤ N) → fnd (fun p => win b v N n p = x) i (N + 1 - n - i) = fnd (fun p => win b v N n p = x) (i + (c + 1 - n)) (N + 1 - n - i - (c + 1 - n)) → Z 0 0 (dW b gu' pg' N 1 s' a' g' pw' b2 gu2' pg2' dg2' td2' s2' a2' g2' pw2' sl' sr' sq' l' r' q' []) [(0, .ref 0), (1, .long (lN x)), (3, .int (nI n)), (4, .int (nI i)), (5, .long (lN (b ^ (n - 1)))), (7, .int (nI N)), (8, .long (lN (v / b ^ (N - (i + c)) % b ^ (min c n)))), (10, .int (nI c)), (11, .int (nI (i + c)))] 89 [] := by
              intro f
              induction f with
              | zero =>
                intro c hf hc heq
                refine z_iload h d_D_find_89 rfl ?_
                refine z_iload h d_D_find_91 rfl ?_
                refine z_icmp_geN (tgt := 152) h d_D_find_93 (by decide) (by omega) (fun c_93 => ?_) (fun c_93 => ?_)
                · refine z_iconst (v := (-1)) h d_D_find_152 (by decide) ?_
                  refine hr.1 _ _ _ _ _ _ (Nat.le_refl _) (Nat.le_refl _) rfl d_D_find_153 ?_
                  refine ⟨?_, hds⟩
                  rw [heq, show N + 1 - n - i - (c + 1 - n) = 0 by omega]
                  rfl
                · exact absurd c_93 (by omega)
              | succ f ih =>
                intro c hf hc heq
                have hlt : v / b ^ (N - (i + c)) % b ^ (min c n) < 2 ^ 63 := by
                  have e1 := Nat.mod_lt (v / b ^ (N - (i + c))) (Nat.pow_pos (n := min c n) (show 0 < b by omega))
                  have e2 := pow_12 (b := b) (n := min c n) hb.2 (by omega)
                  omega
                have hs_100 : v / b ^ (N - (i + c)) % b ^ (min c n) < 2 ^ 63 ∧ 0 < b ^ (n - 1) ∧ b ^ (n - 1) < 2 ^ 63 := ⟨hlt, hp0, hp1⟩
                refine z_iload h d_D_find_89 rfl ?_
                refine z_iload h d_D_find_91 rfl ?_
                refine z_icmp_geN (tgt := 152) h d_D_find_93 (by decide) (by omega) (fun c_93 => ?_) (fun c_93 => ?_)
                · exact absurd c_93 (by omega)
                · refine z_lload h d_D_find_96 rfl ?_
                  refine z_lload h d_D_find_98 rfl ?_
                  refine z_lremN h d_D_find_100 hs_100 ?_
                  refine z_aload_n h d_D_find_101 rfl ?_
                  refine z_get (C := R_D) (T := F_D) (N := 4) h 0 d_D_find_102 in_D rfl (by decide) wf_D_12 rfl rfl ?_
                  refine z_getN (C := R_T) (T := F_T) (N := 8) h 1 d_D_find_105 in_T rfl (by decide) wf_D_92 rfl rfl ?_
                  refine z_i2lN h d_D_find_108 (by omega) ?_
                  refine z_lmulN h d_D_find_109 ?_
                  refine z_aload_n h d_D_find_110 rfl ?_
                  refine z_get (C := R_D) (T := F_D) (N := 4) h 0 d_D_find_111 in_D rfl (by decide) wf_D_12 rfl rfl ?_
                  refine z_iload h d_D_find_114 rfl ?_
                  refine z_cV (C := R_T) (ci := 2) h (ms_T_digitAt b v gu' pg' N s' (i + c) a' g' pw' k1 (by omega)) (zf_T_digitAt (by decide)) wm_D_169 wi_T_digitAt ws_T_digitAt rfl ⟨_, rfl⟩ d_D_find_116 [1, 2, 3, 4, 5] (by decide) rfl (Nat.le_of_ble_eq_true rfl) rfl (fun _ => rfl) (fun x_116 hx_116 => ?_)
                  have hdl : dig b v (N - 1 - (i + c)) < b := dig_lt (by omega)
                  have hstep : (v / b ^ (N - (i + c)) % b ^ (min c n) % b ^ (n - 1)) * b + dig b v (N - 1 - (i + c)) = v / b ^ (N - (i + (c + 1))) % b ^ (min (c + 1) n) := by
                    rw [win_step hb.1 hdl hn.1 rfl]
                    congr 1
                    rw [show N - (i + c) = (N - 1 - (i + c)) + 1 by omega, show N - (i + (c + 1)) = N - 1 - (i + c) by omega]
                    exact div_step (by omega)
                  have hlt2 : v / b ^ (N - (i + (c + 1))) % b ^ (min (c + 1) n) < 2 ^ 63 := by
                    have e1 := Nat.mod_lt (v / b ^ (N - (i + (c + 1)))) (Nat.pow_pos (n := min (c + 1) n) (show 0 < b by omega))
                    have e2 := pow_12 (b := b) (n := min (c + 1) n) hb.2 (by omega)
                    omega
                  refine z_i2lN h d_D_find_119 (by omega) ?_
                  refine z_laddN h d_D_find_120 ?_
                  rw [hstep]
                  refine z_lstore h d_D_find_121 (by decide) ?_
                  refine z_iincN h 1 d_D_find_123 rfl (by decide) (by decide) ?_
                  refine z_iload h d_D_find_126 rfl ?_
                  refine z_iload_n h d_D_find_128 rfl ?_
                  refine z_icmp_ltN (tgt := 146) h d_D_find_129 (by decide) (by omega) (fun c_129 => ?_) (fun c_129 => ?_)
                  · refine z_lv (lv' := [(0, .ref 0), (1, .long (lN x)), (3, .int (nI n)), (4, .int (nI i)), (5, .long (lN (b ^ (n - 1)))), (7, .int (nI N)), (8, .long (lN (v / b ^ (N - (i + (c + 1))) % b ^ (min (c + 1) n)))), (10, .int (nI (c + 1))), (11, .int (nI (i + c)))]) h rfl ?_
                    refine z_iincN h 1 d_D_find_146 rfl (by decide) (by decide) ?_
                    refine z_goto (tgt := 89) h d_D_find_149 (by decide) ?_
                    refine z_lv h rfl (ih (c + 1) (by omega) (by omega) ?_)
                    rw [heq, show c + 1 - n = c + 1 + 1 - n by omega]
                  · have hW : v / b ^ (N - (i + (c + 1))) % b ^ (min (c + 1) n) = win b v N n (i + (c + 1 - n)) := by
                      unfold win
                      rw [show N - (i + (c + 1 - n)) - n = N - (i + (c + 1)) by omega, show min (c + 1) n = n by omega]
                    have hF : N + 1 - n - i - (c + 1 - n) = (N + 1 - n - i - (c + 1 + 1 - n)) + 1 := by omega
                    rw [hF] at heq
                    refine z_lload h d_D_find_132 rfl ?_
                    refine z_lload_n h d_D_find_134 rfl ?_
                    refine z_lcmp_neN (tgt := 146) h d_D_find_135 d_D_find_136 (by decide) ⟨hlt2, hx63⟩ (fun c_135 => ?_) (fun c_135 => ?_)
                    · refine z_lv (lv' := [(0, .ref 0), (1, .long (lN x)), (3, .int (nI n)), (4, .int (nI i)), (5, .long (lN (b ^ (n - 1)))), (7, .int (nI N)), (8, .long (lN (v / b ^ (N - (i + (c + 1))) % b ^ (min (c + 1) n)))), (10, .int (nI (c + 1))), (11, .int (nI (i + c)))]) h rfl ?_
                      refine z_iincN h 1 d_D_find_146 rfl (by decide) (by decide) ?_
                      refine z_goto (tgt := 89) h d_D_find_149 (by decide) ?_
                      refine z_lv h rfl (ih (c + 1) (by omega) (by omega) ?_)
                      rw [hW] at c_135
                      rw [heq]
                      show (if win b v N n (i + (c + 1 - n)) = x then some _ else fnd _ (i + (c + 1 - n) + 1) _) = _
                      rw [if_neg c_135, idx9 c_129]
                    · rw [hW] at c_135
                      refine z_iload h d_D_find_139 rfl ?_
                      refine z_iload_n h d_D_find_141 rfl ?_
                      refine z_isub h d_D_find_142 ?_
                      refine z_iconst (v := nI 1) h d_D_find_143 (by decide) ?_
                      refine z_iadd h d_D_find_144 ?_
                      refine hr.1 _ _ _ _ _ _ (Nat.le_refl _) (Nat.le_refl _) rfl d_D_find_145 ?_
                      refine ⟨?_, hds⟩
                      rw [heq]
                      show _ = some (Value.int (fndI (if win b v N n (i + (c + 1 - n)) = x then some (i + (c + 1 - n)) else _)))
                      rw [if_pos c_135]
                      show some (Value.int (nI (i + c) - nI n + nI 1)) = some (Value.int (nI _))
                      rw [nI_back c_129]
            refine z_istore h d_D_find_77 (by decide) ?_
            refine z_lconst (v := lN 0) h d_D_find_79 (by decide) ?_
            refine z_lstore h d_D_find_80 (by decide) ?_
            refine z_iconst (v := nI 0) h d_D_find_82 (by decide) ?_
            refine z_istore h d_D_find_83 (by decide) ?_
            refine z_iload h d_D_find_85 rfl ?_
            refine z_istore h d_D_find_87 (by decide) ?_
            have L0 := L (N - i) 0 (by omega) (Or.inl rfl) (by rw [show 0 + 1 - n = 0 by omega]; rfl)
            rw [show v / b ^ (N - (i + 0)) % b ^ (min 0 n) = 0 by rw [Nat.zero_min, Nat.pow_zero, Nat.mod_one]] at L0
            exact z_lv h rfl L0
          · exact absurd c_59 (by omega)
        · exact absurd c_19 (fun e => nI_pos (by omega) (Int32.not_le.mp e))
set_option maxRecDepth 100000 in
set_option maxHeartbeats 4000000 in
theorem mt_D_find1 (a : Int64) (x y : Int32) (w : List va_E) (hx : x < 1 ∨ 12 < x ∨ a < 0 ∨ y < 0) : MT y_D_find c_D_find 12 (some .int) (rmT 8) [.ref 0, .long a, .int x, .int y] w X_IAE (fun w' => w' = w) := by
  refine MT_of (own := R_D) (by decide) rfl (fun _ => Nat.le_of_ble_eq_true rfl) (fun Z h ht => ?_)
  refine z_iload_n h d_D_find_0 rfl ?_
  refine z_iconst (v := 1) h d_D_find_1 (by decide) ?_
  refine z_icmp_lt (tgt := 22) h d_D_find_2 (by decide) (fun c_2 => ?_) (fun c_2 => ?_)
  · refine z_throw (tx := "nothing to look for, or nowhere") ht fit_IAE own_IAE wkx_IAE wnx_IAE wix_IAE (zStr_mem (by decide +kernel)) d_D_find_22 d_D_find_25 d_D_find_26 d_D_find_28 d_D_find_31 (by decide) (by decide) rfl rfl rfl ?_
    rfl
  · refine z_iload_n h d_D_find_5 rfl ?_
    refine z_bipush (v := 12) h d_D_find_6 (by decide) ?_
    refine z_icmp_gt (tgt := 22) h d_D_find_8 (by decide) (fun c_8 => ?_) (fun c_8 => ?_)
    · refine z_throw (tx := "nothing to look for, or nowhere") ht fit_IAE own_IAE wkx_IAE wnx_IAE wix_IAE (zStr_mem (by decide +kernel)) d_D_find_22 d_D_find_25 d_D_find_26 d_D_find_28 d_D_find_31 (by decide) (by decide) rfl rfl rfl ?_
      rfl
    · refine z_lload_n h d_D_find_11 rfl ?_
      refine z_lconst (v := 0) h d_D_find_12 (by decide) ?_
      refine z_lcmp h d_D_find_13 ?_
      refine z_if_lt (tgt := 22) h d_D_find_14 (by decide) (fun c_14 => ?_) (fun c_14 => ?_)
      · refine z_throw (tx := "nothing to look for, or nowhere") ht fit_IAE own_IAE wkx_IAE wnx_IAE wix_IAE (zStr_mem (by decide +kernel)) d_D_find_22 d_D_find_25 d_D_find_26 d_D_find_28 d_D_find_31 (by decide) (by decide) rfl rfl rfl ?_
        rfl
      · refine z_iload h d_D_find_17 rfl ?_
        refine z_if_ge (tgt := 32) h d_D_find_19 (by decide) (fun c_19 => ?_) (fun c_19 => ?_)
        · exact absurd hx (fun q => q.elim c_2 (fun q => q.elim c_8 (fun q => q.elim (cmp_nlt0 c_14) (Int32.not_lt.mpr c_19))))
        · refine z_throw (tx := "nothing to look for, or nowhere") ht fit_IAE own_IAE wkx_IAE wnx_IAE wix_IAE (zStr_mem (by decide +kernel)) d_D_find_22 d_D_find_25 d_D_find_26 d_D_find_28 d_D_find_31 (by decide) (by decide) rfl rfl rfl ?_
          rfl
set_option maxRecDepth 100000 in
set_option maxHeartbeats 4000000 in
theorem mt_D_find2 (v b v2 b2 x n i : Nat) (w : List va_E) (h0 : DS v b v2 b2 w) (hx : b ^ n ≤ x) (hx63 : x < 2 ^ 63) (hn : 1 ≤ n ∧ n ≤ 12) (hi : i < 2 ^ 31) : MT y_D_find c_D_find 12 (some .int) (rmT 8) [.ref 0, .long (lN x), .int (nI n), .int (nI i)] w X_IAE (fun w' => DS v b v2 b2 w') := by
  refine MT_of (own := R_D) (by decide) rfl (fun _ => Nat.le_of_ble_eq_true rfl) (fun Z h ht => ?_)
  have hds := h0
  obtain ⟨gu, pg, dg, td, s, a, g, pw, gu2, pg2, dg2, td2, s2, a2, g2, pw2, sl, sr, sq, l, r, q, rfl, h1, h2, h3, h4, h5⟩ := h0
  have hb := h1.2.1
  have hp1 : b ^ (n - 1) < 2 ^ 63 := pow_12 hb.2 (by omega)
  have hxb : b ^ (n - 1) ≤ x / b := by
    rw [Nat.le_div_iff_mul_le (by omega), ← Nat.pow_succ, show (n - 1).succ = n by omega]
    exact hx
  have hd63 : x / b < 2 ^ 63 := Nat.lt_of_le_of_lt (Nat.div_le_self _ _) hx63
  have hs_56 : x < 2 ^ 63 ∧ 0 < b ∧ b < 2 ^ 63 := by omega
  refine z_iload_n h d_D_find_0 rfl ?_
  refine z_iconst (v := nI 1) h d_D_find_1 (by decide) ?_
  refine z_icmp_ltN (tgt := 22) h d_D_find_2 (by decide) (by omega) (fun c_2 => ?_) (fun c_2 => ?_)
  · exact absurd c_2 (by omega)
  · refine z_iload_n h d_D_find_5 rfl ?_
    refine z_bipush (v := nI 12) h d_D_find_6 (by decide) ?_
    refine z_icmp_gtN (tgt := 22) h d_D_find_8 (by decide) (by omega) (fun c_8 => ?_) (fun c_8 => ?_)
    · exact absurd c_8 (by omega)
    · refine z_lload_n h d_D_find_11 rfl ?_
      refine z_lconst (v := lN 0) h d_D_find_12 (by decide) ?_
      refine z_lcmp_ltN (tgt := 22) h d_D_find_13 d_D_find_14 (by decide) (by omega) (fun c_13 => ?_) (fun c_13 => ?_)
      · exact absurd c_13 (by omega)
      · refine z_iload h d_D_find_17 rfl ?_
        refine z_if_ge (tgt := 32) h d_D_find_19 (by decide) (fun c_19 => ?_) (fun c_19 => ?_)
        · refine z_aload_n h d_D_find_32 rfl ?_
          refine z_get (C := R_D) (T := F_D) (N := 4) h 0 d_D_find_33 in_D rfl (by decide) wf_D_12 rfl rfl ?_
          refine z_getN (C := R_T) (T := F_T) (N := 8) h 1 d_D_find_36 in_T rfl (by decide) wf_D_92 rfl rfl ?_
          refine z_iload_n h d_D_find_39 rfl ?_
          refine z_iconst (v := nI 1) h d_D_find_40 (by decide) ?_
          refine z_isubN h d_D_find_41 (by omega) ?_
          refine z_callS h (ms_D_power b (n - 1) (by omega) (by omega)) (zT (zf_D_power (by decide))) wm_D_182 wt_D_power d_D_find_42 (by decide) [] (by decide) rfl (Nat.le_of_ble_eq_true rfl) rfl (fun _ _ hp => by obtain ⟨_, -, rfl, -⟩ := hp; rfl) (fun r_42 w_42 hp_42 => ?_)
          obtain ⟨x_42, rfl, rfl, hx_42⟩ := hp_42
          refine z_lstore h d_D_find_45 (by decide) ?_
          refine z_lload_n h d_D_find_47 rfl ?_
          refine z_aload_n h d_D_find_48 rfl ?_
          refine z_get (C := R_D) (T := F_D) (N := 4) h 0 d_D_find_49 in_D rfl (by decide) wf_D_12 rfl rfl ?_
          refine z_getN (C := R_T) (T := F_T) (N := 8) h 1 d_D_find_52 in_T rfl (by decide) wf_D_92 rfl rfl ?_
          refine z_i2lN h d_D_find_55 (by omega) ?_
          refine z_ldivN h d_D_find_56 hs_56 ?_
          refine z_lload h d_D_find_57 rfl ?_
          refine z_lcmp_ltN (tgt := 73) h d_D_find_59 d_D_find_60 (by decide) ⟨hd63, hp1⟩ (fun c_59 => ?_) (fun c_59 => ?_)
          · exact absurd c_59 (by omega)
          · refine z_throw (tx := "a has more than n digits") ht fit_IAE own_IAE wkx_IAE wnx_IAE wix_IAE (zStr_mem (by decide +kernel)) d_D_find_63 d_D_find_66 d_D_find_67 d_D_find_69 d_D_find_72 (by decide) (by decide) rfl rfl rfl ?_
            exact hds
        · exact absurd c_19 (fun e => nI_pos (by omega) (Int32.not_le.mp e))
