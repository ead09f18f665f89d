/-! DigitMillModel: find -/
theorem dig_all {b : Nat} (hb : 0 < b) : ∀ (n a c : Nat), a < b ^ n → c < b ^ n → (∀ j, j < n → dig b a j = dig b c j) → a = c := by
  intro n
  induction n with
  | zero =>
    intro a c ha hc _
    rw [Nat.pow_zero] at ha hc
    omega
  | succ n ih =>
    intro a c ha hc hj
    have e0 := hj 0 (by omega)
    unfold dig at e0
    rw [Nat.pow_zero, Nat.div_one, Nat.div_one] at e0
    have e1 : a / b = c / b := ih (a / b) (c / b) (by rw [Nat.div_lt_iff_lt_mul hb, ← Nat.pow_succ]; exact ha) (by rw [Nat.div_lt_iff_lt_mul hb, ← Nat.pow_succ]; exact hc) (fun j hj2 => by
      have := hj (j + 1) (by omega)
      unfold dig at this ⊢
      rw [Nat.pow_succ, Nat.mul_comm, ← Nat.div_div_eq_div_mul, ← Nat.div_div_eq_div_mul] at this
      exact this)
    rw [← Nat.div_add_mod a b, ← Nat.div_add_mod c b, e0, e1]
theorem dig_mod {b X n j : Nat} (hb : 0 < b) (hj : j < n) : dig b (X % b ^ n) j = dig b X j := by
  unfold dig
  rw [show b ^ n = b ^ j * (b * b ^ (n - j - 1)) by rw [← Nat.pow_succ', ← Nat.pow_add]; congr 1; omega, Nat.mod_mul_right_div_self, Nat.mod_mul_right_mod]
theorem dig_div {b X k j : Nat} : dig b (X / b ^ k) j = dig b X (k + j) := by
  unfold dig
  rw [Nat.div_div_eq_div_mul, ← Nat.pow_add]
theorem win_dig {b v N n p k : Nat} (hb : 0 < b) (hk : k < n) (hp : p + n ≤ N) : dig b (win b v N n p) (n - 1 - k) = dig b v (N - 1 - (p + k)) := by
  unfold win
  rw [dig_mod hb (by omega), dig_div]
  congr 1
  omega
theorem find_cmp {N s p : Nat} (hN : N ≤ 24000) (hs : s ≤ 12) (hp : p < 2 ^ 31) : nI N - nI s < nI p ↔ N < s + p := by
  rw [nI_iI, nI_iI, nI_iI, iI_sub, iI_lt (by omega) (by omega) (by omega) (by omega)]
  omega
theorem win_ne {b v N n p k x : Nat} (hb : 0 < b) (hk : k < n) (hp : p + n ≤ N) (h : dig b v (N - 1 - (p + k)) ≠ dig b x (n - 1 - k)) : win b v N n p ≠ x := fun q => h (by rw [← q, win_dig hb hk hp])
theorem win_eq {b v N n p x : Nat} (hb : 0 < b) (hp : p + n ≤ N) (hx : x < b ^ n) (h : ∀ k, k < n → dig b v (N - 1 - (p + k)) = dig b x (n - 1 - k)) : win b v N n p = x := by
  refine dig_all hb n _ _ (Nat.mod_lt _ (Nat.pow_pos hb)) hx (fun j hj => ?_)
  have := h (n - 1 - j) (by omega)
  rw [← win_dig hb (by omega) hp, show n - 1 - (n - 1 - j) = j by omega] at this
  exact this
set_option maxRecDepth 100000 in
set_option maxHeartbeats 4000000 in
theorem ms_M_find (v b v2 b2 t x s i : Nat) (w : List va_E) (h0 : RS v b v2 b2 t w) (hx : x < b ^ s) (hs : 1 ≤ s ∧ s ≤ 12) (hi : i < 2 ^ 31) (hx63 : x < 2 ^ 63) : MS y_M_find c_M_find 11 (some .int) (rm 7) [.ref 0, .long (lN x), .int (nI s), .int (nI i)] w (RP (fndI (fnd (fun p => win b v (nd b v) s p = x) i (nd b v + 1 - s - i))) v b v2 b2 0) := by
  obtain ⟨d, n, V, lf, m, kn, dg, wd, rfl, hM, hV0, hV1, hK, hbb, hbb2, hv, hv2⟩ := h0
  refine MS_of (own := R_M) (by decide) rfl (fun _ => Nat.le_of_ble_eq_true rfl) (fun Z h hr => ?_)
  obtain ⟨hs1, hs2⟩ := hs
  have hnd := nd_cap hbb.1 hv
  have hb9 := hbb.2
  have hb0 : 0 < b := by omega
  have L1 : ∀ (f k : Nat) (u : Nat → Nat), f + k = s → (∀ j, s - k ≤ j → j < s → u j = dig b x (s - 1 - j)) → (∀ u', (∀ j, j < s → u' j = dig b x (s - 1 - j)) → Z 0 0 (mW d n lf (G0 b b2 m kn t dg u')) [(0, .ref 0), (1, .long (lN x)), (3, .int (nI s)), (4, .int (nI i)), (5, .int (nI 0)), (6, .long (lN (x / b ^ s)))] 91 []) → Z 0 0 (mW d n lf (G0 b b2 m kn t dg u)) [(0, .ref 0), (1, .long (lN x)), (3, .int (nI s)), (4, .int (nI i)), (5, .int (nI 0)), (6, .long (lN (x / b ^ k))), (8, .int (nI k))] 44 [] := by
    intro f
    induction f with
    | zero =>
      intro k u hf hu kk
      obtain rfl : k = s := by omega
      refine z_iload h d_M_find_44 rfl ?_
      refine z_iload_n h d_M_find_46 rfl ?_
      refine z_icmp_geN (tgt := 91) h d_M_find_47 (by decide) (by omega) (fun c_47 => ?_) (fun c_47 => ?_)
      · exact z_lv h rfl (kk u (fun j hj => hu j (by omega) hj))
      · exact absurd c_47 (by omega)
    | succ f ih =>
      intro k u hf hu kk
      have hxk : x / b ^ k < 2 ^ 63 := Nat.lt_of_le_of_lt (Nat.div_le_self _ _) hx63
      have hs_72 : x / b ^ k < 2 ^ 63 ∧ 0 < b ∧ b < 2 ^ 63 := by omega
      have hs_82 := hs_72
      have hm9 : x / b ^ k % b < b := Nat.mod_lt _ hb0
      refine z_iload h d_M_find_44 rfl ?_
      refine z_iload_n h d_M_find_46 rfl ?_
      refine z_icmp_geN (tgt := 91) h d_M_find_47 (by decide) (by omega) (fun c_47 => ?_) (fun c_47 => ?_)
      · exact absurd c_47 (by omega)
      · refine z_iload h d_M_find_50 rfl ?_
        refine z_if_neN (tgt := 91) h d_M_find_52 (by decide) (by omega) (fun c_52 => ?_) (fun c_52 => ?_)
        · exact absurd rfl c_52
        · refine z_aload_n h d_M_find_55 rfl ?_
          refine z_get (C := R_M) (T := F_M) (N := 10) h 7 d_M_find_56 in_M rfl (by decide) wf_M_26 rfl rfl ?_
          refine z_iload_n h d_M_find_59 rfl ?_
          refine z_iconst (v := nI 1) h d_M_find_60 (by decide) ?_
          refine z_isubN h d_M_find_61 (by omega) ?_
          refine z_iload h d_M_find_62 rfl ?_
          refine z_isubN h d_M_find_64 (by omega) ?_
          refine z_lload h d_M_find_65 rfl ?_
          refine z_aload_n h d_M_find_67 rfl ?_
          refine z_get (C := R_M) (T := F_M) (N := 10) h 2 d_M_find_68 in_M rfl (by decide) wf_M_16 rfl rfl ?_
          refine z_i2lN h d_M_find_71 (by omega) ?_
          refine z_lremN h d_M_find_72 hs_72 ?_
          refine z_l2iN h d_M_find_73 ?_
          refine z_iastoreN h d_M_find_74 rfl (by omega) ?_
          refine z_lload h d_M_find_75 rfl ?_
          refine z_aload_n h d_M_find_77 rfl ?_
          refine z_get (C := R_M) (T := F_M) (N := 10) h 2 d_M_find_78 in_M rfl (by decide) wf_M_16 rfl rfl ?_
          refine z_i2lN h d_M_find_81 (by omega) ?_
          refine z_ldivN h d_M_find_82 hs_82 ?_
          rw [Nat.div_div_eq_div_mul, ← Nat.pow_succ]
          refine z_lstore h d_M_find_83 (by decide) ?_
          refine z_iincN h 1 d_M_find_85 rfl (by decide) (by decide) ?_
          refine z_goto (tgt := 44) h d_M_find_88 (by decide) ?_
          refine z_lv h rfl (ih (k + 1) (un u (s - 1 - k) (x / b ^ k % b)) (by omega) (fun j q1 q2 => ?_) kk)
          by_cases e : j = s - 1 - k
          · subst e
            rw [un_eq, show s - 1 - (s - 1 - k) = k by omega]
            rfl
          · rw [un_ne e]
            exact hu j (by omega) q2
  have Rest : ∀ u, (∀ j, j < s → u j = dig b x (s - 1 - j)) → Z 0 0 (mW d n lf (G0 b b2 m kn t dg u)) [(0, .ref 0), (1, .long (lN x)), (3, .int (nI s)), (4, .int (nI i)), (5, .int (nI 0)), (6, .long (lN (x / b ^ s)))] 91 [] := by
    intro u hu
    rw [Nat.div_eq_of_lt hx]
    refine z_aload_n h d_M_find_91 rfl ?_
    refine z_iload h d_M_find_92 rfl ?_
    refine z_if_neN (tgt := 104) h d_M_find_94 (by decide) (by omega) (fun c_94 => ?_) (fun c_94 => ?_)
    · exact absurd rfl c_94
    · refine z_lload h d_M_find_97 rfl ?_
      refine z_lconst (v := lN 0) h d_M_find_99 (by decide) ?_
      refine z_lcmp_leN (tgt := 108) h d_M_find_100 d_M_find_101 (by decide) (by omega) (fun c_100 => ?_) (fun c_100 => ?_)
      · refine z_iconst (v := nI 0) h d_M_find_108 (by decide) ?_
        refine z_iconst (v := nI 1) h d_M_find_109 (by decide) ?_
        refine z_cM h (ms_M_fails0 d n lf b b2 m kn t 1 dg u) (zf_M_fails (by decide)) wm_M_128 wi_M_fails ws_M_fails d_M_find_110 (Nat.le_of_ble_eq_true rfl) rfl (fun x_110 hx_110 => ?_)
        refine z_if_eqN (tgt := 118) h d_M_find_113 (by decide) (by omega) (fun c_113 => ?_) (fun c_113 => ?_)
        · refine z_aload_n h d_M_find_118 rfl ?_
          refine z_cM h (ms_M_howMany d n V lf b b2 m kn 0 v v2 dg u hM hV0 hV1 hbb hv hK) (zf_M_howMany (by decide)) wm_M_140 wi_M_howMany ws_M_howMany d_M_find_119 (Nat.le_of_ble_eq_true rfl) rfl (fun x_119 hx_119 => ?_)
          have hdg : ∀ q, q < nd b v → (G0 b b2 (nd b v) 1 0 x_119.2.2.2.2 u).2.2.2.2.2.1 q = dig b v (nd b v - 1 - q) := fun q hq => hx_119.2.2.2 q hq
          have hwd : ∀ q, q < s → (G0 b b2 (nd b v) 1 0 x_119.2.2.2.2 u).2.2.2.2.2.2 q = dig b x (s - 1 - q) := hu
          have hdl : ∀ a j, dig b a j < 37 := fun a j => Nat.lt_trans (dig_lt hb0) hb9
          have S : ∀ (f p : Nat), p < 2 ^ 31 → f = nd b v + 1 - s - p → fnd (fun p => win b v (nd b v) s p = x) i (nd b v + 1 - s - i) = fnd (fun p => win b v (nd b v) s p = x) p f → Z 0 0 (mW x_119.1 x_119.2.1 x_119.2.2.2.1 (G0 b b2 (nd b v) 1 0 x_119.2.2.2.2 u)) [(0, .ref 0), (1, .long (lN x)), (3, .int (nI s)), (4, .int (nI i)), (8, .int (nI (nd b v))), (9, .int (nI p))] 128 [] := by
            intro f
            induction f with
            | zero =>
              intro p hp hf hfd
              refine z_iload h d_M_find_128 rfl ?_
              refine z_iload h d_M_find_130 rfl ?_
              refine z_iload_n h d_M_find_132 rfl ?_
              refine z_isub h d_M_find_133 ?_
              refine z_icmp_gt (tgt := 187) h d_M_find_134 (by decide) (fun c_134 => ?_) (fun c_134 => ?_)
              · refine z_iconst (v := (-1)) h d_M_find_187 (by decide) ?_
                refine hr.1 _ _ _ _ _ _ (Nat.le_refl _) (Nat.le_refl _) rfl d_M_find_188 ?_
                rw [hfd]
                exact ⟨rfl, RS_of hx_119 hbb hbb2 hv hv2⟩
              · exact absurd ((find_cmp (by omega) (by omega) hp).mpr (by omega)) c_134
            | succ f ihf =>
              intro p hp hf hfd
              have hps : p + s ≤ nd b v := by omega
              refine z_iload h d_M_find_128 rfl ?_
              refine z_iload h d_M_find_130 rfl ?_
              refine z_iload_n h d_M_find_132 rfl ?_
              refine z_isub h d_M_find_133 ?_
              refine z_icmp_gt (tgt := 187) h d_M_find_134 (by decide) (fun c_134 => ?_) (fun c_134 => ?_)
              · exact absurd ((find_cmp (by omega) (by omega) hp).mp c_134) (by omega)
              · have I : ∀ (g k : Nat), g + k = s → (∀ q, q < k → dig b v (nd b v - 1 - (p + q)) = dig b x (s - 1 - q)) → Z 0 0 (mW x_119.1 x_119.2.1 x_119.2.2.2.1 (G0 b b2 (nd b v) 1 0 x_119.2.2.2.2 u)) [(0, .ref 0), (1, .long (lN x)), (3, .int (nI s)), (4, .int (nI i)), (8, .int (nI (nd b v))), (9, .int (nI p)), (10, .int (nI k))] 140 [] := by
                  intro g
                  induction g with
                  | zero =>
                    intro k hg hq
                    obtain rfl : k = s := by omega
                    refine z_iload h d_M_find_140 rfl ?_
                    refine z_iload_n h d_M_find_142 rfl ?_
                    refine z_icmp_geN (tgt := 172) h d_M_find_143 (by decide) (by omega) (fun c_143 => ?_) (fun c_143 => ?_)
                    · refine z_iload h d_M_find_172 rfl ?_
                      refine z_iload_n h d_M_find_174 rfl ?_
                      refine z_icmp_neN (tgt := 181) h d_M_find_175 (by decide) (by omega) (fun c_175 => ?_) (fun c_175 => ?_)
                      · exact absurd rfl c_175
                      · refine z_iload h d_M_find_178 rfl ?_
                        refine hr.1 _ _ _ _ _ _ (Nat.le_refl _) (Nat.le_refl _) rfl d_M_find_180 ?_
                        rw [hfd]
                        unfold fnd
                        rw [if_pos (win_eq hb0 hps hx hq)]
                        exact ⟨rfl, RS_of hx_119 hbb hbb2 hv hv2⟩
                    · exact absurd c_143 (by omega)
                  | succ g ihg =>
                    intro k hg hq
                    have q1 := hdl v (nd b v - 1 - (p + k))
                    have q2 := hdl x (s - 1 - k)
                    refine z_iload h d_M_find_140 rfl ?_
                    refine z_iload_n h d_M_find_142 rfl ?_
                    refine z_icmp_geN (tgt := 172) h d_M_find_143 (by decide) (by omega) (fun c_143 => ?_) (fun c_143 => ?_)
                    · exact absurd c_143 (by omega)
                    · refine z_aload_n h d_M_find_146 rfl ?_
                      refine z_get (C := R_M) (T := F_M) (N := 10) h 4 d_M_find_147 in_M rfl (by decide) wf_M_23 rfl rfl ?_
                      refine z_iload h d_M_find_150 rfl ?_
                      refine z_iload h d_M_find_152 rfl ?_
                      refine z_iaddN h d_M_find_154 ?_
                      refine z_ialoadN h d_M_find_155 rfl (by omega) ?_
                      rw [hdg (p + k) (by omega)]
                      refine z_aload_n h d_M_find_156 rfl ?_
                      refine z_get (C := R_M) (T := F_M) (N := 10) h 7 d_M_find_157 in_M rfl (by decide) wf_M_26 rfl rfl ?_
                      refine z_iload h d_M_find_160 rfl ?_
                      refine z_ialoadN h d_M_find_162 rfl (by omega) ?_
                      rw [hwd k (by omega)]
                      refine z_icmp_neN (tgt := 172) h d_M_find_163 (by decide) (by omega) (fun c_163 => ?_) (fun c_163 => ?_)
                      · refine z_iload h d_M_find_172 rfl ?_
                        refine z_iload_n h d_M_find_174 rfl ?_
                        refine z_icmp_neN (tgt := 181) h d_M_find_175 (by decide) (by omega) (fun c_175 => ?_) (fun c_175 => ?_)
                        · refine z_iincN h 1 d_M_find_181 rfl (by decide) (by decide) ?_
                          refine z_goto (tgt := 128) h d_M_find_184 (by decide) ?_
                          refine z_lv h rfl (ihf (p + 1) (by omega) (by omega) ?_)
                          rw [hfd]
                          conv => lhs; unfold fnd
                          rw [if_neg (win_ne hb0 (show k < s by omega) hps c_163)]
                        · exact absurd c_175 (by omega)
                      · refine z_iincN h 1 d_M_find_166 rfl (by decide) (by decide) ?_
                        refine z_goto (tgt := 140) h d_M_find_169 (by decide) ?_
                        refine z_lv h rfl (ihg (k + 1) (by omega) (fun q hq2 => ?_))
                        by_cases e : q = k
                        · rw [e]; exact c_163
                        · exact hq q (by omega)
                refine z_iconst (v := nI 0) h d_M_find_137 (by decide) ?_
                refine z_istore h d_M_find_138 (by decide) ?_
                exact z_lv h rfl (I s 0 rfl (fun q hq => absurd hq (by omega)))
          refine z_istore h d_M_find_122 (by decide) ?_
          refine z_iload h d_M_find_124 rfl ?_
          refine z_istore h d_M_find_126 (by decide) ?_
          exact z_lv h rfl (S _ i hi rfl rfl)
        · exact absurd c_113 (by decide)
      · exact absurd c_100 (by omega)
  refine z_iload_n h d_M_find_0 rfl ?_
  refine z_iconst (v := nI 1) h d_M_find_1 (by decide) ?_
  refine z_icmp_ltN (tgt := 22) h d_M_find_2 (by decide) (by omega) (fun c_2 => ?_) (fun c_2 => ?_)
  · exact absurd c_2 (by omega)
  · refine z_iload_n h d_M_find_5 rfl ?_
    refine z_bipush (v := nI 12) h d_M_find_6 (by decide) ?_
    refine z_icmp_gtN (tgt := 22) h d_M_find_8 (by decide) (by omega) (fun c_8 => ?_) (fun c_8 => ?_)
    · exact absurd c_8 (by omega)
    · refine z_lload_n h d_M_find_11 rfl ?_
      refine z_lconst (v := lN 0) h d_M_find_12 (by decide) ?_
      refine z_lcmp_ltN (tgt := 22) h d_M_find_13 d_M_find_14 (by decide) (by omega) (fun c_13 => ?_) (fun c_13 => ?_)
      · exact absurd c_13 (by omega)
      · refine z_iload h d_M_find_17 rfl ?_
        refine z_if_ge (tgt := 26) h d_M_find_19 (by decide) (fun c_19 => ?_) (fun c_19 => ?_)
        · refine z_iconst (v := nI 0) h d_M_find_26 (by decide) ?_
          refine z_istore h d_M_find_27 (by decide) ?_
          refine z_iload h d_M_find_29 rfl ?_
          refine z_if_eqN (tgt := 38) h d_M_find_31 (by decide) (by omega) (fun c_31 => ?_) (fun c_31 => ?_)
          · refine z_lload_n h d_M_find_38 rfl ?_
            refine z_lstore h d_M_find_39 (by decide) ?_
            refine z_iconst (v := nI 0) h d_M_find_41 (by decide) ?_
            refine z_istore h d_M_find_42 (by decide) ?_
            have e9 := L1 s 0 wd rfl (fun j q1 q2 => absurd q1 (by omega)) ?_
            · rw [Nat.pow_zero, Nat.div_one] at e9
              exact z_lv h rfl e9
            · intro u hu
              exact Rest u hu
          · exact absurd rfl c_31
        · exact absurd (Int32.not_lt.mp (show ¬ nI i < 0 from nI_pos hi)) c_19
set_option maxRecDepth 100000 in
set_option maxHeartbeats 4000000 in
theorem mf_M_find2 (v b v2 b2 t x s i : Nat) (w : List va_E) (h0 : RS v b v2 b2 t w) (hx : b ^ s ≤ x) (hx63 : x < 2 ^ 63) (hs : 1 ≤ s ∧ s ≤ 12) (hi : i < 2 ^ 31) : MS y_M_find c_M_find 11 (some .int) (rm 7) [.ref 0, .long (lN x), .int (nI s), .int (nI i)] w (RP 0 v b v2 b2 1) := by
  obtain ⟨d, n, V, lf, m, kn, dg, wd, rfl, hM, hV0, hV1, hK, hbb, hbb2, hv, hv2⟩ := h0
  refine MS_of (own := R_M) (by decide) rfl (fun _ => Nat.le_of_ble_eq_true rfl) (fun Z h hr => ?_)
  obtain ⟨hs1, hs2⟩ := hs
  have hb9 := hbb.2
  have hb0 : 0 < b := by omega
  have L1 : ∀ (f k : Nat) (u : Nat → Nat), f + k = s → (∀ j, s - k ≤ j → j < s → u j = dig b x (s - 1 - j)) → (∀ u', (∀ j, j < s → u' j = dig b x (s - 1 - j)) → Z 0 0 (mW d n lf (G0 b b2 m kn t dg u')) [(0, .ref 0), (1, .long (lN x)), (3, .int (nI s)), (4, .int (nI i)), (5, .int (nI 0)), (6, .long (lN (x / b ^ s)))] 91 []) → Z 0 0 (mW d n lf (G0 b b2 m kn t dg u)) [(0, .ref 0), (1, .long (lN x)), (3, .int (nI s)), (4, .int (nI i)), (5, .int (nI 0)), (6, .long (lN (x / b ^ k))), (8, .int (nI k))] 44 [] := by
    intro f
    induction f with
    | zero =>
      intro k u hf hu kk
      obtain rfl : k = s := by omega
      refine z_iload h d_M_find_44 rfl ?_
      refine z_iload_n h d_M_find_46 rfl ?_
      refine z_icmp_geN (tgt := 91) h d_M_find_47 (by decide) (by omega) (fun c_47 => ?_) (fun c_47 => ?_)
      · exact z_lv h rfl (kk u (fun j hj => hu j (by omega) hj))
      · exact absurd c_47 (by omega)
    | succ f ih =>
      intro k u hf hu kk
      have hxk : x / b ^ k < 2 ^ 63 := Nat.lt_of_le_of_lt (Nat.div_le_self _ _) hx63
      have hs_72 : x / b ^ k < 2 ^ 63 ∧ 0 < b ∧ b < 2 ^ 63 := by omega
      have hs_82 := hs_72
      have hm9 : x / b ^ k % b < b := Nat.mod_lt _ hb0
      refine z_iload h d_M_find_44 rfl ?_
      refine z_iload_n h d_M_find_46 rfl ?_
      refine z_icmp_geN (tgt := 91) h d_M_find_47 (by decide) (by omega) (fun c_47 => ?_) (fun c_47 => ?_)
      · exact absurd c_47 (by omega)
      · refine z_iload h d_M_find_50 rfl ?_
        refine z_if_neN (tgt := 91) h d_M_find_52 (by decide) (by omega) (fun c_52 => ?_) (fun c_52 => ?_)
        · exact absurd rfl c_52
        · refine z_aload_n h d_M_find_55 rfl ?_
          refine z_get (C := R_M) (T := F_M) (N := 10) h 7 d_M_find_56 in_M rfl (by decide) wf_M_26 rfl rfl ?_
          refine z_iload_n h d_M_find_59 rfl ?_
          refine z_iconst (v := nI 1) h d_M_find_60 (by decide) ?_
          refine z_isubN h d_M_find_61 (by omega) ?_
          refine z_iload h d_M_find_62 rfl ?_
          refine z_isubN h d_M_find_64 (by omega) ?_
          refine z_lload h d_M_find_65 rfl ?_
          refine z_aload_n h d_M_find_67 rfl ?_
          refine z_get (C := R_M) (T := F_M) (N := 10) h 2 d_M_find_68 in_M rfl (by decide) wf_M_16 rfl rfl ?_
          refine z_i2lN h d_M_find_71 (by omega) ?_
          refine z_lremN h d_M_find_72 hs_72 ?_
          refine z_l2iN h d_M_find_73 ?_
          refine z_iastoreN h d_M_find_74 rfl (by omega) ?_
          refine z_lload h d_M_find_75 rfl ?_
          refine z_aload_n h d_M_find_77 rfl ?_
          refine z_get (C := R_M) (T := F_M) (N := 10) h 2 d_M_find_78 in_M rfl (by decide) wf_M_16 rfl rfl ?_
          refine z_i2lN h d_M_find_81 (by omega) ?_
          refine z_ldivN h d_M_find_82 hs_82 ?_
          rw [Nat.div_div_eq_div_mul, ← Nat.pow_succ]
          refine z_lstore h d_M_find_83 (by decide) ?_
          refine z_iincN h 1 d_M_find_85 rfl (by decide) (by decide) ?_
          refine z_goto (tgt := 44) h d_M_find_88 (by decide) ?_
          refine z_lv h rfl (ih (k + 1) (un u (s - 1 - k) (x / b ^ k % b)) (by omega) (fun j q1 q2 => ?_) kk)
          by_cases e : j = s - 1 - k
          · subst e
            rw [un_eq, show s - 1 - (s - 1 - k) = k by omega]
            rfl
          · rw [un_ne e]
            exact hu j (by omega) q2
  have Rest : ∀ u, (∀ j, j < s → u j = dig b x (s - 1 - j)) → Z 0 0 (mW d n lf (G0 b b2 m kn t dg u)) [(0, .ref 0), (1, .long (lN x)), (3, .int (nI s)), (4, .int (nI i)), (5, .int (nI 0)), (6, .long (lN (x / b ^ s)))] 91 [] := by
    intro u hu
    have hp : 0 < x / b ^ s := Nat.div_pos hx (Nat.pow_pos hb0)
    have hp2 : x / b ^ s < 2 ^ 63 := Nat.lt_of_le_of_lt (Nat.div_le_self _ _) hx63
    refine z_aload_n h d_M_find_91 rfl ?_
    refine z_iload h d_M_find_92 rfl ?_
    refine z_if_neN (tgt := 104) h d_M_find_94 (by decide) (by omega) (fun c_94 => ?_) (fun c_94 => ?_)
    · exact absurd rfl c_94
    · refine z_lload h d_M_find_97 rfl ?_
      refine z_lconst (v := lN 0) h d_M_find_99 (by decide) ?_
      refine z_lcmp_leN (tgt := 108) h d_M_find_100 d_M_find_101 (by decide) (by omega) (fun c_100 => ?_) (fun c_100 => ?_)
      · exact absurd c_100 (by omega)
      · refine z_iconst (v := nI 1) h d_M_find_104 (by decide) ?_
        refine z_goto (tgt := 109) h d_M_find_105 (by decide) ?_
        refine z_iconst (v := nI 1) h d_M_find_109 (by decide) ?_
        refine z_cM h (ms_M_fails1 d n lf b b2 m kn t 1 dg u) (zf_M_fails (by decide)) wm_M_128 wi_M_fails ws_M_fails d_M_find_110 (Nat.le_of_ble_eq_true rfl) rfl (fun x_110 hx_110 => ?_)
        refine z_if_eqN (tgt := 118) h d_M_find_113 (by decide) (by omega) (fun c_113 => ?_) (fun c_113 => ?_)
        · exact absurd c_113 (by decide)
        · refine z_iconst (v := nI 0) h d_M_find_116 (by decide) ?_
          refine hr.1 _ _ _ _ _ _ (Nat.le_refl _) (Nat.le_refl _) rfl d_M_find_117 ?_
          exact ⟨rfl, d, n, V, lf, m, kn, dg, u, rfl, hM, hV0, hV1, hK, hbb, hbb2, hv, hv2⟩
  refine z_iload_n h d_M_find_0 rfl ?_
  refine z_iconst (v := nI 1) h d_M_find_1 (by decide) ?_
  refine z_icmp_ltN (tgt := 22) h d_M_find_2 (by decide) (by omega) (fun c_2 => ?_) (fun c_2 => ?_)
  · exact absurd c_2 (by omega)
  · refine z_iload_n h d_M_find_5 rfl ?_
    refine z_bipush (v := nI 12) h d_M_find_6 (by decide) ?_
    refine z_icmp_gtN (tgt := 22) h d_M_find_8 (by decide) (by omega) (fun c_8 => ?_) (fun c_8 => ?_)
    · exact absurd c_8 (by omega)
    · refine z_lload_n h d_M_find_11 rfl ?_
      refine z_lconst (v := lN 0) h d_M_find_12 (by decide) ?_
      refine z_lcmp_ltN (tgt := 22) h d_M_find_13 d_M_find_14 (by decide) (by omega) (fun c_13 => ?_) (fun c_13 => ?_)
      · exact absurd c_13 (by omega)
      · refine z_iload h d_M_find_17 rfl ?_
        refine z_if_ge (tgt := 26) h d_M_find_19 (by decide) (fun c_19 => ?_) (fun c_19 => ?_)
        · refine z_iconst (v := nI 0) h d_M_find_26 (by decide) ?_
          refine z_istore h d_M_find_27 (by decide) ?_
          refine z_iload h d_M_find_29 rfl ?_
          refine z_if_eqN (tgt := 38) h d_M_find_31 (by decide) (by omega) (fun c_31 => ?_) (fun c_31 => ?_)
          · refine z_lload_n h d_M_find_38 rfl ?_
            refine z_lstore h d_M_find_39 (by decide) ?_
            refine z_iconst (v := nI 0) h d_M_find_41 (by decide) ?_
            refine z_istore h d_M_find_42 (by decide) ?_
            have e9 := L1 s 0 wd rfl (fun j q1 q2 => absurd q1 (by omega)) ?_
            · rw [Nat.pow_zero, Nat.div_one] at e9
              exact z_lv h rfl e9
            · intro u hu
              exact Rest u hu
          · exact absurd rfl c_31
        · exact absurd (Int32.not_lt.mp (show ¬ nI i < 0 from nI_pos hi)) c_19
set_option maxRecDepth 100000 in
set_option maxHeartbeats 4000000 in
theorem mf_M_find1 (v b v2 b2 t : Nat) (a : Int64) (x y : Int32) (w : List va_E) (h0 : RS v b v2 b2 t w) (hx : x < 1 ∨ 12 < x ∨ a < 0 ∨ y < 0) : MS y_M_find c_M_find 11 (some .int) (rm 7) [.ref 0, .long a, .int x, .int y] w (RP 0 v b v2 b2 1) := by
  obtain ⟨d, n, V, lf, m, kn, dg, wd, rfl, hM, hV0, hV1, hK, hbb, hbb2, hv, hv2⟩ := h0
  refine MS_of (own := R_M) (by decide) rfl (fun _ => Nat.le_of_ble_eq_true rfl) (fun Z h hr => ?_)
  have K : Z 0 0 (mW d n lf (G0 b b2 m kn t dg wd)) [(0, .ref 0), (1, .long a), (3, .int x), (4, .int y), (5, .int (nI 1)), (6, .long (lN 0)), (8, .int (nI 0))] 91 [] := by
    refine z_aload_n h d_M_find_91 rfl ?_
    refine z_iload h d_M_find_92 rfl ?_
    refine z_if_neN (tgt := 104) h d_M_find_94 (by decide) (by omega) (fun c_94 => ?_) (fun c_94 => ?_)
    · refine z_iconst (v := nI 1) h d_M_find_104 (by decide) ?_
      refine z_goto (tgt := 109) h d_M_find_105 (by decide) ?_
      refine z_iconst (v := nI 1) h d_M_find_109 (by decide) ?_
      refine z_cM h (ms_M_fails1 d n lf b b2 m kn t 1 dg wd) (zf_M_fails (by decide)) wm_M_128 wi_M_fails ws_M_fails d_M_find_110 (Nat.le_of_ble_eq_true rfl) rfl (fun x_110 hx_110 => ?_)
      refine z_if_eqN (tgt := 118) h d_M_find_113 (by decide) (by omega) (fun c_113 => ?_) (fun c_113 => ?_)
      · exact absurd c_113 (by decide)
      · refine z_iconst (v := nI 0) h d_M_find_116 (by decide) ?_
        refine hr.1 _ _ _ _ _ _ (Nat.le_refl _) (Nat.le_refl _) rfl d_M_find_117 ?_
        exact ⟨rfl, d, n, V, lf, m, kn, dg, wd, rfl, hM, hV0, hV1, hK, hbb, hbb2, hv, hv2⟩
    · exact absurd c_94 (by decide)
  have T : Z 0 0 (mW d n lf (G0 b b2 m kn t dg wd)) [(0, .ref 0), (1, .long a), (3, .int x), (4, .int y)] 22 [] := by
    refine z_iconst (v := nI 1) h d_M_find_22 (by decide) ?_
    refine z_goto (tgt := 27) h d_M_find_23 (by decide) ?_
    refine z_istore h d_M_find_27 (by decide) ?_
    refine z_iload h d_M_find_29 rfl ?_
    refine z_if_eqN (tgt := 38) h d_M_find_31 (by decide) (by omega) (fun c_31 => ?_) (fun c_31 => ?_)
    · exact absurd c_31 (by decide)
    · refine z_lconst (v := lN 0) h d_M_find_34 (by decide) ?_
      refine z_goto (tgt := 39) h d_M_find_35 (by decide) ?_
      refine z_lstore h d_M_find_39 (by decide) ?_
      refine z_iconst (v := nI 0) h d_M_find_41 (by decide) ?_
      refine z_istore h d_M_find_42 (by decide) ?_
      refine z_iload h d_M_find_44 rfl ?_
      refine z_iload_n h d_M_find_46 rfl ?_
      refine z_icmp_ge (tgt := 91) h d_M_find_47 (by decide) (fun c_47 => ?_) (fun c_47 => ?_)
      · exact z_lv h rfl K
      · refine z_iload h d_M_find_50 rfl ?_
        refine z_if_neN (tgt := 91) h d_M_find_52 (by decide) (by omega) (fun c_52 => ?_) (fun c_52 => ?_)
        · exact z_lv h rfl K
        · exact absurd c_52 (by decide)
  refine z_iload_n h d_M_find_0 rfl ?_
  refine z_iconst (v := 1) h d_M_find_1 (by decide) ?_
  refine z_icmp_lt (tgt := 22) h d_M_find_2 (by decide) (fun c_2 => ?_) (fun c_2 => ?_)
  · exact z_lv h rfl T
  · refine z_iload_n h d_M_find_5 rfl ?_
    refine z_bipush (v := 12) h d_M_find_6 (by decide) ?_
    refine z_icmp_gt (tgt := 22) h d_M_find_8 (by decide) (fun c_8 => ?_) (fun c_8 => ?_)
    · exact z_lv h rfl T
    · refine z_lload_n h d_M_find_11 rfl ?_
      refine z_lconst (v := 0) h d_M_find_12 (by decide) ?_
      refine z_lcmp h d_M_find_13 ?_
      refine z_if_lt (tgt := 22) h d_M_find_14 (by decide) (fun c_14 => ?_) (fun c_14 => ?_)
      · exact z_lv h rfl T
      · refine z_iload h d_M_find_17 rfl ?_
        refine z_if_ge (tgt := 26) h d_M_find_19 (by decide) (fun c_19 => ?_) (fun c_19 => ?_)
        · exfalso
          rcases hx with q | q | q | q
          · exact c_2 q
          · exact c_8 q
          · exact cmp_nlt0 c_14 q
          · exact absurd q (Int32.not_lt.mpr c_19)
        · exact z_lv h rfl T
