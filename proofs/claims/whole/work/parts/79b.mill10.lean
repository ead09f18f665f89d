/-! DigitMill: makeConstant, mill -/
abbrev is28 : List Nat := [0, 1, 2, 3, 4, 5, 6, 7, 8, 9, 10, 11, 12, 13, 14, 15, 16, 17, 18, 19, 20, 21, 22, 23, 24, 25, 26, 27]
abbrev isR : List Nat := [18, 19, 20, 21, 22, 23, 24, 25, 26, 27]
theorem zfd28 : zfd is28 = fun i => i := funext fun j => by
  unfold zfd
  by_cases h : j < 28
  · revert h
    revert j
    decide
  · rw [List.getD_eq_getElem?_getD, List.getElem?_eq_none (by simpa using h)]
    rfl
theorem map28 {w' : List va_E} : w'.map (zE (fun i => i) (zfd is28)) = w' := by
  conv => rhs; rw [← List.map_id w']
  exact List.map_congr_left fun x _ => by rw [zfd28, zE_id]; rfl
theorem put28 {w w' : List va_E} (h : w.length = 28) (h' : w'.length = 28) : zput w is28 (w'.map (zE (fun i => i) (zfd is28))) = w' := by
  rw [map28]
  apply List.ext_getElem?
  intro k
  by_cases hk : k < 28
  · have h1 : is28[k]? = some k := by
      revert hk
      revert k
      decide
    obtain ⟨x, hx⟩ : ∃ x, w'[k]? = some x := ⟨_, List.getElem?_eq_getElem (by omega)⟩
    rw [zput_at is28 w w' k k x (va_nd_inj is28 (by decide)) h1 hx (by omega), hx]
  · rw [List.getElem?_eq_none (by rw [zput_len]; omega), List.getElem?_eq_none (by omega)]
theorem hw28 {w : List va_E} (h : w.length = 28) : is28.map (fun i => w[i]?) = w.map (fun e => some (zE (fun i => i) (zfd is28) e)) := by
  rw [show w.map (fun e => some (zE (fun i => i) (zfd is28) e)) = (w.map (zE (fun i => i) (zfd is28))).map some by rw [List.map_map]; rfl, map28]
  apply List.ext_getElem?
  intro k
  rw [List.getElem?_map, List.getElem?_map]
  by_cases hk : k < 28
  · have h1 : is28[k]? = some k := by
      revert hk
      revert k
      decide
    rw [h1]
    show some (w[k]?) = Option.map some (w[k]?)
    rw [List.getElem?_eq_getElem (by omega)]
    rfl
  · rw [List.getElem?_eq_none (by show (28 : Nat) ≤ k; omega), List.getElem?_eq_none (by omega)]
    rfl
/-- the series' cells, at their places -/
abbrev sS (D : Nat) (r : Nat → Nat → Nat) (dp : Nat → Nat) (wk sm : Nat → Int) : List va_E := (sX D r dp wk sm).map (zE (fun i => i) (zfn isR))
theorem Rp_drop {N s k v : Nat} {a : Nat → Nat} (h : Rp 1073741824 N a s v) : Rp 1073741824 N (va_cpy a a (s - (s - k)) 0 (s - k)) (s - k) (v / 1073741824 ^ k) := by
  refine ⟨by have := h.1; omega, fun j => ?_, drop_nv (N := N) h.2.1 h.2.2.1, ?_⟩
  · unfold va_cpy
    split
    · exact h.2.1 _
    · exact h.2.1 _
  · by_cases q : s - k = 0
    · exact Or.inl q
    · right
      rcases h.2.2.2 with p | p
      · omega
      · rw [Nat.le_div_iff_mul_le (Nat.pow_pos (by decide)), ← Nat.pow_add, show s - k - 1 + k = s - 1 by omega]
        exact p
theorem rs_fit {R b n D : Nat} (hR : R < 1073741824 ^ (D + 1)) (hD : D ≤ 704) (hbn : b ^ n ≤ 2 ^ 20000) : R * b ^ n < 1073741824 ^ 1400 := by
  have h0 : R < 2 ^ (30 * (D + 1)) := by rw [← p30]; exact hR
  rw [p30]
  have e1 : R * b ^ n ≤ R * 2 ^ 20000 := Nat.mul_le_mul_left R hbn
  have e2 : R * 2 ^ 20000 < 2 ^ (30 * (D + 1)) * 2 ^ 20000 := Nat.mul_lt_mul_of_pos_right h0 (Nat.pow_pos (by decide))
  rw [← Nat.pow_add] at e2
  exact Nat.lt_of_le_of_lt e1 (Nat.lt_of_lt_of_le e2 (Nat.pow_le_pow_right (by decide) (by omega)))
set_option maxRecDepth 100000 in
set_option maxHeartbeats 4000000 in
theorem ms_D_makeConstant0 (n b' ans Q : Nat) (c G1 G2 GE HL HC : Nat → Nat) (b gu pg dg td s : Nat) (a g pw : Nat → Nat) (b2 gu2 pg2 dg2 td2 s2 : Nat) (a2 g2 pw2 : Nat → Nat) (sl sr sq : Nat) (l r q : Nat → Nat) (D : Nat) (rr : Nat → Nat → Nat) (dp : Nat → Nat) (wk sm : Nat → Int) (hm : Mst Q c G1 G2 GE HL HC) (hI : SI Q c rr dp) (hn : n ≤ 6000) (hb : 2 ≤ b' ∧ b' < 37) (hnb : n * bl (b' - 1) ≤ 20000) (hq : okL sq q) (hans : ∀ D R, n * bl (b' - 1) + 31 + 60 ≤ 30 * D → D ≤ 704 → (((R : Nat) : Int) * Q - ((c 0 : Nat) : Int) * (1073741824 ^ D : Nat)).natAbs ≤ 2147483648 * Q → R * b' ^ n / 1073741824 ^ D = ans) : MS y_D_makeConstant c_D_makeConstant 9 none (rm 8) [.ref 0, .int (nI 0), .int (nI n), .int (nI b')] (dW b gu pg dg td s a g pw b2 gu2 pg2 dg2 td2 s2 a2 g2 pw2 sl sr sq l r q (sS D rr dp wk sm)) (zP (X := Nat × (Nat → Nat) × XS) (fun _ => none) (fun x => dW b gu pg dg td s a g pw b2 gu2 pg2 dg2 td2 s2 a2 g2 pw2 sl sr x.1 l r x.2.1 (sS x.2.2.1 x.2.2.2.1 x.2.2.2.2.1 x.2.2.2.2.2.1 x.2.2.2.2.2.2)) (fun x => Rp 1073741824 1400 x.2.1 x.1 ans ∧ SI Q c x.2.2.2.1 x.2.2.2.2.1)) := by
  refine MS_of (own := R_D) (by decide) rfl (fun _ => Nat.le_of_ble_eq_true rfl) (fun Z h hr => ?_)
  have hbn := bn_le hb.1 hnb
  have hb9 := hb.2
  obtain ⟨un', hun⟩ : ∃ x, x = (n * bl (b' - 1) + 31 + 30 - 1) / 30 := ⟨_, rfl⟩
  have hnb36 := nb_lt hn hb
  have L : ∀ (f wn su : Nat) (sq : Nat) (q : Nat → Nat) (D : Nat) (rr : Nat → Nat → Nat) (dp : Nat → Nat) (wk sm : Nat → Int), 704 < wn + 8 * f → wn ≤ 720 → un' + 2 ≤ wn → su ≤ 1 → okL sq q → SI Q c rr dp → ((su = 0 ∧ wn ≤ 704) ∨ Rp 1073741824 1400 q sq ans) → Z 0 0 (dW b gu pg dg td s a g pw b2 gu2 pg2 dg2 td2 s2 a2 g2 pw2 sl sr sq l r q (sS D rr dp wk sm)) [(0, .ref 0), (1, .int (nI 0)), (2, .int (nI n)), (3, .int (nI b')), (5, .int (nI un')), (6, .int (nI su)), (7, .int (nI wn))] 32 [] := by
    intro f
    induction f with
    | zero =>
      intro wn su sq q D rr dp wk sm hf hwn hwu hsu hq hI hor
      have hRp : Rp 1073741824 1400 q sq ans := by
        rcases hor with p | p
        · omega
        · exact p
      refine z_iload h d_D_makeConstant_32 rfl ?_
      refine z_if_neN (tgt := 125) h d_D_makeConstant_34 (by decide) (by omega) (fun c_34 => ?_) (fun c_34 => ?_)
      · refine hr.2.2.2.1 _ _ _ _ _ (Nat.le_refl _) (Nat.le_refl _) rfl d_D_makeConstant_125 ?_
        exact ⟨(sq, q, D, rr, dp, wk, sm), rfl, rfl, hRp, hI⟩
      · refine z_iload h d_D_makeConstant_37 rfl ?_
        refine z_sipush (v := nI 704) h d_D_makeConstant_39 (by decide) ?_
        refine z_icmp_gtN (tgt := 125) h d_D_makeConstant_42 (by decide) (by omega) (fun c_42 => ?_) (fun c_42 => ?_)
        · refine hr.2.2.2.1 _ _ _ _ _ (Nat.le_refl _) (Nat.le_refl _) rfl d_D_makeConstant_125 ?_
          exact ⟨(sq, q, D, rr, dp, wk, sm), rfl, rfl, hRp, hI⟩
        · exact absurd c_42 (by omega)
    | succ f ih =>
      intro wn su sq q D rr dp wk sm hf hwn hwu hsu hq hI hor
      refine z_iload h d_D_makeConstant_32 rfl ?_
      refine z_if_neN (tgt := 125) h d_D_makeConstant_34 (by decide) (by omega) (fun c_34 => ?_) (fun c_34 => ?_)
      · refine hr.2.2.2.1 _ _ _ _ _ (Nat.le_refl _) (Nat.le_refl _) rfl d_D_makeConstant_125 ?_
        refine ⟨(sq, q, D, rr, dp, wk, sm), rfl, rfl, ?_, hI⟩
        rcases hor with p | p
        · exact absurd p.1 c_34
        · exact p
      · refine z_iload h d_D_makeConstant_37 rfl ?_
        refine z_sipush (v := nI 704) h d_D_makeConstant_39 (by decide) ?_
        refine z_icmp_gtN (tgt := 125) h d_D_makeConstant_42 (by decide) (by omega) (fun c_42 => ?_) (fun c_42 => ?_)
        · refine hr.2.2.2.1 _ _ _ _ _ (Nat.le_refl _) (Nat.le_refl _) rfl d_D_makeConstant_125 ?_
          refine ⟨(sq, q, D, rr, dp, wk, sm), rfl, rfl, ?_, hI⟩
          rcases hor with p | p
          · exact absurd p.2 (by omega)
          · exact p
        · refine z_aload_n h d_D_makeConstant_45 rfl ?_
          refine z_get (C := R_D) (T := F_D) (N := 4) h 3 d_D_makeConstant_46 in_D rfl (by decide) wf_D_29 rfl rfl ?_
          refine z_iload_n h d_D_makeConstant_49 rfl ?_
          refine z_iload h d_D_makeConstant_50 rfl ?_
          refine z_cV (C := R_S) (ci := 1) h (ms_S_reach0 D Q wn c G1 G2 GE HL HC rr dp wk sm hm hI (by omega)) (zf_S_reach (by decide)) wm_D_217 wi_S_reach ws_S_reach rfl ⟨_, rfl⟩ d_D_makeConstant_52 isR (by decide) rfl (Nat.le_of_ble_eq_true rfl) rfl (fun _ => rfl) (fun x_52 hx_52 => ?_)
          obtain ⟨hI2, hw2⟩ := hx_52
          obtain ⟨D2, r2, dp2, wk2, sm2⟩ := x_52
          show Z 0 0 (dW b gu pg dg td s a g pw b2 gu2 pg2 dg2 td2 s2 a2 g2 pw2 sl sr sq l r q (sS D2 r2 dp2 wk2 sm2)) _ _ _
          replace hI2 : SI Q c r2 dp2 := hI2
          replace hw2 : wn ≤ dp2 0 := hw2
          have hR := hI2 0 (by decide)
          have hd704 := hR.1
          show Z 0 0 (dW b gu pg dg td s a g pw b2 gu2 pg2 dg2 td2 s2 a2 g2 pw2 sl sr sq l r q (sS D2 r2 dp2 wk2 sm2)) _ _ (.int (nI (dp2 0)) :: [])
          have hval := hR.2.2 (by omega)
          generalize hDD : dp2 0 = DD at *
          have hrd : ∀ j, r2 0 j < 2 ^ 31 := fun j => Nat.lt_trans (hR.2.1 j) (by decide)
          refine z_istore h d_D_makeConstant_55 (by decide) ?_
          refine z_aload_n h d_D_makeConstant_57 rfl ?_
          refine z_get (C := R_D) (T := F_D) (N := 4) h 2 d_D_makeConstant_58 in_D rfl (by decide) wf_D_22 rfl rfl ?_
          refine z_getN (C := R_B) (T := F_B) (N := 3) h 2 d_D_makeConstant_61 in_B rfl (by decide) wf_D_54 rfl rfl ?_
          refine z_aload_n h d_D_makeConstant_64 rfl ?_
          refine z_get (C := R_D) (T := F_D) (N := 4) h 3 d_D_makeConstant_65 in_D rfl (by decide) wf_D_29 rfl rfl ?_
          refine z_iload_n h d_D_makeConstant_68 rfl ?_
          refine z_cV (C := R_S) (ci := 1) h (ms_S_row0 D2 r2 dp2 wk2 sm2) (zf_S_row (by decide)) wm_D_221 wi_S_row ws_S_row rfl ⟨_, rfl⟩ d_D_makeConstant_69 isR (by decide) rfl (Nat.le_of_ble_eq_true rfl) rfl (fun _ => rfl) (fun x_69 hx_69 => ?_)
          show Z 0 0 (dW b gu pg dg td s a g pw b2 gu2 pg2 dg2 td2 s2 a2 g2 pw2 sl sr sq l r q (sS D2 r2 dp2 wk2 sm2)) _ _ (.ref 20 :: .ref 16 :: [])
          refine z_iload h d_D_makeConstant_72 rfl ?_
          refine z_iconst (v := nI 1) h d_D_makeConstant_74 (by decide) ?_
          refine z_iaddN h d_D_makeConstant_75 ?_
          refine z_cV (C := R_H) (ci := 3) h (ms_H_load 1400 sq 705 (DD + 1) q (r2 0) (by decide) (by decide) (by omega) (fun j => Nat.lt_trans (hq.2 j) (by decide)) hrd) (zf_H_load (by decide)) wm_D_225 wi_H_load ws_H_load rfl ⟨_, rfl⟩ d_D_makeConstant_76 [16, 17, 20] (by decide) rfl (Nat.le_of_ble_eq_true rfl) rfl (fun _ => rfl) (fun x_76 hx_76 => ?_)
          show Z 0 0 (dW b gu pg dg td s a g pw b2 gu2 pg2 dg2 td2 s2 a2 g2 pw2 sl sr (trm (va_cpy (r2 0) q 0 0 (DD + 1)) (DD + 1)) l r (va_cpy (r2 0) q 0 0 (DD + 1)) (sS D2 r2 dp2 wk2 sm2)) _ _ _
          have hcp : ∀ j, va_cpy (r2 0) q 0 0 (DD + 1) j < 1073741824 := fun j => by
            unfold va_cpy
            split
            · exact hR.2.1 _
            · exact hq.2 _
          have hnvc : nv 1073741824 (va_cpy (r2 0) q 0 0 (DD + 1)) (DD + 1) = nv 1073741824 (r2 0) (DD + 1) := nv_congr fun j hj => by
            unfold va_cpy
            rw [if_pos (by omega)]
            congr 1
            omega
          have hRp := Rp_trm (N := 1400) (show DD + 1 ≤ 1400 by omega) hcp hnvc
          generalize va_cpy (r2 0) q 0 0 (DD + 1) = q1 at *
          generalize trm q1 (DD + 1) = sq1 at *
          have hRlt : nv 1073741824 (r2 0) (DD + 1) < 1073741824 ^ (DD + 1) := nv_lt (fun j _ => hR.2.1 j)
          generalize hRE : nv 1073741824 (r2 0) (DD + 1) = R at *
          have ha := hans DD R (by omega) hd704 hval
          refine z_aload_n h d_D_makeConstant_79 rfl ?_
          refine z_get (C := R_D) (T := F_D) (N := 4) h 2 d_D_makeConstant_80 in_D rfl (by decide) wf_D_22 rfl rfl ?_
          refine z_getN (C := R_B) (T := F_B) (N := 3) h 2 d_D_makeConstant_83 in_B rfl (by decide) wf_D_54 rfl rfl ?_
          refine z_iload_n h d_D_makeConstant_86 rfl ?_
          refine z_iload_n h d_D_makeConstant_87 rfl ?_
          refine z_cV (C := R_H) (ci := 3) h (ms_H_raise 1400 sq1 R b' n q1 (by decide) hRp hb (by omega) (rs_fit hRlt hd704 hbn)) (zf_H_raise (by decide)) wm_D_79 wi_H_raise ws_H_raise rfl ⟨_, rfl⟩ d_D_makeConstant_88 [16, 17] (by decide) rfl (Nat.le_of_ble_eq_true rfl) rfl (fun _ => rfl) (fun x_88 hx_88 => ?_)
          obtain ⟨q2, sq2⟩ := x_88
          replace hx_88 : Rp 1073741824 1400 q2 sq2 (R * b' ^ n) := hx_88
          show Z 0 0 (dW b gu pg dg td s a g pw b2 gu2 pg2 dg2 td2 s2 a2 g2 pw2 sl sr sq2 l r q2 (sS D2 r2 dp2 wk2 sm2)) _ _ _
          refine z_aload_n h d_D_makeConstant_91 rfl ?_
          refine z_get (C := R_D) (T := F_D) (N := 4) h 2 d_D_makeConstant_92 in_D rfl (by decide) wf_D_22 rfl rfl ?_
          refine z_getN (C := R_B) (T := F_B) (N := 3) h 2 d_D_makeConstant_95 in_B rfl (by decide) wf_D_54 rfl rfl ?_
          refine z_iload h d_D_makeConstant_98 rfl ?_
          refine z_iload h d_D_makeConstant_100 rfl ?_
          refine z_cV (C := R_H) (ci := 3) h (ms_H_absorbsCarry 1400 sq2 un' DD q2 (by decide) hx_88.1 hx_88.2.1 (by omega)) (zf_H_absorbsCarry (by decide)) wm_D_229 wi_H_absorbsCarry ws_H_absorbsCarry rfl ⟨_, rfl⟩ d_D_makeConstant_102 [16, 17] (by decide) rfl (Nat.le_of_ble_eq_true rfl) rfl (fun _ => rfl) (fun x_102 hx_102 => ?_)
          show Z 0 0 (dW b gu pg dg td s a g pw b2 gu2 pg2 dg2 td2 s2 a2 g2 pw2 sl sr sq2 l r q2 (sS D2 r2 dp2 wk2 sm2)) _ _ (.int (nI x_102) :: [])
          have hsu2 : x_102 ≤ 1 := by
            rcases hx_102 with p | p
            · have := p.1; omega
            · have := p.1; omega
          refine z_istore h d_D_makeConstant_105 (by decide) ?_
          refine z_aload_n h d_D_makeConstant_107 rfl ?_
          refine z_get (C := R_D) (T := F_D) (N := 4) h 2 d_D_makeConstant_108 in_D rfl (by decide) wf_D_22 rfl rfl ?_
          refine z_getN (C := R_B) (T := F_B) (N := 3) h 2 d_D_makeConstant_111 in_B rfl (by decide) wf_D_54 rfl rfl ?_
          refine z_iload h d_D_makeConstant_114 rfl ?_
          refine z_cV (C := R_H) (ci := 3) h (ms_H_drop 1400 sq2 DD q2 (by decide) hx_88.1 (by omega)) (zf_H_drop (by decide)) wm_D_233 wi_H_drop ws_H_drop rfl ⟨_, rfl⟩ d_D_makeConstant_116 [16, 17] (by decide) rfl (Nat.le_of_ble_eq_true rfl) rfl (fun _ => rfl) (fun x_116 hx_116 => ?_)
          have hfin := Rp_drop (k := DD) hx_88
          rw [ha] at hfin
          show Z 0 0 (dW b gu pg dg td s a g pw b2 gu2 pg2 dg2 td2 s2 a2 g2 pw2 sl sr (sq2 - DD) l r (va_cpy q2 q2 (sq2 - (sq2 - DD)) 0 (sq2 - DD)) (sS D2 r2 dp2 wk2 sm2)) _ _ _
          refine z_iincN h 8 d_D_makeConstant_119 rfl (by decide) (by decide) ?_
          refine z_goto (tgt := 32) h d_D_makeConstant_122 (by decide) ?_
          exact z_lv h rfl (ih (wn + 8) x_102 _ _ D2 r2 dp2 wk2 sm2 (by omega) (by omega) (by omega) hsu2 ⟨hfin.1, hfin.2.1⟩ hI2 (Or.inr hfin))
  refine z_iload_n h d_D_makeConstant_0 rfl ?_
  refine z_iload_n h d_D_makeConstant_1 rfl ?_
  refine z_cS h (ms_D_bitsPerDigit b' (by omega)) (zf_D_bitsPerDigit (by decide)) wm_D_192 wt_D_bitsPerDigit d_D_makeConstant_2 [] (by decide) rfl (Nat.le_of_ble_eq_true rfl) rfl (fun _ => rfl) (fun x_2 hx_2 => ?_)
  rw [zput_nil]
  refine z_imulN h d_D_makeConstant_5 ?_
  refine z_bipush (v := nI 31) h d_D_makeConstant_6 (by decide) ?_
  refine z_iaddN h d_D_makeConstant_8 ?_
  refine z_istore h d_D_makeConstant_9 (by decide) ?_
  refine z_iload h d_D_makeConstant_11 rfl ?_
  refine z_bipush (v := nI 30) h d_D_makeConstant_13 (by decide) ?_
  refine z_iaddN h d_D_makeConstant_15 ?_
  refine z_iconst (v := nI 1) h d_D_makeConstant_16 (by decide) ?_
  refine z_isubN h d_D_makeConstant_17 (by omega) ?_
  refine z_bipush (v := nI 30) h d_D_makeConstant_18 (by decide) ?_
  refine z_idivN h d_D_makeConstant_20 (by omega) ?_
  rw [← hun]
  refine z_istore h d_D_makeConstant_21 (by decide) ?_
  refine z_iconst (v := nI 0) h d_D_makeConstant_23 (by decide) ?_
  refine z_istore h d_D_makeConstant_24 (by decide) ?_
  refine z_iload h d_D_makeConstant_26 rfl ?_
  refine z_iconst (v := nI 2) h d_D_makeConstant_28 (by decide) ?_
  refine z_iaddN h d_D_makeConstant_29 ?_
  refine z_istore h d_D_makeConstant_30 (by decide) ?_
  exact z_lv h rfl (L 90 (un' + 2) 0 sq q D rr dp wk sm (by omega) (by omega) (by omega) (by omega) hq hI (Or.inl ⟨rfl, by omega⟩))
set_option maxRecDepth 100000 in
set_option maxHeartbeats 4000000 in
theorem ms_D_makeConstant1 (n b' ans Q : Nat) (c G1 G2 GE HL HC : Nat → Nat) (b gu pg dg td s : Nat) (a g pw : Nat → Nat) (b2 gu2 pg2 dg2 td2 s2 : Nat) (a2 g2 pw2 : Nat → Nat) (sl sr sq : Nat) (l r q : Nat → Nat) (D : Nat) (rr : Nat → Nat → Nat) (dp : Nat → Nat) (wk sm : Nat → Int) (hm : Mst Q c G1 G2 GE HL HC) (hI : SI Q c rr dp) (hn : n ≤ 6000) (hb : 2 ≤ b' ∧ b' < 37) (hnb : n * bl (b' - 1) ≤ 20000) (hq : okL sq q) (hans : ∀ D R, n * bl (b' - 1) + 31 + 60 ≤ 30 * D → D ≤ 704 → (((R : Nat) : Int) * Q - ((c 1 : Nat) : Int) * (1073741824 ^ D : Nat)).natAbs ≤ 2147483648 * Q → R * b' ^ n / 1073741824 ^ D = ans) : MS y_D_makeConstant c_D_makeConstant 9 none (rm 8) [.ref 0, .int (nI 1), .int (nI n), .int (nI b')] (dW b gu pg dg td s a g pw b2 gu2 pg2 dg2 td2 s2 a2 g2 pw2 sl sr sq l r q (sS D rr dp wk sm)) (zP (X := Nat × (Nat → Nat) × XS) (fun _ => none) (fun x => dW b gu pg dg td s a g pw b2 gu2 pg2 dg2 td2 s2 a2 g2 pw2 sl sr x.1 l r x.2.1 (sS x.2.2.1 x.2.2.2.1 x.2.2.2.2.1 x.2.2.2.2.2.1 x.2.2.2.2.2.2)) (fun x => Rp 1073741824 1400 x.2.1 x.1 ans ∧ SI Q c x.2.2.2.1 x.2.2.2.2.1)) := by
  refine MS_of (own := R_D) (by decide) rfl (fun _ => Nat.le_of_ble_eq_true rfl) (fun Z h hr => ?_)
  have hbn := bn_le hb.1 hnb
  have hb9 := hb.2
  obtain ⟨un', hun⟩ : ∃ x, x = (n * bl (b' - 1) + 31 + 30 - 1) / 30 := ⟨_, rfl⟩
  have hnb36 := nb_lt hn hb
  have L : ∀ (f wn su : Nat) (sq : Nat) (q : Nat → Nat) (D : Nat) (rr : Nat → Nat → Nat) (dp : Nat → Nat) (wk sm : Nat → Int), 704 < wn + 8 * f → wn ≤ 720 → un' + 2 ≤ wn → su ≤ 1 → okL sq q → SI Q c rr dp → ((su = 0 ∧ wn ≤ 704) ∨ Rp 1073741824 1400 q sq ans) → Z 0 0 (dW b gu pg dg td s a g pw b2 gu2 pg2 dg2 td2 s2 a2 g2 pw2 sl sr sq l r q (sS D rr dp wk sm)) [(0, .ref 0), (1, .int (nI 1)), (2, .int (nI n)), (3, .int (nI b')), (5, .int (nI un')), (6, .int (nI su)), (7, .int (nI wn))] 32 [] := by
    intro f
    induction f with
    | zero =>
      intro wn su sq q D rr dp wk sm hf hwn hwu hsu hq hI hor
      have hRp : Rp 1073741824 1400 q sq ans := by
        rcases hor with p | p
        · omega
        · exact p
      refine z_iload h d_D_makeConstant_32 rfl ?_
      refine z_if_neN (tgt := 125) h d_D_makeConstant_34 (by decide) (by omega) (fun c_34 => ?_) (fun c_34 => ?_)
      · refine hr.2.2.2.1 _ _ _ _ _ (Nat.le_refl _) (Nat.le_refl _) rfl d_D_makeConstant_125 ?_
        exact ⟨(sq, q, D, rr, dp, wk, sm), rfl, rfl, hRp, hI⟩
      · refine z_iload h d_D_makeConstant_37 rfl ?_
        refine z_sipush (v := nI 704) h d_D_makeConstant_39 (by decide) ?_
        refine z_icmp_gtN (tgt := 125) h d_D_makeConstant_42 (by decide) (by omega) (fun c_42 => ?_) (fun c_42 => ?_)
        · refine hr.2.2.2.1 _ _ _ _ _ (Nat.le_refl _) (Nat.le_refl _) rfl d_D_makeConstant_125 ?_
          exact ⟨(sq, q, D, rr, dp, wk, sm), rfl, rfl, hRp, hI⟩
        · exact absurd c_42 (by omega)
    | succ f ih =>
      intro wn su sq q D rr dp wk sm hf hwn hwu hsu hq hI hor
      refine z_iload h d_D_makeConstant_32 rfl ?_
      refine z_if_neN (tgt := 125) h d_D_makeConstant_34 (by decide) (by omega) (fun c_34 => ?_) (fun c_34 => ?_)
      · refine hr.2.2.2.1 _ _ _ _ _ (Nat.le_refl _) (Nat.le_refl _) rfl d_D_makeConstant_125 ?_
        refine ⟨(sq, q, D, rr, dp, wk, sm), rfl, rfl, ?_, hI⟩
        rcases hor with p | p
        · exact absurd p.1 c_34
        · exact p
      · refine z_iload h d_D_makeConstant_37 rfl ?_
        refine z_sipush (v := nI 704) h d_D_makeConstant_39 (by decide) ?_
        refine z_icmp_gtN (tgt := 125) h d_D_makeConstant_42 (by decide) (by omega) (fun c_42 => ?_) (fun c_42 => ?_)
        · refine hr.2.2.2.1 _ _ _ _ _ (Nat.le_refl _) (Nat.le_refl _) rfl d_D_makeConstant_125 ?_
          refine ⟨(sq, q, D, rr, dp, wk, sm), rfl, rfl, ?_, hI⟩
          rcases hor with p | p
          · exact absurd p.2 (by omega)
          · exact p
        · refine z_aload_n h d_D_makeConstant_45 rfl ?_
          refine z_get (C := R_D) (T := F_D) (N := 4) h 3 d_D_makeConstant_46 in_D rfl (by decide) wf_D_29 rfl rfl ?_
          refine z_iload_n h d_D_makeConstant_49 rfl ?_
          refine z_iload h d_D_makeConstant_50 rfl ?_
          refine z_cV (C := R_S) (ci := 1) h (ms_S_reach1 D Q wn c G1 G2 GE HL HC rr dp wk sm hm hI (by omega)) (zf_S_reach (by decide)) wm_D_217 wi_S_reach ws_S_reach rfl ⟨_, rfl⟩ d_D_makeConstant_52 isR (by decide) rfl (Nat.le_of_ble_eq_true rfl) rfl (fun _ => rfl) (fun x_52 hx_52 => ?_)
          obtain ⟨hI2, hw2⟩ := hx_52
          obtain ⟨D2, r2, dp2, wk2, sm2⟩ := x_52
          show Z 0 0 (dW b gu pg dg td s a g pw b2 gu2 pg2 dg2 td2 s2 a2 g2 pw2 sl sr sq l r q (sS D2 r2 dp2 wk2 sm2)) _ _ _
          replace hI2 : SI Q c r2 dp2 := hI2
          replace hw2 : wn ≤ dp2 1 := hw2
          have hR := hI2 1 (by decide)
          have hd704 := hR.1
          show Z 0 0 (dW b gu pg dg td s a g pw b2 gu2 pg2 dg2 td2 s2 a2 g2 pw2 sl sr sq l r q (sS D2 r2 dp2 wk2 sm2)) _ _ (.int (nI (dp2 1)) :: [])
          have hval := hR.2.2 (by omega)
          generalize hDD : dp2 1 = DD at *
          have hrd : ∀ j, r2 1 j < 2 ^ 31 := fun j => Nat.lt_trans (hR.2.1 j) (by decide)
          refine z_istore h d_D_makeConstant_55 (by decide) ?_
          refine z_aload_n h d_D_makeConstant_57 rfl ?_
          refine z_get (C := R_D) (T := F_D) (N := 4) h 2 d_D_makeConstant_58 in_D rfl (by decide) wf_D_22 rfl rfl ?_
          refine z_getN (C := R_B) (T := F_B) (N := 3) h 2 d_D_makeConstant_61 in_B rfl (by decide) wf_D_54 rfl rfl ?_
          refine z_aload_n h d_D_makeConstant_64 rfl ?_
          refine z_get (C := R_D) (T := F_D) (N := 4) h 3 d_D_makeConstant_65 in_D rfl (by decide) wf_D_29 rfl rfl ?_
          refine z_iload_n h d_D_makeConstant_68 rfl ?_
          refine z_cV (C := R_S) (ci := 1) h (ms_S_row1 D2 r2 dp2 wk2 sm2) (zf_S_row (by decide)) wm_D_221 wi_S_row ws_S_row rfl ⟨_, rfl⟩ d_D_makeConstant_69 isR (by decide) rfl (Nat.le_of_ble_eq_true rfl) rfl (fun _ => rfl) (fun x_69 hx_69 => ?_)
          show Z 0 0 (dW b gu pg dg td s a g pw b2 gu2 pg2 dg2 td2 s2 a2 g2 pw2 sl sr sq l r q (sS D2 r2 dp2 wk2 sm2)) _ _ (.ref 21 :: .ref 16 :: [])
          refine z_iload h d_D_makeConstant_72 rfl ?_
          refine z_iconst (v := nI 1) h d_D_makeConstant_74 (by decide) ?_
          refine z_iaddN h d_D_makeConstant_75 ?_
          refine z_cV (C := R_H) (ci := 3) h (ms_H_load 1400 sq 705 (DD + 1) q (r2 1) (by decide) (by decide) (by omega) (fun j => Nat.lt_trans (hq.2 j) (by decide)) hrd) (zf_H_load (by decide)) wm_D_225 wi_H_load ws_H_load rfl ⟨_, rfl⟩ d_D_makeConstant_76 [16, 17, 21] (by decide) rfl (Nat.le_of_ble_eq_true rfl) rfl (fun _ => rfl) (fun x_76 hx_76 => ?_)
          show Z 0 0 (dW b gu pg dg td s a g pw b2 gu2 pg2 dg2 td2 s2 a2 g2 pw2 sl sr (trm (va_cpy (r2 1) q 0 0 (DD + 1)) (DD + 1)) l r (va_cpy (r2 1) q 0 0 (DD + 1)) (sS D2 r2 dp2 wk2 sm2)) _ _ _
          have hcp : ∀ j, va_cpy (r2 1) q 0 0 (DD + 1) j < 1073741824 := fun j => by
            unfold va_cpy
            split
            · exact hR.2.1 _
            · exact hq.2 _
          have hnvc : nv 1073741824 (va_cpy (r2 1) q 0 0 (DD + 1)) (DD + 1) = nv 1073741824 (r2 1) (DD + 1) := nv_congr fun j hj => by
            unfold va_cpy
            rw [if_pos (by omega)]
            congr 1
            omega
          have hRp := Rp_trm (N := 1400) (show DD + 1 ≤ 1400 by omega) hcp hnvc
          generalize va_cpy (r2 1) q 0 0 (DD + 1) = q1 at *
          generalize trm q1 (DD + 1) = sq1 at *
          have hRlt : nv 1073741824 (r2 1) (DD + 1) < 1073741824 ^ (DD + 1) := nv_lt (fun j _ => hR.2.1 j)
          generalize hRE : nv 1073741824 (r2 1) (DD + 1) = R at *
          have ha := hans DD R (by omega) hd704 hval
          refine z_aload_n h d_D_makeConstant_79 rfl ?_
          refine z_get (C := R_D) (T := F_D) (N := 4) h 2 d_D_makeConstant_80 in_D rfl (by decide) wf_D_22 rfl rfl ?_
          refine z_getN (C := R_B) (T := F_B) (N := 3) h 2 d_D_makeConstant_83 in_B rfl (by decide) wf_D_54 rfl rfl ?_
          refine z_iload_n h d_D_makeConstant_86 rfl ?_
          refine z_iload_n h d_D_makeConstant_87 rfl ?_
          refine z_cV (C := R_H) (ci := 3) h (ms_H_raise 1400 sq1 R b' n q1 (by decide) hRp hb (by omega) (rs_fit hRlt hd704 hbn)) (zf_H_raise (by decide)) wm_D_79 wi_H_raise ws_H_raise rfl ⟨_, rfl⟩ d_D_makeConstant_88 [16, 17] (by decide) rfl (Nat.le_of_ble_eq_true rfl) rfl (fun _ => rfl) (fun x_88 hx_88 => ?_)
          obtain ⟨q2, sq2⟩ := x_88
          replace hx_88 : Rp 1073741824 1400 q2 sq2 (R * b' ^ n) := hx_88
          show Z 0 0 (dW b gu pg dg td s a g pw b2 gu2 pg2 dg2 td2 s2 a2 g2 pw2 sl sr sq2 l r q2 (sS D2 r2 dp2 wk2 sm2)) _ _ _
          refine z_aload_n h d_D_makeConstant_91 rfl ?_
          refine z_get (C := R_D) (T := F_D) (N := 4) h 2 d_D_makeConstant_92 in_D rfl (by decide) wf_D_22 rfl rfl ?_
          refine z_getN (C := R_B) (T := F_B) (N := 3) h 2 d_D_makeConstant_95 in_B rfl (by decide) wf_D_54 rfl rfl ?_
          refine z_iload h d_D_makeConstant_98 rfl ?_
          refine z_iload h d_D_makeConstant_100 rfl ?_
          refine z_cV (C := R_H) (ci := 3) h (ms_H_absorbsCarry 1400 sq2 un' DD q2 (by decide) hx_88.1 hx_88.2.1 (by omega)) (zf_H_absorbsCarry (by decide)) wm_D_229 wi_H_absorbsCarry ws_H_absorbsCarry rfl ⟨_, rfl⟩ d_D_makeConstant_102 [16, 17] (by decide) rfl (Nat.le_of_ble_eq_true rfl) rfl (fun _ => rfl) (fun x_102 hx_102 => ?_)
          show Z 0 0 (dW b gu pg dg td s a g pw b2 gu2 pg2 dg2 td2 s2 a2 g2 pw2 sl sr sq2 l r q2 (sS D2 r2 dp2 wk2 sm2)) _ _ (.int (nI x_102) :: [])
          have hsu2 : x_102 ≤ 1 := by
            rcases hx_102 with p | p
            · have := p.1; omega
            · have := p.1; omega
          refine z_istore h d_D_makeConstant_105 (by decide) ?_
          refine z_aload_n h d_D_makeConstant_107 rfl ?_
          refine z_get (C := R_D) (T := F_D) (N := 4) h 2 d_D_makeConstant_108 in_D rfl (by decide) wf_D_22 rfl rfl ?_
          refine z_getN (C := R_B) (T := F_B) (N := 3) h 2 d_D_makeConstant_111 in_B rfl (by decide) wf_D_54 rfl rfl ?_
          refine z_iload h d_D_makeConstant_114 rfl ?_
          refine z_cV (C := R_H) (ci := 3) h (ms_H_drop 1400 sq2 DD q2 (by decide) hx_88.1 (by omega)) (zf_H_drop (by decide)) wm_D_233 wi_H_drop ws_H_drop rfl ⟨_, rfl⟩ d_D_makeConstant_116 [16, 17] (by decide) rfl (Nat.le_of_ble_eq_true rfl) rfl (fun _ => rfl) (fun x_116 hx_116 => ?_)
          have hfin := Rp_drop (k := DD) hx_88
          rw [ha] at hfin
          show Z 0 0 (dW b gu pg dg td s a g pw b2 gu2 pg2 dg2 td2 s2 a2 g2 pw2 sl sr (sq2 - DD) l r (va_cpy q2 q2 (sq2 - (sq2 - DD)) 0 (sq2 - DD)) (sS D2 r2 dp2 wk2 sm2)) _ _ _
          refine z_iincN h 8 d_D_makeConstant_119 rfl (by decide) (by decide) ?_
          refine z_goto (tgt := 32) h d_D_makeConstant_122 (by decide) ?_
          exact z_lv h rfl (ih (wn + 8) x_102 _ _ D2 r2 dp2 wk2 sm2 (by omega) (by omega) (by omega) hsu2 ⟨hfin.1, hfin.2.1⟩ hI2 (Or.inr hfin))
  refine z_iload_n h d_D_makeConstant_0 rfl ?_
  refine z_iload_n h d_D_makeConstant_1 rfl ?_
  refine z_cS h (ms_D_bitsPerDigit b' (by omega)) (zf_D_bitsPerDigit (by decide)) wm_D_192 wt_D_bitsPerDigit d_D_makeConstant_2 [] (by decide) rfl (Nat.le_of_ble_eq_true rfl) rfl (fun _ => rfl) (fun x_2 hx_2 => ?_)
  rw [zput_nil]
  refine z_imulN h d_D_makeConstant_5 ?_
  refine z_bipush (v := nI 31) h d_D_makeConstant_6 (by decide) ?_
  refine z_iaddN h d_D_makeConstant_8 ?_
  refine z_istore h d_D_makeConstant_9 (by decide) ?_
  refine z_iload h d_D_makeConstant_11 rfl ?_
  refine z_bipush (v := nI 30) h d_D_makeConstant_13 (by decide) ?_
  refine z_iaddN h d_D_makeConstant_15 ?_
  refine z_iconst (v := nI 1) h d_D_makeConstant_16 (by decide) ?_
  refine z_isubN h d_D_makeConstant_17 (by omega) ?_
  refine z_bipush (v := nI 30) h d_D_makeConstant_18 (by decide) ?_
  refine z_idivN h d_D_makeConstant_20 (by omega) ?_
  rw [← hun]
  refine z_istore h d_D_makeConstant_21 (by decide) ?_
  refine z_iconst (v := nI 0) h d_D_makeConstant_23 (by decide) ?_
  refine z_istore h d_D_makeConstant_24 (by decide) ?_
  refine z_iload h d_D_makeConstant_26 rfl ?_
  refine z_iconst (v := nI 2) h d_D_makeConstant_28 (by decide) ?_
  refine z_iaddN h d_D_makeConstant_29 ?_
  refine z_istore h d_D_makeConstant_30 (by decide) ?_
  exact z_lv h rfl (L 90 (un' + 2) 0 sq q D rr dp wk sm (by omega) (by omega) (by omega) (by omega) hq hI (Or.inl ⟨rfl, by omega⟩))
set_option maxRecDepth 100000 in
set_option maxHeartbeats 4000000 in
theorem ms_D_makeConstant3 (n b' ans Q : Nat) (c G1 G2 GE HL HC : Nat → Nat) (b gu pg dg td s : Nat) (a g pw : Nat → Nat) (b2 gu2 pg2 dg2 td2 s2 : Nat) (a2 g2 pw2 : Nat → Nat) (sl sr sq : Nat) (l r q : Nat → Nat) (D : Nat) (rr : Nat → Nat → Nat) (dp : Nat → Nat) (wk sm : Nat → Int) (hm : Mst Q c G1 G2 GE HL HC) (hI : SI Q c rr dp) (hn : n ≤ 6000) (hb : 2 ≤ b' ∧ b' < 37) (hnb : n * bl (b' - 1) ≤ 20000) (hq : okL sq q) (hans : ∀ D R, n * bl (b' - 1) + 31 + 60 ≤ 30 * D → D ≤ 704 → (((R : Nat) : Int) * Q - ((c 3 : Nat) : Int) * (1073741824 ^ D : Nat)).natAbs ≤ 2147483648 * Q → R * b' ^ n / 1073741824 ^ D = ans) : MS y_D_makeConstant c_D_makeConstant 9 none (rm 8) [.ref 0, .int (nI 3), .int (nI n), .int (nI b')] (dW b gu pg dg td s a g pw b2 gu2 pg2 dg2 td2 s2 a2 g2 pw2 sl sr sq l r q (sS D rr dp wk sm)) (zP (X := Nat × (Nat → Nat) × XS) (fun _ => none) (fun x => dW b gu pg dg td s a g pw b2 gu2 pg2 dg2 td2 s2 a2 g2 pw2 sl sr x.1 l r x.2.1 (sS x.2.2.1 x.2.2.2.1 x.2.2.2.2.1 x.2.2.2.2.2.1 x.2.2.2.2.2.2)) (fun x => Rp 1073741824 1400 x.2.1 x.1 ans ∧ SI Q c x.2.2.2.1 x.2.2.2.2.1)) := by
  refine MS_of (own := R_D) (by decide) rfl (fun _ => Nat.le_of_ble_eq_true rfl) (fun Z h hr => ?_)
  have hbn := bn_le hb.1 hnb
  have hb9 := hb.2
  obtain ⟨un', hun⟩ : ∃ x, x = (n * bl (b' - 1) + 31 + 30 - 1) / 30 := ⟨_, rfl⟩
  have hnb36 := nb_lt hn hb
  have L : ∀ (f wn su : Nat) (sq : Nat) (q : Nat → Nat) (D : Nat) (rr : Nat → Nat → Nat) (dp : Nat → Nat) (wk sm : Nat → Int), 704 < wn + 8 * f → wn ≤ 720 → un' + 2 ≤ wn → su ≤ 1 → okL sq q → SI Q c rr dp → ((su = 0 ∧ wn ≤ 704) ∨ Rp 1073741824 1400 q sq ans) → Z 0 0 (dW b gu pg dg td s a g pw b2 gu2 pg2 dg2 td2 s2 a2 g2 pw2 sl sr sq l r q (sS D rr dp wk sm)) [(0, .ref 0), (1, .int (nI 3)), (2, .int (nI n)), (3, .int (nI b')), (5, .int (nI un')), (6, .int (nI su)), (7, .int (nI wn))] 32 [] := by
    intro f
    induction f with
    | zero =>
      intro wn su sq q D rr dp wk sm hf hwn hwu hsu hq hI hor
      have hRp : Rp 1073741824 1400 q sq ans := by
        rcases hor with p | p
        · omega
        · exact p
      refine z_iload h d_D_makeConstant_32 rfl ?_
      refine z_if_neN (tgt := 125) h d_D_makeConstant_34 (by decide) (by omega) (fun c_34 => ?_) (fun c_34 => ?_)
      · refine hr.2.2.2.1 _ _ _ _ _ (Nat.le_refl _) (Nat.le_refl _) rfl d_D_makeConstant_125 ?_
        exact ⟨(sq, q, D, rr, dp, wk, sm), rfl, rfl, hRp, hI⟩
      · refine z_iload h d_D_makeConstant_37 rfl ?_
        refine z_sipush (v := nI 704) h d_D_makeConstant_39 (by decide) ?_
        refine z_icmp_gtN (tgt := 125) h d_D_makeConstant_42 (by decide) (by omega) (fun c_42 => ?_) (fun c_42 => ?_)
        · refine hr.2.2.2.1 _ _ _ _ _ (Nat.le_refl _) (Nat.le_refl _) rfl d_D_makeConstant_125 ?_
          exact ⟨(sq, q, D, rr, dp, wk, sm), rfl, rfl, hRp, hI⟩
        · exact absurd c_42 (by omega)
    | succ f ih =>
      intro wn su sq q D rr dp wk sm hf hwn hwu hsu hq hI hor
      refine z_iload h d_D_makeConstant_32 rfl ?_
      refine z_if_neN (tgt := 125) h d_D_makeConstant_34 (by decide) (by omega) (fun c_34 => ?_) (fun c_34 => ?_)
      · refine hr.2.2.2.1 _ _ _ _ _ (Nat.le_refl _) (Nat.le_refl _) rfl d_D_makeConstant_125 ?_
        refine ⟨(sq, q, D, rr, dp, wk, sm), rfl, rfl, ?_, hI⟩
        rcases hor with p | p
        · exact absurd p.1 c_34
        · exact p
      · refine z_iload h d_D_makeConstant_37 rfl ?_
        refine z_sipush (v := nI 704) h d_D_makeConstant_39 (by decide) ?_
        refine z_icmp_gtN (tgt := 125) h d_D_makeConstant_42 (by decide) (by omega) (fun c_42 => ?_) (fun c_42 => ?_)
        · refine hr.2.2.2.1 _ _ _ _ _ (Nat.le_refl _) (Nat.le_refl _) rfl d_D_makeConstant_125 ?_
          refine ⟨(sq, q, D, rr, dp, wk, sm), rfl, rfl, ?_, hI⟩
          rcases hor with p | p
          · exact absurd p.2 (by omega)
          · exact p
        · refine z_aload_n h d_D_makeConstant_45 rfl ?_
          refine z_get (C := R_D) (T := F_D) (N := 4) h 3 d_D_makeConstant_46 in_D rfl (by decide) wf_D_29 rfl rfl ?_
          refine z_iload_n h d_D_makeConstant_49 rfl ?_
          refine z_iload h d_D_makeConstant_50 rfl ?_
          refine z_cV (C := R_S) (ci := 1) h (ms_S_reach3 D Q wn c G1 G2 GE HL HC rr dp wk sm hm hI (by omega)) (zf_S_reach (by decide)) wm_D_217 wi_S_reach ws_S_reach rfl ⟨_, rfl⟩ d_D_makeConstant_52 isR (by decide) rfl (Nat.le_of_ble_eq_true rfl) rfl (fun _ => rfl) (fun x_52 hx_52 => ?_)
          obtain ⟨hI2, hw2⟩ := hx_52
          obtain ⟨D2, r2, dp2, wk2, sm2⟩ := x_52
          show Z 0 0 (dW b gu pg dg td s a g pw b2 gu2 pg2 dg2 td2 s2 a2 g2 pw2 sl sr sq l r q (sS D2 r2 dp2 wk2 sm2)) _ _ _
          replace hI2 : SI Q c r2 dp2 := hI2
          replace hw2 : wn ≤ dp2 3 := hw2
          have hR := hI2 3 (by decide)
          have hd704 := hR.1
          show Z 0 0 (dW b gu pg dg td s a g pw b2 gu2 pg2 dg2 td2 s2 a2 g2 pw2 sl sr sq l r q (sS D2 r2 dp2 wk2 sm2)) _ _ (.int (nI (dp2 3)) :: [])
          have hval := hR.2.2 (by omega)
          generalize hDD : dp2 3 = DD at *
          have hrd : ∀ j, r2 3 j < 2 ^ 31 := fun j => Nat.lt_trans (hR.2.1 j) (by decide)
          refine z_istore h d_D_makeConstant_55 (by decide) ?_
          refine z_aload_n h d_D_makeConstant_57 rfl ?_
          refine z_get (C := R_D) (T := F_D) (N := 4) h 2 d_D_makeConstant_58 in_D rfl (by decide) wf_D_22 rfl rfl ?_
          refine z_getN (C := R_B) (T := F_B) (N := 3) h 2 d_D_makeConstant_61 in_B rfl (by decide) wf_D_54 rfl rfl ?_
          refine z_aload_n h d_D_makeConstant_64 rfl ?_
          refine z_get (C := R_D) (T := F_D) (N := 4) h 3 d_D_makeConstant_65 in_D rfl (by decide) wf_D_29 rfl rfl ?_
          refine z_iload_n h d_D_makeConstant_68 rfl ?_
          refine z_cV (C := R_S) (ci := 1) h (ms_S_row3 D2 r2 dp2 wk2 sm2) (zf_S_row (by decide)) wm_D_221 wi_S_row ws_S_row rfl ⟨_, rfl⟩ d_D_makeConstant_69 isR (by decide) rfl (Nat.le_of_ble_eq_true rfl) rfl (fun _ => rfl) (fun x_69 hx_69 => ?_)
          show Z 0 0 (dW b gu pg dg td s a g pw b2 gu2 pg2 dg2 td2 s2 a2 g2 pw2 sl sr sq l r q (sS D2 r2 dp2 wk2 sm2)) _ _ (.ref 23 :: .ref 16 :: [])
          refine z_iload h d_D_makeConstant_72 rfl ?_
          refine z_iconst (v := nI 1) h d_D_makeConstant_74 (by decide) ?_
          refine z_iaddN h d_D_makeConstant_75 ?_
          refine z_cV (C := R_H) (ci := 3) h (ms_H_load 1400 sq 705 (DD + 1) q (r2 3) (by decide) (by decide) (by omega) (fun j => Nat.lt_trans (hq.2 j) (by decide)) hrd) (zf_H_load (by decide)) wm_D_225 wi_H_load ws_H_load rfl ⟨_, rfl⟩ d_D_makeConstant_76 [16, 17, 23] (by decide) rfl (Nat.le_of_ble_eq_true rfl) rfl (fun _ => rfl) (fun x_76 hx_76 => ?_)
          show Z 0 0 (dW b gu pg dg td s a g pw b2 gu2 pg2 dg2 td2 s2 a2 g2 pw2 sl sr (trm (va_cpy (r2 3) q 0 0 (DD + 1)) (DD + 1)) l r (va_cpy (r2 3) q 0 0 (DD + 1)) (sS D2 r2 dp2 wk2 sm2)) _ _ _
          have hcp : ∀ j, va_cpy (r2 3) q 0 0 (DD + 1) j < 1073741824 := fun j => by
            unfold va_cpy
            split
            · exact hR.2.1 _
            · exact hq.2 _
          have hnvc : nv 1073741824 (va_cpy (r2 3) q 0 0 (DD + 1)) (DD + 1) = nv 1073741824 (r2 3) (DD + 1) := nv_congr fun j hj => by
            unfold va_cpy
            rw [if_pos (by omega)]
            congr 1
            omega
          have hRp := Rp_trm (N := 1400) (show DD + 1 ≤ 1400 by omega) hcp hnvc
          generalize va_cpy (r2 3) q 0 0 (DD + 1) = q1 at *
          generalize trm q1 (DD + 1) = sq1 at *
          have hRlt : nv 1073741824 (r2 3) (DD + 1) < 1073741824 ^ (DD + 1) := nv_lt (fun j _ => hR.2.1 j)
          generalize hRE : nv 1073741824 (r2 3) (DD + 1) = R at *
          have ha := hans DD R (by omega) hd704 hval
          refine z_aload_n h d_D_makeConstant_79 rfl ?_
          refine z_get (C := R_D) (T := F_D) (N := 4) h 2 d_D_makeConstant_80 in_D rfl (by decide) wf_D_22 rfl rfl ?_
          refine z_getN (C := R_B) (T := F_B) (N := 3) h 2 d_D_makeConstant_83 in_B rfl (by decide) wf_D_54 rfl rfl ?_
          refine z_iload_n h d_D_makeConstant_86 rfl ?_
          refine z_iload_n h d_D_makeConstant_87 rfl ?_
          refine z_cV (C := R_H) (ci := 3) h (ms_H_raise 1400 sq1 R b' n q1 (by decide) hRp hb (by omega) (rs_fit hRlt hd704 hbn)) (zf_H_raise (by decide)) wm_D_79 wi_H_raise ws_H_raise rfl ⟨_, rfl⟩ d_D_makeConstant_88 [16, 17] (by decide) rfl (Nat.le_of_ble_eq_true rfl) rfl (fun _ => rfl) (fun x_88 hx_88 => ?_)
          obtain ⟨q2, sq2⟩ := x_88
          replace hx_88 : Rp 1073741824 1400 q2 sq2 (R * b' ^ n) := hx_88
          show Z 0 0 (dW b gu pg dg td s a g pw b2 gu2 pg2 dg2 td2 s2 a2 g2 pw2 sl sr sq2 l r q2 (sS D2 r2 dp2 wk2 sm2)) _ _ _
          refine z_aload_n h d_D_makeConstant_91 rfl ?_
          refine z_get (C := R_D) (T := F_D) (N := 4) h 2 d_D_makeConstant_92 in_D rfl (by decide) wf_D_22 rfl rfl ?_
          refine z_getN (C := R_B) (T := F_B) (N := 3) h 2 d_D_makeConstant_95 in_B rfl (by decide) wf_D_54 rfl rfl ?_
          refine z_iload h d_D_makeConstant_98 rfl ?_
          refine z_iload h d_D_makeConstant_100 rfl ?_
          refine z_cV (C := R_H) (ci := 3) h (ms_H_absorbsCarry 1400 sq2 un' DD q2 (by decide) hx_88.1 hx_88.2.1 (by omega)) (zf_H_absorbsCarry (by decide)) wm_D_229 wi_H_absorbsCarry ws_H_absorbsCarry rfl ⟨_, rfl⟩ d_D_makeConstant_102 [16, 17] (by decide) rfl (Nat.le_of_ble_eq_true rfl) rfl (fun _ => rfl) (fun x_102 hx_102 => ?_)
          show Z 0 0 (dW b gu pg dg td s a g pw b2 gu2 pg2 dg2 td2 s2 a2 g2 pw2 sl sr sq2 l r q2 (sS D2 r2 dp2 wk2 sm2)) _ _ (.int (nI x_102) :: [])
          have hsu2 : x_102 ≤ 1 := by
            rcases hx_102 with p | p
            · have := p.1; omega
            · have := p.1; omega
          refine z_istore h d_D_makeConstant_105 (by decide) ?_
          refine z_aload_n h d_D_makeConstant_107 rfl ?_
          refine z_get (C := R_D) (T := F_D) (N := 4) h 2 d_D_makeConstant_108 in_D rfl (by decide) wf_D_22 rfl rfl ?_
          refine z_getN (C := R_B) (T := F_B) (N := 3) h 2 d_D_makeConstant_111 in_B rfl (by decide) wf_D_54 rfl rfl ?_
          refine z_iload h d_D_makeConstant_114 rfl ?_
          refine z_cV (C := R_H) (ci := 3) h (ms_H_drop 1400 sq2 DD q2 (by decide) hx_88.1 (by omega)) (zf_H_drop (by decide)) wm_D_233 wi_H_drop ws_H_drop rfl ⟨_, rfl⟩ d_D_makeConstant_116 [16, 17] (by decide) rfl (Nat.le_of_ble_eq_true rfl) rfl (fun _ => rfl) (fun x_116 hx_116 => ?_)
          have hfin := Rp_drop (k := DD) hx_88
          rw [ha] at hfin
          show Z 0 0 (dW b gu pg dg td s a g pw b2 gu2 pg2 dg2 td2 s2 a2 g2 pw2 sl sr (sq2 - DD) l r (va_cpy q2 q2 (sq2 - (sq2 - DD)) 0 (sq2 - DD)) (sS D2 r2 dp2 wk2 sm2)) _ _ _
          refine z_iincN h 8 d_D_makeConstant_119 rfl (by decide) (by decide) ?_
          refine z_goto (tgt := 32) h d_D_makeConstant_122 (by decide) ?_
          exact z_lv h rfl (ih (wn + 8) x_102 _ _ D2 r2 dp2 wk2 sm2 (by omega) (by omega) (by omega) hsu2 ⟨hfin.1, hfin.2.1⟩ hI2 (Or.inr hfin))
  refine z_iload_n h d_D_makeConstant_0 rfl ?_
  refine z_iload_n h d_D_makeConstant_1 rfl ?_
  refine z_cS h (ms_D_bitsPerDigit b' (by omega)) (zf_D_bitsPerDigit (by decide)) wm_D_192 wt_D_bitsPerDigit d_D_makeConstant_2 [] (by decide) rfl (Nat.le_of_ble_eq_true rfl) rfl (fun _ => rfl) (fun x_2 hx_2 => ?_)
  rw [zput_nil]
  refine z_imulN h d_D_makeConstant_5 ?_
  refine z_bipush (v := nI 31) h d_D_makeConstant_6 (by decide) ?_
  refine z_iaddN h d_D_makeConstant_8 ?_
  refine z_istore h d_D_makeConstant_9 (by decide) ?_
  refine z_iload h d_D_makeConstant_11 rfl ?_
  refine z_bipush (v := nI 30) h d_D_makeConstant_13 (by decide) ?_
  refine z_iaddN h d_D_makeConstant_15 ?_
  refine z_iconst (v := nI 1) h d_D_makeConstant_16 (by decide) ?_
  refine z_isubN h d_D_makeConstant_17 (by omega) ?_
  refine z_bipush (v := nI 30) h d_D_makeConstant_18 (by decide) ?_
  refine z_idivN h d_D_makeConstant_20 (by omega) ?_
  rw [← hun]
  refine z_istore h d_D_makeConstant_21 (by decide) ?_
  refine z_iconst (v := nI 0) h d_D_makeConstant_23 (by decide) ?_
  refine z_istore h d_D_makeConstant_24 (by decide) ?_
  refine z_iload h d_D_makeConstant_26 rfl ?_
  refine z_iconst (v := nI 2) h d_D_makeConstant_28 (by decide) ?_
  refine z_iaddN h d_D_makeConstant_29 ?_
  refine z_istore h d_D_makeConstant_30 (by decide) ?_
  exact z_lv h rfl (L 90 (un' + 2) 0 sq q D rr dp wk sm (by omega) (by omega) (by omega) (by omega) hq hI (Or.inl ⟨rfl, by omega⟩))
set_option maxRecDepth 100000 in
set_option maxHeartbeats 4000000 in
theorem ms_D_makeConstant4 (n b' ans Q : Nat) (c G1 G2 GE HL HC : Nat → Nat) (b gu pg dg td s : Nat) (a g pw : Nat → Nat) (b2 gu2 pg2 dg2 td2 s2 : Nat) (a2 g2 pw2 : Nat → Nat) (sl sr sq : Nat) (l r q : Nat → Nat) (D : Nat) (rr : Nat → Nat → Nat) (dp : Nat → Nat) (wk sm : Nat → Int) (hm : Mst Q c G1 G2 GE HL HC) (hI : SI Q c rr dp) (hn : n ≤ 6000) (hb : 2 ≤ b' ∧ b' < 37) (hnb : n * bl (b' - 1) ≤ 20000) (hq : okL sq q) (hans : ∀ D R, n * bl (b' - 1) + 31 + 60 ≤ 30 * D → D ≤ 704 → (((R : Nat) : Int) * Q - ((c 4 : Nat) : Int) * (1073741824 ^ D : Nat)).natAbs ≤ 2147483648 * Q → R * b' ^ n / 1073741824 ^ D = ans) : MS y_D_makeConstant c_D_makeConstant 9 none (rm 8) [.ref 0, .int (nI 4), .int (nI n), .int (nI b')] (dW b gu pg dg td s a g pw b2 gu2 pg2 dg2 td2 s2 a2 g2 pw2 sl sr sq l r q (sS D rr dp wk sm)) (zP (X := Nat × (Nat → Nat) × XS) (fun _ => none) (fun x => dW b gu pg dg td s a g pw b2 gu2 pg2 dg2 td2 s2 a2 g2 pw2 sl sr x.1 l r x.2.1 (sS x.2.2.1 x.2.2.2.1 x.2.2.2.2.1 x.2.2.2.2.2.1 x.2.2.2.2.2.2)) (fun x => Rp 1073741824 1400 x.2.1 x.1 ans ∧ SI Q c x.2.2.2.1 x.2.2.2.2.1)) := by
  refine MS_of (own := R_D) (by decide) rfl (fun _ => Nat.le_of_ble_eq_true rfl) (fun Z h hr => ?_)
  have hbn := bn_le hb.1 hnb
  have hb9 := hb.2
  obtain ⟨un', hun⟩ : ∃ x, x = (n * bl (b' - 1) + 31 + 30 - 1) / 30 := ⟨_, rfl⟩
  have hnb36 := nb_lt hn hb
  have L : ∀ (f wn su : Nat) (sq : Nat) (q : Nat → Nat) (D : Nat) (rr : Nat → Nat → Nat) (dp : Nat → Nat) (wk sm : Nat → Int), 704 < wn + 8 * f → wn ≤ 720 → un' + 2 ≤ wn → su ≤ 1 → okL sq q → SI Q c rr dp → ((su = 0 ∧ wn ≤ 704) ∨ Rp 1073741824 1400 q sq ans) → Z 0 0 (dW b gu pg dg td s a g pw b2 gu2 pg2 dg2 td2 s2 a2 g2 pw2 sl sr sq l r q (sS D rr dp wk sm)) [(0, .ref 0), (1, .int (nI 4)), (2, .int (nI n)), (3, .int (nI b')), (5, .int (nI un')), (6, .int (nI su)), (7, .int (nI wn))] 32 [] := by
    intro f
    induction f with
    | zero =>
      intro wn su sq q D rr dp wk sm hf hwn hwu hsu hq hI hor
      have hRp : Rp 1073741824 1400 q sq ans := by
        rcases hor with p | p
        · omega
        · exact p
      refine z_iload h d_D_makeConstant_32 rfl ?_
      refine z_if_neN (tgt := 125) h d_D_makeConstant_34 (by decide) (by omega) (fun c_34 => ?_) (fun c_34 => ?_)
      · refine hr.2.2.2.1 _ _ _ _ _ (Nat.le_refl _) (Nat.le_refl _) rfl d_D_makeConstant_125 ?_
        exact ⟨(sq, q, D, rr, dp, wk, sm), rfl, rfl, hRp, hI⟩
      · refine z_iload h d_D_makeConstant_37 rfl ?_
        refine z_sipush (v := nI 704) h d_D_makeConstant_39 (by decide) ?_
        refine z_icmp_gtN (tgt := 125) h d_D_makeConstant_42 (by decide) (by omega) (fun c_42 => ?_) (fun c_42 => ?_)
        · refine hr.2.2.2.1 _ _ _ _ _ (Nat.le_refl _) (Nat.le_refl _) rfl d_D_makeConstant_125 ?_
          exact ⟨(sq, q, D, rr, dp, wk, sm), rfl, rfl, hRp, hI⟩
        · exact absurd c_42 (by omega)
    | succ f ih =>
      intro wn su sq q D rr dp wk sm hf hwn hwu hsu hq hI hor
      refine z_iload h d_D_makeConstant_32 rfl ?_
      refine z_if_neN (tgt := 125) h d_D_makeConstant_34 (by decide) (by omega) (fun c_34 => ?_) (fun c_34 => ?_)
      · refine hr.2.2.2.1 _ _ _ _ _ (Nat.le_refl _) (Nat.le_refl _) rfl d_D_makeConstant_125 ?_
        refine ⟨(sq, q, D, rr, dp, wk, sm), rfl, rfl, ?_, hI⟩
        rcases hor with p | p
        · exact absurd p.1 c_34
        · exact p
      · refine z_iload h d_D_makeConstant_37 rfl ?_
        refine z_sipush (v := nI 704) h d_D_makeConstant_39 (by decide) ?_
        refine z_icmp_gtN (tgt := 125) h d_D_makeConstant_42 (by decide) (by omega) (fun c_42 => ?_) (fun c_42 => ?_)
        · refine hr.2.2.2.1 _ _ _ _ _ (Nat.le_refl _) (Nat.le_refl _) rfl d_D_makeConstant_125 ?_
          refine ⟨(sq, q, D, rr, dp, wk, sm), rfl, rfl, ?_, hI⟩
          rcases hor with p | p
          · exact absurd p.2 (by omega)
          · exact p
        · refine z_aload_n h d_D_makeConstant_45 rfl ?_
          refine z_get (C := R_D) (T := F_D) (N := 4) h 3 d_D_makeConstant_46 in_D rfl (by decide) wf_D_29 rfl rfl ?_
          refine z_iload_n h d_D_makeConstant_49 rfl ?_
          refine z_iload h d_D_makeConstant_50 rfl ?_
          refine z_cV (C := R_S) (ci := 1) h (ms_S_reach4 D Q wn c G1 G2 GE HL HC rr dp wk sm hm hI (by omega)) (zf_S_reach (by decide)) wm_D_217 wi_S_reach ws_S_reach rfl ⟨_, rfl⟩ d_D_makeConstant_52 isR (by decide) rfl (Nat.le_of_ble_eq_true rfl) rfl (fun _ => rfl) (fun x_52 hx_52 => ?_)
          obtain ⟨hI2, hw2⟩ := hx_52
          obtain ⟨D2, r2, dp2, wk2, sm2⟩ := x_52
          show Z 0 0 (dW b gu pg dg td s a g pw b2 gu2 pg2 dg2 td2 s2 a2 g2 pw2 sl sr sq l r q (sS D2 r2 dp2 wk2 sm2)) _ _ _
          replace hI2 : SI Q c r2 dp2 := hI2
          replace hw2 : wn ≤ dp2 4 := hw2
          have hR := hI2 4 (by decide)
          have hd704 := hR.1
          show Z 0 0 (dW b gu pg dg td s a g pw b2 gu2 pg2 dg2 td2 s2 a2 g2 pw2 sl sr sq l r q (sS D2 r2 dp2 wk2 sm2)) _ _ (.int (nI (dp2 4)) :: [])
          have hval := hR.2.2 (by omega)
          generalize hDD : dp2 4 = DD at *
          have hrd : ∀ j, r2 4 j < 2 ^ 31 := fun j => Nat.lt_trans (hR.2.1 j) (by decide)
          refine z_istore h d_D_makeConstant_55 (by decide) ?_
          refine z_aload_n h d_D_makeConstant_57 rfl ?_
          refine z_get (C := R_D) (T := F_D) (N := 4) h 2 d_D_makeConstant_58 in_D rfl (by decide) wf_D_22 rfl rfl ?_
          refine z_getN (C := R_B) (T := F_B) (N := 3) h 2 d_D_makeConstant_61 in_B rfl (by decide) wf_D_54 rfl rfl ?_
          refine z_aload_n h d_D_makeConstant_64 rfl ?_
          refine z_get (C := R_D) (T := F_D) (N := 4) h 3 d_D_makeConstant_65 in_D rfl (by decide) wf_D_29 rfl rfl ?_
          refine z_iload_n h d_D_makeConstant_68 rfl ?_
          refine z_cV (C := R_S) (ci := 1) h (ms_S_row4 D2 r2 dp2 wk2 sm2) (zf_S_row (by decide)) wm_D_221 wi_S_row ws_S_row rfl ⟨_, rfl⟩ d_D_makeConstant_69 isR (by decide) rfl (Nat.le_of_ble_eq_true rfl) rfl (fun _ => rfl) (fun x_69 hx_69 => ?_)
          show Z 0 0 (dW b gu pg dg td s a g pw b2 gu2 pg2 dg2 td2 s2 a2 g2 pw2 sl sr sq l r q (sS D2 r2 dp2 wk2 sm2)) _ _ (.ref 24 :: .ref 16 :: [])
          refine z_iload h d_D_makeConstant_72 rfl ?_
          refine z_iconst (v := nI 1) h d_D_makeConstant_74 (by decide) ?_
          refine z_iaddN h d_D_makeConstant_75 ?_
          refine z_cV (C := R_H) (ci := 3) h (ms_H_load 1400 sq 705 (DD + 1) q (r2 4) (by decide) (by decide) (by omega) (fun j => Nat.lt_trans (hq.2 j) (by decide)) hrd) (zf_H_load (by decide)) wm_D_225 wi_H_load ws_H_load rfl ⟨_, rfl⟩ d_D_makeConstant_76 [16, 17, 24] (by decide) rfl (Nat.le_of_ble_eq_true rfl) rfl (fun _ => rfl) (fun x_76 hx_76 => ?_)
          show Z 0 0 (dW b gu pg dg td s a g pw b2 gu2 pg2 dg2 td2 s2 a2 g2 pw2 sl sr (trm (va_cpy (r2 4) q 0 0 (DD + 1)) (DD + 1)) l r (va_cpy (r2 4) q 0 0 (DD + 1)) (sS D2 r2 dp2 wk2 sm2)) _ _ _
          have hcp : ∀ j, va_cpy (r2 4) q 0 0 (DD + 1) j < 1073741824 := fun j => by
            unfold va_cpy
            split
            · exact hR.2.1 _
            · exact hq.2 _
          have hnvc : nv 1073741824 (va_cpy (r2 4) q 0 0 (DD + 1)) (DD + 1) = nv 1073741824 (r2 4) (DD + 1) := nv_congr fun j hj => by
            unfold va_cpy
            rw [if_pos (by omega)]
            congr 1
            omega
          have hRp := Rp_trm (N := 1400) (show DD + 1 ≤ 1400 by omega) hcp hnvc
          generalize va_cpy (r2 4) q 0 0 (DD + 1) = q1 at *
          generalize trm q1 (DD + 1) = sq1 at *
          have hRlt : nv 1073741824 (r2 4) (DD + 1) < 1073741824 ^ (DD + 1) := nv_lt (fun j _ => hR.2.1 j)
          generalize hRE : nv 1073741824 (r2 4) (DD + 1) = R at *
          have ha := hans DD R (by omega) hd704 hval
          refine z_aload_n h d_D_makeConstant_79 rfl ?_
          refine z_get (C := R_D) (T := F_D) (N := 4) h 2 d_D_makeConstant_80 in_D rfl (by decide) wf_D_22 rfl rfl ?_
          refine z_getN (C := R_B) (T := F_B) (N := 3) h 2 d_D_makeConstant_83 in_B rfl (by decide) wf_D_54 rfl rfl ?_
          refine z_iload_n h d_D_makeConstant_86 rfl ?_
          refine z_iload_n h d_D_makeConstant_87 rfl ?_
          refine z_cV (C := R_H) (ci := 3) h (ms_H_raise 1400 sq1 R b' n q1 (by decide) hRp hb (by omega) (rs_fit hRlt hd704 hbn)) (zf_H_raise (by decide)) wm_D_79 wi_H_raise ws_H_raise rfl ⟨_, rfl⟩ d_D_makeConstant_88 [16, 17] (by decide) rfl (Nat.le_of_ble_eq_true rfl) rfl (fun _ => rfl) (fun x_88 hx_88 => ?_)
          obtain ⟨q2, sq2⟩ := x_88
          replace hx_88 : Rp 1073741824 1400 q2 sq2 (R * b' ^ n) := hx_88
          show Z 0 0 (dW b gu pg dg td s a g pw b2 gu2 pg2 dg2 td2 s2 a2 g2 pw2 sl sr sq2 l r q2 (sS D2 r2 dp2 wk2 sm2)) _ _ _
          refine z_aload_n h d_D_makeConstant_91 rfl ?_
          refine z_get (C := R_D) (T := F_D) (N := 4) h 2 d_D_makeConstant_92 in_D rfl (by decide) wf_D_22 rfl rfl ?_
          refine z_getN (C := R_B) (T := F_B) (N := 3) h 2 d_D_makeConstant_95 in_B rfl (by decide) wf_D_54 rfl rfl ?_
          refine z_iload h d_D_makeConstant_98 rfl ?_
          refine z_iload h d_D_makeConstant_100 rfl ?_
          refine z_cV (C := R_H) (ci := 3) h (ms_H_absorbsCarry 1400 sq2 un' DD q2 (by decide) hx_88.1 hx_88.2.1 (by omega)) (zf_H_absorbsCarry (by decide)) wm_D_229 wi_H_absorbsCarry ws_H_absorbsCarry rfl ⟨_, rfl⟩ d_D_makeConstant_102 [16, 17] (by decide) rfl (Nat.le_of_ble_eq_true rfl) rfl (fun _ => rfl) (fun x_102 hx_102 => ?_)
          show Z 0 0 (dW b gu pg dg td s a g pw b2 gu2 pg2 dg2 td2 s2 a2 g2 pw2 sl sr sq2 l r q2 (sS D2 r2 dp2 wk2 sm2)) _ _ (.int (nI x_102) :: [])
          have hsu2 : x_102 ≤ 1 := by
            rcases hx_102 with p | p
            · have := p.1; omega
            · have := p.1; omega
          refine z_istore h d_D_makeConstant_105 (by decide) ?_
          refine z_aload_n h d_D_makeConstant_107 rfl ?_
          refine z_get (C := R_D) (T := F_D) (N := 4) h 2 d_D_makeConstant_108 in_D rfl (by decide) wf_D_22 rfl rfl ?_
          refine z_getN (C := R_B) (T := F_B) (N := 3) h 2 d_D_makeConstant_111 in_B rfl (by decide) wf_D_54 rfl rfl ?_
          refine z_iload h d_D_makeConstant_114 rfl ?_
          refine z_cV (C := R_H) (ci := 3) h (ms_H_drop 1400 sq2 DD q2 (by decide) hx_88.1 (by omega)) (zf_H_drop (by decide)) wm_D_233 wi_H_drop ws_H_drop rfl ⟨_, rfl⟩ d_D_makeConstant_116 [16, 17] (by decide) rfl (Nat.le_of_ble_eq_true rfl) rfl (fun _ => rfl) (fun x_116 hx_116 => ?_)
          have hfin := Rp_drop (k := DD) hx_88
          rw [ha] at hfin
          show Z 0 0 (dW b gu pg dg td s a g pw b2 gu2 pg2 dg2 td2 s2 a2 g2 pw2 sl sr (sq2 - DD) l r (va_cpy q2 q2 (sq2 - (sq2 - DD)) 0 (sq2 - DD)) (sS D2 r2 dp2 wk2 sm2)) _ _ _
          refine z_iincN h 8 d_D_makeConstant_119 rfl (by decide) (by decide) ?_
          refine z_goto (tgt := 32) h d_D_makeConstant_122 (by decide) ?_
          exact z_lv h rfl (ih (wn + 8) x_102 _ _ D2 r2 dp2 wk2 sm2 (by omega) (by omega) (by omega) hsu2 ⟨hfin.1, hfin.2.1⟩ hI2 (Or.inr hfin))
  refine z_iload_n h d_D_makeConstant_0 rfl ?_
  refine z_iload_n h d_D_makeConstant_1 rfl ?_
  refine z_cS h (ms_D_bitsPerDigit b' (by omega)) (zf_D_bitsPerDigit (by decide)) wm_D_192 wt_D_bitsPerDigit d_D_makeConstant_2 [] (by decide) rfl (Nat.le_of_ble_eq_true rfl) rfl (fun _ => rfl) (fun x_2 hx_2 => ?_)
  rw [zput_nil]
  refine z_imulN h d_D_makeConstant_5 ?_
  refine z_bipush (v := nI 31) h d_D_makeConstant_6 (by decide) ?_
  refine z_iaddN h d_D_makeConstant_8 ?_
  refine z_istore h d_D_makeConstant_9 (by decide) ?_
  refine z_iload h d_D_makeConstant_11 rfl ?_
  refine z_bipush (v := nI 30) h d_D_makeConstant_13 (by decide) ?_
  refine z_iaddN h d_D_makeConstant_15 ?_
  refine z_iconst (v := nI 1) h d_D_makeConstant_16 (by decide) ?_
  refine z_isubN h d_D_makeConstant_17 (by omega) ?_
  refine z_bipush (v := nI 30) h d_D_makeConstant_18 (by decide) ?_
  refine z_idivN h d_D_makeConstant_20 (by omega) ?_
  rw [← hun]
  refine z_istore h d_D_makeConstant_21 (by decide) ?_
  refine z_iconst (v := nI 0) h d_D_makeConstant_23 (by decide) ?_
  refine z_istore h d_D_makeConstant_24 (by decide) ?_
  refine z_iload h d_D_makeConstant_26 rfl ?_
  refine z_iconst (v := nI 2) h d_D_makeConstant_28 (by decide) ?_
  refine z_iaddN h d_D_makeConstant_29 ?_
  refine z_istore h d_D_makeConstant_30 (by decide) ?_
  exact z_lv h rfl (L 90 (un' + 2) 0 sq q D rr dp wk sm (by omega) (by omega) (by omega) (by omega) hq hI (Or.inl ⟨rfl, by omega⟩))
