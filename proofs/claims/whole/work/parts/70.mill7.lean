/-! DigitMill's public methods: digit, about, count -/
def dgt (b v i : Nat) : Nat := dig b v (nd b v - 1 - i)
def cnt (f : Nat → Nat) (x : Int32) (i : Nat) : Nat → Nat
  | 0 => 0
  | m + 1 => cnt f x i m + (if nI (f (i + m)) = x then 1 else 0)
theorem cnt_le (f : Nat → Nat) (x : Int32) (i : Nat) : ∀ m, cnt f x i m ≤ m
  | 0 => Nat.le_refl _
  | m + 1 => by
    have := cnt_le f x i m
    unfold cnt
    split <;> omega
section ZTab
variable {Z : ZP} {own : String} {cc : ByteArray} {nL : Nat} {R : Room} {k n pc : Nat} {w : List va_E} {lv : List (Nat × Value)} {st : List Value}
theorem z_tabIn (h : Cb Z own cc nL R) {dflt lo hi : Int} {offs : Array Int} {len : Nat} {x : Int32} {off : Int} {tgt : Nat} (d : decode cc pc = .ok (.tableswitch dflt lo hi offs, len)) (h1 : ¬ x.toInt < lo) (h2 : ¬ hi < x.toInt) (ho : offs[(x.toInt - lo).toNat]? = some off) (ht : (pc : Int) + off = (tgt : Int)) (kk : Z k n w lv tgt st) : Z k n w lv pc (.int x :: st) := by
  obtain ⟨p, l, e, s, m, args, below, meth, c, D, dA, A, ad0, n0, Q, ⟨hx, hb, hml, hw, hts, hnt, hK, hA⟩, rfl⟩ := h
  intro ad H locs ls g1 g2 g3 g4 g5 g6
  exact lv_tableIn hx hb d h1 h2 ho ht (kk ad H locs ls g1 g2 g3 g4 g5 g6)
theorem z_tabOut (h : Cb Z own cc nL R) {dflt lo hi : Int} {offs : Array Int} {len : Nat} {x : Int32} {tgt : Nat} (d : decode cc pc = .ok (.tableswitch dflt lo hi offs, len)) (h1 : x.toInt < lo ∨ hi < x.toInt) (ht : (pc : Int) + dflt = (tgt : Int)) (kk : Z k n w lv tgt st) : Z k n w lv pc (.int x :: st) := by
  obtain ⟨p, l, e, s, m, args, below, meth, c, D, dA, A, ad0, n0, Q, ⟨hx, hb, hml, hw, hts, hnt, hK, hA⟩, rfl⟩ := h
  intro ad H locs ls g1 g2 g3 g4 g5 g6
  exact lv_tableOut hx hb d h1 ht (kk ad H locs ls g1 g2 g3 g4 g5 g6)
end ZTab
set_option maxRecDepth 100000 in
set_option maxHeartbeats 4000000 in
theorem ms_D_digit (v b v2 b2 i : Nat) (w : List va_E) (h0 : DS v b v2 b2 w) (hi : i < nd b v) (hnd : nd b v < 2 ^ 31) : MS y_D_digit c_D_digit 2 (some .int) (rm 7) [.ref 0, .int (nI i)] w (fun r w' => r = some (.int (nI (dgt b v i))) ∧ DS v b v2 b2 w') := by
  have hw := DS_len h0
  refine MS_of (own := R_D) (by decide) rfl (fun _ => Nat.le_of_ble_eq_true rfl) (fun Z h hr => ?_)
  obtain ⟨gu, pg, dg, td, s, a, g, pw, gu2, pg2, dg2, td2, s2, a2, g2, pw2, sl, sr, sq, l, r, q, rfl, h1, h2, h3, h4, h5⟩ := h0
  refine z_iload_n h d_D_digit_0 rfl ?_
  refine z_if_lt (tgt := 12) h d_D_digit_1 (by decide) (fun c_1 => ?_) (fun c_1 => ?_)
  · exact absurd c_1 (nI_pos (by omega))
  · refine z_iload_n h d_D_digit_4 rfl ?_
    refine z_aload_n h d_D_digit_5 rfl ?_
    refine z_dV (C := R_D) (ci := 4) h (ms_D_digits v b v2 b2 _ ⟨gu, pg, dg, td, s, a, g, pw, gu2, pg2, dg2, td2, s2, a2, g2, pw2, sl, sr, sq, l, r, q, rfl, h1, h2, h3, h4, h5⟩) (zf_D_digits (by decide)) wm_D_114 wi_D_digits ws_D_digits rfl ⟨_, rfl⟩ d_D_digit_6 (by decide) is18 (by decide) rfl (Nat.le_of_ble_eq_true rfl) rfl (fun _ _ hp => DT_len hp.2) (fun r_6 w_6 hp_6 => ?_)
    obtain ⟨rfl, hT⟩ := hp_6
    rw [put18n (DT_len hT) rfl]
    obtain ⟨gu', pg', dg', s', a', g', pw', gu2', pg2', dg2', td2', s2', a2', g2', pw2', sl', sr', sq', l', r', q', rfl, k1, rfl, k2, k3, k4, k5⟩ := hT
    refine z_icmp_ltN (tgt := 22) h d_D_digit_9 (by decide) (by omega) (fun c_9 => ?_) (fun c_9 => ?_)
    · refine z_aload_n h d_D_digit_22 rfl ?_
      refine z_get (C := R_D) (T := F_D) (N := 4) h 0 d_D_digit_23 in_D rfl (by decide) wf_D_12 rfl rfl ?_
      refine z_iload_n h d_D_digit_26 rfl ?_
      refine z_cV (C := R_T) (ci := 2) h (ms_T_digitAt b v gu' pg' (nd b v) s' i a' g' pw' k1 hi) (zf_T_digitAt (by decide)) wm_D_169 wi_T_digitAt ws_T_digitAt rfl ⟨_, rfl⟩ d_D_digit_27 [1, 2, 3, 4, 5] (by decide) rfl (Nat.le_of_ble_eq_true rfl) rfl (fun _ => rfl) (fun x_27 hx_27 => ?_)
      refine hr.1 _ _ _ _ _ _ (Nat.le_refl _) (Nat.le_refl _) rfl d_D_digit_30 ?_
      exact ⟨rfl, gu', pg', nd b v, 1, s', a', g', pw', gu2', pg2', dg2', td2', s2', a2', g2', pw2', sl', sr', sq', l', r', q', rfl, k1, k2, k3, k4, k5⟩
    · exact absurd c_9 (by omega)
set_option maxRecDepth 100000 in
set_option maxHeartbeats 4000000 in
theorem mt_D_digit (v b v2 b2 : Nat) (x : Int32) (w : List va_E) (h0 : DS v b v2 b2 w) (hx : x < 0 ∨ ¬ x < nI (nd b v)) : MT y_D_digit c_D_digit 2 (some .int) (rmT 8) [.ref 0, .int x] w X_IOE (fun w' => DS v b v2 b2 w') := by
  refine MT_of (own := R_D) (by decide) rfl (fun _ => Nat.le_of_ble_eq_true rfl) (fun Z h ht => ?_)
  obtain ⟨gu, pg, dg, td, s, a, g, pw, gu2, pg2, dg2, td2, s2, a2, g2, pw2, sl, sr, sq, l, r, q, rfl, h1, h2, h3, h4, h5⟩ := h0
  refine z_iload_n h d_D_digit_0 rfl ?_
  refine z_if_lt (tgt := 12) h d_D_digit_1 (by decide) (fun c_1 => ?_) (fun c_1 => ?_)
  · refine z_throw (tx := "no such digit") ht fit_IOE own_IOE wkx_IOE wnx_IOE wix_IOE (zStr_mem (by decide +kernel)) d_D_digit_12 d_D_digit_15 d_D_digit_16 d_D_digit_18 d_D_digit_21 (by decide) (by decide) rfl rfl rfl ?_
    exact ⟨gu, pg, dg, td, s, a, g, pw, gu2, pg2, dg2, td2, s2, a2, g2, pw2, sl, sr, sq, l, r, q, rfl, h1, h2, h3, h4, h5⟩
  · refine z_iload_n h d_D_digit_4 rfl ?_
    refine z_aload_n h d_D_digit_5 rfl ?_
    refine z_dV (C := R_D) (ci := 4) h (ms_D_digits v b v2 b2 _ ⟨gu, pg, dg, td, s, a, g, pw, gu2, pg2, dg2, td2, s2, a2, g2, pw2, sl, sr, sq, l, r, q, rfl, h1, h2, h3, h4, h5⟩) (zT (zf_D_digits (by decide))) wm_D_114 wi_D_digits ws_D_digits rfl ⟨_, rfl⟩ d_D_digit_6 (by decide) is18 (by decide) rfl (Nat.le_of_ble_eq_true rfl) rfl (fun _ _ hp => DT_len hp.2) (fun r_6 w_6 hp_6 => ?_)
    obtain ⟨rfl, hT⟩ := hp_6
    rw [put18n (DT_len hT) rfl]
    refine z_icmp_lt (tgt := 22) h d_D_digit_9 (by decide) (fun c_9 => ?_) (fun c_9 => ?_)
    · exact absurd hx (fun q => q.elim c_1 (fun q => q c_9))
    · have hl := DT_len hT
      refine z_throw (tx := "no such digit") ht fit_IOE own_IOE wkx_IOE wnx_IOE wix_IOE (zStr_mem (by decide +kernel)) d_D_digit_12 d_D_digit_15 d_D_digit_16 d_D_digit_18 d_D_digit_21 (by decide) (by decide) rfl rfl hl ?_
      exact hT.ds
set_option maxRecDepth 100000 in
set_option maxHeartbeats 4000000 in
theorem ms_D_about (v b v2 b2 i : Nat) (w : List va_E) (h0 : DS v b v2 b2 w) (hi : i < 4) : MS y_D_about c_D_about 2 (some .int) (rm 7) [.ref 0, .int (nI i)] w (fun r w' => r = some (.int (nI (if i = 0 then nd b v else if i = 1 then bl v else if i = 2 then b else dsm b v (nd b v)))) ∧ DS v b v2 b2 w') := by
  refine MS_of (own := R_D) (by decide) rfl (fun _ => Nat.le_of_ble_eq_true rfl) (fun Z h hr => ?_)
  obtain ⟨gu, pg, dg, td, s, a, g, pw, gu2, pg2, dg2, td2, s2, a2, g2, pw2, sl, sr, sq, l, r, q, rfl, h1, h2, h3, h4, h5⟩ := h0
  refine z_iload_n h d_D_about_0 rfl ?_
  rcases (show i = 0 ∨ i = 1 ∨ i = 2 ∨ i = 3 by omega) with rfl | rfl | rfl | rfl
  · refine z_tabIn h d_D_about_1 (off := 31) (tgt := 32) (by decide) (by decide) (by decide) (by decide) ?_
    refine z_aload_n h d_D_about_32 rfl ?_
    refine z_dV (C := R_D) (ci := 4) h (ms_D_digits v b v2 b2 _ ⟨gu, pg, dg, td, s, a, g, pw, gu2, pg2, dg2, td2, s2, a2, g2, pw2, sl, sr, sq, l, r, q, rfl, h1, h2, h3, h4, h5⟩) (zf_D_digits (by decide)) wm_D_114 wi_D_digits ws_D_digits rfl ⟨_, rfl⟩ d_D_about_33 (by decide) is18 (by decide) rfl (Nat.le_of_ble_eq_true rfl) rfl (fun _ _ hp => DT_len hp.2) (fun r_33 w_33 hp_33 => ?_)
    obtain ⟨rfl, hT⟩ := hp_33
    rw [put18n (DT_len hT) rfl]
    refine hr.1 _ _ _ _ _ _ (Nat.le_refl _) (Nat.le_refl _) rfl d_D_about_36 ?_
    exact ⟨rfl, hT.ds⟩
  · refine z_tabIn h d_D_about_1 (off := 36) (tgt := 37) (by decide) (by decide) (by decide) (by decide) ?_
    refine z_aload_n h d_D_about_37 rfl ?_
    refine z_get (C := R_D) (T := F_D) (N := 4) h 0 d_D_about_38 in_D rfl (by decide) wf_D_12 rfl rfl ?_
    refine z_getN (C := R_T) (T := F_T) (N := 8) h 0 d_D_about_41 in_T rfl (by decide) wf_D_98 rfl rfl ?_
    refine z_cV (C := R_H) (ci := 3) h (ms_H_length 800 s v a (by decide) h1.1) (zf_H_length (by decide)) wm_D_137 wi_H_length ws_H_length rfl ⟨_, rfl⟩ d_D_about_44 [2, 3] (by decide) rfl (Nat.le_of_ble_eq_true rfl) rfl (fun _ => rfl) (fun x_44 hx_44 => ?_)
    refine hr.1 _ _ _ _ _ _ (Nat.le_refl _) (Nat.le_refl _) rfl d_D_about_47 ?_
    exact ⟨rfl, gu, pg, dg, td, s, a, g, pw, gu2, pg2, dg2, td2, s2, a2, g2, pw2, sl, sr, sq, l, r, q, rfl, h1, h2, h3, h4, h5⟩
  · refine z_tabIn h d_D_about_1 (off := 47) (tgt := 48) (by decide) (by decide) (by decide) (by decide) ?_
    refine z_aload_n h d_D_about_48 rfl ?_
    refine z_get (C := R_D) (T := F_D) (N := 4) h 0 d_D_about_49 in_D rfl (by decide) wf_D_12 rfl rfl ?_
    refine z_getN (C := R_T) (T := F_T) (N := 8) h 1 d_D_about_52 in_T rfl (by decide) wf_D_92 rfl rfl ?_
    refine hr.1 _ _ _ _ _ _ (Nat.le_refl _) (Nat.le_refl _) rfl d_D_about_55 ?_
    exact ⟨rfl, gu, pg, dg, td, s, a, g, pw, gu2, pg2, dg2, td2, s2, a2, g2, pw2, sl, sr, sq, l, r, q, rfl, h1, h2, h3, h4, h5⟩
  · refine z_tabIn h d_D_about_1 (off := 55) (tgt := 56) (by decide) (by decide) (by decide) (by decide) ?_
    refine z_aload_n h d_D_about_56 rfl ?_
    refine z_dV (C := R_D) (ci := 4) h (ms_D_digitSum v b v2 b2 _ ⟨gu, pg, dg, td, s, a, g, pw, gu2, pg2, dg2, td2, s2, a2, g2, pw2, sl, sr, sq, l, r, q, rfl, h1, h2, h3, h4, h5⟩) (zf_D_digitSum (by decide)) wm_D_173 wi_D_digitSum ws_D_digitSum rfl ⟨_, rfl⟩ d_D_about_57 (by decide) is18 (by decide) rfl (Nat.le_of_ble_eq_true rfl) rfl (fun _ _ hp => DT_len hp.2) (fun r_57 w_57 hp_57 => ?_)
    obtain ⟨rfl, hT⟩ := hp_57
    rw [put18n (DT_len hT) rfl]
    refine hr.1 _ _ _ _ _ _ (Nat.le_refl _) (Nat.le_refl _) rfl d_D_about_60 ?_
    exact ⟨rfl, hT.ds⟩
set_option maxRecDepth 100000 in
set_option maxHeartbeats 4000000 in
theorem mt_D_about (x : Int32) (w : List va_E) (hx : x.toInt < 0 ∨ 3 < x.toInt) : MT y_D_about c_D_about 2 (some .int) (rmT 8) [.ref 0, .int x] w X_IAE (fun w' => w' = w) := by
  refine MT_of (own := R_D) (by decide) rfl (fun _ => Nat.le_of_ble_eq_true rfl) (fun Z h ht => ?_)
  refine z_iload_n h d_D_about_0 rfl ?_
  refine z_tabOut h d_D_about_1 (tgt := 61) hx (by decide) ?_
  refine z_throw (tx := "nothing to tell") ht fit_IAE own_IAE wkx_IAE wnx_IAE wix_IAE (zStr_mem (by decide +kernel)) d_D_about_61 d_D_about_64 d_D_about_65 d_D_about_67 d_D_about_70 (by decide) (by decide) rfl rfl rfl ?_
  rfl
