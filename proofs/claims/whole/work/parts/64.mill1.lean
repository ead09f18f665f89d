/-! DigitMill: its world; digits, retell, digitSum; the refusals -/
abbrev dW (b gu pg dg td s : Nat) (a g pw : Nat → Nat) (b2 gu2 pg2 dg2 td2 s2 : Nat) (a2 g2 pw2 : Nat → Nat) (sl sr sq : Nat) (l r q : Nat → Nat) (S : List va_E) : List va_E :=
  .inr (4, [.ref 1, .ref 6, .ref 11, .ref 18]) :: tx 2 b 4 gu pg 5 dg td :: wh 3 s :: ar 800 a :: ar 960 g :: ar 31 pw :: tx 7 b2 9 gu2 pg2 10 dg2 td2 :: wh 8 s2 :: ar 800 a2 :: ar 960 g2 :: ar 31 pw2 :: .inr (0, [.ref 12, .ref 14, .ref 16]) :: wh 13 sl :: ar 1400 l :: wh 15 sr :: ar 1400 r :: wh 17 sq :: ar 1400 q :: S
def okL (s : Nat) (a : Nat → Nat) : Prop := s ≤ 1400 ∧ ∀ j, a j < 1073741824
/-- the object's state: text v in base b, other v2 in base b2 -/
def DS (v b v2 b2 : Nat) (w : List va_E) : Prop := ∃ (gu pg dg td s : Nat) (a g pw : Nat → Nat) (gu2 pg2 dg2 td2 s2 : Nat) (a2 g2 pw2 : Nat → Nat) (sl sr sq : Nat) (l r q : Nat → Nat), w = dW b gu pg dg td s a g pw b2 gu2 pg2 dg2 td2 s2 a2 g2 pw2 sl sr sq l r q [] ∧ TI b v s a gu pg dg td g pw ∧ TI b2 v2 s2 a2 gu2 pg2 dg2 td2 g2 pw2 ∧ okL sl l ∧ okL sr r ∧ okL sq q
theorem DS_len {v b v2 b2 : Nat} {w : List va_E} (h : DS v b v2 b2 w) : w.length = 18 := by
  obtain ⟨gu, pg, dg, td, s, a, g, pw, gu2, pg2, dg2, td2, s2, a2, g2, pw2, sl, sr, sq, l, r, q, rfl, -⟩ := h
  rfl
/-- the same, and the text is told -/
def DT (v b v2 b2 : Nat) (w : List va_E) : Prop := ∃ (gu pg dg s : Nat) (a g pw : Nat → Nat) (gu2 pg2 dg2 td2 s2 : Nat) (a2 g2 pw2 : Nat → Nat) (sl sr sq : Nat) (l r q : Nat → Nat), w = dW b gu pg dg 1 s a g pw b2 gu2 pg2 dg2 td2 s2 a2 g2 pw2 sl sr sq l r q [] ∧ TI b v s a gu pg dg 1 g pw ∧ dg = nd b v ∧ TI b2 v2 s2 a2 gu2 pg2 dg2 td2 g2 pw2 ∧ okL sl l ∧ okL sr r ∧ okL sq q
theorem DT.ds {v b v2 b2 : Nat} {w : List va_E} (h : DT v b v2 b2 w) : DS v b v2 b2 w := by
  obtain ⟨gu, pg, dg, s, a, g, pw, gu2, pg2, dg2, td2, s2, a2, g2, pw2, sl, sr, sq, l, r, q, rfl, h1, -, h2, h3, h4, h5⟩ := h
  exact ⟨gu, pg, dg, 1, s, a, g, pw, gu2, pg2, dg2, td2, s2, a2, g2, pw2, sl, sr, sq, l, r, q, rfl, h1, h2, h3, h4, h5⟩
theorem DT_len {v b v2 b2 : Nat} {w : List va_E} (h : DT v b v2 b2 w) : w.length = 18 := DS_len h.ds
abbrev is18 : List Nat := [0, 1, 2, 3, 4, 5, 6, 7, 8, 9, 10, 11, 12, 13, 14, 15, 16, 17]
theorem zV_id (v : Value) : zV (fun i => i) v = v := by cases v <;> rfl
theorem zE_id (e : va_E) : zE (fun i => i) (fun i => i) e = e := by
  rcases e with ⟨c, N, g | g | g | g | g⟩ | q
  · rfl
  · rfl
  · rfl
  · rfl
  · show (.inl (c, N, .inr (.inr (.inr (.inr fun j => (g j).map fun i => i)))) : va_E) = _
    have : (fun j => (g j).map fun i => i) = g := funext fun j => by cases g j <;> rfl
    rw [this]
  · show (.inr (q.1, q.2.map (zV fun i => i)) : va_E) = .inr q
    have : q.2.map (zV fun i => i) = q.2 := by
      conv => rhs; rw [← List.map_id q.2]
      exact List.map_congr_left fun v _ => zV_id v
    rw [this]
theorem zfd18 : zfd is18 = fun i => i := funext fun j => by
  unfold zfd
  by_cases h : j < 18
  · revert h
    revert j
    decide
  · rw [List.getD_eq_getElem?_getD, List.getElem?_eq_none (by simpa using h)]
    rfl
theorem put18 {w w' : List va_E} (h' : w'.length = 18) (h : 18 ≤ w.length) : zput w is18 (w'.map (zE (fun i => i) (zfd is18))) = w' ++ w.drop 18 := by
  have e : w'.map (zE (fun i => i) (zfd is18)) = w' := by
    conv => rhs; rw [← List.map_id w']
    exact List.map_congr_left fun x _ => by rw [zfd18, zE_id]; rfl
  rw [e]
  apply List.ext_getElem?
  intro k
  by_cases hk : k < 18
  · have h1 : is18[k]? = some k := by
      revert hk
      revert k
      decide
    obtain ⟨x, hx⟩ : ∃ x, w'[k]? = some x := ⟨_, List.getElem?_eq_getElem (by omega)⟩
    rw [zput_at is18 w w' k k x (va_nd_inj is18 (by decide)) h1 hx (by omega), List.getElem?_append_left (by omega), hx]
  · have h1 : k ∉ is18 := fun hm => by
      simp only [is18, List.mem_cons, List.not_mem_nil, or_false] at hm
      omega
    rw [zput_ne is18 w w' k h1, List.getElem?_append_right (by omega), List.getElem?_drop]
    congr 1
    omega
theorem put18n {w w' : List va_E} (h' : w'.length = 18) (h : w.length = 18) : zput w is18 (w'.map (zE (fun i => i) (zfd is18))) = w' := by
  rw [put18 h' (by omega), List.drop_of_length_le (by omega), List.append_nil]
set_option maxRecDepth 100000 in
set_option maxHeartbeats 4000000 in
theorem ms_D_digits (v b v2 b2 : Nat) (w : List va_E) (h0 : DS v b v2 b2 w) : MS y_D_digits c_D_digits 1 (some .int) (rm 5) [.ref 0] w (fun r w' => r = some (.int (nI (nd b v))) ∧ DT v b v2 b2 w') := by
  obtain ⟨gu, pg, dg, td, s, a, g, pw, gu2, pg2, dg2, td2, s2, a2, g2, pw2, sl, sr, sq, l, r, q, rfl, h1, h2, h3, h4, h5⟩ := h0
  refine MS_of (own := R_D) (by decide) rfl (fun _ => Nat.le_of_ble_eq_true rfl) (fun Z h hr => ?_)
  refine z_aload_n h d_D_digits_0 rfl ?_
  refine z_get (C := R_D) (T := F_D) (N := 4) h 0 d_D_digits_1 in_D rfl (by decide) wf_D_12 rfl rfl ?_
  refine z_aload_n h d_D_digits_4 rfl ?_
  refine z_get (C := R_D) (T := F_D) (N := 4) h 2 d_D_digits_5 in_D rfl (by decide) wf_D_22 rfl rfl ?_
  refine z_getN (C := R_B) (T := F_B) (N := 3) h 0 d_D_digits_8 in_B rfl (by decide) wf_D_70 rfl rfl ?_
  refine z_cV (C := R_T) (ci := 2) h (ms_T_tell b v gu pg dg td s sl a g pw l h1 h3.2 h3.1) (zf_T_tell (by decide)) wm_D_209 wi_T_tell ws_T_tell rfl ⟨_, rfl⟩ d_D_digits_11 [1, 2, 3, 4, 5, 12, 13] (by decide) rfl (Nat.le_of_ble_eq_true rfl) rfl (fun _ => rfl) (fun x_11 hx_11 => ?_)
  refine z_aload_n h d_D_digits_14 rfl ?_
  refine z_get (C := R_D) (T := F_D) (N := 4) h 0 d_D_digits_15 in_D rfl (by decide) wf_D_12 rfl rfl ?_
  refine z_getN (C := R_T) (T := F_T) (N := 8) h 6 d_D_digits_18 in_T rfl (by decide) wf_D_212 rfl rfl ?_
  refine hr.1 _ _ _ _ _ _ (Nat.le_refl _) (Nat.le_refl _) rfl d_D_digits_21 ?_
  exact ⟨rfl, _, _, _, _, _, _, _, _, _, _, _, _, _, _, _, _, _, _, _, _, _, rfl, hx_11.1, rfl, h2, ⟨hx_11.2.2, hx_11.2.1⟩, h4, h5⟩
set_option maxRecDepth 100000 in
set_option maxHeartbeats 4000000 in
theorem ms_D_digitSum (v b v2 b2 : Nat) (w : List va_E) (h0 : DS v b v2 b2 w) : MS y_D_digitSum c_D_digitSum 1 (some .int) (rm 5) [.ref 0] w (fun r w' => r = some (.int (nI (dsm b v (nd b v)))) ∧ DT v b v2 b2 w') := by
  obtain ⟨gu, pg, dg, td, s, a, g, pw, gu2, pg2, dg2, td2, s2, a2, g2, pw2, sl, sr, sq, l, r, q, rfl, h1, h2, h3, h4, h5⟩ := h0
  refine MS_of (own := R_D) (by decide) rfl (fun _ => Nat.le_of_ble_eq_true rfl) (fun Z h hr => ?_)
  refine z_aload_n h d_D_digitSum_0 rfl ?_
  refine z_get (C := R_D) (T := F_D) (N := 4) h 0 d_D_digitSum_1 in_D rfl (by decide) wf_D_12 rfl rfl ?_
  refine z_aload_n h d_D_digitSum_4 rfl ?_
  refine z_get (C := R_D) (T := F_D) (N := 4) h 2 d_D_digitSum_5 in_D rfl (by decide) wf_D_22 rfl rfl ?_
  refine z_getN (C := R_B) (T := F_B) (N := 3) h 0 d_D_digitSum_8 in_B rfl (by decide) wf_D_70 rfl rfl ?_
  refine z_cV (C := R_T) (ci := 2) h (ms_T_tell b v gu pg dg td s sl a g pw l h1 h3.2 h3.1) (zf_T_tell (by decide)) wm_D_209 wi_T_tell ws_T_tell rfl ⟨_, rfl⟩ d_D_digitSum_11 [1, 2, 3, 4, 5, 12, 13] (by decide) rfl (Nat.le_of_ble_eq_true rfl) rfl (fun _ => rfl) (fun x_11 hx_11 => ?_)
  refine z_aload_n h d_D_digitSum_14 rfl ?_
  refine z_get (C := R_D) (T := F_D) (N := 4) h 0 d_D_digitSum_15 in_D rfl (by decide) wf_D_12 rfl rfl ?_
  refine z_cV (C := R_T) (ci := 2) h (ms_T_sumOfDigits b v x_11.1 x_11.2.1 (nd b v) s a x_11.2.2.1 x_11.2.2.2.1 hx_11.1) (zf_T_sumOfDigits (by decide)) wm_D_214 wi_T_sumOfDigits ws_T_sumOfDigits rfl ⟨_, rfl⟩ d_D_digitSum_18 [1, 2, 3, 4, 5] (by decide) rfl (Nat.le_of_ble_eq_true rfl) rfl (fun _ => rfl) (fun x_18 hx_18 => ?_)
  refine hr.1 _ _ _ _ _ _ (Nat.le_refl _) (Nat.le_refl _) rfl d_D_digitSum_21 ?_
  exact ⟨rfl, _, _, _, _, _, _, _, _, _, _, _, _, _, _, _, _, _, _, _, _, _, rfl, hx_11.1, rfl, h2, ⟨hx_11.2.2, hx_11.2.1⟩, h4, h5⟩
theorem Rp_small {B N M : Nat} {a : Nat → Nat} {s v : Nat} (hB : 2 ≤ B) (h : Rp B N a s v) (hv : v < B ^ M) : s ≤ M := by
  obtain ⟨-, -, -, h4⟩ := h
  rcases h4 with h4 | h4
  · omega
  · apply Nat.le_of_not_lt
    intro hq
    have : B ^ M ≤ B ^ (s - 1) := Nat.pow_le_pow_right (by omega) (by omega)
    omega
theorem TI0 {b v s gu pg dg td : Nat} {a g pw : Nat → Nat} {b' v' s' : Nat} {a' : Nat → Nat} (h : TI b v s a gu pg dg td g pw) (hR : Rp 1073741824 800 a' s' v') (hb : 2 ≤ b' ∧ b' < 37) : TI b' v' s' a' gu pg dg 0 g pw := by
  obtain ⟨-, -, h3, h4, h5, h6, h7, -, -⟩ := h
  exact ⟨hR, hb, h3, h4, h5, h6, h7, by decide, fun h => by cases h⟩
set_option maxRecDepth 100000 in
set_option maxHeartbeats 4000000 in
theorem ms_D_retell (v b v2 b2 b' v' gu pg dg td s : Nat) (a g pw : Nat → Nat) (gu2 pg2 dg2 td2 s2 : Nat) (a2 g2 pw2 : Nat → Nat) (sl sr sq : Nat) (l r q : Nat → Nat) (h1 : TI b v s a gu pg dg td g pw) (h2 : TI b2 v2 s2 a2 gu2 pg2 dg2 td2 g2 pw2) (h3 : okL sl l) (h4 : okL sr r) (h5 : Rp 1073741824 1400 q sq v') (hv : v' < 1073741824 ^ 800) (hb : 2 ≤ b' ∧ b' < 37) : MS y_D_retell c_D_retell 3 (some .int) (rm 6) [.ref 0, .ref 16, .int (nI b')] (dW b gu pg dg td s a g pw b2 gu2 pg2 dg2 td2 s2 a2 g2 pw2 sl sr sq l r q []) (fun r w' => r = some (.int (nI (nd b' v'))) ∧ DT v' b' v2 b2 w') := by
  refine MS_of (own := R_D) (by decide) rfl (fun _ => Nat.le_of_ble_eq_true rfl) (fun Z h hr => ?_)
  have hs := Rp_small (by decide) h5 hv
  refine z_aload_n h d_D_retell_0 rfl ?_
  refine z_get (C := R_D) (T := F_D) (N := 4) h 0 d_D_retell_1 in_D rfl (by decide) wf_D_12 rfl rfl ?_
  refine z_aload_n h d_D_retell_4 rfl ?_
  refine z_iload_n h d_D_retell_5 rfl ?_
  refine z_cV (C := R_T) (ci := 2) h (ms_T_replace b b' gu pg dg td s 1400 sq v' a g pw q h1.1.2.1 (by decide) hs h5) (zf_T_replace (by decide)) wm_D_154 wi_T_replace ws_T_replace rfl ⟨_, rfl⟩ d_D_retell_6 [1, 2, 3, 4, 5, 16, 17] (by decide) rfl (Nat.le_of_ble_eq_true rfl) rfl (fun _ => rfl) (fun x_6 hx_6 => ?_)
  refine z_aload_n h d_D_retell_9 rfl ?_
  refine z_dV (C := R_D) (ci := 4) h (ms_D_digits v' b' v2 b2 _ ⟨gu, pg, dg, 0, x_6.2, x_6.1, g, pw, gu2, pg2, dg2, td2, s2, a2, g2, pw2, sl, sr, sq, l, r, q, rfl, TI0 h1 hx_6 hb, h2, h3, h4, ⟨h5.1, h5.2.1⟩⟩) (zf_D_digits (by decide)) wm_D_114 wi_D_digits ws_D_digits rfl ⟨_, rfl⟩ d_D_retell_10 (by decide) is18 (by decide) rfl (Nat.le_of_ble_eq_true rfl) rfl (fun _ _ hp => DT_len hp.2) (fun r_10 w_10 hp_10 => ?_)
  obtain ⟨rfl, hT⟩ := hp_10
  rw [put18n (DT_len hT) rfl]
  refine hr.1 _ _ _ _ _ _ (Nat.le_refl _) (Nat.le_refl _) rfl d_D_retell_13 ?_
  exact ⟨rfl, hT⟩
/-! refusals -/
set_option maxRecDepth 100000 in
theorem ms_D_refuseWrongBase (b : Nat) (hb : 2 ≤ b ∧ b < 37) (w : List va_E) : MS y_D_refuseWrongBase c_D_refuseWrongBase 1 none (rm 1) [.int (nI b)] w (zP (X := Unit) (fun _ => none) (fun _ => w) (fun _ => True)) := by
  refine MS_of (own := R_D) (by decide) rfl (fun _ => Nat.le_of_ble_eq_true rfl) (fun Z h hr => ?_)
  refine z_iload_n h d_D_refuseWrongBase_0 rfl ?_
  refine z_iconst (v := nI 2) h d_D_refuseWrongBase_1 (by decide) ?_
  refine z_icmp_ltN (tgt := 11) h d_D_refuseWrongBase_2 (by decide) (by omega) (fun c_2 => ?_) (fun c_2 => ?_)
  · exact absurd c_2 (by omega)
  · refine z_iload_n h d_D_refuseWrongBase_5 rfl ?_
    refine z_bipush (v := nI 36) h d_D_refuseWrongBase_6 (by decide) ?_
    refine z_icmp_leN (tgt := 21) h d_D_refuseWrongBase_8 (by decide) (by omega) (fun c_8 => ?_) (fun c_8 => ?_)
    · refine hr.2.2.2.1 _ _ _ _ _ (Nat.le_refl _) (Nat.le_refl _) rfl d_D_refuseWrongBase_21 ?_
      exact ⟨(), rfl, rfl, trivial⟩
    · exact absurd c_8 (by omega)
def okB (x : Int32) : Prop := ¬ x < 2 ∧ ¬ 36 < x
set_option maxRecDepth 100000 in
theorem mt_D_refuseWrongBase (x : Int32) (hx : ¬ okB x) (w : List va_E) : MT y_D_refuseWrongBase c_D_refuseWrongBase 1 none (rmT 6) [.int x] w X_IAE (fun w' => w' = w) := by
  refine MT_of (own := R_D) (by decide) rfl (fun _ => Nat.le_of_ble_eq_true rfl) (fun Z h ht => ?_)
  refine z_iload_n h d_D_refuseWrongBase_0 rfl ?_
  refine z_iconst (v := 2) h d_D_refuseWrongBase_1 (by decide) ?_
  refine z_icmp_lt (tgt := 11) h d_D_refuseWrongBase_2 (by decide) (fun c_2 => ?_) (fun c_2 => ?_)
  · refine z_throw (tx := "no such base") ht fit_IAE own_IAE wkx_IAE wnx_IAE wix_IAE (zStr_mem (by decide +kernel)) d_D_refuseWrongBase_11 d_D_refuseWrongBase_14 d_D_refuseWrongBase_15 d_D_refuseWrongBase_17 d_D_refuseWrongBase_20 (by decide) (by decide) rfl rfl rfl ?_
    rfl
  · refine z_iload_n h d_D_refuseWrongBase_5 rfl ?_
    refine z_bipush (v := 36) h d_D_refuseWrongBase_6 (by decide) ?_
    refine z_icmp_le (tgt := 21) h d_D_refuseWrongBase_8 (by decide) (fun c_8 => ?_) (fun c_8 => ?_)
    · exact absurd ⟨c_2, Int32.not_lt.mpr c_8⟩ hx
    · refine z_throw (tx := "no such base") ht fit_IAE own_IAE wkx_IAE wnx_IAE wix_IAE (zStr_mem (by decide +kernel)) d_D_refuseWrongBase_11 d_D_refuseWrongBase_14 d_D_refuseWrongBase_15 d_D_refuseWrongBase_17 d_D_refuseWrongBase_20 (by decide) (by decide) rfl rfl rfl ?_
      rfl
