/-! DigitMill$Text: reading, pushing, copying -/
theorem nd_le {b v n : Nat} (hb : 2 ≤ b) (hn : 1 ≤ n) (h : v < b ^ n) : nd b v ≤ n := by
  obtain ⟨g1, g2, g3⟩ := nd_spec hb v
  rcases g3 with g3 | g3
  · omega
  · apply Nat.le_of_not_lt
    intro q
    have : b ^ n ≤ b ^ (nd b v - 1) := Nat.pow_le_pow_right (by omega) (by omega)
    omega
theorem Tld_lt {b v gu pg dg : Nat} {g pw : Nat → Nat} (h : Tld b v gu pg dg g pw) : v < b ^ (pg * gu) := by
  obtain ⟨-, -, -, h4, h5, -⟩ := h
  rw [Nat.pow_mul, ← h5]
  exact nv_lt h4
theorem Tld_dig {b v gu pg dg k r : Nat} {g pw : Nat → Nat} (hb : 2 ≤ b) (h : Tld b v gu pg dg g pw) (hk : k < gu) (hr : r < pg) : g k / b ^ r % b = dig b v (pg * k + r) := by
  obtain ⟨-, -, -, h4, h5, -⟩ := h
  rw [← grp_dig (by omega) hr, ← h5, nv_dig (Nat.pow_pos (by omega)) hk h4]
set_option maxRecDepth 100000 in
set_option maxHeartbeats 4000000 in
theorem ms_T_digitAt (b v gu pg dg s i : Nat) (a g pw : Nat → Nat) (hT : TI b v s a gu pg dg 1 g pw) (hi : i < dg) : MS y_T_digitAt c_T_digitAt 4 (some .int) (rm 1) [.ref 0, .int (nI i)] (tW b gu pg dg 1 s a g pw) (zP (X := Unit) (fun _ => some (.int (nI (dig b v (dg - 1 - i))))) (fun _ => tW b gu pg dg 1 s a g pw) (fun _ => True)) := by
  refine MS_of (own := R_T) (by decide) rfl (fun _ => Nat.le_of_ble_eq_true rfl) (fun Z h hr => ?_)
  obtain ⟨hR, hb, hgu, hg31, hpw31, hpg, hdg, htd, htl⟩ := id hT
  have hl := htl rfl
  obtain ⟨l1, l2, l3, l4, l5, l6, l7⟩ := id hl
  obtain ⟨hg1, hg2, hg3⟩ := dpg_ok b hb.2 hb.1
  have hp1 : 1 ≤ pg := by omega
  have hle : dg ≤ pg * gu := by rw [l7]; exact nd_le hb.1 (Nat.mul_pos hp1 l3) (Tld_lt hl)
  have hq : (dg - 1 - i) / pg < gu := by rw [Nat.div_lt_iff_lt_mul hp1, Nat.mul_comm]; omega
  have hm := Nat.mod_lt (dg - 1 - i) hp1
  have hdm := Nat.div_add_mod (dg - 1 - i) pg
  have e1 := l2 ((dg - 1 - i) % pg) (by omega)
  have e2 : b ^ ((dg - 1 - i) % pg) ≤ 1073741824 := Nat.le_trans (Nat.pow_le_pow_right (by omega) (by omega)) hg3
  have e3 : 0 < b ^ ((dg - 1 - i) % pg) := Nat.pow_pos (by omega)
  have e4 := hg31 ((dg - 1 - i) / pg)
  have e5 : g ((dg - 1 - i) / pg) / b ^ ((dg - 1 - i) % pg) ≤ g ((dg - 1 - i) / pg) := Nat.div_le_self _ _
  have hs_14 : dg - 1 - i < 2 ^ 31 ∧ 0 < pg ∧ pg < 2 ^ 31 := by omega
  have hs_31 : dg - 1 - i < 2 ^ 31 ∧ 0 < pg ∧ pg < 2 ^ 31 := by omega
  refine z_aload_n h d_T_digitAt_0 rfl ?_
  refine z_get (C := R_T) (T := F_T) (N := 8) h 6 d_T_digitAt_1 in_T rfl (by decide) wf_T_37 rfl rfl ?_
  refine z_iconst (v := nI 1) h d_T_digitAt_4 (by decide) ?_
  refine z_isubN h d_T_digitAt_5 (by omega) ?_
  refine z_iload_n h d_T_digitAt_6 rfl ?_
  refine z_isubN h d_T_digitAt_7 (by omega) ?_
  refine z_istore_n h d_T_digitAt_8 (by decide) ?_
  refine z_iload_n h d_T_digitAt_9 rfl ?_
  refine z_aload_n h d_T_digitAt_10 rfl ?_
  refine z_get (C := R_T) (T := F_T) (N := 8) h 4 d_T_digitAt_11 in_T rfl (by decide) wf_T_61 rfl rfl ?_
  refine z_idivN h d_T_digitAt_14 hs_14 ?_
  refine z_istore_n h d_T_digitAt_15 (by decide) ?_
  refine z_aload_n h d_T_digitAt_16 rfl ?_
  refine z_get (C := R_T) (T := F_T) (N := 8) h 2 d_T_digitAt_17 in_T rfl (by decide) wf_T_24 rfl rfl ?_
  refine z_iload_n h d_T_digitAt_20 rfl ?_
  refine z_ialoadN h d_T_digitAt_21 rfl (by omega) ?_
  refine z_aload_n h d_T_digitAt_22 rfl ?_
  refine z_get (C := R_T) (T := F_T) (N := 8) h 5 d_T_digitAt_23 in_T rfl (by decide) wf_T_28 rfl rfl ?_
  refine z_iload_n h d_T_digitAt_26 rfl ?_
  refine z_aload_n h d_T_digitAt_27 rfl ?_
  refine z_get (C := R_T) (T := F_T) (N := 8) h 4 d_T_digitAt_28 in_T rfl (by decide) wf_T_61 rfl rfl ?_
  refine z_iremN h d_T_digitAt_31 hs_31 ?_
  refine z_ialoadN h d_T_digitAt_32 rfl (by omega) ?_
  rw [e1]
  have hs_33 : g ((dg - 1 - i) / pg) < 2 ^ 31 ∧ 0 < b ^ ((dg - 1 - i) % pg) ∧ b ^ ((dg - 1 - i) % pg) < 2 ^ 31 := by omega
  have hs_38 : g ((dg - 1 - i) / pg) / b ^ ((dg - 1 - i) % pg) < 2 ^ 31 ∧ 0 < b ∧ b < 2 ^ 31 := by omega
  refine z_idivN h d_T_digitAt_33 hs_33 ?_
  refine z_aload_n h d_T_digitAt_34 rfl ?_
  refine z_get (C := R_T) (T := F_T) (N := 8) h 1 d_T_digitAt_35 in_T rfl (by decide) wf_T_20 rfl rfl ?_
  refine z_iremN h d_T_digitAt_38 hs_38 ?_
  refine hr.1 _ _ _ _ _ _ (Nat.le_refl _) (Nat.le_refl _) rfl d_T_digitAt_39 ?_
  refine ⟨(), ?_, rfl, trivial⟩
  rw [Tld_dig hb.1 hl hq hm, hdm]
theorem dsm_grp {b v gu pg dg k : Nat} {g pw : Nat → Nat} (hb : 2 ≤ b) (h : Tld b v gu pg dg g pw) (hk : k < gu) : ∀ r, r ≤ pg → dsm b v (pg * k + r) = dsm b v (pg * k) + dsm b (g k) r
  | 0, _ => rfl
  | r + 1, hr => by
    show dsm b v (pg * k + r) + dig b v (pg * k + r) = dsm b v (pg * k) + (dsm b (g k) r + dig b (g k) r)
    rw [dsm_grp hb h hk r (by omega), ← Tld_dig hb h hk (by omega)]
    unfold dig
    omega
set_option maxRecDepth 100000 in
set_option maxHeartbeats 4000000 in
theorem ms_T_sumOfDigits (b v gu pg dg s : Nat) (a g pw : Nat → Nat) (hT : TI b v s a gu pg dg 1 g pw) : MS y_T_sumOfDigits c_T_sumOfDigits 5 (some .int) (rm 1) [.ref 0] (tW b gu pg dg 1 s a g pw) (zP (X := Unit) (fun _ => some (.int (nI (dsm b v dg)))) (fun _ => tW b gu pg dg 1 s a g pw) (fun _ => True)) := by
  refine MS_of (own := R_T) (by decide) rfl (fun _ => Nat.le_of_ble_eq_true rfl) (fun Z h hr => ?_)
  obtain ⟨hR, hb, hgu, hg31, hpw31, hpg, hdg, htd, htl⟩ := id hT
  have hl := htl rfl
  obtain ⟨l1, l2, l3, l4, l5, l6, l7⟩ := id hl
  obtain ⟨hg1, hg2, hg3⟩ := dpg_ok b hb.2 hb.1
  have hp1 : 1 ≤ pg := by omega
  have hle : dg ≤ pg * gu := by rw [l7]; exact nd_le hb.1 (Nat.mul_pos hp1 l3) (Tld_lt hl)
  have hlt2 : v < b ^ dg := by rw [l7]; exact (nd_spec hb.1 v).2.1
  have L : ∀ (m i : Nat), i + m = gu → Z 0 0 (tW b gu pg dg 1 s a g pw) [(0, .ref 0), (1, .int (nI (dsm b v (pg * i)))), (2, .int (nI i))] 4 [] := by
    intro m
    induction m with
    | zero =>
      intro i him
      obtain rfl : i = gu := by omega
      refine z_iload_n h d_T_sumOfDigits_4 rfl ?_
      refine z_aload_n h d_T_sumOfDigits_5 rfl ?_
      refine z_get (C := R_T) (T := F_T) (N := 8) h 3 d_T_sumOfDigits_6 in_T rfl (by decide) wf_T_34 rfl rfl ?_
      refine z_icmp_geN (tgt := 59) h d_T_sumOfDigits_9 (by decide) (by omega) (fun c_9 => ?_) (fun c_9 => ?_)
      · refine z_iload_n h d_T_sumOfDigits_59 rfl ?_
        refine hr.1 _ _ _ _ _ _ (Nat.le_refl _) (Nat.le_refl _) rfl d_T_sumOfDigits_60 ?_
        exact ⟨(), by rw [dsm_more hb.1 hlt2 hle], rfl, trivial⟩
      · exact absurd c_9 (by omega)
    | succ m ih =>
      intro i him
      have hgi := hg31 i
      have e1 : dsm b v (pg * i) + dsm b (g i) pg = dsm b v (pg * (i + 1)) := by
        rw [Nat.mul_succ, dsm_grp hb.1 hl (by omega) pg (Nat.le_refl _)]
      have I : ∀ (q k : Nat), k + q = pg → Z 0 0 (tW b gu pg dg 1 s a g pw) [(0, .ref 0), (1, .int (nI (dsm b v (pg * i) + dsm b (g i) k))), (2, .int (nI i)), (3, .int (nI (g i / b ^ k))), (4, .int (nI k))] 22 [] := by
        intro q
        induction q with
        | zero =>
          intro k hkq
          rw [show k = pg by omega]
          refine z_iload h d_T_sumOfDigits_22 rfl ?_
          refine z_aload_n h d_T_sumOfDigits_24 rfl ?_
          refine z_get (C := R_T) (T := F_T) (N := 8) h 4 d_T_sumOfDigits_25 in_T rfl (by decide) wf_T_61 rfl rfl ?_
          refine z_icmp_geN (tgt := 53) h d_T_sumOfDigits_28 (by decide) (by omega) (fun c_28 => ?_) (fun c_28 => ?_)
          · rw [e1]
            refine z_iincN h 1 d_T_sumOfDigits_53 rfl (by decide) (by decide) ?_
            refine z_goto (tgt := 4) h d_T_sumOfDigits_56 (by decide) ?_
            exact z_lv h rfl (ih (i + 1) (by omega))
          · exact absurd c_28 (by omega)
        | succ q ih2 =>
          intro k hkq
          have hd1 : g i / b ^ k ≤ g i := Nat.div_le_self _ _
          have hs_37 : g i / b ^ k < 2 ^ 31 ∧ 0 < b ∧ b < 2 ^ 31 := by omega
          have hs_45 : g i / b ^ k < 2 ^ 31 ∧ 0 < b ∧ b < 2 ^ 31 := by omega
          refine z_iload h d_T_sumOfDigits_22 rfl ?_
          refine z_aload_n h d_T_sumOfDigits_24 rfl ?_
          refine z_get (C := R_T) (T := F_T) (N := 8) h 4 d_T_sumOfDigits_25 in_T rfl (by decide) wf_T_61 rfl rfl ?_
          refine z_icmp_geN (tgt := 53) h d_T_sumOfDigits_28 (by decide) (by omega) (fun c_28 => ?_) (fun c_28 => ?_)
          · exact absurd c_28 (by omega)
          · refine z_iload_n h d_T_sumOfDigits_31 rfl ?_
            refine z_iload_n h d_T_sumOfDigits_32 rfl ?_
            refine z_aload_n h d_T_sumOfDigits_33 rfl ?_
            refine z_get (C := R_T) (T := F_T) (N := 8) h 1 d_T_sumOfDigits_34 in_T rfl (by decide) wf_T_20 rfl rfl ?_
            refine z_iremN h d_T_sumOfDigits_37 hs_37 ?_
            refine z_iaddN h d_T_sumOfDigits_38 ?_
            refine z_istore_n h d_T_sumOfDigits_39 (by decide) ?_
            refine z_iload_n h d_T_sumOfDigits_40 rfl ?_
            refine z_aload_n h d_T_sumOfDigits_41 rfl ?_
            refine z_get (C := R_T) (T := F_T) (N := 8) h 1 d_T_sumOfDigits_42 in_T rfl (by decide) wf_T_20 rfl rfl ?_
            refine z_idivN h d_T_sumOfDigits_45 hs_45 ?_
            refine z_istore_n h d_T_sumOfDigits_46 (by decide) ?_
            refine z_iincN h 1 d_T_sumOfDigits_47 rfl (by decide) (by decide) ?_
            refine z_goto (tgt := 22) h d_T_sumOfDigits_50 (by decide) ?_
            rw [Nat.div_div_eq_div_mul, ← Nat.pow_succ, Nat.add_assoc]
            exact z_lv h rfl (ih2 (k + 1) (by omega))
      refine z_iload_n h d_T_sumOfDigits_4 rfl ?_
      refine z_aload_n h d_T_sumOfDigits_5 rfl ?_
      refine z_get (C := R_T) (T := F_T) (N := 8) h 3 d_T_sumOfDigits_6 in_T rfl (by decide) wf_T_34 rfl rfl ?_
      refine z_icmp_geN (tgt := 59) h d_T_sumOfDigits_9 (by decide) (by omega) (fun c_9 => ?_) (fun c_9 => ?_)
      · exact absurd c_9 (by omega)
      · refine z_aload_n h d_T_sumOfDigits_12 rfl ?_
        refine z_get (C := R_T) (T := F_T) (N := 8) h 2 d_T_sumOfDigits_13 in_T rfl (by decide) wf_T_24 rfl rfl ?_
        refine z_iload_n h d_T_sumOfDigits_16 rfl ?_
        refine z_ialoadN h d_T_sumOfDigits_17 rfl (by omega) ?_
        refine z_istore_n h d_T_sumOfDigits_18 (by decide) ?_
        refine z_iconst (v := nI 0) h d_T_sumOfDigits_19 (by decide) ?_
        refine z_istore h d_T_sumOfDigits_20 (by decide) ?_
        refine z_lv (lv' := [(0, .ref 0), (1, .int (nI (dsm b v (pg * i) + dsm b (g i) 0))), (2, .int (nI i)), (3, .int (nI (g i / b ^ 0))), (4, .int (nI 0))]) h ?_ (I pg 0 (by omega))
        simp only [Nat.pow_zero, Nat.div_one]
        rfl
  refine z_iconst (v := nI 0) h d_T_sumOfDigits_0 (by decide) ?_
  refine z_istore_n h d_T_sumOfDigits_1 (by decide) ?_
  refine z_iconst (v := nI 0) h d_T_sumOfDigits_2 (by decide) ?_
  refine z_istore_n h d_T_sumOfDigits_3 (by decide) ?_
  exact z_lv h rfl (L gu 0 (by omega))
set_option maxRecDepth 100000 in
set_option maxHeartbeats 8000000 in
theorem ms_T_shiftIn (b v v' d gu pg dg td s : Nat) (a g pw : Nat → Nat) (hT : TI b v' s a gu pg dg 0 g pw) (htd : td ≤ 1) (htl : td = 1 → Tld b v gu pg dg g pw) (hd : d < b) (hv' : v' = v * b + d) : MS y_T_shiftIn c_T_shiftIn 9 none (rm 2) [.ref 0, .int (nI d)] (tW b gu pg dg td s a g pw) (zP (X := Nat × Nat × Nat × (Nat → Nat) × (Nat → Nat)) (fun _ => none) (fun x => tW b x.1 x.2.1 x.2.2.1 td s a x.2.2.2.1 x.2.2.2.2) (fun x => TI b v' s a x.1 x.2.1 x.2.2.1 td x.2.2.2.1 x.2.2.2.2)) := by
  refine MS_of (own := R_T) (by decide) rfl (fun _ => Nat.le_of_ble_eq_true rfl) (fun Z h hr => ?_)
  obtain ⟨hR, hb, hgu, hg31, hpw31, hpg, hdg, -, -⟩ := id hT
  refine z_aload_n h d_T_shiftIn_0 rfl ?_
  refine z_get (C := R_T) (T := F_T) (N := 8) h 7 d_T_shiftIn_1 in_T rfl (by decide) wf_T_40 rfl rfl ?_
  refine z_if_neN (tgt := 8) h d_T_shiftIn_4 (by decide) (by omega) (fun c_4 => ?_) (fun c_4 => ?_)
  · have e1 : td = 1 := by omega
    subst e1
    have hl := htl rfl
    obtain ⟨l1, l2, l3, l4, l5, l6, l7⟩ := id hl
    obtain ⟨hg1, hg2, hg3⟩ := dpg_ok b hb.2 hb.1
    subst l1
    have hG0 : 0 < b ^ dpg b := Nat.pow_pos (by omega)
    have e9 := l2 (dpg b) (Nat.le_refl _)
    have hvlt : v' < (b ^ dpg b) ^ 960 := by
      have h1 := Rp_lt hR
      have h2 : (1073741824 : Nat) ^ s ≤ 1073741824 ^ 800 := Nat.pow_le_pow_right (by decide) hR.1
      have h3 := G960 hb
      omega
    have hnd : nd b v' < 2 ^ 31 := by
      have h1 : nd b v' ≤ dpg b * 960 := nd_le hb.1 (by omega) (by rw [Nat.pow_mul]; exact hvlt)
      omega
    have hvv : v ≤ v' := by
      have : v * 1 ≤ v * b := Nat.mul_le_mul_left _ (by omega)
      omega
    have F : ∀ (q : Nat) (g' : Nat → Nat), q < 960 → (∀ j, g' j < 2 ^ 31) → (∀ j, j < q + 1 → g' j < b ^ dpg b) → nv (b ^ dpg b) g' (q + 1) = v' → (q + 1 = 1 ∨ g' q ≠ 0) → ∀ lv, zg lv 0 = some (.ref 0) → Z 0 0 (tW b (q + 1) (dpg b) dg 1 s a g' pw) lv 122 [] := by
      intro q g' h1 h2 h3 h4 h5 lv hlv
      refine z_lv (lv' := [(0, .ref 0)]) h (by simp only [List.map_cons, List.map_nil, hlv]) ?_
      refine z_aload_n h d_T_shiftIn_122 rfl ?_
      refine z_cV (C := R_T) (ci := 2) h (ms_T_measure b v' q dg 1 s a g' pw hb h1 h3 h4 h5 l2) (zf_T_measure (by decide)) wm_T_77 wi_T_measure ws_T_measure rfl ⟨_, rfl⟩ d_T_shiftIn_123 [0, 1, 2, 3, 4] (by decide) rfl (Nat.le_of_ble_eq_true rfl) rfl (fun _ => rfl) (fun x_123 hx_123 => ?_)
      refine hr.2.2.2.1 _ _ _ _ _ (Nat.le_refl _) (Nat.le_refl _) rfl d_T_shiftIn_126 ?_
      exact ⟨(q + 1, dpg b, nd b v', g', pw), rfl, rfl, hR, hb, (show q + 1 ≤ 960 by omega), h2, hpw31, hpg, hnd, Nat.le_refl 1, fun _ => ⟨rfl, l2, (show 1 ≤ q + 1 by omega), h3, h4, h5, rfl⟩⟩
    have L : ∀ (m i c : Nat) (g' : Nat → Nat) (l7 : List (Nat × Value)), i + m = gu → (∀ j, g' j < 2 ^ 31) → (∀ j, j < gu → g' j < b ^ dpg b) → (∀ j, i ≤ j → g' j = g j) → c < b → nv (b ^ dpg b) g' i + c * (b ^ dpg b) ^ i = nv (b ^ dpg b) g i * b + d → Z 0 0 (tW b gu (dpg b) dg 1 s a g' pw) [(0, .ref 0), (1, .int (nI d)), (2, .long (lN (b ^ dpg b))), (4, .long (lN c)), (6, .int (nI i))] 26 [] := by
      intro m
      induction m with
      | zero =>
        intro i c g' _ him h1 h2 h3 hc hval
        obtain rfl : i = gu := by omega
        rw [l5, ← hv'] at hval
        refine z_iload h d_T_shiftIn_26 rfl ?_
        refine z_aload_n h d_T_shiftIn_28 rfl ?_
        refine z_get (C := R_T) (T := F_T) (N := 8) h 3 d_T_shiftIn_29 in_T rfl (by decide) wf_T_34 rfl rfl ?_
        refine z_icmp_geN (tgt := 81) h d_T_shiftIn_32 (by decide) (by omega) (fun c_32 => ?_) (fun c_32 => ?_)
        · refine z_lload h d_T_shiftIn_81 rfl ?_
          refine z_lconst (v := lN 0) h d_T_shiftIn_83 (by decide) ?_
          refine z_lcmp_leN (tgt := 122) h d_T_shiftIn_84 d_T_shiftIn_85 (by decide) (by omega) (fun c_84 => ?_) (fun c_84 => ?_)
          · have hc0 : c = 0 := by omega
            subst hc0
            rw [Nat.zero_mul, Nat.add_zero] at hval
            obtain ⟨q, rfl⟩ : ∃ q, i = q + 1 := ⟨i - 1, by omega⟩
            refine F q g' (by omega) h1 h2 hval ?_ _ rfl
            rcases l6 with l6 | l6
            · exact Or.inl l6
            · refine Or.inr fun z => ?_
              have h6 : 1 * (b ^ dpg b) ^ q ≤ g q * (b ^ dpg b) ^ q := Nat.mul_le_mul_right _ (Nat.pos_of_ne_zero l6)
              have h7 : v = nv (b ^ dpg b) g q + g q * (b ^ dpg b) ^ q := l5.symm
              have h8 : v' = nv (b ^ dpg b) g' q + g' q * (b ^ dpg b) ^ q := hval.symm
              have h9 : nv (b ^ dpg b) g' q < (b ^ dpg b) ^ q := nv_lt fun j hj => h2 j (by omega)
              rw [z, Nat.zero_mul] at h8
              omega
          · have h6 : 1 * (b ^ dpg b) ^ i ≤ c * (b ^ dpg b) ^ i := Nat.mul_le_mul_right _ c_84
            have hb30 : b ≤ b ^ dpg b := by
              have : b ^ 1 ≤ b ^ dpg b := Nat.pow_le_pow_right (by omega) hg1
              rwa [Nat.pow_one] at this
            refine z_aload_n h d_T_shiftIn_88 rfl ?_
            refine z_get (C := R_T) (T := F_T) (N := 8) h 3 d_T_shiftIn_89 in_T rfl (by decide) wf_T_34 rfl rfl ?_
            refine z_aload_n h d_T_shiftIn_92 rfl ?_
            refine z_get (C := R_T) (T := F_T) (N := 8) h 2 d_T_shiftIn_93 in_T rfl (by decide) wf_T_24 rfl rfl ?_
            refine z_alenN h d_T_shiftIn_96 rfl ?_
            refine z_icmp_geN (tgt := 122) h d_T_shiftIn_97 (by decide) (by omega) (fun c_97 => ?_) (fun c_97 => ?_)
            · exfalso
              rw [show i = 960 by omega] at h6 hval
              omega
            · refine z_aload_n h d_T_shiftIn_100 rfl ?_
              refine z_get (C := R_T) (T := F_T) (N := 8) h 2 d_T_shiftIn_101 in_T rfl (by decide) wf_T_24 rfl rfl ?_
              refine z_aload_n h d_T_shiftIn_104 rfl ?_
              refine z_get (C := R_T) (T := F_T) (N := 8) h 3 d_T_shiftIn_105 in_T rfl (by decide) wf_T_34 rfl rfl ?_
              refine z_lload h d_T_shiftIn_108 rfl ?_
              refine z_l2iN h d_T_shiftIn_110 ?_
              refine z_iastoreN h d_T_shiftIn_111 rfl (by omega) ?_
              refine z_aload_n h d_T_shiftIn_112 rfl ?_
              refine z_dup h d_T_shiftIn_113 rfl ?_
              refine z_get (C := R_T) (T := F_T) (N := 8) h 3 d_T_shiftIn_114 in_T rfl (by decide) wf_T_34 rfl rfl ?_
              refine z_iconst (v := nI 1) h d_T_shiftIn_117 (by decide) ?_
              refine z_iaddN h d_T_shiftIn_118 ?_
              refine z_put (C := R_T) (T := F_T) (N := 8) (ty := .int) h 3 d_T_shiftIn_119 in_T rfl ft_T_ok n_T (by decide) wf_T_34 rfl rfl rfl rfl rfl (Nat.le_of_ble_eq_true rfl) ?_
              refine F i (un g' i c) (by omega) (un_lt h1 (by omega)) (fun j hj => ?_) (by rw [nv_put]; exact hval) (Or.inr (by rw [un_eq]; omega)) _ rfl
              by_cases e : j = i
              · rw [e, un_eq]; omega
              · rw [un_ne e]; exact h2 j (by omega)
        · exact absurd c_32 (by omega)
      | succ m ih =>
        intro i c g' _ him h1 h2 h3 hc hval
        have hgi := h1 i
        have hgl := h2 i (by omega)
        have hmul : g' i * b ≤ 1073741823 * b := Nat.mul_le_mul_right _ (by omega)
        have hs_57 : g' i * b + c < 2 ^ 63 ∧ 0 < b ^ dpg b ∧ b ^ dpg b < 2 ^ 63 := by omega
        have hs_72 : (g' i * b + c) / b ^ dpg b * b ^ dpg b ≤ g' i * b + c := Nat.div_mul_le_self _ _
        have em := sub_dm (g' i * b + c) (b ^ dpg b)
        have hml := Nat.mod_lt (g' i * b + c) hG0
        have hdl : (g' i * b + c) / b ^ dpg b < b := by
          rw [Nat.div_lt_iff_lt_mul hG0]
          have : (g' i + 1) * b ≤ b ^ dpg b * b := Nat.mul_le_mul_right _ hgl
          rw [Nat.add_mul] at this
          rw [Nat.mul_comm b]
          omega
        refine z_iload h d_T_shiftIn_26 rfl ?_
        refine z_aload_n h d_T_shiftIn_28 rfl ?_
        refine z_get (C := R_T) (T := F_T) (N := 8) h 3 d_T_shiftIn_29 in_T rfl (by decide) wf_T_34 rfl rfl ?_
        refine z_icmp_geN (tgt := 81) h d_T_shiftIn_32 (by decide) (by omega) (fun c_32 => ?_) (fun c_32 => ?_)
        · exact absurd c_32 (by omega)
        · refine z_aload_n h d_T_shiftIn_35 rfl ?_
          refine z_get (C := R_T) (T := F_T) (N := 8) h 2 d_T_shiftIn_36 in_T rfl (by decide) wf_T_24 rfl rfl ?_
          refine z_iload h d_T_shiftIn_39 rfl ?_
          refine z_ialoadN h d_T_shiftIn_41 rfl (by omega) ?_
          refine z_i2lN h d_T_shiftIn_42 (by omega) ?_
          refine z_aload_n h d_T_shiftIn_43 rfl ?_
          refine z_get (C := R_T) (T := F_T) (N := 8) h 1 d_T_shiftIn_44 in_T rfl (by decide) wf_T_20 rfl rfl ?_
          refine z_i2lN h d_T_shiftIn_47 (by omega) ?_
          refine z_lmulN h d_T_shiftIn_48 ?_
          refine z_lload h d_T_shiftIn_49 rfl ?_
          refine z_laddN h d_T_shiftIn_51 ?_
          refine z_lstore h d_T_shiftIn_52 (by decide) ?_
          refine z_lload h d_T_shiftIn_54 rfl ?_
          refine z_lload_n h d_T_shiftIn_56 rfl ?_
          refine z_ldivN h d_T_shiftIn_57 hs_57 ?_
          refine z_lstore h d_T_shiftIn_58 (by decide) ?_
          refine z_aload_n h d_T_shiftIn_60 rfl ?_
          refine z_get (C := R_T) (T := F_T) (N := 8) h 2 d_T_shiftIn_61 in_T rfl (by decide) wf_T_24 rfl rfl ?_
          refine z_iload h d_T_shiftIn_64 rfl ?_
          refine z_lload h d_T_shiftIn_66 rfl ?_
          refine z_lload h d_T_shiftIn_68 rfl ?_
          refine z_lload_n h d_T_shiftIn_70 rfl ?_
          refine z_lmulN h d_T_shiftIn_71 ?_
          refine z_lsubN h d_T_shiftIn_72 hs_72 ?_
          rw [em]
          refine z_l2iN h d_T_shiftIn_73 ?_
          refine z_iastoreN h d_T_shiftIn_74 rfl (by omega) ?_
          refine z_iincN h 1 d_T_shiftIn_75 rfl (by decide) (by decide) ?_
          refine z_goto (tgt := 26) h d_T_shiftIn_78 (by decide) ?_
          refine z_lv (lv' := [(0, .ref 0), (1, .int (nI d)), (2, .long (lN (b ^ dpg b))), (4, .long (lN ((g' i * b + c) / b ^ dpg b))), (6, .int (nI (i + 1)))]) h rfl ?_
          refine ih (i + 1) _ (un g' i ((g' i * b + c) % b ^ dpg b)) [] (by omega) (un_lt h1 (by omega)) (fun j hj => ?_) (fun j hj => by rw [un_ne (by omega)]; exact h3 j (by omega)) hdl ?_
          · by_cases e : j = i
            · rw [e, un_eq]; exact hml
            · rw [un_ne e]; exact h2 j hj
          · rw [nv_put, nv_s, Nat.pow_succ, Nat.add_assoc, carry_step, h3 i (Nat.le_refl i), Nat.add_comm (g i * b) c]
            exact scale_step hval
    refine z_aload_n h d_T_shiftIn_8 rfl ?_
    refine z_get (C := R_T) (T := F_T) (N := 8) h 5 d_T_shiftIn_9 in_T rfl (by decide) wf_T_28 rfl rfl ?_
    refine z_aload_n h d_T_shiftIn_12 rfl ?_
    refine z_get (C := R_T) (T := F_T) (N := 8) h 4 d_T_shiftIn_13 in_T rfl (by decide) wf_T_61 rfl rfl ?_
    refine z_ialoadN h d_T_shiftIn_16 rfl (by omega) ?_
    rw [e9]
    refine z_i2lN h d_T_shiftIn_17 (by omega) ?_
    refine z_lstore_n h d_T_shiftIn_18 (by decide) ?_
    refine z_iload_n h d_T_shiftIn_19 rfl ?_
    refine z_i2lN h d_T_shiftIn_20 (by omega) ?_
    refine z_lstore h d_T_shiftIn_21 (by decide) ?_
    refine z_iconst (v := nI 0) h d_T_shiftIn_23 (by decide) ?_
    refine z_istore h d_T_shiftIn_24 (by decide) ?_
    exact z_lv h rfl (L gu 0 d g [] (by omega) hg31 l4 (fun _ _ => rfl) hd (by simp [nv]))
  · subst c_4
    refine hr.2.2.2.1 _ _ _ _ _ (Nat.le_refl _) (Nat.le_refl _) rfl d_T_shiftIn_7 ?_
    exact ⟨(gu, pg, dg, g, pw), rfl, rfl, hT⟩
abbrev tW5 (b gu pg dg td s : Nat) (a g pw : Nat → Nat) : List va_E := [tx 6 b 8 gu pg 9 dg td, wh 7 s, ar 800 a, ar 960 g, ar 31 pw]
theorem bool_nar {t : Nat} (h : t ≤ 1) : narrow .boolean (.int (nI t)) = .int (nI t) := by
  rcases (show t = 0 ∨ t = 1 by omega) with rfl | rfl <;> decide
theorem bool_fit {t : Nat} (h : t ≤ 1) : fits .boolean (.int (nI t)) = true := by
  rcases (show t = 0 ∨ t = 1 by omega) with rfl | rfl <;> decide
set_option maxRecDepth 100000 in
set_option maxHeartbeats 4000000 in
/-- this becomes what the other text is -/
theorem ms_T_copyText (b gu pg dg td s b2 v2 gu2 pg2 dg2 td2 s2 : Nat) (a g pw a2 g2 pw2 : Nat → Nat) (ha : ∀ j, a j < 1073741824) (hg : ∀ j, g j < 2 ^ 31) (hpw : ∀ j, pw j < 2 ^ 31) (hT : TI b2 v2 s2 a2 gu2 pg2 dg2 td2 g2 pw2) : MS y_T_copyText c_T_copyText 2 none (rm 5) [.ref 0, .ref 5] (tW b gu pg dg td s a g pw ++ tW5 b2 gu2 pg2 dg2 td2 s2 a2 g2 pw2) (zP (X := (Nat → Nat) × Nat × (Nat → Nat) × (Nat → Nat)) (fun _ => none) (fun x => tW b2 gu2 pg2 dg2 td2 x.2.1 x.1 x.2.2.1 x.2.2.2 ++ tW5 b2 gu2 pg2 dg2 td2 s2 a2 g2 pw2) (fun x => TI b2 v2 x.2.1 x.1 gu2 pg2 dg2 td2 x.2.2.1 x.2.2.2)) := by
  refine MS_of (own := R_T) (by decide) rfl (fun _ => Nat.le_of_ble_eq_true rfl) (fun Z h hr => ?_)
  obtain ⟨hR, hb, hgu, hg31, hpw31, hpg, hdg, htd, htl⟩ := id hT
  refine z_aload_n h d_T_copyText_0 rfl ?_
  refine z_aload_n h d_T_copyText_1 rfl ?_
  refine z_get (C := R_T) (T := F_T) (N := 8) h 0 d_T_copyText_2 in_T rfl (by decide) wf_T_14 rfl rfl ?_
  refine z_aload_n h d_T_copyText_5 rfl ?_
  refine z_get (C := R_T) (T := F_T) (N := 8) h 1 d_T_copyText_6 in_T rfl (by decide) wf_T_20 rfl rfl ?_
  refine z_cV (C := R_T) (ci := 2) h (ms_T_replace b b2 gu pg dg td s 800 s2 v2 a g pw a2 ha (by decide) hR.1 hR) (zf_T_replace (by decide)) wm_T_51 wi_T_replace ws_T_replace rfl ⟨_, rfl⟩ d_T_copyText_9 [0, 1, 2, 3, 4, 6, 7] (by decide) rfl (Nat.le_of_ble_eq_true rfl) rfl (fun _ => rfl) (fun x_9 hx_9 => ?_)
  refine z_aload_n h d_T_copyText_12 rfl ?_
  refine z_aload_n h d_T_copyText_13 rfl ?_
  refine z_get (C := R_T) (T := F_T) (N := 8) h 3 d_T_copyText_14 in_T rfl (by decide) wf_T_34 rfl rfl ?_
  refine z_put (C := R_T) (T := F_T) (N := 8) (ty := .int) h 3 d_T_copyText_17 in_T rfl ft_T_ok n_T (by decide) wf_T_34 rfl rfl rfl rfl rfl (Nat.le_of_ble_eq_true rfl) ?_
  refine z_aload_n h d_T_copyText_20 rfl ?_
  refine z_get (C := R_T) (T := F_T) (N := 8) h 2 d_T_copyText_21 in_T rfl (by decide) wf_T_24 rfl rfl ?_
  refine z_iconst (v := nI 0) h d_T_copyText_24 (by decide) ?_
  refine z_aload_n h d_T_copyText_25 rfl ?_
  refine z_get (C := R_T) (T := F_T) (N := 8) h 2 d_T_copyText_26 in_T rfl (by decide) wf_T_24 rfl rfl ?_
  refine z_iconst (v := nI 0) h d_T_copyText_29 (by decide) ?_
  refine z_aload_n h d_T_copyText_30 rfl ?_
  refine z_get (C := R_T) (T := F_T) (N := 8) h 3 d_T_copyText_31 in_T rfl (by decide) wf_T_34 rfl rfl ?_
  refine z_copyN h d_T_copyText_34 wm_T_55 rfl rfl (by omega) (by decide) (Nat.le_of_ble_eq_true rfl) ?_
  refine z_aload_n h d_T_copyText_37 rfl ?_
  refine z_aload_n h d_T_copyText_38 rfl ?_
  refine z_get (C := R_T) (T := F_T) (N := 8) h 4 d_T_copyText_39 in_T rfl (by decide) wf_T_61 rfl rfl ?_
  refine z_put (C := R_T) (T := F_T) (N := 8) (ty := .int) h 4 d_T_copyText_42 in_T rfl ft_T_ok n_T (by decide) wf_T_61 rfl rfl rfl rfl rfl (Nat.le_of_ble_eq_true rfl) ?_
  refine z_aload_n h d_T_copyText_45 rfl ?_
  refine z_get (C := R_T) (T := F_T) (N := 8) h 5 d_T_copyText_46 in_T rfl (by decide) wf_T_28 rfl rfl ?_
  refine z_iconst (v := nI 0) h d_T_copyText_49 (by decide) ?_
  refine z_aload_n h d_T_copyText_50 rfl ?_
  refine z_get (C := R_T) (T := F_T) (N := 8) h 5 d_T_copyText_51 in_T rfl (by decide) wf_T_28 rfl rfl ?_
  refine z_iconst (v := nI 0) h d_T_copyText_54 (by decide) ?_
  refine z_aload_n h d_T_copyText_55 rfl ?_
  refine z_get (C := R_T) (T := F_T) (N := 8) h 5 d_T_copyText_56 in_T rfl (by decide) wf_T_28 rfl rfl ?_
  refine z_alenN h d_T_copyText_59 rfl ?_
  refine z_copyN h d_T_copyText_60 wm_T_55 rfl rfl (by omega) (by decide) (Nat.le_of_ble_eq_true rfl) ?_
  refine z_aload_n h d_T_copyText_63 rfl ?_
  refine z_aload_n h d_T_copyText_64 rfl ?_
  refine z_get (C := R_T) (T := F_T) (N := 8) h 6 d_T_copyText_65 in_T rfl (by decide) wf_T_37 rfl rfl ?_
  refine z_put (C := R_T) (T := F_T) (N := 8) (ty := .int) h 6 d_T_copyText_68 in_T rfl ft_T_ok n_T (by decide) wf_T_37 rfl rfl rfl rfl rfl (Nat.le_of_ble_eq_true rfl) ?_
  refine z_aload_n h d_T_copyText_71 rfl ?_
  refine z_aload_n h d_T_copyText_72 rfl ?_
  refine z_get (C := R_T) (T := F_T) (N := 8) h 7 d_T_copyText_73 in_T rfl (by decide) wf_T_40 rfl rfl ?_
  refine z_put (C := R_T) (T := F_T) (N := 8) (ty := .boolean) h 7 d_T_copyText_76 in_T rfl ft_T_ok n_T (by decide) wf_T_40 rfl rfl (bool_nar htd) (bool_fit htd) rfl (Nat.le_of_ble_eq_true rfl) ?_
  refine hr.2.2.2.1 _ _ _ _ _ (Nat.le_refl _) (Nat.le_refl _) rfl d_T_copyText_79 ?_
  refine ⟨(x_9.1, x_9.2, va_cpy g2 g 0 0 gu2, va_cpy pw2 pw 0 0 31), rfl, rfl, hx_9, hb, hgu, fun j => ?_, fun j => ?_, hpg, hdg, htd, fun e => ?_⟩
  · show va_cpy g2 g 0 0 gu2 j < _
    unfold va_cpy
    split
    · exact hg31 _
    · exact hg _
  · show va_cpy pw2 pw 0 0 31 j < _
    unfold va_cpy
    split
    · exact hpw31 _
    · exact hpw _
  · obtain ⟨l1, l2, l3, l4, l5, l6, l7⟩ := htl e
    have hd := dpg_ok b2 hb.2 hb.1
    have c1 : ∀ j, j < gu2 → va_cpy g2 g 0 0 gu2 j = g2 j := fun j hj => by unfold va_cpy; rw [if_pos (by omega)]; congr 1; omega
    refine ⟨l1, fun j hj => ?_, l3, fun j hj => ?_, ?_, ?_, l7⟩
    · show va_cpy pw2 pw 0 0 31 j = _
      unfold va_cpy
      rw [if_pos (by omega), show 0 + (j - 0) = j by omega]
      exact l2 j hj
    · show va_cpy g2 g 0 0 gu2 j < _
      rw [c1 j hj]
      exact l4 j hj
    · show nv _ (va_cpy g2 g 0 0 gu2) gu2 = _
      rw [← l5]
      exact nv_congr c1
    · rcases l6 with l6 | l6
      · exact Or.inl l6
      · refine Or.inr ?_
        show va_cpy g2 g 0 0 gu2 (gu2 - 1) ≠ 0
        rw [c1 _ (by omega)]
        exact l6
