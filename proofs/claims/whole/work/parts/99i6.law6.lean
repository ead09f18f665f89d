/-! the law: swap, the loop, the start -/
theorem DX_len {v b v2 b2 : Nat} {w : List va_E} (h : DX v b v2 b2 w) : w.length = 18 := by
  obtain ⟨gu, pg, dg, td, s, a, g, pw, gu2, pg2, dg2, td2, s2, a2, g2, pw2, sl, sr, sq, l, r, q, rfl, -⟩ := h
  rfl
theorem permS {u u' t : List va_E} (hu : u.length = 18) (hu' : u'.length = 18) (h : ∀ j, j < 18 → u[zfd isS j]? = (u'[j]?).map (zE (fun i => i) (zfd isS))) (ht : t.map (zE (fun i => i) (zfd isS)) = t) (j : Nat) : (u ++ t)[zfd isS j]? = ((u' ++ t)[j]?).map (zE (fun i => i) (zfd isS)) := by
  by_cases hj : j < 18
  · have h1 : zfd isS j < 18 := by revert hj; revert j; decide
    rw [List.getElem?_append_left (by omega), List.getElem?_append_left (by omega)]
    exact h j hj
  · rw [zfS j (by omega), List.getElem?_append_right (by omega), List.getElem?_append_right (by omega), hu, hu', ← List.getElem?_map, ht]
section ZLu
variable {Z : ZP} {L : Nat} {xs : Nat → Int32} {k n : Nat} {wD wM : List va_E} {f : Nat → Int} {v b v2 b2 t : Nat}
set_option maxRecDepth 100000 in
set_option maxHeartbeats 2000000 in
theorem cs_swap (h : Cl Z L xs) {i : Nat} (hD : DW qM cM v b v2 b2 wD) (hR : RS v b v2 b2 t wM) (hk : k + 1 ≤ 601024) (hn : n + 6 ≤ 7293034) (kk : KK Z k n i) : Z k n (LW wD wM f) (lv5 i) 645 [] := by
  obtain ⟨w0, D, rr, dp, wk, sm, rfl, hds, hI⟩ := hD
  refine z_aload_n h.b d_L_law_645 rfl ?_
  rw [LW_assoc]
  refine z_dI (C := R_D) (ci := 4) idL18 h.b (ms_D_swap v b v2 b2 w0 hds) (zRm (zf_D_swap (by decide))) wm_L_100 wi_D_swap ws_D_swap rfl (DS_recv hds) d_L_law_646 ⟨by show k + 0 ≤ 601024; omega, by show n + 0 ≤ 7293034; omega⟩ (DS_len hds) (st := []) (Nat.zero_le _) rfl rfl (fun _ _ hp => DX_len hp.2) (fun r w' hp => ?_)
  obtain ⟨rfl, hd⟩ := hp
  have hxl := DX_len hd
  obtain ⟨u', hu', hds', hperm⟩ : ∃ u', u'.length = 18 ∧ DS v2 b2 v b u' ∧ ∀ j, j < 18 → w'[zfd isS j]? = (u'[j]?).map (zE (fun i => i) (zfd isS)) := by
    obtain ⟨gu, pg, dg, td, s, a, g, pw, gu2, pg2, dg2, td2, s2, a2, g2, pw2, sl, sr, sq, l, r, q, rfl, h1, h2, h3, h4, h5⟩ := hd
    refine ⟨dW b2 gu pg dg td s a g pw b gu2 pg2 dg2 td2 s2 a2 g2 pw2 sl sr sq l r q [], rfl, ⟨gu, pg, dg, td, s, a, g, pw, gu2, pg2, dg2, td2, s2, a2, g2, pw2, sl, sr, sq, l, r, q, rfl, h1, h2, h3, h4, h5⟩, fun j hj => ?_⟩
    have : j = 0 ∨ j = 1 ∨ j = 2 ∨ j = 3 ∨ j = 4 ∨ j = 5 ∨ j = 6 ∨ j = 7 ∨ j = 8 ∨ j = 9 ∨ j = 10 ∨ j = 11 ∨ j = 12 ∨ j = 13 ∨ j = 14 ∨ j = 15 ∨ j = 16 ∨ j = 17 := by omega
    rcases this with rfl | rfl | rfl | rfl | rfl | rfl | rfl | rfl | rfl | rfl | rfl | rfl | rfl | rfl | rfl | rfl | rfl | rfl <;> rfl
  have ht : (sS D rr dp wk sm ++ (mSh wM ++ [al 1 f])).map (zE (fun i => i) (zfd isS)) = sS D rr dp wk sm ++ (mSh wM ++ [al 1 f]) := by
    rw [List.map_append, List.map_append, sS_fix]
    obtain ⟨d, n9, V, lf, m, kn, dg, wd, rfl, -⟩ := hR
    rw [mSh_fix]
    rfl
  have hl5 := RS_len hR
  have hD' : DW qM cM v2 b2 v b (u' ++ sS D rr dp wk sm) := ⟨u', D, rr, dp, wk, sm, rfl, hds', hI⟩
  refine z_perm (w' := LW (u' ++ sS D rr dp wk sm) wM f) (lv' := lv5 i) (st' := [.int (nI (nd b2 v2))]) h (zfd isS) ?_ zfS2 (fun j hj => zfS j ?_) (fun j => ?_) rfl rfl ?_
  · rw [LW_assoc, List.length_append, List.length_append (as := w'), hu', hxl]
  · rw [List.length_append, hxl] at hj
    omega
  · rw [LW_assoc]
    exact permS hxl hu' hperm ht j
  refine z_aload_n h.b d_L_law_649 rfl ?_
  refine z_mod (st := [.int (nI (nd b2 v2))]) h (ms_M_swap v b v2 b2 t wM hR) (DW_len hD') hR (zf_M_swap (by decide)) wm_L_103 wi_M_swap ws_M_swap d_L_law_650 (by show k + 0 ≤ 601024; omega) (by show n + 0 ≤ 7293034; omega) rfl (by show 1 ≤ 8; decide) rfl (fun wM' hR' => ?_)
  refine z_icmp_eq (tgt := 1220) h.b d_L_law_653 (by decide) (fun _ => ?_) (fun q => absurd rfl q)
  exact z_widen h.b (Nat.le_succ k) (Nat.le_add_right n 6) (kk _ _ _ _ _ _ _ _ hD' hR')
theorem sub7 {L i : Nat} (hL : L < 2 ^ 30) (hi : i < 2 ^ 30) : nI L - nI 7 < nI i ↔ ¬ i + 7 ≤ L := by
  rw [nI_iI, nI_iI, nI_iI, iI_sub, iI_lt (by omega) (by omega) (by omega) (by omega)]
  omega
/-- the loop -/
theorem law_loop (h : Cl Z L xs) (hL : L ≤ 3584) : ∀ (m i k n : Nat) (wD wM : List va_E) (f : Nat → Int) (v b v2 b2 t : Nat), L + 7 ≤ i + m → i ≤ L + 7 → k ≤ 1000 + i → n ≤ 100000 + 6 * i → DW qM cM v b v2 b2 wD → RS v b v2 b2 t wM → Z k n (LW wD wM f) (lv5 i) 23 []
  | m, i, k, n, wD, wM, f, v, b, v2, b2, t, hm, hi, hk, hn, hD, hR => by
    have hl0 : (LW wD wM f).length ≤ pS := by rw [LW_len (DW_len hD) (RS_len hR)]; decide
    refine z_iload h.b d_L_law_23 rfl ?_
    refine z_aload_n h.b d_L_law_25 rfl ?_
    refine z_slen h hl0 d_L_law_26 ?_
    refine z_bipush (v := nI 7) h.b d_L_law_27 (by decide) ?_
    refine z_isub h.b d_L_law_29 ?_
    refine z_icmp_gt (tgt := 1226) h.b d_L_law_30 (by decide) (fun _ => ?_) (fun c => ?_)
    · refine z_iconst (v := 1) h.b d_L_law_1226 (by decide) ?_
      exact z_send h d_L_law_1227 (by omega) (by omega)
    · have hi7 : i + 7 ≤ L := Classical.not_not.mp fun q => c ((sub7 (by omega) (by omega)).mpr q)
      refine z_aload_n h.b d_L_law_33 rfl ?_
      refine z_iload h.b d_L_law_34 rfl ?_
      refine z_sld h hl0 (by omega) (by omega) d_L_law_36 ?_
      refine z_bipush (v := nI 31) h.b d_L_law_37 (by decide) ?_
      refine z_iand h.b d_L_law_39 ?_
      generalize xs i &&& nI 31 = x
      have kk : KK Z k n i := fun wD wM f v b v2 b2 t hD hR => by
        refine z_iinc (cst := nI 7) h.b d_L_law_1220 rfl (by decide) (by decide) ?_
        rw [show nI i + nI 7 = nI (i + 7) from nI_add i 7]
        refine z_goto (tgt := 23) h.b d_L_law_1223 (by decide) ?_
        refine z_lv (lv' := lv5 (i + 7)) h.b rfl ?_
        match m, hm with
        | 0, hm => exact absurd hm (by omega)
        | m + 1, hm => exact law_loop h hL m (i + 7) (k + 1) (n + 6) wD wM f v b v2 b2 t (by omega) (by omega) (by omega) (by omega) hD hR
      have hk1 : k + 1 ≤ 601024 := by omega
      have hn1 : n + 6 ≤ 7293034 := by omega
      have hL1 : L < 2 ^ 31 := by omega
      by_cases hx : x.toInt < 0 ∨ 17 < x.toInt
      · refine z_tabOut (tgt := 1220) h.b d_L_law_40 hx (by decide) ?_
        exact z_widen h.b (Nat.le_succ k) (Nat.le_add_right n 6) (kk _ _ _ _ _ _ _ _ hD hR)
      · have : x.toInt = 0 ∨ x.toInt = 1 ∨ x.toInt = 2 ∨ x.toInt = 3 ∨ x.toInt = 4 ∨ x.toInt = 5 ∨ x.toInt = 6 ∨ x.toInt = 7 ∨ x.toInt = 8 ∨ x.toInt = 9 ∨ x.toInt = 10 ∨ x.toInt = 11 ∨ x.toInt = 12 ∨ x.toInt = 13 ∨ x.toInt = 14 ∨ x.toInt = 15 ∨ x.toInt = 16 ∨ x.toInt = 17 := by omega
        rcases this with e | e | e | e | e | e | e | e | e | e | e | e | e | e | e | e | e | e
        · exact z_tabIn (off := 88) (tgt := 128) h.b d_L_law_40 (by omega) (by omega) (by rw [e]; rfl) (by decide) (cs_mill h hi7 hL1 hD hR hk1 hn1 kk)
        · exact z_tabIn (off := 168) (tgt := 208) h.b d_L_law_40 (by omega) (by omega) (by rw [e]; rfl) (by decide) (cs_root h hi7 hL1 hD hR hk1 hn1 kk)
        · exact z_tabIn (off := 280) (tgt := 320) h.b d_L_law_40 (by omega) (by omega) (by rw [e]; rfl) (by decide) (cs_over h hi7 hL1 hD hR hk1 hn1 kk)
        · exact z_tabIn (off := 438) (tgt := 478) h.b d_L_law_40 (by omega) (by omega) (by rw [e]; rfl) (by decide) (cs_number h hi7 hL1 hD hR hk1 hn1 kk)
        · exact z_tabIn (off := 538) (tgt := 578) h.b d_L_law_40 (by omega) (by omega) (by rw [e]; rfl) (by decide) (cs_push h hi7 hL1 hD hR hk1 hn1 kk)
        · exact z_tabIn (off := 594) (tgt := 634) h.b d_L_law_40 (by omega) (by omega) (by rw [e]; rfl) (by decide) (cs_keep h hD hR hk1 hn1 kk)
        · exact z_tabIn (off := 605) (tgt := 645) h.b d_L_law_40 (by omega) (by omega) (by rw [e]; rfl) (by decide) (cs_swap h hD hR hk1 hn1 kk)
        · exact z_tabIn (off := 618) (tgt := 658) h.b d_L_law_40 (by omega) (by omega) (by rw [e]; rfl) (by decide) (cs_add h hi7 hL1 hD hR hk1 hn1 kk)
        · exact z_tabIn (off := 662) (tgt := 702) h.b d_L_law_40 (by omega) (by omega) (by rw [e]; rfl) (by decide) (cs_subtract h hi7 hL1 hD hR hk1 hn1 kk)
        · exact z_tabIn (off := 706) (tgt := 746) h.b d_L_law_40 (by omega) (by omega) (by rw [e]; rfl) (by decide) (cs_times h hi7 hL1 hD hR hk1 hn1 kk)
        · exact z_tabIn (off := 750) (tgt := 790) h.b d_L_law_40 (by omega) (by omega) (by rw [e]; rfl) (by decide) (cs_divide h hi7 hL1 hD hR hk1 hn1 kk)
        · exact z_tabIn (off := 794) (tgt := 834) h.b d_L_law_40 (by omega) (by omega) (by rw [e]; rfl) (by decide) (cs_rooted h hD hR hk1 hn1 kk)
        · exact z_tabIn (off := 807) (tgt := 847) h.b d_L_law_40 (by omega) (by omega) (by rw [e]; rfl) (by decide) (cs_convert h hi7 hL1 hD hR hk1 hn1 kk)
        · exact z_tabIn (off := 863) (tgt := 903) h.b d_L_law_40 (by omega) (by omega) (by rw [e]; rfl) (by decide) (cs_digit h hi7 hL1 hD hR hk1 hn1 kk)
        · exact z_tabIn (off := 919) (tgt := 959) h.b d_L_law_40 (by omega) (by omega) (by rw [e]; rfl) (by decide) (cs_about h hi7 hL1 hD hR hk1 hn1 kk)
        · exact z_tabIn (off := 975) (tgt := 1015) h.b d_L_law_40 (by omega) (by omega) (by rw [e]; rfl) (by decide) (cs_count h hi7 hL1 hD hR hk1 hn1 kk)
        · exact z_tabIn (off := 1055) (tgt := 1095) h.b d_L_law_40 (by omega) (by omega) (by rw [e]; rfl) (by decide) (cs_find h hi7 hL1 hD hR hk1 hn1 kk)
        · exact z_tabIn (off := 1167) (tgt := 1207) h.b d_L_law_40 (by omega) (by omega) (by rw [e]; rfl) (by decide) (cs_compare h hD hR hk1 hn1 kk)
end ZLu
