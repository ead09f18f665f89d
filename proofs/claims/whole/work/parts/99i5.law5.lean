/-! the law: the other cases, the loop -/
theorem LW_assoc (w0 s wM : List va_E) (f : Nat → Int) : LW (w0 ++ s) wM f = w0 ++ (s ++ (mSh wM ++ [al 1 f])) := List.append_assoc _ _ _
section ZLt
variable {Z : ZP} {L : Nat} {xs : Nat → Int32} {k n : Nat} {wD wM : List va_E} {f : Nat → Int} {v b v2 b2 t : Nat}
set_option maxRecDepth 100000 in
theorem cs_keep (h : Cl Z L xs) {i : Nat} (hD : DW qM cM v b v2 b2 wD) (hR : RS v b v2 b2 t wM) (hk : k + 1 ≤ 601024) (hn : n + 6 ≤ 7293034) (kk : KK Z k n i) : Z k n (LW wD wM f) (lv5 i) 634 [] := by
  have hl5 := RS_len hR
  obtain ⟨w0, D, rr, dp, wk, sm, rfl, hds, hI⟩ := hD
  refine z_aload_n h.b d_L_law_634 rfl ?_
  rw [LW_assoc]
  refine z_dI (C := R_D) (ci := 4) idL18 h.b (ms_D_keep v b v2 b2 w0 hds) (zRm (zf_D_keep (by decide))) wm_L_96 wi_D_keep ws_D_keep rfl (DS_recv hds) d_L_law_635 ⟨by show k + 0 ≤ 601024; omega, by show n + 0 ≤ 7293034; omega⟩ (DS_len hds) (st := []) (Nat.zero_le _) rfl rfl (fun _ _ hp => DS_len hp.2) (fun r w' hp => ?_)
  obtain ⟨rfl, hd⟩ := hp
  rw [← LW_assoc]
  have hD' : DW qM cM v b v b (w' ++ sS D rr dp wk sm) := ⟨w', D, rr, dp, wk, sm, rfl, hd, hI⟩
  refine z_aload_n h.b d_L_law_638 rfl ?_
  refine z_dV (C := R_M) (ci := 5) h.b (ms_M_keep v b v2 b2 t wM hR) (zRm (zf_M_keep (by decide))) wm_L_99 wi_M_keep ws_M_keep rfl (RS_recv hR) d_L_law_639 ⟨by show k + 0 ≤ 601024; omega, by show n + 0 ≤ 7293034; omega⟩ is5 (by decide) (hw5 (DW_len hD') hl5) (st := []) (Nat.zero_le _) rfl (fun _ _ hp => by rw [RS_len hp.2, hl5]) (fun r w9 hp => ?_)
  obtain ⟨rfl, hR'⟩ := hp
  rw [put5L (DW_len hD') hl5 (RS_len hR')]
  refine z_goto (tgt := 1220) h.b d_L_law_642 (by decide) ?_
  exact z_widen h.b (Nat.le_succ k) (Nat.le_add_right n 6) (kk _ _ _ _ _ _ _ _ hD' hR')
set_option maxRecDepth 100000 in
theorem cs_compare (h : Cl Z L xs) {i : Nat} (hD : DW qM cM v b v2 b2 wD) (hR : RS v b v2 b2 t wM) (hk : k + 1 ≤ 601024) (hn : n + 6 ≤ 7293034) (kk : KK Z k n i) : Z k n (LW wD wM f) (lv5 i) 1207 [] := by
  obtain ⟨w0, D, rr, dp, wk, sm, rfl, hds, hI⟩ := hD
  refine z_aload_n h.b d_L_law_1207 rfl ?_
  rw [LW_assoc]
  refine z_dI (C := R_D) (ci := 4) idL18 h.b (ms_D_compare v b v2 b2 w0 hds) (zRm (zf_D_compare (by decide))) wm_L_136 wi_D_compare ws_D_compare rfl (DS_recv hds) d_L_law_1208 ⟨by show k + 0 ≤ 601024; omega, by show n + 0 ≤ 7293034; omega⟩ (DS_len hds) (st := []) (Nat.zero_le _) rfl rfl (fun _ _ hp => DS_len hp.2) (fun r w' hp => ?_)
  obtain ⟨rfl, hd⟩ := hp
  rw [← LW_assoc]
  have hD' : DW qM cM v b v2 b2 (w' ++ sS D rr dp wk sm) := ⟨w', D, rr, dp, wk, sm, rfl, hd, hI⟩
  refine z_aload_n h.b d_L_law_1211 rfl ?_
  refine z_mod (st := [.int (ordI v v2)]) h (ms_M_compare v b v2 b2 t wM hR) (DW_len hD') hR (zf_M_compare (by decide)) wm_L_139 wi_M_compare ws_M_compare d_L_law_1212 (by show k + 0 ≤ 601024; omega) (by show n + 0 ≤ 7293034; omega) rfl (by show 1 ≤ 8; decide) rfl (fun wM' hR' => ?_)
  refine z_icmp_eq (tgt := 1220) h.b d_L_law_1215 (by decide) (fun _ => ?_) (fun q => absurd rfl q)
  exact z_widen h.b (Nat.le_succ k) (Nat.le_add_right n 6) (kk _ _ _ _ _ _ _ _ hD' hR')
set_option maxRecDepth 100000 in
theorem cs_rooted (h : Cl Z L xs) {i : Nat} (hD : DW qM cM v b v2 b2 wD) (hR : RS v b v2 b2 t wM) (hk : k + 1 ≤ 601024) (hn : n + 6 ≤ 7293034) (kk : KK Z k n i) : Z k n (LW wD wM f) (lv5 i) 834 [] := by
  obtain ⟨w0, D, rr, dp, wk, sm, rfl, hds, hI⟩ := hD
  refine z_aload_n h.b d_L_law_834 rfl ?_
  rw [LW_assoc]
  refine z_dI (C := R_D) (ci := 4) idL18 h.b (ms_D_rooted v b v2 b2 w0 hds) (zRm (zf_D_rooted (by decide))) wm_L_117 wi_D_rooted ws_D_rooted rfl (DS_recv hds) d_L_law_835 ⟨by show k + 0 ≤ 601024; omega, by show n + 0 ≤ 7293034; omega⟩ (DS_len hds) (st := []) (Nat.zero_le _) rfl rfl (fun _ _ hp => by obtain ⟨_, _, _, hp⟩ := hp; exact DS_len hp) (fun r w' hp => ?_)
  obtain ⟨x, hx, rfl, hd⟩ := hp
  rw [← LW_assoc]
  have hD' : DW qM cM x b v2 b2 (w' ++ sS D rr dp wk sm) := ⟨w', D, rr, dp, wk, sm, rfl, hd, hI⟩
  refine z_aload_n h.b d_L_law_838 rfl ?_
  refine z_mod (st := [.int (nI (nd b x))]) h (MSr (ms_M_rooted v b v2 b2 t wM hR) hx) (DW_len hD') hR (zf_M_rooted (by decide)) wm_L_120 wi_M_rooted ws_M_rooted d_L_law_839 (by show k + 0 ≤ 601024; omega) (by show n + 0 ≤ 7293034; omega) rfl (by show 1 ≤ 8; decide) rfl (fun wM' hR' => ?_)
  refine z_icmp_eq (tgt := 1220) h.b d_L_law_842 (by decide) (fun _ => ?_) (fun q => absurd rfl q)
  exact z_widen h.b (Nat.le_succ k) (Nat.le_add_right n 6) (kk _ _ _ _ _ _ _ _ hD' hR')
/-- a cell that has no place among those that change -/
def zOut (f : Nat → Nat) (e : va_E) : Prop := zE (fun i => i) f e = e
theorem zfS (j : Nat) (h : 18 ≤ j) : zfd isS j = j := by
  unfold zfd
  rw [List.getD_eq_getElem?_getD, List.getElem?_eq_none (by simpa using h)]
  rfl
theorem zfS2 (j : Nat) : zfd isS (zfd isS j) = j := by
  by_cases h : j < 18
  · revert h; revert j; decide
  · rw [zfS j (by omega), zfS j (by omega)]
theorem zE_fixS {g : Nat → Nat} (hg : ∀ x, 18 ≤ g x) (e : va_E) : zE (fun i => i) (zfd isS) (zE (fun i => i) g e) = zE (fun i => i) g e := by
  rw [zE_comp, show (fun j => zfd isS (g j)) = g from funext fun j => zfS _ (hg j)]
theorem zfn_R18 {x : Nat} (h : x < 10) : 18 ≤ zfn isR x := by
  revert h; revert x; decide
theorem is5_28 (x : Nat) (h : x < 5) : 18 ≤ zfd is5 x := by
  revert h; revert x; decide
theorem sS_fix {D : Nat} {r : Nat → Nat → Nat} {dp : Nat → Nat} {wk sm : Nat → Int} : (sS D r dp wk sm).map (zE (fun i => i) (zfd isS)) = sS D r dp wk sm := by
  rw [List.map_map]
  refine List.map_congr_left fun e he => ?_
  show zE (fun i => i) (zfd isS) (zE (fun i => i) (zfn isR) e) = _
  rw [zE_comp]
  have hw : wfE 10 e := by
    simp only [sX, List.mem_cons, List.not_mem_nil, or_false] at he
    rcases he with rfl | rfl | rfl | rfl | rfl | rfl | rfl | rfl | rfl | rfl
    · exact wbE_ok rfl
    · intro j a hj
      unfold rowsF at hj
      split at hj
      · cases hj; omega
      · cases hj
    all_goals exact wbE_ok rfl
  exact zE_agree (n := 10) (fun j hj => zfS _ (zfn_R18 hj)) hw
theorem mSh_fix {d n : Nat → Nat} {lf : Int64} {G : MG} : (mSh (mW d n lf G)).map (zE (fun i => i) (zfd isS)) = mSh (mW d n lf G) := rfl
end ZLt
