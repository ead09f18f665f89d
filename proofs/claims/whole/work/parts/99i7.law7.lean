/-! the law: its start -/
theorem zRmA {y : MethodName} {c : ByteArray} {n d' np a b : Nat} {r : Option FieldType} (h : zFit y c n r (rm d') (rm 20) np) : zFit y c n r (rmA d' a b) room_1 np := zRm (Ry := rmA d' a b) h
theorem RS_init : RS 0 10 0 10 0 (mW (fun _ => 0) (fun _ => 0) 0 (G0 10 10 0 0 0 (fun _ => 0) (fun _ => 0))) :=
  ⟨fun _ => 0, fun _ => 0, fun _ => 0, 0, 0, 0, fun _ => 0, fun _ => 0, rfl, ⟨fun _ => by show 0 < 32768; decide, fun x _ => ⟨Nat.zero_le _, fun _ => by show 0 < 32768; decide, rfl, Or.inl rfl⟩⟩, rfl, rfl, Or.inl rfl, by decide, by decide, by rw [show bl 0 = 0 from rfl]; decide, by rw [show bl 0 = 0 from rfl]; decide⟩
theorem zfx01 : zfx [0] 1 = fun i => i := funext fun j => by
  unfold zfx
  show (if j < 1 then _ else _) = j
  by_cases h : j < 1
  · rw [if_pos h]
    have : j = 0 := by omega
    subst this
    rfl
  · rw [if_neg h]
    show 1 + (j - 1) = j
    omega
theorem start1 {x : va_E} {w' : List va_E} (h : w'.length = 28) : zput [x] [0] (w'.map (zE (fun i => i) (zfx [0] 1))) ++ (w'.drop 1).map (zE (fun i => i) (zfx [0] 1)) = w' := by
  have e1 : ∀ l : List va_E, l.map (zE (fun i => i) (fun i => i)) = l := fun l => by
    conv => rhs; rw [← List.map_id l]
    exact List.map_congr_left fun e _ => zE_id e
  rw [zfx01, e1, e1]
  match w', h with
  | a :: l, _ => cases l <;> rfl
theorem start2 {x : va_E} {w' : List va_E} {d n : Nat → Nat} {lf : Int64} {G : MG} (h : w'.length = 28) : zput (w' ++ [x]) [28] ((mW d n lf G).map (zE (fun i => i) (zfx [28] 29))) ++ ((mW d n lf G).drop 1).map (zE (fun i => i) (zfx [28] 29)) = w' ++ mSh (mW d n lf G) := by
  show (w' ++ [x]).set 28 _ ++ _ = _
  rw [List.set_append_right _ _ (by omega), h, List.append_assoc]
  rfl
theorem MS_wf {d n : Nat → Nat} {lf : Int64} {G : MG} : wfW 33 (mSh (mW d n lf G)) := wfW_b rfl
set_option maxRecDepth 100000 in
set_option maxHeartbeats 2000000 in
theorem law_start {Z : ZP} {L : Nat} {xs : Nat → Int32} (h : Cl Z L xs) (hL : L ≤ 3584) : Z 0 0 [] [(0, .ref pS)] 0 [] := by
  refine z_new2 (C := R_D) (T := F_D) (N := 4) (ci := 4) (ty0 := ft_D) (fs := [.null, .null, .null, .null]) h.b d_L_law_0 in_D ft_D_ok wk_L_8 wni_D wn_D rfl (by decide +kernel) (fun v hv a q => by subst q; simp at hv) (by decide) (by decide) (wfW_b rfl) (wfM_b rfl) (by decide) (wfS_b rfl) ?_
  refine z_dup h.b d_L_law_3 rfl ?_
  show Z 1 4 [.inr (4, [.null, .null, .null, .null])] _ _ [.ref 0, .ref 0]
  refine z_cI2 h.y (mi_D qM cM) (zRmA (zf_D_init (by decide))) rfl wm_L_65 wi_D_init d_L_law_4 (by decide) [0] (by decide) rfl (st := [.ref 0]) (by show 1 ≤ 8; decide) rfl (fun _ _ hp => hp.2.2) (wfW_b rfl) (wfM_b rfl) (by decide) (fun _ _ hp => by rw [DW_len hp.2.1]; decide) (wfS_b rfl) (fun r w' hp hl => ?_)
  obtain ⟨rfl, hD, hwf, -⟩ := hp
  have hl28 := DW_len hD
  rw [show ([.inr (4, [.null, .null, .null, .null])] : List va_E).length = 1 from rfl, start1 hl28]
  refine z_astore_n h.b d_L_law_7 (by decide) ?_
  refine z_lv (lv' := [(0, .ref pS), (1, .ref 0)]) h.b rfl ?_
  refine z_new2 (C := R_M) (T := F_M) (N := 10) (ci := 5) (ty0 := ft_M) (fs := [.null, .null, .int 0, .int 0, .null, .int 0, .int 0, .null, .int 0, .long 0]) h.b d_L_law_8 in_M ft_M_ok wk_L_66 wni_M wn_M rfl (by decide +kernel) (fun v hv a q => by subst q; simp at hv) (by decide) (by decide) hwf (by rw [hl28]; exact wfM_b rfl) (by rw [hl28]; decide) (wfS_b rfl) ?_
  rw [hl28]
  refine z_dup h.b d_L_law_11 rfl ?_
  have hl29 : (w' ++ ([.inr (5, [.null, .null, .int 0, .int 0, .null, .int 0, .int 0, .null, .int 0, .long 0])] : List va_E)).length = 29 := by rw [List.length_append, hl28]; rfl
  refine z_cI2 h.y mi_M (zRmA (zf_M_init (by decide))) rfl wm_L_68 wi_M_init d_L_law_12 (by decide) [28] (by decide) (by simp [List.getElem?_append_right, hl28]; rfl) (st := [.ref 28]) (by show 1 ≤ 8; decide) rfl (fun _ _ hp => hp.2.2) (by
    rw [hl29]
    intro e he
    rcases List.mem_append.mp he with q | q
    · exact wfE_up (by decide) (DW_wf hD e q)
    · exact wfW_b (n := 29) rfl e q) (by rw [hl29]; exact wfM_b rfl) (by rw [hl29]; decide) (fun _ _ hp => by rw [hp.2.1]; decide) (by rw [hl29]; exact wfS_b rfl) (fun r w9 hp hl => ?_)
  obtain ⟨rfl, rfl, -, -⟩ := hp
  rw [hl29, show ([.inr (5, [.null, .null, .int 0, .int 0, .null, .int 0, .int 0, .null, .int 0, .long 0])] : List va_E).length = 1 from rfl, start2 hl28]
  generalize hm : mSh (mW (fun _ => 0) (fun _ => 0) 0 (G0 10 10 0 0 0 (fun _ => 0) (fun _ => 0))) = wS
  have hl33 : (w' ++ wS).length = 33 := by rw [List.length_append, hl28, ← hm]; rfl
  refine z_astore_n h.b d_L_law_15 (by decide) ?_
  refine z_lv (lv' := [(0, .ref pS), (1, .ref 0), (2, .ref 28)]) h.b rfl ?_
  refine z_iconst (v := nI 1) h.b d_L_law_16 (by decide) ?_
  refine z_newJ2 (N := 1) h.b d_L_law_17 wa_long (by decide) (by decide) (by decide) (by
    rw [hl33]
    intro e he
    rcases List.mem_append.mp he with q | q
    · exact wfE_up (by decide) (DW_wf hD e q)
    · rw [← hm] at q
      exact MS_wf e q) (by rw [hl33]; exact wfM_b rfl) (by rw [hl33]; decide) (wfS_b rfl) ?_
  rw [hl33, List.append_assoc]
  refine z_astore_n h.b d_L_law_19 (by decide) ?_
  refine z_iconst (v := nI 0) h.b d_L_law_20 (by decide) ?_
  refine z_istore h.b d_L_law_21 (by decide) ?_
  refine z_lv (lv' := lv5 0) h.b rfl ?_
  rw [← hm]
  exact law_loop h hL (L + 7) 0 _ _ w' _ (fun _ => 0) 0 10 0 10 0 (by omega) (by omega) (by decide) (by decide) hD RS_init
