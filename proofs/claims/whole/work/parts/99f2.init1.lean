/-! constructors -/
def wbV (n : Nat) : Value → Bool
  | .ref k => Nat.blt k n
  | _ => true
def wbE (n : Nat) : va_E → Bool
  | .inl q => match q.2.2 with
    | .inr (.inr (.inr (.inr _))) => false
    | _ => true
  | .inr q => q.2.all (wbV n)
theorem wbV_ok {n : Nat} {v : Value} (h : wbV n v = true) : wfV n v := by
  cases v <;> first | trivial | exact Nat.le_of_ble_eq_true h
theorem wbE_ok {n : Nat} {e : va_E} (h : wbE n e = true) : wfE n e := by
  rcases e with ⟨c, N, g | g | g | g | g⟩ | q
  · trivial
  · trivial
  · trivial
  · trivial
  · cases h
  · exact fun v hv => wbV_ok (List.all_eq_true.mp h v hv)
theorem wfW_b {n : Nat} {w : List va_E} (h : w.all (wbE n) = true) : wfW n w := fun e he => wbE_ok (List.all_eq_true.mp h e he)
theorem wfL_b {n : Nat} {lv : List (Nat × Value)} (h : lv.all (fun q => wbV n q.2) = true) : wfL n lv := fun q hq => wbV_ok (List.all_eq_true.mp h q hq)
theorem wfS_b {n : Nat} {st : List Value} (h : st.all (wbV n) = true) : wfS n st := fun v hv => wbV_ok (List.all_eq_true.mp h v hv)
theorem wni_D : Cond.instantiable R_D 4 ∈ TT := tt_of 80 (by decide +kernel) (by decide +kernel)
theorem wni_T : Cond.instantiable R_T 8 ∈ TT := tt_of 88 (by decide +kernel) (by decide +kernel)
theorem wni_H : Cond.instantiable R_H 2 ∈ TT := tt_of 94 (by decide +kernel) (by decide +kernel)
theorem wni_B : Cond.instantiable R_B 3 ∈ TT := tt_of 148 (by decide +kernel) (by decide +kernel)
theorem wni_S : Cond.instantiable R_S 5 ∈ TT := tt_of 169 (by decide +kernel) (by decide +kernel)
theorem wni_M : Cond.instantiable R_M 10 ∈ TT := tt_of 1009 (by decide +kernel) (by decide +kernel)
theorem wk_S_9 : Cond.classLink R_S 9 "[[I" ∈ TT := tt_of 174 (by decide +kernel) (by decide +kernel)
abbrev rmA (d c s : Nat) : Room := { frames := d, cells := c, slots := s, locals := 64 * d }
set_option maxRecDepth 100000 in
theorem mi_H (N : Nat) (hN : N < 100000) : MI y_H_init c_H_init 2 (rmA 1 1 N) [.ref 0, .int (nI N)] [.inr (3, [.null, .int 0])] (fun r w' => r = none ∧ w' = [wh 1 0, ar N (fun _ => 0)] ∧ wfW w'.length w' ∧ ∀ v, r = some v → wfV w'.length v) := by
  refine MI_of (own := R_H) (by decide) rfl rfl (fun _ => Nat.le_of_ble_eq_true rfl) (fun Z h hr hI => ?_)
  refine z_aload_n h d_H_init_0 rfl ?_
  refine z_objInit h d_H_init_1 wm_H_3 wi_obj wc_obj (Nat.le_refl 1) (Nat.le_of_ble_eq_true rfl) ?_
  refine z_aload_n h d_H_init_4 rfl ?_
  refine z_iload_n h d_H_init_5 rfl ?_
  refine z_newI h d_H_init_6 wa_int hN (Nat.le_refl 1) (by show 0 + N ≤ N; omega) (wfW_b rfl) (wfL_b rfl) (wfS_b rfl) ?_
  rw [Nat.zero_add, Nat.zero_add]
  refine z_putF (C := R_H) (T := F_H) (N := 2) (ty := (.array .int)) hI 0 d_H_init_8 in_H rfl ft_H_ok n_H (by decide) wf_H_9 rfl rfl rfl rfl rfl rfl (Nat.le_of_ble_eq_true rfl) ?_
  refine hr.2.2.2.1 _ _ _ _ _ (Nat.le_refl _) (Nat.le_refl _) rfl d_H_init_11 ?_
  exact ⟨rfl, rfl, wfW_b rfl, fun v q => by cases q⟩
theorem zfA {y : MethodName} {c : ByteArray} {n d d' np a b a' b' : Nat} {r : Option FieldType} (h : zFit y c n r (rm d') (rm d) np) : zFit y c n r (rmA d' a b) (rmA d a' b') np := h
theorem zfA0 {y : MethodName} {c : ByteArray} {n d d' np a' b' : Nat} {r : Option FieldType} (h : zFit y c n r (rm d') (rm d) np) : zFit y c n r (rm d') (rmA d a' b') np := h
set_option maxRecDepth 100000 in
set_option maxHeartbeats 4000000 in
theorem mi_M : MI y_M_init c_M_init 1 (rmA 1 4 52023) [.ref 0] [.inr (5, [.null, .null, .int 0, .int 0, .null, .int 0, .int 0, .null, .int 0, .long 0])] (fun r w' => r = none ∧ w' = mW (fun _ => 0) (fun _ => 0) 0 (G0 10 10 0 0 0 (fun _ => 0) (fun _ => 0)) ∧ wfW w'.length w' ∧ ∀ v, r = some v → wfV w'.length v) := by
  refine MI_of (own := R_M) (by decide) rfl rfl (fun _ => Nat.le_of_ble_eq_true rfl) (fun Z h hr hI => ?_)
  refine z_aload_n h d_M_init_0 rfl ?_
  refine z_objInit h d_M_init_1 wm_M_1 wi_obj wc_obj (by decide) (Nat.le_of_ble_eq_true rfl) ?_
  refine z_aload_n h d_M_init_4 rfl ?_
  refine z_sipush (v := nI 28000) h d_M_init_5 (by decide) ?_
  refine z_newI h d_M_init_8 wa_int (by decide) (by decide) (by decide) (wfW_b rfl) (wfL_b rfl) (wfS_b rfl) ?_
  refine z_putF (C := R_M) (T := F_M) (N := 10) (ty := (.array .int)) hI 0 d_M_init_10 in_M rfl ft_M_ok n_M (by decide) wf_M_7 rfl rfl rfl rfl rfl rfl (Nat.le_of_ble_eq_true rfl) ?_
  refine z_aload_n h d_M_init_13 rfl ?_
  refine z_bipush (v := nI 10) h d_M_init_14 (by decide) ?_
  refine z_newI h d_M_init_16 wa_int (by decide) (by decide) (by decide) (wfW_b rfl) (wfL_b rfl) (wfS_b rfl) ?_
  refine z_putF (C := R_M) (T := F_M) (N := 10) (ty := (.array .int)) hI 1 d_M_init_18 in_M rfl ft_M_ok n_M (by decide) wf_M_13 rfl rfl rfl rfl rfl rfl (Nat.le_of_ble_eq_true rfl) ?_
  refine z_aload_n h d_M_init_21 rfl ?_
  refine z_bipush (v := nI 10) h d_M_init_22 (by decide) ?_
  refine z_put (C := R_M) (T := F_M) (N := 10) (ty := .int) h 2 d_M_init_24 in_M rfl ft_M_ok n_M (by decide) wf_M_16 rfl rfl rfl rfl rfl (Nat.le_of_ble_eq_true rfl) ?_
  refine z_aload_n h d_M_init_27 rfl ?_
  refine z_bipush (v := nI 10) h d_M_init_28 (by decide) ?_
  refine z_put (C := R_M) (T := F_M) (N := 10) (ty := .int) h 3 d_M_init_30 in_M rfl ft_M_ok n_M (by decide) wf_M_20 rfl rfl rfl rfl rfl (Nat.le_of_ble_eq_true rfl) ?_
  refine z_aload_n h d_M_init_33 rfl ?_
  refine z_sipush (v := nI 24001) h d_M_init_34 (by decide) ?_
  refine z_newI h d_M_init_37 wa_int (by decide) (by decide) (by decide) (wfW_b rfl) (wfL_b rfl) (wfS_b rfl) ?_
  refine z_putF (C := R_M) (T := F_M) (N := 10) (ty := (.array .int)) hI 4 d_M_init_39 in_M rfl ft_M_ok n_M (by decide) wf_M_23 rfl rfl rfl rfl rfl rfl (Nat.le_of_ble_eq_true rfl) ?_
  refine z_aload_n h d_M_init_42 rfl ?_
  refine z_bipush (v := nI 12) h d_M_init_43 (by decide) ?_
  refine z_newI h d_M_init_45 wa_int (by decide) (by decide) (by decide) (wfW_b rfl) (wfL_b rfl) (wfS_b rfl) ?_
  refine z_putF (C := R_M) (T := F_M) (N := 10) (ty := (.array .int)) hI 7 d_M_init_47 in_M rfl ft_M_ok n_M (by decide) wf_M_26 rfl rfl rfl rfl rfl rfl (Nat.le_of_ble_eq_true rfl) ?_
  refine hr.2.2.2.1 _ _ _ _ _ (Nat.le_refl _) (Nat.le_refl _) rfl d_M_init_50 ?_
  exact ⟨rfl, rfl, wfW_b rfl, fun v q => by cases q⟩
theorem wf_six {n : Nat} {a : List va_E} {b : List va_E} (ha : a.all (wbE n) = true) (hb : b.all (wbE n) = true) (hn : 7 ≤ n) : wfW n (a ++ six 1 ++ b) := by
  intro e he
  rcases List.mem_append.mp he with he | he
  · rcases List.mem_append.mp he with he | he
    · exact wfW_b ha e he
    · rcases List.mem_cons.mp he with rfl | he
      · intro j q hj
        show q < n
        have : (if j < 5 then some (1 + 1 + j) else none : Option Nat) = some q := hj
        split at this
        · cases this
          omega
        · cases this
      · exact wfW_b (w := [ar 705 (fun _ => 0), ar 705 (fun _ => 0), ar 705 (fun _ => 0), ar 705 (fun _ => 0), ar 705 (fun _ => 0)]) rfl e he
  · exact wfW_b hb e he
set_option maxRecDepth 100000 in
set_option maxHeartbeats 4000000 in
theorem mi_S : MI y_S_init c_S_init 1 (rmA 1 9 4945) [.ref 0] [.inr (1, [.null, .null, .null, .null, .int 0])] (fun r w' => r = none ∧ w' = [.inr (1, [.ref 1, .ref 7, .ref 8, .ref 9, .int 0]), .inl (2, 5, .inr (.inr (.inr (.inr (rowsAt 1))))), ar 705 (fun _ => 0), ar 705 (fun _ => 0), ar 705 (fun _ => 0), ar 705 (fun _ => 0), ar 705 (fun _ => 0), ar 5 (fun _ => 0), al 705 (fun _ => 0), al 705 (fun _ => 0)] ∧ wfW w'.length w' ∧ ∀ v, r = some v → wfV w'.length v) := by
  refine MI_of (own := R_S) (by decide) rfl rfl (fun _ => Nat.le_of_ble_eq_true rfl) (fun Z h hr hI => ?_)
  refine z_aload_n h d_S_init_0 rfl ?_
  refine z_objInit h d_S_init_1 wm_S_3 wi_obj wc_obj (by decide) (Nat.le_of_ble_eq_true rfl) ?_
  refine z_aload_n h d_S_init_4 rfl ?_
  refine z_iconst (v := nI 5) h d_S_init_5 (by decide) ?_
  refine z_sipush (v := nI 705) h d_S_init_6 (by decide) ?_
  refine z_multi hI d_S_init_9 wk_S_9 (by decide) (by decide) (wfW_b rfl) (wfL_b rfl) (wfS_b rfl) ?_
  show Z 6 3530 ([.inr (1, [.null, .null, .null, .null, .int 0])] ++ six 1) _ _ [.ref 1, .ref 0]
  refine z_putF (C := R_S) (T := F_S) (N := 5) (ty := .array (.array .int)) hI 0 d_S_init_13 in_S rfl ft_S_ok n_S (by decide) wf_S_11 rfl rfl rfl rfl rfl rfl (Nat.le_of_ble_eq_true rfl) ?_
  show Z 6 3530 ([.inr (1, [.ref 1, .null, .null, .null, .int 0])] ++ six 1 ++ []) _ _ []
  refine z_aload_n h d_S_init_16 rfl ?_
  refine z_iconst (v := nI 5) h d_S_init_17 (by decide) ?_
  refine z_newI h d_S_init_18 wa_int (by decide) (by decide) (by decide) (wf_six (n := 7) rfl rfl (by decide)) (wfL_b rfl) (wfS_b rfl) ?_
  show Z 7 3535 ([.inr (1, [.ref 1, .null, .null, .null, .int 0])] ++ six 1 ++ [ar 5 (fun _ => 0)]) _ _ [.ref 7, .ref 0]
  refine z_putF (C := R_S) (T := F_S) (N := 5) (ty := (.array .int)) hI 1 d_S_init_20 in_S rfl ft_S_ok n_S (by decide) wf_S_16 rfl rfl rfl rfl rfl rfl (Nat.le_of_ble_eq_true rfl) ?_
  show Z 7 3535 ([.inr (1, [.ref 1, .ref 7, .null, .null, .int 0])] ++ six 1 ++ [ar 5 (fun _ => 0)]) _ _ []
  refine z_aload_n h d_S_init_23 rfl ?_
  refine z_sipush (v := nI 705) h d_S_init_24 (by decide) ?_
  refine z_newJ h d_S_init_27 wa_long (by decide) (by decide) (by decide) (wf_six (n := 8) rfl rfl (by decide)) (wfL_b rfl) (wfS_b rfl) ?_
  show Z 8 4240 ([.inr (1, [.ref 1, .ref 7, .null, .null, .int 0])] ++ six 1 ++ [ar 5 (fun _ => 0), al 705 (fun _ => 0)]) _ _ [.ref 8, .ref 0]
  refine z_putF (C := R_S) (T := F_S) (N := 5) (ty := (.array .long)) hI 2 d_S_init_29 in_S rfl ft_S_ok n_S (by decide) wf_S_20 rfl rfl rfl rfl rfl rfl (Nat.le_of_ble_eq_true rfl) ?_
  show Z 8 4240 ([.inr (1, [.ref 1, .ref 7, .ref 8, .null, .int 0])] ++ six 1 ++ [ar 5 (fun _ => 0), al 705 (fun _ => 0)]) _ _ []
  refine z_aload_n h d_S_init_32 rfl ?_
  refine z_sipush (v := nI 705) h d_S_init_33 (by decide) ?_
  refine z_newJ h d_S_init_36 wa_long (by decide) (by decide) (by decide) (wf_six (n := 9) rfl rfl (by decide)) (wfL_b rfl) (wfS_b rfl) ?_
  show Z 9 4945 ([.inr (1, [.ref 1, .ref 7, .ref 8, .null, .int 0])] ++ six 1 ++ [ar 5 (fun _ => 0), al 705 (fun _ => 0), al 705 (fun _ => 0)]) _ _ [.ref 9, .ref 0]
  refine z_putF (C := R_S) (T := F_S) (N := 5) (ty := (.array .long)) hI 3 d_S_init_38 in_S rfl ft_S_ok n_S (by decide) wf_S_24 rfl rfl rfl rfl rfl rfl (Nat.le_of_ble_eq_true rfl) ?_
  refine hr.2.2.2.1 _ _ _ _ _ (Nat.le_refl _) (Nat.le_refl _) rfl d_S_init_41 ?_
  exact ⟨rfl, rfl, wf_six (n := 10) (a := [.inr (1, [.ref 1, .ref 7, .ref 8, .ref 9, .int 0])]) (b := [ar 5 (fun _ => 0), al 705 (fun _ => 0), al 705 (fun _ => 0)]) rfl rfl (by decide), fun v q => by cases q⟩
set_option maxRecDepth 100000 in
set_option maxHeartbeats 4000000 in
theorem mi_B : MI y_B_init c_B_init 1 (rmA 2 6 4206) [.ref 0] [.inr (0, [.null, .null, .null])] (fun r w' => r = none ∧ w' = bW 0 0 0 (fun _ => 0) (fun _ => 0) (fun _ => 0) ∧ wfW w'.length w' ∧ ∀ v, r = some v → wfV w'.length v) := by
  refine MI_of (own := R_B) (by decide) rfl rfl (fun _ => Nat.le_of_ble_eq_true rfl) (fun Z h hr hI => ?_)
  refine z_aload_n h d_B_init_0 rfl ?_
  refine z_objInit h d_B_init_1 wm_B_3 wi_obj wc_obj (by decide) (Nat.le_of_ble_eq_true rfl) ?_
  refine z_aload_n h d_B_init_4 rfl ?_
  refine z_new (C := R_H) (T := F_H) (N := 2) (ci := 3) (ty0 := ft_H) (fs := [.null, .int 0]) h d_B_init_5 in_H ft_H_ok wk_B_9 wni_H wn_H rfl (by decide +kernel) (fun v hv a q => by subst q; simp at hv) (by decide) (by decide) (wfW_b rfl) (wfL_b rfl) (wfS_b rfl) ?_
  refine z_dup h d_B_init_8 rfl ?_
  refine z_sipush (v := nI 1400) h d_B_init_9 (by decide) ?_
  show Z 1 2 [.inr (0, [.null, .null, .null]), .inr (3, [.null, .int 0])] _ _ [.int (nI 1400), .ref 1, .ref 1, .ref 0]
  refine z_cI hI.y (mi_H 1400 (by decide)) (zf_H_init (by decide)) rfl wm_B_11 wi_H_init d_B_init_12 (by decide) [1] (by decide) rfl (Nat.le_of_ble_eq_true rfl) rfl (fun _ _ hp => hp.2.2) (wfW_b rfl) (wfL_b rfl) (wfS_b rfl) (fun r_12 w_12 hp_12 hl_12 => ?_)
  obtain ⟨rfl, rfl, -, -⟩ := hp_12
  show Z 2 1402 [.inr (0, [.null, .null, .null]), wh 2 0, ar 1400 (fun _ => 0)] _ _ [.ref 1, .ref 0]
  refine z_putF (C := R_B) (T := F_B) (N := 3) (ty := (.object "DigitMill$Whole")) hI 0 d_B_init_15 in_B rfl ft_B_ok n_B (by decide) wf_B_14 rfl rfl rfl rfl rfl rfl (Nat.le_of_ble_eq_true rfl) ?_
  refine z_aload_n h d_B_init_18 rfl ?_
  refine z_new (C := R_H) (T := F_H) (N := 2) (ci := 3) (ty0 := ft_H) (fs := [.null, .int 0]) h d_B_init_19 in_H ft_H_ok wk_B_9 wni_H wn_H rfl (by decide +kernel) (fun v hv a q => by subst q; simp at hv) (by decide) (by decide) (wfW_b rfl) (wfL_b rfl) (wfS_b rfl) ?_
  refine z_dup h d_B_init_22 rfl ?_
  refine z_sipush (v := nI 1400) h d_B_init_23 (by decide) ?_
  show Z 3 1404 [.inr (0, [.ref 1, .null, .null]), wh 2 0, ar 1400 (fun _ => 0), .inr (3, [.null, .int 0])] _ _ [.int (nI 1400), .ref 3, .ref 3, .ref 0]
  refine z_cI hI.y (mi_H 1400 (by decide)) (zf_H_init (by decide)) rfl wm_B_11 wi_H_init d_B_init_26 (by decide) [3] (by decide) rfl (Nat.le_of_ble_eq_true rfl) rfl (fun _ _ hp => hp.2.2) (wfW_b rfl) (wfL_b rfl) (wfS_b rfl) (fun r_26 w_26 hp_26 hl_26 => ?_)
  obtain ⟨rfl, rfl, -, -⟩ := hp_26
  show Z 4 2804 [.inr (0, [.ref 1, .null, .null]), wh 2 0, ar 1400 (fun _ => 0), wh 4 0, ar 1400 (fun _ => 0)] _ _ [.ref 3, .ref 0]
  refine z_putF (C := R_B) (T := F_B) (N := 3) (ty := (.object "DigitMill$Whole")) hI 1 d_B_init_29 in_B rfl ft_B_ok n_B (by decide) wf_B_20 rfl rfl rfl rfl rfl rfl (Nat.le_of_ble_eq_true rfl) ?_
  refine z_aload_n h d_B_init_32 rfl ?_
  refine z_new (C := R_H) (T := F_H) (N := 2) (ci := 3) (ty0 := ft_H) (fs := [.null, .int 0]) h d_B_init_33 in_H ft_H_ok wk_B_9 wni_H wn_H rfl (by decide +kernel) (fun v hv a q => by subst q; simp at hv) (by decide) (by decide) (wfW_b rfl) (wfL_b rfl) (wfS_b rfl) ?_
  refine z_dup h d_B_init_36 rfl ?_
  refine z_sipush (v := nI 1400) h d_B_init_37 (by decide) ?_
  show Z 5 2806 [.inr (0, [.ref 1, .ref 3, .null]), wh 2 0, ar 1400 (fun _ => 0), wh 4 0, ar 1400 (fun _ => 0), .inr (3, [.null, .int 0])] _ _ [.int (nI 1400), .ref 5, .ref 5, .ref 0]
  refine z_cI hI.y (mi_H 1400 (by decide)) (zf_H_init (by decide)) rfl wm_B_11 wi_H_init d_B_init_40 (by decide) [5] (by decide) rfl (Nat.le_of_ble_eq_true rfl) rfl (fun _ _ hp => hp.2.2) (wfW_b rfl) (wfL_b rfl) (wfS_b rfl) (fun r_40 w_40 hp_40 hl_40 => ?_)
  obtain ⟨rfl, rfl, -, -⟩ := hp_40
  show Z 6 4206 [.inr (0, [.ref 1, .ref 3, .null]), wh 2 0, ar 1400 (fun _ => 0), wh 4 0, ar 1400 (fun _ => 0), wh 6 0, ar 1400 (fun _ => 0)] _ _ [.ref 5, .ref 0]
  refine z_putF (C := R_B) (T := F_B) (N := 3) (ty := (.object "DigitMill$Whole")) hI 2 d_B_init_43 in_B rfl ft_B_ok n_B (by decide) wf_B_23 rfl rfl rfl rfl rfl rfl (Nat.le_of_ble_eq_true rfl) ?_
  refine hr.2.2.2.1 _ _ _ _ _ (Nat.le_refl _) (Nat.le_refl _) rfl d_B_init_46 ?_
  exact ⟨rfl, rfl, wfW_b rfl, fun v q => by cases q⟩
