/-! constructors -/
def wbV (n : Nat) : Value → Bool
  | .ref k => Nat.blt k n
  | _ => true
def wbE (n : Nat) : va_E → Bool
  | .inl q => match q.2.2 with
    | .inr (.inr (.inr (.inr _))) => false
    | _ => true
  | .inr q => q.2.all (wbV n)
theorem wbV_ok {n : Nat} {v : Value} (h : wbV n v = true) : wfV n v := by
  cases v <;> first | trivial | exact Nat.le_of_ble_eq_true h
theorem wbE_ok {n : Nat} {e : va_E} (h : wbE n e = true) : wfE n e := by
  rcases e with ⟨c, N, g | g | g | g | g⟩ | q
  · trivial
  · trivial
  · trivial
  · trivial
  · cases h
  · exact fun v hv => wbV_ok (List.all_eq_true.mp h v hv)
theorem wfW_b {n : Nat} {w : List va_E} (h : w.all (wbE n) = true) : wfW n w := fun e he => wbE_ok (List.all_eq_true.mp h e he)
theorem wfL_b {n : Nat} {lv : List (Nat × Value)} (h : lv.all (fun q => wbV n q.2) = true) : wfL n lv := fun q hq => wbV_ok (List.all_eq_true.mp h q hq)
theorem wfS_b {n : Nat} {st : List Value} (h : st.all (wbV n) = true) : wfS n st := fun v hv => wbV_ok (List.all_eq_true.mp h v hv)
theorem wk_L_8 : Cond.classLink R_L 8 R_D ∈ TT := tt_of 79 (by decide +kernel) (by decide +kernel)
theorem wni_D : Cond.instantiable R_D 4 ∈ TT := tt_of 80 (by decide +kernel) (by decide +kernel)
theorem wk_D_9 : Cond.classLink R_D 9 R_T ∈ TT := tt_of 87 (by decide +kernel) (by decide +kernel)
theorem wni_T : Cond.instantiable R_T 8 ∈ TT := tt_of 88 (by decide +kernel) (by decide +kernel)
theorem wk_T_9 : Cond.classLink R_T 9 R_H ∈ TT := tt_of 93 (by decide +kernel) (by decide +kernel)
theorem wni_H : Cond.instantiable R_H 2 ∈ TT := tt_of 94 (by decide +kernel) (by decide +kernel)
theorem wa_int : Cond.arrayClass .int ∈ TT := tt_of 110 (by decide +kernel) (by decide +kernel)
theorem wk_D_19 : Cond.classLink R_D 19 R_B ∈ TT := tt_of 147 (by decide +kernel) (by decide +kernel)
theorem wni_B : Cond.instantiable R_B 3 ∈ TT := tt_of 148 (by decide +kernel) (by decide +kernel)
theorem wk_B_9 : Cond.classLink R_B 9 R_H ∈ TT := tt_of 153 (by decide +kernel) (by decide +kernel)
theorem wk_D_26 : Cond.classLink R_D 26 R_S ∈ TT := tt_of 168 (by decide +kernel) (by decide +kernel)
theorem wni_S : Cond.instantiable R_S 5 ∈ TT := tt_of 169 (by decide +kernel) (by decide +kernel)
theorem wa_long : Cond.arrayClass .long ∈ TT := tt_of 192 (by decide +kernel) (by decide +kernel)
theorem wk_L_66 : Cond.classLink R_L 66 R_M ∈ TT := tt_of 1008 (by decide +kernel) (by decide +kernel)
theorem wni_M : Cond.instantiable R_M 10 ∈ TT := tt_of 1009 (by decide +kernel) (by decide +kernel)
theorem wk_S_9 : Cond.classLink R_S 9 "[[I" ∈ TT := tt_of 174 (by decide +kernel) (by decide +kernel)
theorem wao : Cond.arrayOver (.array .int) ∈ TT := tt_of 175 (by decide +kernel) (by decide +kernel)
abbrev rmA (d c s : Nat) : Room := { frames := d, cells := c, slots := s, locals := 64 * d }
set_option maxRecDepth 100000 in
theorem mi_H (N : Nat) (hN : N < 100000) : MI y_H_init c_H_init 2 (rmA 1 1 N) [.ref 0, .int (nI N)] [.inr (3, [.null, .int 0])] (fun r w' => r = none ∧ w' = [wh 1 0, ar N (fun _ => 0)] ∧ wfW w'.length w' ∧ ∀ v, r = some v → wfV w'.length v) := by
  refine MI_of (own := R_H) (by decide) rfl rfl (fun _ => Nat.le_of_ble_eq_true rfl) (fun Z h hr hI => ?_)
  refine z_aload_n h d_H_init_0 rfl ?_
  refine z_objInit h d_H_init_1 wm_H_3 wi_obj wc_obj (by decide) (Nat.le_of_ble_eq_true rfl) ?_
  refine z_aload_n h d_H_init_4 rfl ?_
  refine z_iload_n h d_H_init_5 rfl ?_
  refine z_newI h d_H_init_6 wa_int hN (by decide) (by show 0 + N ≤ N; omega) (wfW_b rfl) (wfL_b rfl) (wfS_b rfl) ?_
  rw [Nat.zero_add, Nat.zero_add]
  refine z_putF (C := R_H) (T := F_H) (N := 2) (ty := (.array .int)) hI 0 d_H_init_8 in_H rfl ft_H_ok n_H (by decide) wf_H_9 rfl rfl rfl rfl rfl rfl (Nat.le_of_ble_eq_true rfl) ?_
  refine hr.2.2.2.1 _ _ _ _ _ (Nat.le_refl _) (Nat.le_refl _) rfl d_H_init_11 ?_
  exact ⟨rfl, rfl, wfW_b rfl, fun v q => by cases q⟩
