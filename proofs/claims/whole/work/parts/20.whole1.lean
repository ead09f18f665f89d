/-! DigitMill$Whole: the small ones -/
abbrev wh (p s : Nat) : va_E := .inr (3, [.ref p, .int (nI s)])
abbrev ar (N : Nat) (a : Nat → Nat) : va_E := .inl (0, N, .inl (fun j => nI (a j)))
def un (a : Nat → Nat) (i x : Nat) : Nat → Nat := fun j => if j = i then x else a j
theorem upd_nI (a : Nat → Nat) (i x : Nat) : upd (fun j => nI (a j)) i (nI x) = fun j => nI (un a i x j) := by
  funext j
  by_cases h : j = i
  · subst h; simp [upd, un]
  · simp [upd, un, h]
def trm (a : Nat → Nat) : Nat → Nat
  | 0 => 0
  | s + 1 => if a s = 0 then trm a s else s + 1
set_option maxRecDepth 100000 in
set_option maxHeartbeats 4000000 in
theorem ms_H_limbAt (N s i : Nat) (a : Nat → Nat) (hN : N < 2 ^ 31) (hs : s ≤ N) (hi : i < 2 ^ 31) : MS y_H_limbAt c_H_limbAt 2 (some .int) (rm 1) [.ref 0, .int (nI i)] [wh 1 s, ar N a] (zP (X := Unit) (fun _ => some (.int (nI (if i < s then a i else 0)))) (fun _ => [wh 1 s, ar N a]) (fun _ => True)) := by
  refine MS_of (own := R_H) (by decide) rfl (fun _ => Nat.le_of_ble_eq_true rfl) (fun Z h hr => ?_)
  refine z_iload_n h d_H_limbAt_0 rfl ?_
  refine z_aload_n h d_H_limbAt_1 rfl ?_
  refine z_get (C := R_H) (T := F_H) (N := 2) h 1 d_H_limbAt_2 in_H rfl (by decide) wf_H_15 rfl rfl ?_
  refine z_icmp_ge (tgt := 17) h d_H_limbAt_5 (by decide) (fun c_5 => ?_) (fun c_5 => ?_)
  · refine z_iconst (v := 0) h d_H_limbAt_17 (by decide) ?_
    have q : ¬ i < s := Nat.not_lt.mpr ((nI_leI (by omega) hi).mp c_5)
    exact hr.1 _ _ _ _ _ _ (Nat.le_refl _) (Nat.le_refl _) rfl d_H_limbAt_18 ⟨(), by rw [if_neg q, nI_0], rfl, trivial⟩
  · have q : i < s := Nat.lt_of_not_le (fun z => c_5 ((nI_leI (by omega) hi).mpr z))
    have hb_13 : vp_in (nI i) N := vp_in_nI (by omega) hN
    refine z_aload_n h d_H_limbAt_8 rfl ?_
    refine z_get (C := R_H) (T := F_H) (N := 2) h 0 d_H_limbAt_9 in_H rfl (by decide) wf_H_9 rfl rfl ?_
    refine z_iload_n h d_H_limbAt_12 rfl ?_
    refine z_iaload h d_H_limbAt_13 rfl hb_13 ?_
    refine z_goto (tgt := 18) h d_H_limbAt_14 (by decide) ?_
    exact hr.1 _ _ _ _ _ _ (Nat.le_refl _) (Nat.le_refl _) rfl d_H_limbAt_18 ⟨(), by rw [if_pos q, nI_clamp hi], rfl, trivial⟩
set_option maxRecDepth 100000 in
set_option maxHeartbeats 4000000 in
theorem ms_H_trim (N s : Nat) (a : Nat → Nat) (hN : N < 2 ^ 31) (hs : s ≤ N) (ha : ∀ j, a j < 2 ^ 31) : MS y_H_trim c_H_trim 1 none (rm 1) [.ref 0] [wh 1 s, ar N a] (zP (X := Unit) (fun _ => none) (fun _ => [wh 1 (trm a s), ar N a]) (fun _ => True)) := by
  refine MS_of (own := R_H) (by decide) rfl (fun _ => Nat.le_of_ble_eq_true rfl) (fun Z h hr => ?_)
  show Z 0 0 [wh 1 s, ar N a] [(0, .ref 0)] 0 []
  induction s with
  | zero =>
    refine z_aload_n h d_H_trim_0 rfl ?_
    refine z_get (C := R_H) (T := F_H) (N := 2) h 1 d_H_trim_1 in_H rfl (by decide) wf_H_15 rfl rfl ?_
    refine z_if_le (tgt := 34) h d_H_trim_4 (by decide) (fun c_4 => ?_) (fun c_4 => ?_)
    · exact hr.2.2.2.1 _ _ _ _ _ (Nat.le_refl _) (Nat.le_refl _) rfl d_H_trim_34 ⟨(), rfl, rfl, trivial⟩
    · exact absurd (by rw [nI_0]; decide) c_4
  | succ s ih =>
    refine z_aload_n h d_H_trim_0 rfl ?_
    refine z_get (C := R_H) (T := F_H) (N := 2) h 1 d_H_trim_1 in_H rfl (by decide) wf_H_15 rfl rfl ?_
    refine z_if_le (tgt := 34) h d_H_trim_4 (by decide) (fun c_4 => ?_) (fun c_4 => ?_)
    · exact absurd c_4 (nI_nle (by omega) (by omega))
    · have e : nI (s + 1) - 1 = nI s := nI_pred s
      have hb_17 : vp_in (nI (s + 1) - 1) N := by rw [e]; exact vp_in_nI (by omega) hN
      refine z_aload_n h d_H_trim_7 rfl ?_
      refine z_get (C := R_H) (T := F_H) (N := 2) h 0 d_H_trim_8 in_H rfl (by decide) wf_H_9 rfl rfl ?_
      refine z_aload_n h d_H_trim_11 rfl ?_
      refine z_get (C := R_H) (T := F_H) (N := 2) h 1 d_H_trim_12 in_H rfl (by decide) wf_H_15 rfl rfl ?_
      refine z_iconst (v := 1) h d_H_trim_15 (by decide) ?_
      refine z_isub h d_H_trim_16 ?_
      refine z_iaload h d_H_trim_17 rfl hb_17 ?_
      rw [e, nI_clamp (by omega)]
      refine z_if_ne (tgt := 34) h d_H_trim_18 (by decide) (fun c_18 => ?_) (fun c_18 => ?_)
      · have q : ¬ a s = 0 := fun z => c_18 (by rw [z, nI_0])
        refine hr.2.2.2.1 _ _ _ _ _ (Nat.le_refl _) (Nat.le_refl _) rfl d_H_trim_34 ⟨(), rfl, ?_, trivial⟩
        show [wh 1 (s + 1), ar N a] = [wh 1 (if a s = 0 then trm a s else s + 1), ar N a]
        rw [if_neg q]
      · have q : a s = 0 := by
          have h0 := c_18
          rw [← nI_0] at h0
          exact (nI_eq (ha s) (by decide)).mp h0
        refine z_aload_n h d_H_trim_21 rfl ?_
        refine z_dup h d_H_trim_22 rfl ?_
        refine z_get (C := R_H) (T := F_H) (N := 2) h 1 d_H_trim_23 in_H rfl (by decide) wf_H_15 rfl rfl ?_
        refine z_iconst (v := 1) h d_H_trim_26 (by decide) ?_
        refine z_isub h d_H_trim_27 ?_
        refine z_put (C := R_H) (T := F_H) (N := 2) (ty := .int) h 1 d_H_trim_28 in_H rfl ft_H_ok n_H (by decide) wf_H_15 rfl rfl rfl rfl rfl (Nat.le_of_ble_eq_true rfl) ?_
        refine z_goto (tgt := 0) h d_H_trim_31 (by decide) ?_
        rw [e]
        refine (?_ : Z 0 0 [wh 1 s, ar N a] [(0, .ref 0)] 0 [])
        have et : trm a (s + 1) = trm a s := by show (if a s = 0 then trm a s else s + 1) = _; rw [if_pos q]
        rw [et] at hr
        exact ih (by omega) hr
