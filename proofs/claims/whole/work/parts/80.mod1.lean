/-! DigitMillModel: its world; trim, at, set, copy -/
abbrev MG : Type := Int32 × Int32 × Int32 × Int32 × Int32 × (Nat → Nat) × (Nat → Nat)
abbrev mW (d n : Nat → Nat) (lf : Int64) (G : MG) : List va_E := [.inr (5, [.ref 1, .ref 2, .int G.1, .int G.2.1, .ref 3, .int G.2.2.1, .int G.2.2.2.1, .ref 4, .int G.2.2.2.2.1, .long lf]), ar 28000 d, ar 10 n, ar 24001 G.2.2.2.2.2.1, ar 12 G.2.2.2.2.2.2]
def MV (d n V : Nat → Nat) : Prop := (∀ j, d j < 32768) ∧ ∀ x, x < 10 → Rp 32768 2800 (sh d (2800 * x)) (n x) (V x)
theorem put5 {d n d' n' : Nat → Nat} {lf lf' : Int64} {G G' : MG} : zput (mW d n lf G) [0, 1, 2, 3, 4] ((mW d' n' lf' G').map (zE (fun i => i) (zfn [0, 1, 2, 3, 4]))) = mW d' n' lf' G' := rfl
/-- a call of one of the model's own methods, at the model's own world -/
theorem z_cM {Z : ZP} {own : String} {cc : ByteArray} {nL : Nat} {pc d' d0 : Nat} {lv : List (Nat × Value)} {st stk : List Value} {y : MethodName} {cy : ByteArray} {ny : Nat} {ry : Option FieldType} {As : List Value} {X : Type} {F : X → Option Value} {P : X → Prop} {d n : Nat → Nat} {lf : Int64} {G : MG} {D N : X → Nat → Nat} {L : X → Int64} {H : X → MG} (h : Cb Z own cc nL (rm d0)) {ix : Nat} (hM : MS y cy ny ry (rm d') (.ref 0 :: As) (mW d n lf G) (zP F (fun x => mW (D x) (N x) (L x) (H x)) P)) (hF : zFit y cy ny ry (rm d') (rm d0) As.length) (hl : Cond.methodLink own ix y ∈ TT) (hi : Cond.instanceMethod y ∈ TT) (hs : Cond.selects R_M y y ∈ TT) (dd : decode cc pc = .ok (.invokevirtual ix, 3)) (hst : (st.map fun v => v.category).sum ≤ 8) (hstk : ((As.map (zV (zfn [0, 1, 2, 3, 4]))).reverse ++ .ref 0 :: st) = stk)
    (kk : ∀ x, P x → Z 0 0 (mW (D x) (N x) (L x) (H x)) lv (pc + 3) (((F x).map (zV (zfn [0, 1, 2, 3, 4]))).toList ++ st)) : Z 0 0 (mW d n lf G) lv pc stk :=
  z_cV (C := R_M) (ci := 5) h hM hF hl hi hs rfl ⟨_, rfl⟩ dd [0, 1, 2, 3, 4] (by decide) rfl hst hstk (fun _ => rfl) (fun x hx => by rw [put5]; exact kk x hx)
theorem un_un {a : Nat → Nat} {i x y : Nat} : un (un a i x) i y = un a i y := funext fun j => by
  unfold un
  split <;> rfl
theorem un_self {a : Nat → Nat} {i : Nat} : un a i (a i) = a := funext fun j => by
  unfold un
  split
  · rename_i h; rw [h]
  · rfl
theorem Rp_congr {B N : Nat} {a c : Nat → Nat} {s v : Nat} (h : ∀ j, j < s → c j = a j) (hc : ∀ j, c j < B) (hR : Rp B N a s v) : Rp B N c s v := by
  obtain ⟨h1, h2, h3, h4⟩ := hR
  exact ⟨h1, hc, by rw [nv_congr h]; exact h3, h4⟩
/-- slot x has been written, nothing else -/
theorem MV_upd {d n V d' : Nat → Nat} {x s v : Nat} (h : MV d n V) (hd : ∀ j, d' j < 32768) (hk : ∀ j, (j < 2800 * x ∨ 2800 * x + 2800 ≤ j) → d' j = d j) (hR : Rp 32768 2800 (sh d' (2800 * x)) s v) : MV d' (un n x s) (un V x v) := by
  refine ⟨hd, fun y hy => ?_⟩
  by_cases e : y = x
  · subst e
    rw [un_eq, un_eq]
    exact hR
  · rw [un_ne e, un_ne e]
    have h0 := h.2 y hy
    have hs := h0.1
    refine Rp_congr (fun j hj => ?_) (fun j => hd _) h0
    show d' (2800 * y + j) = d (2800 * y + j)
    apply hk
    omega
set_option maxRecDepth 100000 in
set_option maxHeartbeats 4000000 in
theorem ms_M_trim (d n : Nat → Nat) (lf : Int64) (G : MG) (x s : Nat) (hx : x < 10) (hs : s ≤ 2800) (hd : ∀ j, d j < 32768) : MS y_M_trim c_M_trim 2 none (rm 1) [.ref 0, .int (nI x)] (mW d (un n x s) lf G) (zP (X := Unit) (fun _ => none) (fun _ => mW d (un n x (trm (sh d (2800 * x)) s)) lf G) (fun _ => True)) := by
  refine MS_of (own := R_M) (by decide) rfl (fun _ => Nat.le_of_ble_eq_true rfl) (fun Z h hr => ?_)
  have L : ∀ t, t ≤ s → trm (sh d (2800 * x)) t = trm (sh d (2800 * x)) s → Z 0 0 (mW d (un n x t) lf G) [(0, .ref 0), (1, .int (nI x))] 0 [] := by
    intro t
    induction t with
    | zero =>
      intro ht he
      refine z_aload_n h d_M_trim_0 rfl ?_
      refine z_get (C := R_M) (T := F_M) (N := 10) h 1 d_M_trim_1 in_M rfl (by decide) wf_M_13 rfl rfl ?_
      refine z_iload_n h d_M_trim_4 rfl ?_
      refine z_ialoadN h d_M_trim_5 rfl (by omega) ?_
      rw [un_eq]
      refine z_if_leN (tgt := 44) h d_M_trim_6 (by decide) (by omega) (fun c_6 => ?_) (fun c_6 => ?_)
      · refine hr.2.2.2.1 _ _ _ _ _ (Nat.le_refl _) (Nat.le_refl _) rfl d_M_trim_44 ?_
        refine ⟨(), rfl, ?_, trivial⟩
        rw [← he]
        rfl
      · exact absurd c_6 (by omega)
    | succ t ih =>
      intro ht he
      refine z_aload_n h d_M_trim_0 rfl ?_
      refine z_get (C := R_M) (T := F_M) (N := 10) h 1 d_M_trim_1 in_M rfl (by decide) wf_M_13 rfl rfl ?_
      refine z_iload_n h d_M_trim_4 rfl ?_
      refine z_ialoadN h d_M_trim_5 rfl (by omega) ?_
      rw [un_eq]
      refine z_if_leN (tgt := 44) h d_M_trim_6 (by decide) (by omega) (fun c_6 => ?_) (fun c_6 => ?_)
      · exact absurd c_6 (by omega)
      · refine z_aload_n h d_M_trim_9 rfl ?_
        refine z_get (C := R_M) (T := F_M) (N := 10) h 0 d_M_trim_10 in_M rfl (by decide) wf_M_7 rfl rfl ?_
        refine z_sipush (v := nI 2800) h d_M_trim_13 (by decide) ?_
        refine z_iload_n h d_M_trim_16 rfl ?_
        refine z_imulN h d_M_trim_17 ?_
        refine z_aload_n h d_M_trim_18 rfl ?_
        refine z_get (C := R_M) (T := F_M) (N := 10) h 1 d_M_trim_19 in_M rfl (by decide) wf_M_13 rfl rfl ?_
        refine z_iload_n h d_M_trim_22 rfl ?_
        refine z_ialoadN h d_M_trim_23 rfl (by omega) ?_
        rw [un_eq]
        refine z_iaddN h d_M_trim_24 ?_
        refine z_iconst (v := nI 1) h d_M_trim_25 (by decide) ?_
        refine z_isubN h d_M_trim_26 (by omega) ?_
        refine z_ialoadN h d_M_trim_27 rfl (by omega) ?_
        have hdj := hd (2800 * x + (t + 1) - 1)
        refine z_if_neN (tgt := 44) h d_M_trim_28 (by decide) (by omega) (fun c_28 => ?_) (fun c_28 => ?_)
        · refine hr.2.2.2.1 _ _ _ _ _ (Nat.le_refl _) (Nat.le_refl _) rfl d_M_trim_44 ?_
          refine ⟨(), rfl, ?_, trivial⟩
          rw [← he]
          have e1 : trm (sh d (2800 * x)) (t + 1) = t + 1 := if_neg c_28
          rw [e1]
        · refine z_aload_n h d_M_trim_31 rfl ?_
          refine z_get (C := R_M) (T := F_M) (N := 10) h 1 d_M_trim_32 in_M rfl (by decide) wf_M_13 rfl rfl ?_
          refine z_iload_n h d_M_trim_35 rfl ?_
          refine z_dup2_11 h d_M_trim_36 rfl rfl ?_
          refine z_ialoadN h d_M_trim_37 rfl (by omega) ?_
          rw [un_eq]
          refine z_iconst (v := nI 1) h d_M_trim_38 (by decide) ?_
          refine z_isubN h d_M_trim_39 (by omega) ?_
          refine z_iastoreN h d_M_trim_40 rfl (by omega) ?_
          refine z_goto (tgt := 0) h d_M_trim_41 (by decide) ?_
          rw [un_un, Nat.add_sub_cancel]
          refine ih (by omega) ?_
          rw [← he]
          exact (if_pos c_28).symm
  exact L s (Nat.le_refl _) rfl
set_option maxRecDepth 100000 in
set_option maxHeartbeats 4000000 in
/-- a limb of a number -/
theorem ms_M_at (d n V : Nat → Nat) (lf : Int64) (G : MG) (x k : Nat) (hx : x < 10) (hn : n x ≤ 2800) (hk : k < 2 ^ 31) : MS y_M_at c_M_at 3 (some .int) (rm 1) [.ref 0, .int (nI x), .int (nI k)] (mW d n lf G) (zP (X := Unit) (fun _ => some (.int (nI (if k < n x then d (2800 * x + k) else 0)))) (fun _ => mW d n lf G) (fun _ => True)) := by
  refine MS_of (own := R_M) (by decide) rfl (fun _ => Nat.le_of_ble_eq_true rfl) (fun Z h hr => ?_)
  refine z_iload_n h d_M_at_0 rfl ?_
  refine z_if_lt (tgt := 29) h d_M_at_1 (by decide) (fun c_1 => ?_) (fun c_1 => ?_)
  · exact absurd c_1 (nI_pos (by omega))
  · refine z_iload_n h d_M_at_4 rfl ?_
    refine z_aload_n h d_M_at_5 rfl ?_
    refine z_get (C := R_M) (T := F_M) (N := 10) h 1 d_M_at_6 in_M rfl (by decide) wf_M_13 rfl rfl ?_
    refine z_iload_n h d_M_at_9 rfl ?_
    refine z_ialoadN h d_M_at_10 rfl (by omega) ?_
    refine z_icmp_geN (tgt := 29) h d_M_at_11 (by decide) (by omega) (fun c_11 => ?_) (fun c_11 => ?_)
    · refine z_iconst (v := nI 0) h d_M_at_29 (by decide) ?_
      refine hr.1 _ _ _ _ _ _ (Nat.le_refl _) (Nat.le_refl _) rfl d_M_at_30 ?_
      refine ⟨(), ?_, rfl, trivial⟩
      rw [if_neg (by omega)]
    · refine z_aload_n h d_M_at_14 rfl ?_
      refine z_get (C := R_M) (T := F_M) (N := 10) h 0 d_M_at_15 in_M rfl (by decide) wf_M_7 rfl rfl ?_
      refine z_sipush (v := nI 2800) h d_M_at_18 (by decide) ?_
      refine z_iload_n h d_M_at_21 rfl ?_
      refine z_imulN h d_M_at_22 ?_
      refine z_iload_n h d_M_at_23 rfl ?_
      refine z_iaddN h d_M_at_24 ?_
      refine z_ialoadN h d_M_at_25 rfl (by omega) ?_
      refine z_goto (tgt := 30) h d_M_at_26 (by decide) ?_
      refine hr.1 _ _ _ _ _ _ (Nat.le_refl _) (Nat.le_refl _) rfl d_M_at_30 ?_
      refine ⟨(), ?_, rfl, trivial⟩
      rw [if_pos (by omega)]
/-- below the lowest limb there is nothing -/
theorem ms_M_atNeg (d n : Nat → Nat) (lf : Int64) (G : MG) (x : Nat) (k : Int32) (hk : k < 0) : MS y_M_at c_M_at 3 (some .int) (rm 1) [.ref 0, .int (nI x), .int k] (mW d n lf G) (zP (X := Unit) (fun _ => some (.int (nI 0))) (fun _ => mW d n lf G) (fun _ => True)) := by
  refine MS_of (own := R_M) (by decide) rfl (fun _ => Nat.le_of_ble_eq_true rfl) (fun Z h hr => ?_)
  refine z_iload_n h d_M_at_0 rfl ?_
  refine z_if_lt (tgt := 29) h d_M_at_1 (by decide) (fun c_1 => ?_) (fun c_1 => ?_)
  · refine z_iconst (v := nI 0) h d_M_at_29 (by decide) ?_
    refine hr.1 _ _ _ _ _ _ (Nat.le_refl _) (Nat.le_refl _) rfl d_M_at_30 ?_
    exact ⟨(), rfl, rfl, trivial⟩
  · exact absurd hk c_1
theorem un_comm {a : Nat → Nat} {i j x y : Nat} (h : i ≠ j) : un (un a i x) j y = un (un a j y) i x := funext fun k => by
  unfold un
  by_cases e : k = j
  · rw [if_pos e, if_neg (by omega), if_pos e]
  · rw [if_neg e, if_neg e]
theorem sh_un {d : Nat → Nat} {k i y : Nat} : sh (un d (k + i) y) k = un (sh d k) i y := funext fun j => by
  unfold sh un
  by_cases h : j = i
  · rw [if_pos h, if_pos (by omega)]
  · rw [if_neg h, if_neg (by omega)]
theorem sh_un_ne {d : Nat → Nat} {k q i y j : Nat} (h : k + j ≠ q + i) : sh (un d (q + i) y) k j = sh d k j := by
  unfold sh un
  rw [if_neg h]
set_option maxRecDepth 100000 in
set_option maxHeartbeats 4000000 in
theorem ms_M_set (d n V : Nat → Nat) (lf : Int64) (G : MG) (x v : Nat) (hx : x < 10) (hM : MV d n V) (hv : v < 2 ^ 63) : MS y_M_set c_M_set 6 none (rm 1) [.ref 0, .int (nI x), .long (lN v)] (mW d n lf G) (zP (X := (Nat → Nat) × (Nat → Nat)) (fun _ => none) (fun q => mW q.1 q.2 lf G) (fun q => MV q.1 q.2 (un V x v))) := by
  refine MS_of (own := R_M) (by decide) rfl (fun _ => Nat.le_of_ble_eq_true rfl) (fun Z h hr => ?_)
  have L : ∀ (f s r : Nat) (e : Nat → Nat), f + s = 5 → (∀ j, e j < 32768) → (∀ j, (j < 2800 * x ∨ 2800 * x + 2800 ≤ j) → e j = d j) → nv 32768 (sh e (2800 * x)) s + r * 32768 ^ s = v → (s = 0 ∨ 32768 ^ (s - 1) ≤ v) → r < 32768 ^ f → Z 0 0 (mW e (un n x s) lf G) [(0, .ref 0), (1, .int (nI x)), (2, .long (lN v)), (4, .long (lN r))] 10 [] := by
    intro f
    induction f with
    | zero =>
      intro s r e hf he hk hn ht hr0
      obtain rfl : r = 0 := by omega
      refine z_lload h d_M_set_10 rfl ?_
      refine z_lconst (v := lN 0) h d_M_set_12 (by decide) ?_
      refine z_lcmp_leN (tgt := 61) h d_M_set_13 d_M_set_14 (by decide) (by omega) (fun c_13 => ?_) (fun c_13 => ?_)
      · refine hr.2.2.2.1 _ _ _ _ _ (Nat.le_refl _) (Nat.le_refl _) rfl d_M_set_61 ?_
        exact ⟨(e, un n x s), rfl, rfl, MV_upd hM he hk ⟨by omega, fun j => he _, by simpa using hn, ht⟩⟩
      · exact absurd c_13 (by omega)
    | succ f ih =>
      intro s r e hf he hk hn ht hr0
      have hr63 : r < 2 ^ 63 := by
        have e1 := Nat.le_mul_of_pos_right r (Nat.pow_pos (n := s) (show 0 < 32768 by decide))
        omega
      refine z_lload h d_M_set_10 rfl ?_
      refine z_lconst (v := lN 0) h d_M_set_12 (by decide) ?_
      refine z_lcmp_leN (tgt := 61) h d_M_set_13 d_M_set_14 (by decide) (by omega) (fun c_13 => ?_) (fun c_13 => ?_)
      · obtain rfl : r = 0 := by omega
        refine hr.2.2.2.1 _ _ _ _ _ (Nat.le_refl _) (Nat.le_refl _) rfl d_M_set_61 ?_
        exact ⟨(e, un n x s), rfl, rfl, MV_upd hM he hk ⟨by omega, fun j => he _, by simpa using hn, ht⟩⟩
      · refine z_aload_n h d_M_set_17 rfl ?_
        refine z_get (C := R_M) (T := F_M) (N := 10) h 0 d_M_set_18 in_M rfl (by decide) wf_M_7 rfl rfl ?_
        refine z_sipush (v := nI 2800) h d_M_set_21 (by decide) ?_
        refine z_iload_n h d_M_set_24 rfl ?_
        refine z_imulN h d_M_set_25 ?_
        refine z_aload_n h d_M_set_26 rfl ?_
        refine z_get (C := R_M) (T := F_M) (N := 10) h 1 d_M_set_27 in_M rfl (by decide) wf_M_13 rfl rfl ?_
        refine z_iload_n h d_M_set_30 rfl ?_
        refine z_ialoadN h d_M_set_31 rfl (by omega) ?_
        rw [un_eq]
        have hs_55 : r < 2 ^ 63 := hr63
        refine z_iaddN h d_M_set_32 ?_
        refine z_lload h d_M_set_33 rfl ?_
        refine z_ldc2_w (v := lN 32767) h d_M_set_35 wv_M_32 ?_
        refine z_land15N h d_M_set_38 ?_
        refine z_l2iN h d_M_set_39 ?_
        refine z_iastoreN h d_M_set_40 rfl (by omega) ?_
        refine z_aload_n h d_M_set_41 rfl ?_
        refine z_get (C := R_M) (T := F_M) (N := 10) h 1 d_M_set_42 in_M rfl (by decide) wf_M_13 rfl rfl ?_
        refine z_iload_n h d_M_set_45 rfl ?_
        refine z_dup2_11 h d_M_set_46 rfl rfl ?_
        refine z_ialoadN h d_M_set_47 rfl (by omega) ?_
        rw [un_eq]
        refine z_iconst (v := nI 1) h d_M_set_48 (by decide) ?_
        refine z_iaddN h d_M_set_49 ?_
        refine z_iastoreN h d_M_set_50 rfl (by omega) ?_
        refine z_lload h d_M_set_51 rfl ?_
        refine z_bipush (v := nI 15) h d_M_set_53 (by decide) ?_
        refine z_lshr15N h d_M_set_55 hs_55 ?_
        refine z_lstore h d_M_set_56 (by decide) ?_
        refine z_goto (tgt := 10) h d_M_set_58 (by decide) ?_
        rw [un_un]
        refine z_lv h rfl (ih (s + 1) (r / 32768) (un e (2800 * x + s) (r % 32768)) (by omega) (un_lt he (Nat.mod_lt _ (by decide))) (fun j hj => ?_) ?_ ?_ ?_)
        · rw [un_ne (by omega)]
          exact hk j hj
        · rw [sh_un, nv_put, Nat.add_assoc, Nat.pow_succ, carry_step]
          exact hn
        · right
          rw [Nat.add_sub_cancel]
          have e1 := Nat.le_mul_of_pos_left (32768 ^ s) c_13
          omega
        · rw [Nat.div_lt_iff_lt_mul (by decide), ← Nat.pow_succ]
          exact hr0
  refine z_aload_n h d_M_set_0 rfl ?_
  refine z_get (C := R_M) (T := F_M) (N := 10) h 1 d_M_set_1 in_M rfl (by decide) wf_M_13 rfl rfl ?_
  refine z_iload_n h d_M_set_4 rfl ?_
  refine z_iconst (v := nI 0) h d_M_set_5 (by decide) ?_
  refine z_iastoreN h d_M_set_6 rfl (by omega) ?_
  refine z_lload_n h d_M_set_7 rfl ?_
  refine z_lstore h d_M_set_8 (by decide) ?_
  exact z_lv h rfl (L 5 0 v d rfl hM.1 (fun _ _ => rfl) (by simp [nv]) (Or.inl rfl) (Nat.lt_trans hv (by decide)))
set_option maxRecDepth 100000 in
set_option maxHeartbeats 4000000 in
theorem ms_M_copy (d n V : Nat → Nat) (lf : Int64) (G : MG) (t x : Nat) (ht : t < 10) (hx : x < 10) (hM : MV d n V) : MS y_M_copy c_M_copy 4 none (rm 1) [.ref 0, .int (nI t), .int (nI x)] (mW d n lf G) (zP (X := (Nat → Nat) × (Nat → Nat)) (fun _ => none) (fun q => mW q.1 q.2 lf G) (fun q => MV q.1 q.2 (un V t (V x)))) := by
  refine MS_of (own := R_M) (by decide) rfl (fun _ => Nat.le_of_ble_eq_true rfl) (fun Z h hr => ?_)
  have hR := hM.2 x hx
  have hnx := hR.1
  have L : ∀ (f k : Nat) (e : Nat → Nat), f + k = n x → (∀ j, e j < 32768) → (∀ j, (j < 2800 * t ∨ 2800 * t + 2800 ≤ j) → e j = d j) → (∀ j, j < 2800 → e (2800 * x + j) = d (2800 * x + j)) → (∀ j, j < k → e (2800 * t + j) = d (2800 * x + j)) → Z 0 0 (mW e n lf G) [(0, .ref 0), (1, .int (nI t)), (2, .int (nI x)), (3, .int (nI k))] 2 [] := by
    intro f
    induction f with
    | zero =>
      intro k e hf he hk hs hc
      refine z_iload_n h d_M_copy_2 rfl ?_
      refine z_aload_n h d_M_copy_3 rfl ?_
      refine z_get (C := R_M) (T := F_M) (N := 10) h 1 d_M_copy_4 in_M rfl (by decide) wf_M_13 rfl rfl ?_
      refine z_iload_n h d_M_copy_7 rfl ?_
      refine z_ialoadN h d_M_copy_8 rfl (by omega) ?_
      refine z_icmp_geN (tgt := 42) h d_M_copy_9 (by decide) (by omega) (fun c_9 => ?_) (fun c_9 => ?_)
      · refine z_aload_n h d_M_copy_42 rfl ?_
        refine z_get (C := R_M) (T := F_M) (N := 10) h 1 d_M_copy_43 in_M rfl (by decide) wf_M_13 rfl rfl ?_
        refine z_iload_n h d_M_copy_46 rfl ?_
        refine z_aload_n h d_M_copy_47 rfl ?_
        refine z_get (C := R_M) (T := F_M) (N := 10) h 1 d_M_copy_48 in_M rfl (by decide) wf_M_13 rfl rfl ?_
        refine z_iload_n h d_M_copy_51 rfl ?_
        refine z_ialoadN h d_M_copy_52 rfl (by omega) ?_
        refine z_iastoreN h d_M_copy_53 rfl (by omega) ?_
        refine hr.2.2.2.1 _ _ _ _ _ (Nat.le_refl _) (Nat.le_refl _) rfl d_M_copy_54 ?_
        refine ⟨(e, un n t (n x)), rfl, rfl, MV_upd hM he hk (Rp_congr (fun j hj => ?_) (fun j => he _) hR)⟩
        exact hc j (by omega)
      · exact absurd c_9 (by omega)
    | succ f ih =>
      intro k e hf he hk hs hc
      refine z_iload_n h d_M_copy_2 rfl ?_
      refine z_aload_n h d_M_copy_3 rfl ?_
      refine z_get (C := R_M) (T := F_M) (N := 10) h 1 d_M_copy_4 in_M rfl (by decide) wf_M_13 rfl rfl ?_
      refine z_iload_n h d_M_copy_7 rfl ?_
      refine z_ialoadN h d_M_copy_8 rfl (by omega) ?_
      refine z_icmp_geN (tgt := 42) h d_M_copy_9 (by decide) (by omega) (fun c_9 => ?_) (fun c_9 => ?_)
      · exact absurd c_9 (by omega)
      · refine z_aload_n h d_M_copy_12 rfl ?_
        refine z_get (C := R_M) (T := F_M) (N := 10) h 0 d_M_copy_13 in_M rfl (by decide) wf_M_7 rfl rfl ?_
        refine z_sipush (v := nI 2800) h d_M_copy_16 (by decide) ?_
        refine z_iload_n h d_M_copy_19 rfl ?_
        refine z_imulN h d_M_copy_20 ?_
        refine z_iload_n h d_M_copy_21 rfl ?_
        refine z_iaddN h d_M_copy_22 ?_
        refine z_aload_n h d_M_copy_23 rfl ?_
        refine z_get (C := R_M) (T := F_M) (N := 10) h 0 d_M_copy_24 in_M rfl (by decide) wf_M_7 rfl rfl ?_
        refine z_sipush (v := nI 2800) h d_M_copy_27 (by decide) ?_
        refine z_iload_n h d_M_copy_30 rfl ?_
        refine z_imulN h d_M_copy_31 ?_
        refine z_iload_n h d_M_copy_32 rfl ?_
        refine z_iaddN h d_M_copy_33 ?_
        refine z_ialoadN h d_M_copy_34 rfl (by omega) ?_
        refine z_iastoreN h d_M_copy_35 rfl (by omega) ?_
        refine z_iincN h 1 d_M_copy_36 rfl (by decide) (by decide) ?_
        refine z_goto (tgt := 2) h d_M_copy_39 (by decide) ?_
        refine z_lv h rfl (ih (k + 1) (un e (2800 * t + k) (e (2800 * x + k))) (by omega) (un_lt he (he _)) (fun j hj => ?_) (fun j hj => ?_) (fun j hj => ?_))
        · rw [un_ne (by omega)]
          exact hk j hj
        · by_cases q : 2800 * x + j = 2800 * t + k
          · rw [q, un_eq, ← q]
            have : x = t := by omega
            subst this
            rw [show k = j by omega]
            exact hs j hj
          · rw [un_ne q]
            exact hs j hj
        · by_cases q : j = k
          · subst q
            rw [un_eq]
            exact hs j (by omega)
          · rw [un_ne (by omega)]
            exact hc j (by omega)
  refine z_iconst (v := nI 0) h d_M_copy_0 (by decide) ?_
  refine z_istore_n h d_M_copy_1 (by decide) ?_
  exact z_lv h rfl (L (n x) 0 d rfl hM.1 (fun _ _ => rfl) (fun _ _ => rfl) (fun j hj => absurd hj (by omega)))
