/-! DigitMillModel: shift, product, power -/
theorem up_fit {m v s : Nat} (h1 : 32768 ^ m ≤ v) (h2 : v * 32768 ^ s < capM) : m + s < 2800 := by
  have e1 : 32768 ^ (m + s) ≤ v * 32768 ^ s := by rw [Nat.pow_add]; exact Nat.mul_le_mul_right _ h1
  exact cap_lt (t := v * 32768 ^ s - 32768 ^ (m + s)) (c := 1) (v := v * 32768 ^ s) (by omega) h2 (by decide)
theorem up_nv {a c : Nat → Nat} {m s v : Nat} (h0 : ∀ j, j < s → c j = 0) (h1 : ∀ j, j < m → c (s + j) = a j) (hv : nv 32768 a m = v) : nv 32768 c (s + m) = v * 32768 ^ s := by
  have e0 : ∀ t, t ≤ s → nv 32768 c t = 0 := by
    intro t
    induction t with
    | zero => intro _; rfl
    | succ t ih => intro ht; rw [nv_s, ih (by omega), h0 t (by omega), Nat.zero_mul]
  rw [nv_split, e0 s (Nat.le_refl s), Nat.zero_add, nv_congr (a := sh c s) (b := a) (fun j hj => h1 j hj), hv]
theorem nI_addneg {k s : Nat} (h : s ≤ k) : nI k + -nI s = nI (k - s) := by
  rw [← nI_subN h, Int32.sub_eq_add_neg]
theorem nI_addlt {k s : Nat} (h : k < s) (hs : s < 2 ^ 30) : nI k + -nI s < 0 := by
  rw [← Int32.sub_eq_add_neg]
  exact nI_negLt h hs
theorem nI_neg_le {s : Nat} (hs : s < 2 ^ 30) : -nI s ≤ 0 := by
  have e : -nI s = iI (-(s : Int)) := by rw [nI_iI]; exact (Int32.ofInt_neg (s : Int)).symm
  rw [e, ← iI_0, iI_le (by omega) (by omega) (by omega) (by omega)]
  omega
theorem iw_un (d n n2 : Nat → Nat) (lf : Int64) (G : MG) : mW d n2 lf G = mW d n2 lf G := rfl
set_option maxRecDepth 100000 in
set_option maxHeartbeats 4000000 in
theorem ms_M_up (d n V : Nat → Nat) (lf : Int64) (G : MG) (x s : Nat) (hx : x < 10) (hs : 1 ≤ s) (hs2 : s < 2000) (hM : MV d n V) (hv : V x * 32768 ^ s < capM) : MS y_M_shift c_M_shift 6 none (rm 2) [.ref 0, .int (nI x), .int (nI s)] (mW d n lf G) (zP (X := (Nat → Nat) × (Nat → Nat)) (fun _ => none) (fun q => mW q.1 q.2 lf G) (fun q => MV q.1 q.2 (un V x (V x * 32768 ^ s)))) := by
  refine MS_of (own := R_M) (by decide) rfl (fun _ => Nat.le_of_ble_eq_true rfl) (fun Z h hr => ?_)
  have hX := hM.2 x hx
  have hnx := hX.1
  have hfit : n x = 0 ∨ n x + s ≤ 2800 := by
    rcases hX.2.2.2 with q | q
    · exact Or.inl q
    · right
      have := up_fit q hv
      omega
  have End : ∀ (e : Nat → Nat) (k : Nat), (∀ j, e j < 32768) → (∀ j, (j < 2800 * x ∨ 2800 * x + 2800 ≤ j) → e j = d j) → (n x ≠ 0 → (∀ j, j < s → e (2800 * x + j) = 0) ∧ ∀ j, j < n x → e (2800 * x + (s + j)) = d (2800 * x + j)) → Z 0 0 (mW e n lf G) [(0, .ref 0), (1, .int (nI x)), (2, .int (nI s)), (3, .int (nI (n x))), (4, .int (nI k))] 107 [] := by
    intro e k he hk hj
    have K : ∀ t, t ≤ 2800 → nv 32768 (sh e (2800 * x)) t = V x * 32768 ^ s → Z 0 0 (mW e n lf G) [(0, .ref 0), (1, .int (nI x)), (2, .int (nI s)), (3, .int (nI (n x))), (4, .int (nI k))] 129 [.int (nI t), .int (nI x), .ref 2] := by
      intro t ht hval
      refine z_iastoreN h d_M_shift_129 rfl (by omega) ?_
      refine z_aload_n h d_M_shift_130 rfl ?_
      refine z_iload_n h d_M_shift_131 rfl ?_
      refine z_cM h (ms_M_trim e n lf G x t hx ht he) (zf_M_trim (by decide)) wm_M_38 wi_M_trim ws_M_trim d_M_shift_132 (Nat.le_of_ble_eq_true rfl) rfl (fun x_132 hx_132 => ?_)
      refine hr.2.2.2.1 _ _ _ _ _ (Nat.le_refl _) (Nat.le_refl _) rfl d_M_shift_135 ?_
      exact ⟨(e, un n x (trm (sh e (2800 * x)) t)), rfl, rfl, MV_upd hM he hk (Rp_trm ht (fun j => he _) hval)⟩
    refine z_aload_n h d_M_shift_107 rfl ?_
    refine z_get (C := R_M) (T := F_M) (N := 10) h 1 d_M_shift_108 in_M rfl (by decide) wf_M_13 rfl rfl ?_
    refine z_iload_n h d_M_shift_111 rfl ?_
    refine z_iload_n h d_M_shift_112 rfl ?_
    refine z_if_eqN (tgt := 122) h d_M_shift_113 (by decide) (by omega) (fun c_113 => ?_) (fun c_113 => ?_)
    · refine z_iconst (v := nI 0) h d_M_shift_122 (by decide) ?_
      refine z_goto (tgt := 129) h d_M_shift_123 (by decide) ?_
      refine K 0 (by omega) ?_
      have e1 := hX.2.2.1
      rw [c_113] at e1
      rw [← e1]
      show 0 = 0 * _
      rw [Nat.zero_mul]
    · refine z_iload_n h d_M_shift_116 rfl ?_
      refine z_iload_n h d_M_shift_117 rfl ?_
      refine z_iaddN h d_M_shift_118 ?_
      refine z_if_ge (tgt := 126) h d_M_shift_119 (by decide) (fun c_119 => ?_) (fun c_119 => ?_)
      · refine z_iload_n h d_M_shift_126 rfl ?_
        refine z_iload_n h d_M_shift_127 rfl ?_
        refine z_iaddN h d_M_shift_128 ?_
        obtain ⟨j1, j2⟩ := hj c_113
        refine K (n x + s) (by omega) ?_
        rw [Nat.add_comm]
        exact up_nv (a := sh d (2800 * x)) (fun j hj => j1 j hj) (fun j hj => j2 j hj) hX.2.2.1
      · have q9 : ¬ (nI (n x + s) < 0) := nI_pos (by omega)
        exact absurd (Int32.not_lt.mp q9) c_119
  have L2 : ∀ (f k : Nat) (e : Nat → Nat), f + k = s → (∀ j, e j < 32768) → (∀ j, (j < 2800 * x ∨ 2800 * x + 2800 ≤ j) → e j = d j) → (n x ≠ 0 → (∀ j, j < k → e (2800 * x + j) = 0) ∧ ∀ j, j < n x → e (2800 * x + (s + j)) = d (2800 * x + j)) → Z 0 0 (mW e n lf G) [(0, .ref 0), (1, .int (nI x)), (2, .int (nI s)), (3, .int (nI (n x))), (4, .int (nI k))] 77 [] := by
    intro f
    induction f with
    | zero =>
      intro k e hf he hk hj
      obtain rfl : k = s := by omega
      refine z_iload h d_M_shift_77 rfl ?_
      refine z_iload_n h d_M_shift_79 rfl ?_
      refine z_icmp_geN (tgt := 107) h d_M_shift_80 (by decide) (by omega) (fun c_80 => ?_) (fun c_80 => ?_)
      · exact End e k he hk hj
      · exact absurd c_80 (by omega)
    | succ f ih =>
      intro k e hf he hk hj
      refine z_iload h d_M_shift_77 rfl ?_
      refine z_iload_n h d_M_shift_79 rfl ?_
      refine z_icmp_geN (tgt := 107) h d_M_shift_80 (by decide) (by omega) (fun c_80 => ?_) (fun c_80 => ?_)
      · exact absurd c_80 (by omega)
      · refine z_iload_n h d_M_shift_83 rfl ?_
        refine z_if_leN (tgt := 107) h d_M_shift_84 (by decide) (by omega) (fun c_84 => ?_) (fun c_84 => ?_)
        · exact End e k he hk (fun q => absurd q (by omega))
        · refine z_aload_n h d_M_shift_87 rfl ?_
          refine z_get (C := R_M) (T := F_M) (N := 10) h 0 d_M_shift_88 in_M rfl (by decide) wf_M_7 rfl rfl ?_
          refine z_sipush (v := nI 2800) h d_M_shift_91 (by decide) ?_
          refine z_iload_n h d_M_shift_94 rfl ?_
          refine z_imulN h d_M_shift_95 ?_
          refine z_iload h d_M_shift_96 rfl ?_
          refine z_iaddN h d_M_shift_98 ?_
          refine z_iconst (v := nI 0) h d_M_shift_99 (by decide) ?_
          refine z_iastoreN h d_M_shift_100 rfl (by omega) ?_
          refine z_iincN h 1 d_M_shift_101 rfl (by decide) (by decide) ?_
          refine z_goto (tgt := 77) h d_M_shift_104 (by decide) ?_
          refine z_lv h rfl (ih (k + 1) (un e (2800 * x + k) 0) (by omega) (un_lt he (by decide)) (fun j hj2 => ?_) (fun q => ⟨fun j hj2 => ?_, fun j hj2 => ?_⟩))
          · rw [un_ne (by omega)]
            exact hk j hj2
          · by_cases e9 : j = k
            · subst e9; exact un_eq
            · rw [un_ne (by omega)]
              exact (hj q).1 j (by omega)
          · rw [un_ne (by omega)]
            exact (hj q).2 j hj2
  have L1 : ∀ (f k : Nat) (e : Nat → Nat), f + k = n x → (∀ j, e j < 32768) → (∀ j, (j < 2800 * x + (f + s) ∨ 2800 * x + 2800 ≤ j) → e j = d j) → (∀ j, f ≤ j → j < n x → e (2800 * x + (s + j)) = d (2800 * x + j)) → Z 0 0 (mW e n lf G) [(0, .ref 0), (1, .int (nI x)), (2, .int (nI s)), (3, .int (nI (n x))), (4, .int (nI k))] 10 [] := by
    intro f
    induction f with
    | zero =>
      intro k e hf he hk hj
      refine z_iload h d_M_shift_10 rfl ?_
      refine z_iload_n h d_M_shift_12 rfl ?_
      refine z_icmp_geN (tgt := 74) h d_M_shift_13 (by decide) (by omega) (fun c_13 => ?_) (fun c_13 => ?_)
      · refine z_iconst (v := nI 0) h d_M_shift_74 (by decide) ?_
        refine z_istore h d_M_shift_75 (by decide) ?_
        refine z_lv h rfl (L2 s 0 e rfl he (fun j hj2 => hk j (by omega)) (fun q => ⟨fun j hj2 => absurd hj2 (by omega), fun j hj2 => hj j (by omega) hj2⟩))
      · exact absurd c_13 (by omega)
    | succ f ih =>
      intro k e hf he hk hj
      have hi : n x - 1 - k = f := by omega
      refine z_iload h d_M_shift_10 rfl ?_
      refine z_iload_n h d_M_shift_12 rfl ?_
      refine z_icmp_geN (tgt := 74) h d_M_shift_13 (by decide) (by omega) (fun c_13 => ?_) (fun c_13 => ?_)
      · exact absurd c_13 (by omega)
      · refine z_iload_n h d_M_shift_16 rfl ?_
        refine z_if_leN (tgt := 29) h d_M_shift_17 (by decide) (by omega) (fun c_17 => ?_) (fun c_17 => ?_)
        · exact absurd c_17 (by omega)
        · refine z_iload_n h d_M_shift_20 rfl ?_
          refine z_iconst (v := nI 1) h d_M_shift_21 (by decide) ?_
          refine z_isubN h d_M_shift_22 (by omega) ?_
          refine z_iload h d_M_shift_23 rfl ?_
          refine z_isubN h d_M_shift_25 (by omega) ?_
          refine z_goto (tgt := 31) h d_M_shift_26 (by decide) ?_
          rw [hi]
          refine z_istore h d_M_shift_31 (by decide) ?_
          refine z_iload h d_M_shift_33 rfl ?_
          refine z_iload_n h d_M_shift_35 rfl ?_
          refine z_iaddN h d_M_shift_36 ?_
          refine z_if_lt (tgt := 68) h d_M_shift_37 (by decide) (fun c_37 => ?_) (fun c_37 => ?_)
          · exact absurd c_37 (nI_pos (by omega))
          · refine z_aload_n h d_M_shift_40 rfl ?_
            refine z_get (C := R_M) (T := F_M) (N := 10) h 0 d_M_shift_41 in_M rfl (by decide) wf_M_7 rfl rfl ?_
            refine z_sipush (v := nI 2800) h d_M_shift_44 (by decide) ?_
            refine z_iload_n h d_M_shift_47 rfl ?_
            refine z_imulN h d_M_shift_48 ?_
            refine z_iload h d_M_shift_49 rfl ?_
            refine z_iaddN h d_M_shift_51 ?_
            refine z_iload_n h d_M_shift_52 rfl ?_
            refine z_iaddN h d_M_shift_53 ?_
            refine z_aload_n h d_M_shift_54 rfl ?_
            refine z_get (C := R_M) (T := F_M) (N := 10) h 0 d_M_shift_55 in_M rfl (by decide) wf_M_7 rfl rfl ?_
            refine z_sipush (v := nI 2800) h d_M_shift_58 (by decide) ?_
            refine z_iload_n h d_M_shift_61 rfl ?_
            refine z_imulN h d_M_shift_62 ?_
            refine z_iload h d_M_shift_63 rfl ?_
            refine z_iaddN h d_M_shift_65 ?_
            refine z_ialoadN h d_M_shift_66 rfl (by omega) ?_
            refine z_iastoreN h d_M_shift_67 rfl (by omega) ?_
            refine z_iincN h 1 d_M_shift_68 rfl (by decide) (by decide) ?_
            refine z_goto (tgt := 10) h d_M_shift_71 (by decide) ?_
            rw [show 2800 * x + f + s = 2800 * x + (s + f) by omega]
            refine z_lv h rfl (ih (k + 1) (un e (2800 * x + (s + f)) (e (2800 * x + f))) (by omega) (un_lt he (he _)) (fun j hj2 => ?_) (fun j q1 q2 => ?_))
            · rw [un_ne (by omega)]
              exact hk j (by omega)
            · by_cases e9 : j = f
              · subst e9
                rw [un_eq]
                exact hk _ (by omega)
              · rw [un_ne (by omega)]
                exact hj j (by omega) q2
  refine z_aload_n h d_M_shift_0 rfl ?_
  refine z_get (C := R_M) (T := F_M) (N := 10) h 1 d_M_shift_1 in_M rfl (by decide) wf_M_13 rfl rfl ?_
  refine z_iload_n h d_M_shift_4 rfl ?_
  refine z_ialoadN h d_M_shift_5 rfl (by omega) ?_
  refine z_istore_n h d_M_shift_6 (by decide) ?_
  refine z_iconst (v := nI 0) h d_M_shift_7 (by decide) ?_
  refine z_istore h d_M_shift_8 (by decide) ?_
  have e0 := L1 (n x) 0 d rfl hM.1 (fun _ _ => rfl) (fun j q1 q2 => absurd q1 (by omega))
  exact z_lv h rfl e0
theorem dn_nv {a c : Nat → Nat} {m s v : Nat} (ha : ∀ j, a j < 32768) (h1 : ∀ j, j < m - s → c j = a (s + j)) (hv : nv 32768 a m = v) : nv 32768 c (m - s) = v / 32768 ^ s := by
  rw [nv_congr (b := sh a s) (fun j hj => h1 j hj)]
  by_cases q : s ≤ m
  · have e1 := nv_split (B := 32768) (a := a) (k := s) (m := m - s)
    rw [show s + (m - s) = m by omega, hv] at e1
    rw [e1, Nat.mul_comm, Nat.add_mul_div_left _ _ (Nat.pow_pos (by decide)), Nat.div_eq_of_lt (nv_lt (fun j _ => ha j)), Nat.zero_add]
  · rw [show m - s = 0 by omega, Nat.div_eq_of_lt]
    · rfl
    · rw [← hv]
      exact Nat.lt_of_lt_of_le (nv_lt (fun j _ => ha j)) (Nat.pow_le_pow_right (by decide) (by omega))
set_option maxRecDepth 100000 in
set_option maxHeartbeats 4000000 in
theorem ms_M_down (d n V : Nat → Nat) (lf : Int64) (G : MG) (x s : Nat) (hx : x < 10) (hs : 1 ≤ s) (hs2 : s < 2000) (hM : MV d n V) : MS y_M_shift c_M_shift 6 none (rm 2) [.ref 0, .int (nI x), .int (-nI s)] (mW d n lf G) (zP (X := (Nat → Nat) × (Nat → Nat)) (fun _ => none) (fun q => mW q.1 q.2 lf G) (fun q => MV q.1 q.2 (un V x (V x / 32768 ^ s)))) := by
  refine MS_of (own := R_M) (by decide) rfl (fun _ => Nat.le_of_ble_eq_true rfl) (fun Z h hr => ?_)
  have hX := hM.2 x hx
  have hnx := hX.1
  have hng : -nI s ≤ 0 := nI_neg_le (by omega)
  have L1 : ∀ (f k : Nat) (e : Nat → Nat), f + k = n x → (∀ j, e j < 32768) → (∀ j, (j < 2800 * x ∨ 2800 * x + (k - s) ≤ j) → e j = d j) → (∀ j, j < k - s → e (2800 * x + j) = d (2800 * x + (s + j))) → Z 0 0 (mW e n lf G) [(0, .ref 0), (1, .int (nI x)), (2, .int (-nI s)), (3, .int (nI (n x))), (4, .int (nI k))] 10 [] := by
    intro f
    induction f with
    | zero =>
      intro k e hf he hk hj
      obtain rfl : k = n x := by omega
      have K : ∀ t, t = n x - s → Z 0 0 (mW e n lf G) [(0, .ref 0), (1, .int (nI x)), (2, .int (-nI s)), (3, .int (nI (n x))), (4, .int (nI 0))] 129 [.int (nI t), .int (nI x), .ref 2] := by
        intro t ht
        subst ht
        refine z_iastoreN h d_M_shift_129 rfl (by omega) ?_
        refine z_aload_n h d_M_shift_130 rfl ?_
        refine z_iload_n h d_M_shift_131 rfl ?_
        refine z_cM h (ms_M_trim e n lf G x (n x - s) hx (by omega) he) (zf_M_trim (by decide)) wm_M_38 wi_M_trim ws_M_trim d_M_shift_132 (Nat.le_of_ble_eq_true rfl) rfl (fun x_132 hx_132 => ?_)
        refine hr.2.2.2.1 _ _ _ _ _ (Nat.le_refl _) (Nat.le_refl _) rfl d_M_shift_135 ?_
        exact ⟨(e, un n x (trm (sh e (2800 * x)) (n x - s))), rfl, rfl, MV_upd hM he (fun j hj2 => hk j (by omega)) (Rp_trm (by omega) (fun j => he _) (dn_nv (fun j => hM.1 _) hj hX.2.2.1))⟩
      refine z_iload h d_M_shift_10 rfl ?_
      refine z_iload_n h d_M_shift_12 rfl ?_
      refine z_icmp_geN (tgt := 74) h d_M_shift_13 (by decide) (by omega) (fun c_13 => ?_) (fun c_13 => ?_)
      · refine z_iconst (v := nI 0) h d_M_shift_74 (by decide) ?_
        refine z_istore h d_M_shift_75 (by decide) ?_
        refine z_iload h d_M_shift_77 rfl ?_
        refine z_iload_n h d_M_shift_79 rfl ?_
        refine z_icmp_ge (tgt := 107) h d_M_shift_80 (by decide) (fun c_80 => ?_) (fun c_80 => ?_)
        · refine z_aload_n h d_M_shift_107 rfl ?_
          refine z_get (C := R_M) (T := F_M) (N := 10) h 1 d_M_shift_108 in_M rfl (by decide) wf_M_13 rfl rfl ?_
          refine z_iload_n h d_M_shift_111 rfl ?_
          refine z_iload_n h d_M_shift_112 rfl ?_
          refine z_if_eqN (tgt := 122) h d_M_shift_113 (by decide) (by omega) (fun c_113 => ?_) (fun c_113 => ?_)
          · refine z_iconst (v := nI 0) h d_M_shift_122 (by decide) ?_
            refine z_goto (tgt := 129) h d_M_shift_123 (by decide) ?_
            exact z_lv h rfl (K 0 (by omega))
          · refine z_iload_n h d_M_shift_116 rfl ?_
            refine z_iload_n h d_M_shift_117 rfl ?_
            refine z_iadd h d_M_shift_118 ?_
            refine z_if_ge (tgt := 126) h d_M_shift_119 (by decide) (fun c_119 => ?_) (fun c_119 => ?_)
            · refine z_iload_n h d_M_shift_126 rfl ?_
              refine z_iload_n h d_M_shift_127 rfl ?_
              refine z_iadd h d_M_shift_128 ?_
              have q9 : s ≤ n x := by
                apply Nat.le_of_not_lt
                intro q
                have := nI_addlt q (by omega)
                exact absurd c_119 (Int32.not_le.mpr this)
              rw [nI_addneg q9]
              exact z_lv h rfl (K _ rfl)
            · refine z_iconst (v := nI 0) h d_M_shift_122 (by decide) ?_
              refine z_goto (tgt := 129) h d_M_shift_123 (by decide) ?_
              have q9 : n x < s := by
                apply Nat.lt_of_not_le
                intro q
                rw [nI_addneg q] at c_119
                have q8 : ¬ (nI (n x - s) < 0) := nI_pos (by omega)
                exact absurd (Int32.not_lt.mp q8) c_119
              exact z_lv h rfl (K 0 (by omega))
        · exact absurd hng c_80
      · exact absurd c_13 (by omega)
    | succ f ih =>
      intro k e hf he hk hj
      refine z_iload h d_M_shift_10 rfl ?_
      refine z_iload_n h d_M_shift_12 rfl ?_
      refine z_icmp_geN (tgt := 74) h d_M_shift_13 (by decide) (by omega) (fun c_13 => ?_) (fun c_13 => ?_)
      · exact absurd c_13 (by omega)
      · refine z_iload_n h d_M_shift_16 rfl ?_
        refine z_if_le (tgt := 29) h d_M_shift_17 (by decide) (fun c_17 => ?_) (fun c_17 => ?_)
        · refine z_iload h d_M_shift_29 rfl ?_
          refine z_istore h d_M_shift_31 (by decide) ?_
          refine z_iload h d_M_shift_33 rfl ?_
          refine z_iload_n h d_M_shift_35 rfl ?_
          refine z_iadd h d_M_shift_36 ?_
          refine z_if_lt (tgt := 68) h d_M_shift_37 (by decide) (fun c_37 => ?_) (fun c_37 => ?_)
          · have q9 : k < s := by
              apply Nat.lt_of_not_le
              intro q
              rw [nI_addneg q] at c_37
              exact absurd c_37 (nI_pos (by omega))
            refine z_iincN h 1 d_M_shift_68 rfl (by decide) (by decide) ?_
            refine z_goto (tgt := 10) h d_M_shift_71 (by decide) ?_
            exact z_lv h rfl (ih (k + 1) e (by omega) he (fun j hj2 => hk j (by omega)) (fun j hj2 => absurd hj2 (by omega)))
          · have q9 : s ≤ k := by
              apply Nat.le_of_not_lt
              intro q
              exact absurd (nI_addlt q (by omega)) c_37
            refine z_aload_n h d_M_shift_40 rfl ?_
            refine z_get (C := R_M) (T := F_M) (N := 10) h 0 d_M_shift_41 in_M rfl (by decide) wf_M_7 rfl rfl ?_
            refine z_sipush (v := nI 2800) h d_M_shift_44 (by decide) ?_
            refine z_iload_n h d_M_shift_47 rfl ?_
            refine z_imulN h d_M_shift_48 ?_
            refine z_iload h d_M_shift_49 rfl ?_
            refine z_iaddN h d_M_shift_51 ?_
            refine z_iload_n h d_M_shift_52 rfl ?_
            refine z_iadd h d_M_shift_53 ?_
            rw [nI_addneg (by omega)]
            refine z_aload_n h d_M_shift_54 rfl ?_
            refine z_get (C := R_M) (T := F_M) (N := 10) h 0 d_M_shift_55 in_M rfl (by decide) wf_M_7 rfl rfl ?_
            refine z_sipush (v := nI 2800) h d_M_shift_58 (by decide) ?_
            refine z_iload_n h d_M_shift_61 rfl ?_
            refine z_imulN h d_M_shift_62 ?_
            refine z_iload h d_M_shift_63 rfl ?_
            refine z_iaddN h d_M_shift_65 ?_
            refine z_ialoadN h d_M_shift_66 rfl (by omega) ?_
            refine z_iastoreN h d_M_shift_67 rfl (by omega) ?_
            refine z_iincN h 1 d_M_shift_68 rfl (by decide) (by decide) ?_
            refine z_goto (tgt := 10) h d_M_shift_71 (by decide) ?_
            refine z_lv h rfl (ih (k + 1) (un e (2800 * x + k - s) (e (2800 * x + k))) (by omega) (un_lt he (he _)) (fun j hj2 => ?_) (fun j q1 => ?_))
            · rw [un_ne (by omega)]
              exact hk j (by omega)
            · by_cases e9 : j = k - s
              · rw [show 2800 * x + j = 2800 * x + k - s by omega, un_eq, show 2800 * x + (s + j) = 2800 * x + k by omega]
                exact hk _ (by omega)
              · rw [un_ne (by omega)]
                exact hj j (by omega)
        · exact absurd hng c_17
  refine z_aload_n h d_M_shift_0 rfl ?_
  refine z_get (C := R_M) (T := F_M) (N := 10) h 1 d_M_shift_1 in_M rfl (by decide) wf_M_13 rfl rfl ?_
  refine z_iload_n h d_M_shift_4 rfl ?_
  refine z_ialoadN h d_M_shift_5 rfl (by omega) ?_
  refine z_istore_n h d_M_shift_6 (by decide) ?_
  refine z_iconst (v := nI 0) h d_M_shift_7 (by decide) ?_
  refine z_istore h d_M_shift_8 (by decide) ?_
  exact z_lv h rfl (L1 (n x) 0 d rfl hM.1 (fun _ _ => rfl) (fun j q1 => absurd q1 (by omega)))
set_option maxRecDepth 100000 in
set_option maxHeartbeats 4000000 in
theorem ms_M_product (d n V : Nat → Nat) (lf : Int64) (G : MG) (z x y : Nat) (hz : z < 10) (hx : x < 10) (hy : y < 10) (hzx : z ≠ x) (hzy : z ≠ y) (hM : MV d n V) (hv : V x * V y < capM) : MS y_M_product c_M_product 5 none (rm 3) [.ref 0, .int (nI z), .int (nI x), .int (nI y)] (mW d n lf G) (zP (X := (Nat → Nat) × (Nat → Nat)) (fun _ => none) (fun q => mW q.1 q.2 lf G) (fun q => MV q.1 q.2 (un V z (V x * V y)))) := by
  refine MS_of (own := R_M) (by decide) rfl (fun _ => Nat.le_of_ble_eq_true rfl) (fun Z h hr => ?_)
  have hX := hM.2 x hx
  have hnx := hX.1
  have L : ∀ (i : Nat) (e n' : Nat → Nat), i ≤ n x → MV e n' (un V z (V x / 32768 ^ i * V y)) → Z 0 0 (mW e n' lf G) [(0, .ref 0), (1, .int (nI z)), (2, .int (nI x)), (3, .int (nI y)), (4, .int (nI i - 1))] 17 [] := by
    intro i
    induction i with
    | zero =>
      intro e n' hi hV
      rw [Nat.pow_zero, Nat.div_one] at hV
      refine z_iload h d_M_product_17 rfl ?_
      refine z_if_ltD (tgt := 48) h d_M_product_19 (by decide) (by omega) (fun c_19 => ?_) (fun y_19 c_19 => ?_)
      · refine hr.2.2.2.1 _ _ _ _ _ (Nat.le_refl _) (Nat.le_refl _) rfl d_M_product_48 ?_
        exact ⟨(e, n'), rfl, rfl, hV⟩
      · exact absurd c_19 (by omega)
    | succ i ih =>
      intro e n' hi hV
      have e0 : nI (i + 1) - 1 = nI i := nI_pred i
      have hstep : V x / 32768 ^ i = V x / 32768 ^ (i + 1) * 32768 + dig 32768 (V x) i := by
        rw [Nat.pow_succ, ← Nat.div_div_eq_div_mul]
        exact (Nat.div_add_mod' _ _).symm
      have hle : V x / 32768 ^ i * V y ≤ V x * V y := Nat.mul_le_mul_right _ (Nat.div_le_self _ _)
      have hle2 : V x / 32768 ^ (i + 1) * V y * 32768 ^ 1 ≤ V x * V y := by
        refine Nat.le_trans ?_ hle
        rw [hstep, Nat.add_mul, Nat.pow_one, Nat.mul_right_comm]
        exact Nat.le_add_right _ _
      have hdl : dig 32768 (V x) i < 32768 := dig_lt (by decide)
      refine z_iload h d_M_product_17 rfl ?_
      refine z_if_ltD (tgt := 48) h d_M_product_19 (by decide) (by omega) (fun c_19 => ?_) (fun y_19 c_19 => ?_)
      · exact absurd c_19 (by omega)
      · rw [e0]
        refine z_aload_n h d_M_product_22 rfl ?_
        refine z_iload_n h d_M_product_23 rfl ?_
        refine z_iconst (v := nI 1) h d_M_product_24 (by decide) ?_
        refine z_cM h (ms_M_up e n' (un V z (V x / 32768 ^ (i + 1) * V y)) lf G z 1 hz (by decide) (by decide) hV (by rw [un_eq]; exact Nat.lt_of_le_of_lt hle2 hv)) (zf_M_shift (by decide)) wm_M_46 wi_M_shift ws_M_shift d_M_product_25 (Nat.le_of_ble_eq_true rfl) rfl (fun x_25 hx_25 => ?_)
        rw [un_eq, un_un] at hx_25
        refine z_aload_n h d_M_product_28 rfl ?_
        refine z_iload_n h d_M_product_29 rfl ?_
        refine z_iload_n h d_M_product_30 rfl ?_
        refine z_aload_n h d_M_product_31 rfl ?_
        refine z_iload_n h d_M_product_32 rfl ?_
        refine z_iload h d_M_product_33 rfl ?_
        refine z_cM h (ms_M_atR x_25.1 x_25.2 V lf G x i (V x) hx (by have := hx_25.2 x hx; rw [un_ne (Ne.symm hzx)] at this; exact this) (by omega)) (zf_M_at (by decide)) wm_M_34 wi_M_at ws_M_at d_M_product_35 (Nat.le_of_ble_eq_true rfl) rfl (fun x_35 hx_35 => ?_)
        refine z_i2lN h d_M_product_38 (by omega) ?_
        refine z_cM h (ms_M_addTimes x_25.1 x_25.2 (un V z (V x / 32768 ^ (i + 1) * V y * 32768 ^ 1)) lf G z y (dig 32768 (V x) i) hz hy hzy hx_25 (by omega) (by rw [un_eq, un_ne (Ne.symm hzy)]; refine Nat.lt_of_le_of_lt (Nat.le_of_eq ?_) (Nat.lt_of_le_of_lt hle hv); rw [hstep, Nat.add_mul, Nat.pow_one, Nat.mul_right_comm])) (zf_M_addTimes (by decide)) wm_M_50 wi_M_addTimes ws_M_addTimes d_M_product_39 (Nat.le_of_ble_eq_true rfl) rfl (fun x_39 hx_39 => ?_)
        rw [un_eq, un_un, un_ne (Ne.symm hzy)] at hx_39
        rw [← e0]
        refine z_iincD h d_M_product_42 rfl (by decide) ?_
        refine z_goto (tgt := 17) h d_M_product_45 (by decide) ?_
        refine z_lv (lv' := [(0, .ref 0), (1, .int (nI z)), (2, .int (nI x)), (3, .int (nI y)), (4, .int (nI i - 1))]) h rfl (ih x_39.1 x_39.2 (by omega) ?_)
        rw [hstep, Nat.add_mul, Nat.mul_right_comm, ← Nat.pow_one 32768]
        exact hx_39
  have e9 : MV d (un n z 0) (un V z (V x / 32768 ^ (n x) * V y)) := by
    refine MV_upd hM hM.1 (fun _ _ => rfl) ?_
    rw [Nat.div_eq_of_lt (Rp_lt hX), Nat.zero_mul]
    exact ⟨Nat.zero_le _, fun j => hM.1 _, rfl, Or.inl rfl⟩
  refine z_aload_n h d_M_product_0 rfl ?_
  refine z_get (C := R_M) (T := F_M) (N := 10) h 1 d_M_product_1 in_M rfl (by decide) wf_M_13 rfl rfl ?_
  refine z_iload_n h d_M_product_4 rfl ?_
  refine z_iconst (v := nI 0) h d_M_product_5 (by decide) ?_
  refine z_iastoreN h d_M_product_6 rfl (by omega) ?_
  refine z_aload_n h d_M_product_7 rfl ?_
  refine z_get (C := R_M) (T := F_M) (N := 10) h 1 d_M_product_8 in_M rfl (by decide) wf_M_13 rfl rfl ?_
  refine z_iload_n h d_M_product_11 rfl ?_
  refine z_ialoadN h d_M_product_12 rfl (by omega) ?_
  rw [un_ne (Ne.symm hzx)]
  refine z_iconst (v := 1) h d_M_product_13 (by decide) ?_
  refine z_isub h d_M_product_14 ?_
  refine z_istore h d_M_product_15 (by decide) ?_
  exact z_lv (lv' := [(0, .ref 0), (1, .int (nI z)), (2, .int (nI x)), (3, .int (nI y)), (4, .int (nI (n x) - 1))]) h rfl (L (n x) d (un n z 0) (Nat.le_refl _) e9)
