/-! DigitMillModel: order, length, addTimes, lessTimes, grow, lower -/
set_option maxRecDepth 100000 in
set_option maxHeartbeats 4000000 in
theorem ms_M_order (d n V : Nat → Nat) (lf : Int64) (G : MG) (x y : Nat) (hx : x < 10) (hy : y < 10) (hd : ∀ j, d j < 32768) (hX : Rp 32768 2800 (sh d (2800 * x)) (n x) (V x)) (hY : Rp 32768 2800 (sh d (2800 * y)) (n y) (V y)) : MS y_M_order c_M_order 4 (some .int) (rm 2) [.ref 0, .int (nI x), .int (nI y)] (mW d n lf G) (zP (X := Unit) (fun _ => some (.int (ordI (V x) (V y)))) (fun _ => mW d n lf G) (fun _ => True)) := by
  refine MS_of (own := R_M) (by decide) rfl (fun _ => Nat.le_of_ble_eq_true rfl) (fun Z h hr => ?_)
  have hnx := hX.1
  have hny := hY.1
  refine z_aload_n h d_M_order_0 rfl ?_
  refine z_get (C := R_M) (T := F_M) (N := 10) h 1 d_M_order_1 in_M rfl (by decide) wf_M_13 rfl rfl ?_
  refine z_iload_n h d_M_order_4 rfl ?_
  refine z_ialoadN h d_M_order_5 rfl (by omega) ?_
  refine z_aload_n h d_M_order_6 rfl ?_
  refine z_get (C := R_M) (T := F_M) (N := 10) h 1 d_M_order_7 in_M rfl (by decide) wf_M_13 rfl rfl ?_
  refine z_iload_n h d_M_order_10 rfl ?_
  refine z_ialoadN h d_M_order_11 rfl (by omega) ?_
  refine z_icmp_eqN (tgt := 36) h d_M_order_12 (by decide) (by omega) (fun c_12 => ?_) (fun c_12 => ?_)
  · have L : ∀ i, i ≤ n x → (∀ j, i ≤ j → j < n x → sh d (2800 * x) j = sh d (2800 * y) j) → Z 0 0 (mW d n lf G) [(0, .ref 0), (1, .int (nI x)), (2, .int (nI y)), (3, .int (nI i - 1))] 45 [] := by
      intro i
      induction i with
      | zero =>
        intro _ hj
        refine z_iload_n h d_M_order_45 rfl ?_
        refine z_if_ltD (tgt := 91) h d_M_order_46 (by decide) (by omega) (fun c_46 => ?_) (fun y_46 c_46 => ?_)
        · refine z_iconst (v := 0) h d_M_order_91 (by decide) ?_
          refine hr.1 _ _ _ _ _ _ (Nat.le_refl _) (Nat.le_refl _) rfl d_M_order_92 ?_
          have e1 : V x = V y := by
            rw [← hX.2.2.1, ← hY.2.2.1, ← c_12]
            exact nv_congr (fun j hj2 => hj j (Nat.zero_le j) hj2)
          exact ⟨(), by rw [ordI, if_neg (by omega), if_pos e1], rfl, trivial⟩
        · exact absurd c_46 (by omega)
      | succ i ih =>
        intro hi hj
        have e0 : nI (i + 1) - 1 = nI i := nI_pred i
        have hai := hd (2800 * x + i)
        have hbi := hd (2800 * y + i)
        refine z_iload_n h d_M_order_45 rfl ?_
        refine z_if_ltD (tgt := 91) h d_M_order_46 (by decide) (by omega) (fun c_46 => ?_) (fun y_46 c_46 => ?_)
        · exact absurd c_46 (by omega)
        · rw [e0]
          refine z_aload_n h d_M_order_49 rfl ?_
          refine z_iload_n h d_M_order_50 rfl ?_
          refine z_iload_n h d_M_order_51 rfl ?_
          refine z_cM h (ms_M_at d n V lf G x i hx hnx (by omega)) (zf_M_at (by decide)) wm_M_34 wi_M_at ws_M_at d_M_order_52 (Nat.le_of_ble_eq_true rfl) rfl (fun x_52 hx_52 => ?_)
          refine z_aload_n h d_M_order_55 rfl ?_
          refine z_iload_n h d_M_order_56 rfl ?_
          refine z_iload_n h d_M_order_57 rfl ?_
          refine z_cM h (ms_M_at d n V lf G y i hy hny (by omega)) (zf_M_at (by decide)) wm_M_34 wi_M_at ws_M_at d_M_order_58 (Nat.le_of_ble_eq_true rfl) rfl (fun x_58 hx_58 => ?_)
          rw [if_pos (by omega), if_pos (by omega)]
          refine z_icmp_eqN (tgt := 85) h d_M_order_61 (by decide) (by omega) (fun c_61 => ?_) (fun c_61 => ?_)
          · rw [← e0]
            refine z_iincD h d_M_order_85 rfl (by decide) ?_
            refine z_goto (tgt := 45) h d_M_order_88 (by decide) ?_
            refine z_lv (lv' := [(0, .ref 0), (1, .int (nI x)), (2, .int (nI y)), (3, .int (nI i - 1))]) h rfl (ih (by omega) (fun j q1 q2 => ?_))
            by_cases e : j = i
            · rw [e]; exact c_61
            · exact hj j (by omega) q2
          · refine z_aload_n h d_M_order_64 rfl ?_
            refine z_iload_n h d_M_order_65 rfl ?_
            refine z_iload_n h d_M_order_66 rfl ?_
            refine z_cM h (ms_M_at d n V lf G x i hx hnx (by omega)) (zf_M_at (by decide)) wm_M_34 wi_M_at ws_M_at d_M_order_67 (Nat.le_of_ble_eq_true rfl) rfl (fun x_67 hx_67 => ?_)
            refine z_aload_n h d_M_order_70 rfl ?_
            refine z_iload_n h d_M_order_71 rfl ?_
            refine z_iload_n h d_M_order_72 rfl ?_
            refine z_cM h (ms_M_at d n V lf G y i hy hny (by omega)) (zf_M_at (by decide)) wm_M_34 wi_M_at ws_M_at d_M_order_73 (Nat.le_of_ble_eq_true rfl) rfl (fun x_73 hx_73 => ?_)
            rw [if_pos (by omega), if_pos (by omega)]
            refine z_icmp_geN (tgt := 83) h d_M_order_76 (by decide) (by omega) (fun c_76 => ?_) (fun c_76 => ?_)
            · refine z_iconst (v := 1) h d_M_order_83 (by decide) ?_
              refine hr.1 _ _ _ _ _ _ (Nat.le_refl _) (Nat.le_refl _) rfl d_M_order_84 ?_
              have e : V y < V x := by
                rw [← hX.2.2.1, ← hY.2.2.1, ← c_12]
                exact nv_cmp (i := i) hY.2.1 (show sh d (2800 * y) i < sh d (2800 * x) i by show d (2800 * y + i) < d (2800 * x + i); omega) (by omega) (fun j q1 q2 => (hj j (by omega) q2).symm)
              exact ⟨(), by rw [ordI, if_neg (by omega), if_neg (by omega)], rfl, trivial⟩
            · refine z_iconst (v := (-1)) h d_M_order_79 (by decide) ?_
              refine z_goto (tgt := 84) h d_M_order_80 (by decide) ?_
              refine hr.1 _ _ _ _ _ _ (Nat.le_refl _) (Nat.le_refl _) rfl d_M_order_84 ?_
              have e : V x < V y := by
                rw [← hX.2.2.1, ← hY.2.2.1, ← c_12]
                exact nv_cmp (i := i) hX.2.1 (show sh d (2800 * x) i < sh d (2800 * y) i from c_76) (by omega) (fun j q1 q2 => hj j (by omega) q2)
              exact ⟨(), by rw [ordI, if_pos e], rfl, trivial⟩
    refine z_aload_n h d_M_order_36 rfl ?_
    refine z_get (C := R_M) (T := F_M) (N := 10) h 1 d_M_order_37 in_M rfl (by decide) wf_M_13 rfl rfl ?_
    refine z_iload_n h d_M_order_40 rfl ?_
    refine z_ialoadN h d_M_order_41 rfl (by omega) ?_
    refine z_iconst (v := 1) h d_M_order_42 (by decide) ?_
    refine z_isub h d_M_order_43 ?_
    refine z_istore_n h d_M_order_44 (by decide) ?_
    refine z_lv (lv' := [(0, .ref 0), (1, .int (nI x)), (2, .int (nI y)), (3, .int (nI (n x) - 1))]) h rfl (L (n x) (Nat.le_refl _) (fun j q1 q2 => absurd q1 (by omega)))
  · refine z_aload_n h d_M_order_15 rfl ?_
    refine z_get (C := R_M) (T := F_M) (N := 10) h 1 d_M_order_16 in_M rfl (by decide) wf_M_13 rfl rfl ?_
    refine z_iload_n h d_M_order_19 rfl ?_
    refine z_ialoadN h d_M_order_20 rfl (by omega) ?_
    refine z_aload_n h d_M_order_21 rfl ?_
    refine z_get (C := R_M) (T := F_M) (N := 10) h 1 d_M_order_22 in_M rfl (by decide) wf_M_13 rfl rfl ?_
    refine z_iload_n h d_M_order_25 rfl ?_
    refine z_ialoadN h d_M_order_26 rfl (by omega) ?_
    refine z_icmp_geN (tgt := 34) h d_M_order_27 (by decide) (by omega) (fun c_27 => ?_) (fun c_27 => ?_)
    · refine z_iconst (v := 1) h d_M_order_34 (by decide) ?_
      refine hr.1 _ _ _ _ _ _ (Nat.le_refl _) (Nat.le_refl _) rfl d_M_order_35 ?_
      have e : V y < V x := Rp_size (by decide) hY hX (by omega)
      exact ⟨(), by rw [ordI, if_neg (by omega), if_neg (by omega)], rfl, trivial⟩
    · refine z_iconst (v := (-1)) h d_M_order_30 (by decide) ?_
      refine z_goto (tgt := 35) h d_M_order_31 (by decide) ?_
      refine hr.1 _ _ _ _ _ _ (Nat.le_refl _) (Nat.le_refl _) rfl d_M_order_35 ?_
      have e : V x < V y := Rp_size (by decide) hX hY (by omega)
      exact ⟨(), by rw [ordI, if_pos e], rfl, trivial⟩
/-- slot x has been written (v), nothing else -/
def MU (x v : Nat) (d n d' n' : Nat → Nat) : Prop := (∀ j, d' j < 32768) ∧ (∀ j, (j < 2800 * x ∨ 2800 * x + 2800 ≤ j) → d' j = d j) ∧ ∃ s, n' = un n x s ∧ Rp 32768 2800 (sh d' (2800 * x)) s v
theorem MV_MU {d n V d' n' : Nat → Nat} {x v : Nat} (h : MV d n V) (g : MU x v d n d' n') : MV d' n' (un V x v) := by
  obtain ⟨h1, h2, s, rfl, h3⟩ := g
  exact MV_upd h h1 h2 h3
def capM : Nat := 32768 ^ 2800
theorem cap_gen {t c k v B N : Nat} (hB : 0 < B) (h : t + c * B ^ k = v) (hv : v < B ^ N) (hc : 0 < c) : k < N := by
  apply Nat.lt_of_not_le
  intro hk
  have e1 : B ^ N ≤ B ^ k := Nat.pow_le_pow_right hB hk
  have e2 := Nat.le_mul_of_pos_left (B ^ k) hc
  omega
theorem cap_lt {t c k v : Nat} (h : t + c * 32768 ^ k = v) (hv : v < capM) (hc : 0 < c) : k < 2800 := cap_gen (by decide) h hv hc
theorem nv_tail {B : Nat} {a b : Nat → Nat} {k p q : Nat} (h : nv B a k + p = nv B b k + q) : ∀ {m : Nat}, k ≤ m → (∀ j, k ≤ j → j < m → a j = b j) → nv B a m + p = nv B b m + q
  | m, hm, hj => by
    induction m with
    | zero =>
      obtain rfl : k = 0 := by omega
      exact h
    | succ m ih =>
      by_cases e : k = m + 1
      · subst e; exact h
      · have e1 := ih (by omega) (fun j q1 q2 => hj j q1 (by omega))
        rw [nv_s, nv_s, hj m (by omega) (by omega), Nat.add_right_comm, e1, Nat.add_right_comm]
theorem end_nv {d e : Nat → Nat} {x k nx vx t m : Nat} (hm : m = max nx k) (hk : ∀ j, (j < 2800 * x ∨ 2800 * x + k ≤ j) → e j = d j) (hX : nv 32768 (sh d (2800 * x)) nx = vx) (h : nv 32768 (sh e (2800 * x)) k = nv 32768 (lim (sh d (2800 * x)) nx) k + t) : nv 32768 (sh e (2800 * x)) m = vx + t := by
  have e1 := nv_tail (a := sh e (2800 * x)) (b := lim (sh d (2800 * x)) nx) (k := k) (p := 0) (q := t) (by simpa using h) (m := m) (by omega) (fun j q1 q2 => by
    show e (2800 * x + j) = if j < nx then d (2800 * x + j) else 0
    rw [if_pos (by omega), hk _ (by omega)])
  rw [Nat.add_zero] at e1
  rw [e1, lim_nv (by omega), hX]
theorem c31 {c x f y : Nat} (hc : c ≤ 2147483648) (hx : x < 32768) (hy : y < 32768) (hf : f < 2147483648) : c + (x + f * y) < 2 ^ 63 ∧ f * y < 2 ^ 63 ∧ (c + (x + f * y)) / 32768 ≤ 2147483648 := by
  have e1 : f * y ≤ 2147483647 * 32767 := Nat.mul_le_mul (by omega) (by omega)
  generalize f * y = z at *
  omega
theorem at_step {m c x y f P n1 n2 : Nat} (h : m + c * P = n1 + f * n2) : m + (c + (x + f * y)) * P = (n1 + x * P) + f * (n2 + y * P) := by grind
