/-! DigitMillModel: digits by value, leading, quotient -/
theorem Rp_dig {B N : Nat} {a : Nat → Nat} {s v k : Nat} (hB : 0 < B) (h : Rp B N a s v) : (if k < s then a k else 0) = dig B v k := by
  by_cases q : k < s
  · rw [if_pos q, ← h.2.2.1]
    exact (nv_dig hB q (fun j _ => h.2.1 j)).symm
  · rw [if_neg q, dig_0]
    exact Nat.lt_of_lt_of_le (Rp_lt h) (Nat.pow_le_pow_right hB (by omega))
theorem ms_M_atR (d n V : Nat → Nat) (lf : Int64) (G : MG) (x k v : Nat) (hx : x < 10) (hX : Rp 32768 2800 (sh d (2800 * x)) (n x) v) (hk : k < 2 ^ 31) : MS y_M_at c_M_at 3 (some .int) (rm 1) [.ref 0, .int (nI x), .int (nI k)] (mW d n lf G) (zP (X := Unit) (fun _ => some (.int (nI (dig 32768 v k)))) (fun _ => mW d n lf G) (fun _ => True)) := by
  rw [← Rp_dig (k := k) (by decide) hX]
  exact ms_M_at d n V lf G x k hx hX.1 hk
theorem dig_up {v j : Nat} : dig 32768 (v * 32768 ^ 3) (j + 3) = dig 32768 v j := by
  unfold dig
  rw [Nat.pow_add, Nat.mul_comm (32768 ^ j), ← Nat.div_div_eq_div_mul, Nat.mul_div_cancel _ (by decide)]
theorem dig_lo {v j : Nat} (h : j < 3) : dig 32768 (v * 32768 ^ 3) j = 0 := by
  unfold dig
  have e : v * 32768 ^ 3 = 32768 ^ j * (32768 * (v * 32768 ^ (2 - j))) := by
    have e3 : 32768 ^ 3 = 32768 ^ j * (32768 ^ 1 * 32768 ^ (2 - j)) := by rw [← Nat.pow_add, ← Nat.pow_add]; congr 1; omega
    rw [e3]
    generalize 32768 ^ j = P
    generalize 32768 ^ (2 - j) = Q
    rw [Nat.pow_one]
    ac_rfl
  rw [e, Nat.mul_div_cancel_left _ (Nat.pow_pos (by decide)), Nat.mul_mod_right]
theorem nI_subN {k i : Nat} (h : i ≤ k) : nI k - nI i = nI (k - i) := by
  rw [nI_iI, nI_iI, nI_iI, iI_sub]
  congr 1
  omega
theorem nI_negLt {k i : Nat} (h : k < i) (hi : i < 2 ^ 30) : nI k - nI i < 0 := by
  rw [nI_iI, nI_iI, iI_sub, ← iI_0, iI_lt (by omega) (by omega) (by omega) (by omega)]
  omega
/-- the limb i places below the place k, of the number lifted by three limbs -/
theorem ms_M_atW (d n V : Nat → Nat) (lf : Int64) (G : MG) (x k i v : Nat) (hx : x < 10) (hX : Rp 32768 2800 (sh d (2800 * x)) (n x) v) (hk : k < 2 ^ 30) (hi : i ≤ 3) : MS y_M_at c_M_at 3 (some .int) (rm 1) [.ref 0, .int (nI x), .int (nI k - nI i)] (mW d n lf G) (zP (X := Unit) (fun _ => some (.int (nI (dig 32768 (v * 32768 ^ 3) (k + 3 - i))))) (fun _ => mW d n lf G) (fun _ => True)) := by
  by_cases q : i ≤ k
  · rw [nI_subN q, show k + 3 - i = k - i + 3 by omega, dig_up]
    exact ms_M_atR d n V lf G x (k - i) v hx hX (by omega)
  · rw [dig_lo (by omega)]
    exact ms_M_atNeg d n lf G x _ (nI_negLt (by omega) (by omega))
def ld4 (v k : Nat) : Nat := v * 32768 ^ 3 / 32768 ^ k % 32768 ^ 4
theorem ld4_dig {w k : Nat} : ((dig 32768 w (k + 3) * 32768 + dig 32768 w (k + 2)) * 32768 + dig 32768 w (k + 1)) * 32768 + dig 32768 w k = w / 32768 ^ k % 32768 ^ 4 := by
  unfold dig
  rw [Nat.pow_add, Nat.pow_add, Nat.pow_add, ← Nat.div_div_eq_div_mul, ← Nat.div_div_eq_div_mul, ← Nat.div_div_eq_div_mul]
  generalize w / 32768 ^ k = u
  simp only [show 32768 ^ 3 = 35184372088832 by decide, show 32768 ^ 2 = 1073741824 by decide, show 32768 ^ 1 = 32768 by decide, show 32768 ^ 4 = 1152921504606846976 by decide]
  omega
set_option maxRecDepth 100000 in
set_option maxHeartbeats 4000000 in
theorem ms_M_leading (d n V : Nat → Nat) (lf : Int64) (G : MG) (x k v : Nat) (hx : x < 10) (hX : Rp 32768 2800 (sh d (2800 * x)) (n x) v) (hk : k < 2 ^ 30) : MS y_M_leading c_M_leading 3 (some .long) (rm 2) [.ref 0, .int (nI x), .int (nI k)] (mW d n lf G) (zP (X := Unit) (fun _ => some (.long (lN (ld4 v k)))) (fun _ => mW d n lf G) (fun _ => True)) := by
  refine MS_of (own := R_M) (by decide) rfl (fun _ => Nat.le_of_ble_eq_true rfl) (fun Z h hr => ?_)
  have g0 := ms_M_atW d n V lf G x k 0 v hx hX hk (by decide)
  rw [show nI k - nI 0 = nI k from nI_subN (Nat.zero_le k)] at g0
  have g1 := ms_M_atW d n V lf G x k 1 v hx hX hk (by decide)
  have g2 := ms_M_atW d n V lf G x k 2 v hx hX hk (by decide)
  have g3 := ms_M_atW d n V lf G x k 3 v hx hX hk (by decide)
  have b0 : dig 32768 (v * 32768 ^ 3) (k + 3 - 0) < 32768 := dig_lt (by decide)
  have b1 : dig 32768 (v * 32768 ^ 3) (k + 3 - 1) < 32768 := dig_lt (by decide)
  have b2 : dig 32768 (v * 32768 ^ 3) (k + 3 - 2) < 32768 := dig_lt (by decide)
  have b3 : dig 32768 (v * 32768 ^ 3) (k + 3 - 3) < 32768 := dig_lt (by decide)
  have e : ld4 v k = ((dig 32768 (v * 32768 ^ 3) (k + 3 - 0) * 32768 + dig 32768 (v * 32768 ^ 3) (k + 3 - 1)) * 32768 + dig 32768 (v * 32768 ^ 3) (k + 3 - 2)) * 32768 + dig 32768 (v * 32768 ^ 3) (k + 3 - 3) := ld4_dig.symm
  rw [e] at hr
  generalize dig 32768 (v * 32768 ^ 3) (k + 3 - 0) = y0 at *
  generalize dig 32768 (v * 32768 ^ 3) (k + 3 - 1) = y1 at *
  generalize dig 32768 (v * 32768 ^ 3) (k + 3 - 2) = y2 at *
  generalize dig 32768 (v * 32768 ^ 3) (k + 3 - 3) = y3 at *
  clear e
  refine z_aload_n h d_M_leading_0 rfl ?_
  refine z_iload_n h d_M_leading_1 rfl ?_
  refine z_iload_n h d_M_leading_2 rfl ?_
  refine z_cM h (g0) (zf_M_at (by decide)) wm_M_34 wi_M_at ws_M_at d_M_leading_3 (Nat.le_of_ble_eq_true rfl) rfl (fun x_3 hx_3 => ?_)
  refine z_i2lN h d_M_leading_6 (by omega) ?_
  refine z_ldc2_w (v := lN 32768) h d_M_leading_7 wv_M_54 ?_
  refine z_lmulN h d_M_leading_10 ?_
  refine z_aload_n h d_M_leading_11 rfl ?_
  refine z_iload_n h d_M_leading_12 rfl ?_
  refine z_iload_n h d_M_leading_13 rfl ?_
  refine z_iconst (v := nI 1) h d_M_leading_14 (by decide) ?_
  refine z_isub h d_M_leading_15 ?_
  refine z_cM h (g1) (zf_M_at (by decide)) wm_M_34 wi_M_at ws_M_at d_M_leading_16 (Nat.le_of_ble_eq_true rfl) rfl (fun x_16 hx_16 => ?_)
  refine z_i2lN h d_M_leading_19 (by omega) ?_
  refine z_laddN h d_M_leading_20 ?_
  refine z_ldc2_w (v := lN 32768) h d_M_leading_21 wv_M_54 ?_
  refine z_lmulN h d_M_leading_24 ?_
  refine z_aload_n h d_M_leading_25 rfl ?_
  refine z_iload_n h d_M_leading_26 rfl ?_
  refine z_iload_n h d_M_leading_27 rfl ?_
  refine z_iconst (v := nI 2) h d_M_leading_28 (by decide) ?_
  refine z_isub h d_M_leading_29 ?_
  refine z_cM h (g2) (zf_M_at (by decide)) wm_M_34 wi_M_at ws_M_at d_M_leading_30 (Nat.le_of_ble_eq_true rfl) rfl (fun x_30 hx_30 => ?_)
  refine z_i2lN h d_M_leading_33 (by omega) ?_
  refine z_laddN h d_M_leading_34 ?_
  refine z_ldc2_w (v := lN 32768) h d_M_leading_35 wv_M_54 ?_
  refine z_lmulN h d_M_leading_38 ?_
  refine z_aload_n h d_M_leading_39 rfl ?_
  refine z_iload_n h d_M_leading_40 rfl ?_
  refine z_iload_n h d_M_leading_41 rfl ?_
  refine z_iconst (v := nI 3) h d_M_leading_42 (by decide) ?_
  refine z_isub h d_M_leading_43 ?_
  refine z_cM h (g3) (zf_M_at (by decide)) wm_M_34 wi_M_at ws_M_at d_M_leading_44 (Nat.le_of_ble_eq_true rfl) rfl (fun x_44 hx_44 => ?_)
  refine z_i2lN h d_M_leading_47 (by omega) ?_
  refine z_laddN h d_M_leading_48 ?_
  refine hr.2.2.1 _ _ _ _ _ _ (Nat.le_refl _) (Nat.le_refl _) rfl d_M_leading_49 ?_
  exact ⟨(), rfl, rfl, trivial⟩
/-- two slots have been written -/
theorem MV_upd2 {d n V d' : Nat → Nat} {x s v y t u : Nat} (hxy : x ≠ y) (h : MV d n V) (hd : ∀ j, d' j < 32768) (hk : ∀ j, (j < 2800 * x ∨ 2800 * x + 2800 ≤ j) → (j < 2800 * y ∨ 2800 * y + 2800 ≤ j) → d' j = d j) (hX : Rp 32768 2800 (sh d' (2800 * x)) s v) (hY : Rp 32768 2800 (sh d' (2800 * y)) t u) : MV d' (un (un n x s) y t) (un (un V x v) y u) := by
  refine ⟨hd, fun z hz => ?_⟩
  by_cases e : z = y
  · subst e
    rw [un_eq, un_eq]
    exact hY
  · rw [un_ne e, un_ne e]
    by_cases e2 : z = x
    · subst e2
      rw [un_eq, un_eq]
      exact hX
    · rw [un_ne e2, un_ne e2]
      have h0 := h.2 z hz
      have hs := h0.1
      refine Rp_congr (fun j hj => ?_) (fun j => hd _) h0
      show d' (2800 * z + j) = d (2800 * z + j)
      apply hk <;> omega
theorem ld_q {R Y A C : Nat} (hC : 0 < C) (hA : 0 < A) : (R * A / C) / (Y * A / C + 1) * Y ≤ R := by
  have e1 : (R * A / C) / (Y * A / C + 1) * (Y * A / C + 1) ≤ R * A / C := Nat.div_mul_le_self _ _
  generalize (R * A / C) / (Y * A / C + 1) = q at *
  have e2 : R * A / C * C ≤ R * A := Nat.div_mul_le_self _ _
  have e3 : Y * A < (Y * A / C + 1) * C := by
    rw [Nat.mul_comm _ C]
    exact Nat.lt_mul_div_succ _ hC
  generalize Y * A / C + 1 = u at *
  have e4 : q * u * C ≤ R * A := Nat.le_trans (Nat.mul_le_mul_right C e1) e2
  have e5 : q * (Y * A) ≤ q * (u * C) := Nat.mul_le_mul_left q (Nat.le_of_lt e3)
  apply Nat.le_of_mul_le_mul_right (c := A) _ hA
  calc q * Y * A = q * (Y * A) := Nat.mul_assoc _ _ _
    _ ≤ q * (u * C) := e5
    _ = q * u * C := (Nat.mul_assoc _ _ _).symm
    _ ≤ R * A := e4
theorem ld4_top {v k : Nat} (h : v < 32768 ^ (k + 1)) : ld4 v k = v * 32768 ^ 3 / 32768 ^ k := by
  unfold ld4
  apply Nat.mod_eq_of_lt
  rw [Nat.div_lt_iff_lt_mul (Nat.pow_pos (by decide)), ← Nat.pow_add]
  calc v * 32768 ^ 3 < 32768 ^ (k + 1) * 32768 ^ 3 := Nat.mul_lt_mul_of_pos_right h (by decide)
    _ = 32768 ^ (4 + k) := by rw [← Nat.pow_add]; congr 1; omega
theorem ld4_b {v k : Nat} : ld4 v k < 1152921504606846976 := Nat.mod_lt _ (by decide)
/-- the first guess is never too great -/
theorem quo_guess {R Y m : Nat} (hY : Y < 32768 ^ (m + 1)) (hR : R < Y * 32768) : min (ld4 R (m + 1) / (ld4 Y m / 32768 + 1)) 32767 * Y ≤ R := by
  have e1 : R < 32768 ^ (m + 1 + 1) := by
    rw [Nat.pow_succ]
    exact Nat.lt_trans hR (Nat.mul_lt_mul_of_pos_right hY (by decide))
  rw [ld4_top hY, ld4_top e1, Nat.div_div_eq_div_mul (Y * 32768 ^ 3), ← Nat.pow_succ]
  exact Nat.le_trans (Nat.mul_le_mul_right _ (Nat.min_le_left _ _)) (ld_q (Nat.pow_pos (by decide)) (by decide))
theorem quo_room {Vx H Vy r n1 x1 P : Nat} (h : Vx = H * Vy * (P * 32768) + r * (P * 32768) + (n1 + x1 * P)) (hP : 0 < P) : 32768 * r + x1 ≤ Vx := by
  have e1 : (32768 * r + x1) * P ≤ Vx := by
    rw [h, Nat.add_mul, Nat.mul_comm 32768 r, Nat.mul_assoc, Nat.mul_comm 32768 P]
    omega
  exact Nat.le_trans (Nat.le_mul_of_pos_right _ hP) e1
/-- where the loop of quotient stands -/
def QI (d n V : Nat → Nat) (z x y i r H : Nat) (e n' : Nat → Nat) : Prop := (∀ j, e j < 32768) ∧ (∀ j, (j < 2800 * 7 ∨ 2800 * 7 + 2800 ≤ j) → (j < 2800 * z ∨ 2800 * z + 2800 ≤ j) → e j = d j) ∧ (∃ s, n' = un (un n z (n x)) 7 s ∧ Rp 32768 2800 (sh e (2800 * 7)) s r) ∧ nv 32768 (sh e (2800 * z)) (n x) = nv 32768 (sh e (2800 * z)) i + H * 32768 ^ i ∧ V x = H * V y * 32768 ^ i + r * 32768 ^ i + nv 32768 (sh d (2800 * x)) i
theorem QI_MU {d n V : Nat → Nat} {z x y i r H r' : Nat} {e n' e' n2 : Nat → Nat} (hz : z < 10) (hz7 : z ≠ 7) (h : QI d n V z x y i r H e n') (hnx : n x ≤ 2800) (hi : i ≤ n x) (hU : MU 7 r' e n' e' n2) : (∀ j, e' j < 32768) ∧ (∀ j, (j < 2800 * 7 ∨ 2800 * 7 + 2800 ≤ j) → e' j = e j) ∧ ∃ s, n2 = un (un n z (n x)) 7 s ∧ Rp 32768 2800 (sh e' (2800 * 7)) s r' := by
  obtain ⟨h1, h2, ⟨s, rfl, h3⟩, h4, h5⟩ := h
  obtain ⟨g1, g2, s', rfl, g3⟩ := hU
  exact ⟨g1, g2, s', un_un, g3⟩
set_option maxRecDepth 100000 in
set_option maxHeartbeats 4000000 in
theorem ms_M_quotient (d n V : Nat → Nat) (lf : Int64) (G : MG) (z x y : Nat) (hz : z < 7) (hx : x < 7) (hy : y < 7) (hzx : z ≠ x) (hzy : z ≠ y) (hM : MV d n V) (hy0 : 0 < V y) : MS y_M_quotient c_M_quotient 10 none (rm 3) [.ref 0, .int (nI z), .int (nI x), .int (nI y)] (mW d n lf G) (zP (X := (Nat → Nat) × (Nat → Nat)) (fun _ => none) (fun q => mW q.1 q.2 lf G) (fun q => MV q.1 q.2 (un (un V 7 (V x % V y)) z (V x / V y)))) := by
  refine MS_of (own := R_M) (by decide) rfl (fun _ => Nat.le_of_ble_eq_true rfl) (fun Z h hr => ?_)
  have hX := hM.2 x (by omega)
  have hY := hM.2 y (by omega)
  have hnx := hX.1
  have hny := hY.1
  obtain ⟨m, hm⟩ : ∃ m, n y = m + 1 := by
    rcases hY.2.2.2 with q | q
    · rw [q] at hY
      have := Rp_lt hY
      omega
    · cases hc : n y with
      | zero => rw [hc] at hY; have := Rp_lt hY; omega
      | succ m => exact ⟨m, rfl⟩
  have hYm : V y < 32768 ^ (m + 1) := by rw [← hm]; exact Rp_lt hY
  have hcap : V x < capM := Nat.lt_of_lt_of_le (Rp_lt hX) (Nat.pow_le_pow_right (by decide) hnx)
  have hl1 : ld4 (V y) m / 32768 + 1 < 2 ^ 63 := by have := @ld4_b (V y) m; omega
  have L : ∀ (i r H : Nat) (e n' : Nat → Nat), i ≤ n x → r < V y → QI d n V z x y i r H e n' → Z 0 0 (mW e n' lf G) [(0, .ref 0), (1, .int (nI z)), (2, .int (nI x)), (3, .int (nI y)), (4, .int (nI m)), (5, .long (lN (ld4 (V y) m / 32768 + 1))), (7, .int (nI i - 1))] 55 [] := by
    intro i
    induction i with
    | zero =>
      intro r H e n' hi hr0 hQ
      obtain ⟨he, hk, ⟨s, rfl, hR⟩, e1, e2⟩ := hQ
      simp only [nv, Nat.pow_zero, Nat.mul_one, Nat.zero_add, Nat.add_zero] at e1 e2
      have e3 : V x / V y = H := by rw [e2, Nat.mul_comm H (V y), Nat.mul_add_div hy0, Nat.div_eq_of_lt hr0, Nat.add_zero]
      have e4 : V x % V y = r := by rw [e2, Nat.mul_comm H (V y), Nat.mul_add_mod, Nat.mod_eq_of_lt hr0]
      have e5 := ms_M_trim e (un n 7 s) lf G z (n x) (by omega) hnx he
      have e6 : un (un n 7 s) z (n x) = un (un n z (n x)) 7 s := un_comm (by omega)
      rw [e6] at e5
      refine z_iload h d_M_quotient_55 rfl ?_
      refine z_if_ltD (tgt := 169) h d_M_quotient_57 (by decide) (by omega) (fun c_57 => ?_) (fun y_57 c_57 => ?_)
      · refine z_aload_n h d_M_quotient_169 rfl ?_
        refine z_iload_n h d_M_quotient_170 rfl ?_
        refine z_cM h (e5) (zf_M_trim (by decide)) wm_M_38 wi_M_trim ws_M_trim d_M_quotient_171 (Nat.le_of_ble_eq_true rfl) rfl (fun x_171 hx_171 => ?_)
        refine hr.2.2.2.1 _ _ _ _ _ (Nat.le_refl _) (Nat.le_refl _) rfl d_M_quotient_174 ?_
        rw [e3, e4]
        exact ⟨(e, un (un n 7 s) z (trm (sh e (2800 * z)) (n x))), rfl, rfl, MV_upd2 (by omega) hM he hk hR (Rp_trm hnx (fun j => he _) e1)⟩
      · exact absurd c_57 (by omega)
    | succ i ih =>
      intro r H e n' hi hr0 hQ
      have e0 : nI (i + 1) - 1 = nI i := nI_pred i
      have hQ0 := hQ
      obtain ⟨he, hk, ⟨s, rfl, hR⟩, e1, e2⟩ := hQ
      have hnx' : un (un n z (n x)) 7 s x = n x := by rw [un_ne (by omega), un_ne (by omega)]
      have hXe : Rp 32768 2800 (sh e (2800 * x)) (un (un n z (n x)) 7 s x) (V x) := by
        rw [hnx']
        exact Rp_congr (fun j hj => hk _ (by omega) (by omega)) (fun j => he _) hX
      have hxi : dig 32768 (V x) i = sh d (2800 * x) i := by rw [← Rp_dig (by decide) hX, if_pos (by omega)]
      have hxi2 : sh d (2800 * x) i < 32768 := hM.1 _
      have e2' := e2
      rw [Nat.pow_succ, nv_s] at e2'
      have hroom := quo_room e2' (Nat.pow_pos (by decide))
      have hRs : Rp 32768 2800 (sh e (2800 * 7)) (un (un n z (n x)) 7 s 7) r := by rw [un_eq]; exact hR
      refine z_iload h d_M_quotient_55 rfl ?_
      refine z_if_ltD (tgt := 169) h d_M_quotient_57 (by decide) (by omega) (fun c_57 => ?_) (fun y_57 c_57 => ?_)
      · exact absurd c_57 (by omega)
      · rw [e0]
        refine z_aload_n h d_M_quotient_60 rfl ?_
        refine z_bipush (v := nI 7) h d_M_quotient_61 (by decide) ?_
        refine z_ldc2_w (v := lN 32768) h d_M_quotient_63 wv_M_54 ?_
        refine z_aload_n h d_M_quotient_66 rfl ?_
        refine z_iload_n h d_M_quotient_67 rfl ?_
        refine z_iload h d_M_quotient_68 rfl ?_
        refine z_cM h (ms_M_atR e (un (un n z (n x)) 7 s) V lf G x i (V x) (by omega) hXe (by omega)) (zf_M_at (by decide)) wm_M_34 wi_M_at ws_M_at d_M_quotient_70 (Nat.le_of_ble_eq_true rfl) rfl (fun x_70 hx_70 => ?_)
        rw [hxi]
        generalize hxk : sh d (2800 * x) i = xi at *
        refine z_i2lN h d_M_quotient_73 (by omega) ?_
        refine z_cM h (ms_M_grow e (un (un n z (n x)) 7 s) (fun _ => r) lf G 7 32768 xi (by decide) he hRs (by decide) (by omega) (Nat.lt_of_le_of_lt hroom hcap)) (zf_M_grow (by decide)) wm_M_60 wi_M_grow ws_M_grow d_M_quotient_74 (Nat.le_of_ble_eq_true rfl) rfl (fun x_74 hx_74 => ?_)
        obtain ⟨he2, hk2, s2, hn2, hR2⟩ := QI_MU (by omega) (by omega) hQ0 hnx (by omega) hx_74
        obtain ⟨ea, na⟩ := x_74
        show Z 0 0 (mW ea na lf G) _ _ _
        replace hn2 : na = un (un n z (n x)) 7 s2 := hn2
        subst hn2
        replace he2 : ∀ j, ea j < 32768 := he2
        replace hk2 : ∀ j, (j < 2800 * 7 ∨ 2800 * 7 + 2800 ≤ j) → ea j = e j := hk2
        replace hR2 : Rp 32768 2800 (sh ea (2800 * 7)) s2 (32768 * r + xi) := hR2
        have hr1 : 32768 * r + xi < V y * 32768 := by omega
        have hg := quo_guess hYm hr1
        have hs_89 : ld4 (32768 * r + xi) (m + 1) < 2 ^ 63 ∧ 0 < ld4 (V y) m / 32768 + 1 ∧ ld4 (V y) m / 32768 + 1 < 2 ^ 63 := ⟨by have := @ld4_b (32768 * r + xi) (m + 1); omega, by omega, hl1⟩
        have hqb : ld4 (32768 * r + xi) (m + 1) / (ld4 (V y) m / 32768 + 1) < 2 ^ 63 := Nat.lt_of_le_of_lt (Nat.div_le_self _ _) hs_89.1
        refine z_aload_n h d_M_quotient_77 rfl ?_
        refine z_bipush (v := nI 7) h d_M_quotient_78 (by decide) ?_
        refine z_iload h d_M_quotient_80 rfl ?_
        refine z_iconst (v := nI 1) h d_M_quotient_82 (by decide) ?_
        refine z_iaddN h d_M_quotient_83 ?_
        refine z_cM h (ms_M_leading ea (un (un n z (n x)) 7 s2) V lf G 7 (m + 1) (32768 * r + xi) (by decide) (by rw [un_eq]; exact hR2) (by omega)) (zf_M_leading (by decide)) wm_M_56 wi_M_leading ws_M_leading d_M_quotient_84 (Nat.le_of_ble_eq_true rfl) rfl (fun x_84 hx_84 => ?_)
        refine z_lload h d_M_quotient_87 rfl ?_
        refine z_ldivN h d_M_quotient_89 hs_89 ?_
        refine z_lstore h d_M_quotient_90 (by decide) ?_
        generalize hr1v : 32768 * r + xi = r1 at *
        generalize ld4 r1 (m + 1) / (ld4 (V y) m / 32768 + 1) = g at *
        have hYe : ∀ eb nb rr, MU 7 rr ea (un (un n z (n x)) 7 s2) eb nb → Rp 32768 2800 (sh eb (2800 * y)) (nb y) (V y) := by
          intro eb nb rr hU
          obtain ⟨u1, u2, s3, rfl, u4⟩ := hU
          rw [un_ne (by omega), un_ne (by omega), un_ne (by omega)]
          refine Rp_congr (fun j hj => ?_) (fun j => u1 _) hY
          show eb (2800 * y + j) = d (2800 * y + j)
          rw [u2 _ (by omega), hk2 _ (by omega), hk _ (by omega) (by omega)]
        have h7e : ∀ eb nb rr, MU 7 rr ea (un (un n z (n x)) 7 s2) eb nb → Rp 32768 2800 (sh eb (2800 * 7)) (nb 7) rr := by
          intro eb nb rr hU
          obtain ⟨u1, u2, s3, rfl, u4⟩ := hU
          rw [un_eq]
          exact u4
        have MUt : ∀ r1 r2 eb nb ec nc, MU 7 r1 ea (un (un n z (n x)) 7 s2) eb nb → MU 7 r2 eb nb ec nc → MU 7 r2 ea (un (un n z (n x)) 7 s2) ec nc := by
          intro r1 r2 eb nb ec nc hU hU2
          obtain ⟨u1, u2, s3, rfl, u4⟩ := hU
          obtain ⟨v1, v2, s4, rfl, v4⟩ := hU2
          exact ⟨v1, fun j hj => by rw [v2 j hj, u2 j hj], s4, un_un, v4⟩
        have W : ∀ (t f rr : Nat) (eb nb : Nat → Nat), rr < V y * (t + 1) → rr + f * V y = r1 → MU 7 rr ea (un (un n z (n x)) 7 s2) eb nb → Z 0 0 (mW eb nb lf G) [(0, .ref 0), (1, .int (nI z)), (2, .int (nI x)), (3, .int (nI y)), (4, .int (nI m)), (5, .long (lN (ld4 (V y) m / 32768 + 1))), (7, .int (nI i)), (8, .long (lN f))] 120 [] := by
          intro t
          have Done : ∀ (f rr : Nat) (eb nb : Nat → Nat), rr < V y → rr + f * V y = r1 → MU 7 rr ea (un (un n z (n x)) 7 s2) eb nb → Z 0 0 (mW eb nb lf G) [(0, .ref 0), (1, .int (nI z)), (2, .int (nI x)), (3, .int (nI y)), (4, .int (nI m)), (5, .long (lN (ld4 (V y) m / 32768 + 1))), (7, .int (nI i)), (8, .long (lN f))] 147 [] := by
            intro f rr eb nb hrr hf hU
            obtain ⟨u1, u2, s3, rfl, u4⟩ := hU
            have hfb : f < 32768 := by
              apply Nat.lt_of_not_le
              intro q
              have := Nat.mul_le_mul_right (V y) q
              omega
            rw [un_un]
            refine z_aload_n h d_M_quotient_147 rfl ?_
            refine z_get (C := R_M) (T := F_M) (N := 10) h 0 d_M_quotient_148 in_M rfl (by decide) wf_M_7 rfl rfl ?_
            refine z_sipush (v := nI 2800) h d_M_quotient_151 (by decide) ?_
            refine z_iload_n h d_M_quotient_154 rfl ?_
            refine z_imulN h d_M_quotient_155 ?_
            refine z_iload h d_M_quotient_156 rfl ?_
            refine z_iaddN h d_M_quotient_158 ?_
            refine z_lload h d_M_quotient_159 rfl ?_
            refine z_l2iN h d_M_quotient_161 ?_
            refine z_iastoreN h d_M_quotient_162 rfl (by omega) ?_
            rw [← e0]
            refine z_iincD h d_M_quotient_163 rfl (by decide) ?_
            refine z_goto (tgt := 55) h d_M_quotient_166 (by decide) ?_
            refine z_lv (lv' := [(0, .ref 0), (1, .int (nI z)), (2, .int (nI x)), (3, .int (nI y)), (4, .int (nI m)), (5, .long (lN (ld4 (V y) m / 32768 + 1))), (7, .int (nI i - 1))]) h rfl (ih rr (H * 32768 + f) (un eb (2800 * z + i) f) (un (un n z (n x)) 7 s3) (by omega) hrr ⟨un_lt u1 hfb, fun j q1 q2 => ?_, ⟨s3, rfl, ?_⟩, ?_, ?_⟩)
            · rw [un_ne (by omega), u2 j q1, hk2 j q1, hk j q1 q2]
            · refine Rp_congr (fun j hj => ?_) (fun j => un_lt u1 hfb _) u4
              have := u4.1
              show un eb (2800 * z + i) f (2800 * 7 + j) = eb (2800 * 7 + j)
              rw [un_ne (by omega)]
            · have c1 : ∀ k, k ≤ 2800 → nv 32768 (sh eb (2800 * z)) k = nv 32768 (sh e (2800 * z)) k := fun k hk9 => nv_congr fun j hj => by
                show eb (2800 * z + j) = e (2800 * z + j)
                rw [u2 _ (by omega), hk2 _ (by omega)]
              rw [sh_un, nv_un (Nat.le_refl i)]
              have h9 := nv_upd (B := 32768) (a := sh eb (2800 * z)) (i := i) (x := f) (s := n x) (by omega)
              rw [c1 (n x) hnx, e1, ← c1 (i + 1) (by omega), nv_s, Nat.pow_succ] at h9
              exact shrink_step2 h9
            · rw [e2']
              exact shrink_step (by rw [Nat.mul_comm, Nat.add_comm, hf, ← hr1v, Nat.mul_comm])
          induction t with
          | zero =>
            intro f rr eb nb hrr hf hU
            rw [Nat.mul_one] at hrr
            refine z_aload_n h d_M_quotient_120 rfl ?_
            refine z_bipush (v := nI 7) h d_M_quotient_121 (by decide) ?_
            refine z_iload_n h d_M_quotient_123 rfl ?_
            refine z_cM h (ms_M_order eb nb (un (fun _ => V y) 7 rr) lf G 7 y (by decide) (by omega) hU.1 (by rw [un_eq]; exact h7e eb nb rr hU) (by rw [un_ne (by omega)]; exact hYe eb nb rr hU)) (zf_M_order (by decide)) wm_M_67 wi_M_order ws_M_order d_M_quotient_124 (Nat.le_of_ble_eq_true rfl) rfl (fun x_124 hx_124 => ?_)
            rw [un_eq, un_ne (by omega), ordI, if_pos hrr]
            refine z_if_lt (tgt := 147) h d_M_quotient_127 (by decide) (fun c_127 => ?_) (fun c_127 => ?_)
            · exact Done f rr eb nb hrr hf hU
            · exact absurd c_127 (by decide)
          | succ t iht =>
            intro f rr eb nb hrr hf hU
            refine z_aload_n h d_M_quotient_120 rfl ?_
            refine z_bipush (v := nI 7) h d_M_quotient_121 (by decide) ?_
            refine z_iload_n h d_M_quotient_123 rfl ?_
            refine z_cM h (ms_M_order eb nb (un (fun _ => V y) 7 rr) lf G 7 y (by decide) (by omega) hU.1 (by rw [un_eq]; exact h7e eb nb rr hU) (by rw [un_ne (by omega)]; exact hYe eb nb rr hU)) (zf_M_order (by decide)) wm_M_67 wi_M_order ws_M_order d_M_quotient_124 (Nat.le_of_ble_eq_true rfl) rfl (fun x_124 hx_124 => ?_)
            rw [un_eq, un_ne (by omega)]
            by_cases q : rr < V y
            · rw [ordI, if_pos q]
              refine z_if_lt (tgt := 147) h d_M_quotient_127 (by decide) (fun c_127 => ?_) (fun c_127 => ?_)
              · exact Done f rr eb nb q hf hU
              · exact absurd c_127 (by decide)
            · have q9 : ¬ (ordI rr (V y) < 0) := by
                rw [ordI, if_neg q]
                split <;> decide
              refine z_if_lt (tgt := 147) h d_M_quotient_127 (by decide) (fun c_127 => ?_) (fun c_127 => ?_)
              · exact absurd c_127 q9
              · refine z_aload_n h d_M_quotient_130 rfl ?_
                refine z_bipush (v := nI 7) h d_M_quotient_131 (by decide) ?_
                refine z_iload_n h d_M_quotient_133 rfl ?_
                refine z_lconst (v := lN 1) h d_M_quotient_134 (by decide) ?_
                refine z_cM h (ms_M_lessTimes eb nb (un (fun _ => V y) 7 rr) lf G 7 y 1 (by decide) (by omega) (by omega) hU.1 (by rw [un_eq]; exact h7e eb nb rr hU) (by rw [un_ne (by omega)]; exact hYe eb nb rr hU) (by decide) (by rw [un_eq, un_ne (by omega)]; omega)) (zf_M_lessTimes (by decide)) wm_M_64 wi_M_lessTimes ws_M_lessTimes d_M_quotient_135 (Nat.le_of_ble_eq_true rfl) rfl (fun x_135 hx_135 => ?_)
                have hU2 := MUt _ _ _ _ _ _ hU hx_135
                rw [un_eq, un_ne (by omega), Nat.one_mul] at hU2
                refine z_lload h d_M_quotient_138 rfl ?_
                refine z_lconst (v := lN 1) h d_M_quotient_140 (by decide) ?_
                refine z_laddN h d_M_quotient_141 ?_
                refine z_lstore h d_M_quotient_142 (by decide) ?_
                refine z_goto (tgt := 120) h d_M_quotient_144 (by decide) ?_
                refine z_lv h rfl (iht (f + 1) (rr - V y) x_135.1 x_135.2 ?_ ?_ hU2)
                · rw [Nat.mul_succ] at hrr
                  omega
                · rw [Nat.add_mul]
                  omega
        have hU0 : MU 7 r1 ea (un (un n z (n x)) 7 s2) ea (un (un n z (n x)) 7 s2) := ⟨he2, fun _ _ => rfl, s2, un_un.symm, hR2⟩
        have T : Z 0 0 (mW ea (un (un n z (n x)) 7 s2) lf G) [(0, .ref 0), (1, .int (nI z)), (2, .int (nI x)), (3, .int (nI y)), (4, .int (nI m)), (5, .long (lN (ld4 (V y) m / 32768 + 1))), (7, .int (nI i)), (8, .long (lN (min g 32767)))] 111 [] := by
          refine z_aload_n h d_M_quotient_111 rfl ?_
          refine z_bipush (v := nI 7) h d_M_quotient_112 (by decide) ?_
          refine z_iload_n h d_M_quotient_114 rfl ?_
          refine z_lload h d_M_quotient_115 rfl ?_
          refine z_cM h (ms_M_lessTimes ea (un (un n z (n x)) 7 s2) (un (fun _ => V y) 7 r1) lf G 7 y (min g 32767) (by decide) (by omega) (by omega) he2 (by rw [un_eq]; exact h7e _ _ _ hU0) (by rw [un_ne (a := fun _ => V y) (by omega)]; exact hYe _ _ _ hU0) (by omega) (by rw [un_eq, un_ne (by omega)]; exact hg)) (zf_M_lessTimes (by decide)) wm_M_64 wi_M_lessTimes ws_M_lessTimes d_M_quotient_117 (Nat.le_of_ble_eq_true rfl) rfl (fun x_117 hx_117 => ?_)
          have hU2 := MUt _ _ _ _ _ _ hU0 hx_117
          rw [un_eq, un_ne (by omega)] at hU2
          refine z_lv h rfl (W r1 (min g 32767) (r1 - min g 32767 * V y) x_117.1 x_117.2 ?_ (by omega) hU2)
          have := Nat.le_mul_of_pos_left (r1 + 1) hy0
          omega
        refine z_lload h d_M_quotient_92 rfl ?_
        refine z_ldc2_w (v := lN 32767) h d_M_quotient_94 wv_M_32 ?_
        refine z_lcmp_leN (tgt := 107) h d_M_quotient_97 d_M_quotient_98 (by decide) (by omega) (fun c_97 => ?_) (fun c_97 => ?_)
        · refine z_lload h d_M_quotient_107 rfl ?_
          refine z_lstore h d_M_quotient_109 (by decide) ?_
          rw [show g = min g 32767 by omega]
          exact z_lv h rfl T
        · refine z_ldc2_w (v := lN 32767) h d_M_quotient_101 wv_M_32 ?_
          refine z_goto (tgt := 109) h d_M_quotient_104 (by decide) ?_
          refine z_lstore h d_M_quotient_109 (by decide) ?_
          rw [show (32767 : Nat) = min g 32767 by omega]
          exact z_lv h rfl T
  have hs_40 : ld4 (V y) m < 2 ^ 63 ∧ 0 < 32768 ∧ 32768 < 2 ^ 63 := ⟨by have := @ld4_b (V y) m; omega, by decide, by decide⟩
  have hn7 : ∀ j, j ≠ 7 → j ≠ z → un (un n 7 0) z (n x) j = n j := fun j q1 q2 => by rw [un_ne q2, un_ne q1]
  refine z_aload_n h d_M_quotient_0 rfl ?_
  refine z_get (C := R_M) (T := F_M) (N := 10) h 1 d_M_quotient_1 in_M rfl (by decide) wf_M_13 rfl rfl ?_
  refine z_bipush (v := nI 7) h d_M_quotient_4 (by decide) ?_
  refine z_iconst (v := nI 0) h d_M_quotient_6 (by decide) ?_
  refine z_iastoreN h d_M_quotient_7 rfl (by omega) ?_
  refine z_aload_n h d_M_quotient_8 rfl ?_
  refine z_get (C := R_M) (T := F_M) (N := 10) h 1 d_M_quotient_9 in_M rfl (by decide) wf_M_13 rfl rfl ?_
  refine z_iload_n h d_M_quotient_12 rfl ?_
  refine z_aload_n h d_M_quotient_13 rfl ?_
  refine z_get (C := R_M) (T := F_M) (N := 10) h 1 d_M_quotient_14 in_M rfl (by decide) wf_M_13 rfl rfl ?_
  refine z_iload_n h d_M_quotient_17 rfl ?_
  refine z_ialoadN h d_M_quotient_18 rfl (by omega) ?_
  rw [un_ne (show x ≠ 7 by omega)]
  refine z_iastoreN h d_M_quotient_19 rfl (by omega) ?_
  refine z_aload_n h d_M_quotient_20 rfl ?_
  refine z_get (C := R_M) (T := F_M) (N := 10) h 1 d_M_quotient_21 in_M rfl (by decide) wf_M_13 rfl rfl ?_
  refine z_iload_n h d_M_quotient_24 rfl ?_
  refine z_ialoadN h d_M_quotient_25 rfl (by omega) ?_
  rw [hn7 y (by omega) (by omega), hm]
  refine z_iconst (v := nI 1) h d_M_quotient_26 (by decide) ?_
  refine z_isubN h d_M_quotient_27 (by omega) ?_
  refine z_istore h d_M_quotient_28 (by decide) ?_
  refine z_aload_n h d_M_quotient_30 rfl ?_
  refine z_iload_n h d_M_quotient_31 rfl ?_
  refine z_iload h d_M_quotient_32 rfl ?_
  refine z_cM h (ms_M_leading d (un (un n 7 0) z (n x)) V lf G y m (V y) (by omega) (by rw [hn7 y (by omega) (by omega)]; exact hY) (by omega)) (zf_M_leading (by decide)) wm_M_56 wi_M_leading ws_M_leading d_M_quotient_34 (Nat.le_of_ble_eq_true rfl) rfl (fun x_34 hx_34 => ?_)
  refine z_ldc2_w (v := lN 32768) h d_M_quotient_37 wv_M_54 ?_
  refine z_ldivN h d_M_quotient_40 hs_40 ?_
  refine z_lconst (v := lN 1) h d_M_quotient_41 (by decide) ?_
  refine z_laddN h d_M_quotient_42 ?_
  refine z_lstore h d_M_quotient_43 (by decide) ?_
  refine z_aload_n h d_M_quotient_45 rfl ?_
  refine z_get (C := R_M) (T := F_M) (N := 10) h 1 d_M_quotient_46 in_M rfl (by decide) wf_M_13 rfl rfl ?_
  refine z_iload_n h d_M_quotient_49 rfl ?_
  refine z_ialoadN h d_M_quotient_50 rfl (by omega) ?_
  rw [hn7 x (by omega) (by omega)]
  refine z_iconst (v := 1) h d_M_quotient_51 (by decide) ?_
  refine z_isub h d_M_quotient_52 ?_
  refine z_istore h d_M_quotient_53 (by decide) ?_
  have e9 : un (un n 7 0) z (n x) = un (un n z (n x)) 7 0 := un_comm (by omega)
  rw [e9]
  refine z_lv (lv' := [(0, .ref 0), (1, .int (nI z)), (2, .int (nI x)), (3, .int (nI y)), (4, .int (nI m)), (5, .long (lN (ld4 (V y) m / 32768 + 1))), (7, .int (nI (n x) - 1))]) h rfl (L (n x) 0 0 d (un (un n z (n x)) 7 0) (Nat.le_refl _) hy0 ⟨hM.1, fun _ _ _ => rfl, ⟨0, rfl, ⟨Nat.zero_le _, fun j => hM.1 _, rfl, Or.inl rfl⟩⟩, by omega, by rw [hX.2.2.1]; omega⟩)
