/-! DigitMill$Series: sumUp, reach -/
/-- the four numbers that the series lead to, at the scale Q -/
def Mst (Q : Nat) (c : Nat → Nat) (G1 G2 GE HL HC : Nat → Nat) : Prop := (1073741824 ^ 704 ≤ Q) ∧ (∀ k, k < 4550 → G1 k = (G1 (k + 1) + Q) * (2 * (k + 1)) / ((2 * (k + 1) + 1) * 26)) ∧ (∀ k, k ≤ 4550 → G1 k ≤ Q) ∧ (∀ k, k < 1350 → G2 k = (G2 (k + 1) + Q) * (2 * (k + 1)) / ((2 * (k + 1) + 1) * 57122)) ∧ (∀ k, k ≤ 1350 → G2 k ≤ Q) ∧ (∀ k, k < 3000 → GE k = (GE (k + 1) + Q) / (k + 1)) ∧ (∀ k, 1 ≤ k → k ≤ 3000 → GE k ≤ Q) ∧ (∀ k, k < 7100 → HL k = (Q - HL (k + 1)) * (k + 1) / (4 * (2 * (k + 1) + 1))) ∧ (∀ k, k ≤ 7100 → HL k ≤ Q) ∧ (∀ k, k < 2200 → HC k = hz Q (HC (k + 1)) (k + 1)) ∧ (∀ k, k ≤ 2200 → HC k ≤ 1048576 * Q) ∧ (∀ k, k ≤ 2200 → HC k ≤ pz k * Q) ∧ (478 * (G2 0 + Q) / 28561 ≤ 40 * (G1 0 + Q) / 13 ∧ c 0 = 40 * (G1 0 + Q) / 13 - 478 * (G2 0 + Q) / 28561) ∧ (c 1 = GE 0 + Q) ∧ (c 3 = 3 * (Q - HL 0) / 4) ∧ (c 4 = (77 * Q - HC 0) / 64) ∧ (∀ W, W = 0 ∨ W = 1 ∨ W = 3 ∨ W = 4 → Q ≤ 2 * c W ∧ c W ≤ 4 * Q)
theorem Mst.big {Q : Nat} {c G1 G2 GE HL HC : Nat → Nat} (h : Mst Q c G1 G2 GE HL HC) : 1073741824 ^ 704 ≤ Q := h.1
theorem Mst.g1 {Q : Nat} {c G1 G2 GE HL HC : Nat → Nat} (h : Mst Q c G1 G2 GE HL HC) : ∀ k, k < 4550 → G1 k = (G1 (k + 1) + Q) * (2 * (k + 1)) / ((2 * (k + 1) + 1) * 26) := h.2.1
theorem Mst.g1q {Q : Nat} {c G1 G2 GE HL HC : Nat → Nat} (h : Mst Q c G1 G2 GE HL HC) : ∀ k, k ≤ 4550 → G1 k ≤ Q := h.2.2.1
theorem Mst.g2 {Q : Nat} {c G1 G2 GE HL HC : Nat → Nat} (h : Mst Q c G1 G2 GE HL HC) : ∀ k, k < 1350 → G2 k = (G2 (k + 1) + Q) * (2 * (k + 1)) / ((2 * (k + 1) + 1) * 57122) := h.2.2.2.1
theorem Mst.g2q {Q : Nat} {c G1 G2 GE HL HC : Nat → Nat} (h : Mst Q c G1 G2 GE HL HC) : ∀ k, k ≤ 1350 → G2 k ≤ Q := h.2.2.2.2.1
theorem Mst.ge {Q : Nat} {c G1 G2 GE HL HC : Nat → Nat} (h : Mst Q c G1 G2 GE HL HC) : ∀ k, k < 3000 → GE k = (GE (k + 1) + Q) / (k + 1) := h.2.2.2.2.2.1
theorem Mst.geq {Q : Nat} {c G1 G2 GE HL HC : Nat → Nat} (h : Mst Q c G1 G2 GE HL HC) : ∀ k, 1 ≤ k → k ≤ 3000 → GE k ≤ Q := h.2.2.2.2.2.2.1
theorem Mst.hl {Q : Nat} {c G1 G2 GE HL HC : Nat → Nat} (h : Mst Q c G1 G2 GE HL HC) : ∀ k, k < 7100 → HL k = (Q - HL (k + 1)) * (k + 1) / (4 * (2 * (k + 1) + 1)) := h.2.2.2.2.2.2.2.1
theorem Mst.hlq {Q : Nat} {c G1 G2 GE HL HC : Nat → Nat} (h : Mst Q c G1 G2 GE HL HC) : ∀ k, k ≤ 7100 → HL k ≤ Q := h.2.2.2.2.2.2.2.2.1
theorem Mst.hc {Q : Nat} {c G1 G2 GE HL HC : Nat → Nat} (h : Mst Q c G1 G2 GE HL HC) : ∀ k, k < 2200 → HC k = hz Q (HC (k + 1)) (k + 1) := h.2.2.2.2.2.2.2.2.2.1
theorem Mst.hcq {Q : Nat} {c G1 G2 GE HL HC : Nat → Nat} (h : Mst Q c G1 G2 GE HL HC) : ∀ k, k ≤ 2200 → HC k ≤ 1048576 * Q := h.2.2.2.2.2.2.2.2.2.2.1
theorem Mst.hcp {Q : Nat} {c G1 G2 GE HL HC : Nat → Nat} (h : Mst Q c G1 G2 GE HL HC) : ∀ k, k ≤ 2200 → HC k ≤ pz k * Q := h.2.2.2.2.2.2.2.2.2.2.2.1
theorem Mst.c0 {Q : Nat} {c G1 G2 GE HL HC : Nat → Nat} (h : Mst Q c G1 G2 GE HL HC) : 478 * (G2 0 + Q) / 28561 ≤ 40 * (G1 0 + Q) / 13 ∧ c 0 = 40 * (G1 0 + Q) / 13 - 478 * (G2 0 + Q) / 28561 := h.2.2.2.2.2.2.2.2.2.2.2.2.1
theorem Mst.c1 {Q : Nat} {c G1 G2 GE HL HC : Nat → Nat} (h : Mst Q c G1 G2 GE HL HC) : c 1 = GE 0 + Q := h.2.2.2.2.2.2.2.2.2.2.2.2.2.1
theorem Mst.c3 {Q : Nat} {c G1 G2 GE HL HC : Nat → Nat} (h : Mst Q c G1 G2 GE HL HC) : c 3 = 3 * (Q - HL 0) / 4 := h.2.2.2.2.2.2.2.2.2.2.2.2.2.2.1
theorem Mst.c4 {Q : Nat} {c G1 G2 GE HL HC : Nat → Nat} (h : Mst Q c G1 G2 GE HL HC) : c 4 = (77 * Q - HC 0) / 64 := h.2.2.2.2.2.2.2.2.2.2.2.2.2.2.2.1
theorem Mst.lo {Q : Nat} {c G1 G2 GE HL HC : Nat → Nat} (h : Mst Q c G1 G2 GE HL HC) : ∀ W, W = 0 ∨ W = 1 ∨ W = 3 ∨ W = 4 → Q ≤ 2 * c W ∧ c W ≤ 4 * Q := h.2.2.2.2.2.2.2.2.2.2.2.2.2.2.2.2
theorem big_D {Q D : Nat} (h : 1073741824 ^ 704 ≤ Q) (hD : D ≤ 704) : 1073741824 ^ D ≤ Q := Nat.le_trans (Nat.pow_le_pow_right (by decide) hD) h
abbrev SumP (Q D c : Nat) (q : (Nat → Int) × (Nat → Int)) : Prop := lbd q.2 D 1152921504606846976 ∧ (bv q.2 (D + 1) * Q - ((c : Nat) : Int) * (1073741824 ^ D : Nat)).natAbs ≤ 536870912 * Q
set_option maxRecDepth 100000 in
set_option maxHeartbeats 4000000 in
theorem ms_S_sumUp0 (D Q : Nat) (c G1 G2 GE HL HC : Nat → Nat) (r : Nat → Nat → Nat) (dp : Nat → Nat) (wk sm : Nat → Int) (hD : 1 ≤ D ∧ D ≤ 704) (hm : Mst Q c G1 G2 GE HL HC) (hs : ∀ i, i ≤ D → sm i = 0) : MS y_S_sumUp c_S_sumUp 2 none (rm 6) [.ref 0, .int (nI 0)] (sX D r dp wk sm) (zP (X := (Nat → Int) × (Nat → Int)) (fun _ => none) (fun q => sX D r dp q.1 q.2) (SumP Q D (c 0))) := by
  refine MS_of (own := R_S) (by decide) rfl (fun _ => Nat.le_of_ble_eq_true rfl) (fun Z h hr => ?_)
  have hT := big_D hm.big hD.2
  refine z_iload_n h d_S_sumUp_0 rfl ?_
  refine z_tabIn h d_S_sumUp_1 (off := 35) (tgt := 36) (by decide) (by decide) (by decide) (by decide) ?_
  refine z_aload_n h d_S_sumUp_36 rfl ?_
  refine z_cR h (ms_S_sumPi D Q 4550 1350 G1 G2 r dp wk sm hD hT hs (by decide) (by decide) hm.g1 hm.g1q hm.g2 hm.g2q) (zf_S_sumPi (by decide)) wm_S_53 wi_S_sumPi ws_S_sumPi d_S_sumUp_37 (Nat.le_of_ble_eq_true rfl) rfl (fun x_37 hx_37 => ?_)
  refine z_goto (tgt := 64) h d_S_sumUp_40 (by decide) ?_
  refine hr.2.2.2.1 _ _ _ _ _ (Nat.le_refl _) (Nat.le_refl _) rfl d_S_sumUp_64 ?_
  refine ⟨x_37, rfl, rfl, hx_37.1, ?_⟩
  rw [hm.c0.2, Int.ofNat_sub hm.c0.1]
  exact hx_37.2
set_option maxRecDepth 100000 in
set_option maxHeartbeats 4000000 in
theorem ms_S_sumUp1 (D Q : Nat) (c G1 G2 GE HL HC : Nat → Nat) (r : Nat → Nat → Nat) (dp : Nat → Nat) (wk sm : Nat → Int) (hD : 1 ≤ D ∧ D ≤ 704) (hm : Mst Q c G1 G2 GE HL HC) (hs : ∀ i, i ≤ D → sm i = 0) : MS y_S_sumUp c_S_sumUp 2 none (rm 6) [.ref 0, .int (nI 1)] (sX D r dp wk sm) (zP (X := (Nat → Int) × (Nat → Int)) (fun _ => none) (fun q => sX D r dp q.1 q.2) (SumP Q D (c 1))) := by
  refine MS_of (own := R_S) (by decide) rfl (fun _ => Nat.le_of_ble_eq_true rfl) (fun Z h hr => ?_)
  have hT := big_D hm.big hD.2
  refine z_iload_n h d_S_sumUp_0 rfl ?_
  refine z_tabIn h d_S_sumUp_1 (off := 42) (tgt := 43) (by decide) (by decide) (by decide) (by decide) ?_
  refine z_aload_n h d_S_sumUp_43 rfl ?_
  refine z_cR h (ms_S_sumE D Q GE r dp wk sm hD hT hs hm.ge hm.geq) (zf_S_sumE (by decide)) wm_S_56 wi_S_sumE ws_S_sumE d_S_sumUp_44 (Nat.le_of_ble_eq_true rfl) rfl (fun x_44 hx_44 => ?_)
  refine z_goto (tgt := 64) h d_S_sumUp_47 (by decide) ?_
  refine hr.2.2.2.1 _ _ _ _ _ (Nat.le_refl _) (Nat.le_refl _) rfl d_S_sumUp_64 ?_
  refine ⟨x_44, rfl, rfl, hx_44.1, ?_⟩
  rw [hm.c1]
  exact hx_44.2
set_option maxRecDepth 100000 in
set_option maxHeartbeats 4000000 in
theorem ms_S_sumUp3 (D Q : Nat) (c G1 G2 GE HL HC : Nat → Nat) (r : Nat → Nat → Nat) (dp : Nat → Nat) (wk sm : Nat → Int) (hD : 1 ≤ D ∧ D ≤ 704) (hm : Mst Q c G1 G2 GE HL HC) (hs : ∀ i, i ≤ D → sm i = 0) : MS y_S_sumUp c_S_sumUp 2 none (rm 6) [.ref 0, .int (nI 3)] (sX D r dp wk sm) (zP (X := (Nat → Int) × (Nat → Int)) (fun _ => none) (fun q => sX D r dp q.1 q.2) (SumP Q D (c 3))) := by
  refine MS_of (own := R_S) (by decide) rfl (fun _ => Nat.le_of_ble_eq_true rfl) (fun Z h hr => ?_)
  have hT := big_D hm.big hD.2
  refine z_iload_n h d_S_sumUp_0 rfl ?_
  refine z_tabIn h d_S_sumUp_1 (off := 49) (tgt := 50) (by decide) (by decide) (by decide) (by decide) ?_
  refine z_aload_n h d_S_sumUp_50 rfl ?_
  refine z_cR h (ms_S_sumLogTwo D Q 7100 HL r dp wk sm hD hT hs (by decide) hm.hl hm.hlq) (zf_S_sumLogTwo (by decide)) wm_S_59 wi_S_sumLogTwo ws_S_sumLogTwo d_S_sumUp_51 (Nat.le_of_ble_eq_true rfl) rfl (fun x_51 hx_51 => ?_)
  refine z_goto (tgt := 64) h d_S_sumUp_54 (by decide) ?_
  refine hr.2.2.2.1 _ _ _ _ _ (Nat.le_refl _) (Nat.le_refl _) rfl d_S_sumUp_64 ?_
  refine ⟨x_51, rfl, rfl, hx_51.1, ?_⟩
  rw [hm.c3]
  exact hx_51.2
set_option maxRecDepth 100000 in
set_option maxHeartbeats 4000000 in
theorem ms_S_sumUp4 (D Q : Nat) (c G1 G2 GE HL HC : Nat → Nat) (r : Nat → Nat → Nat) (dp : Nat → Nat) (wk sm : Nat → Int) (hD : 1 ≤ D ∧ D ≤ 704) (hm : Mst Q c G1 G2 GE HL HC) (hs : ∀ i, i ≤ D → sm i = 0) : MS y_S_sumUp c_S_sumUp 2 none (rm 6) [.ref 0, .int (nI 4)] (sX D r dp wk sm) (zP (X := (Nat → Int) × (Nat → Int)) (fun _ => none) (fun q => sX D r dp q.1 q.2) (SumP Q D (c 4))) := by
  refine MS_of (own := R_S) (by decide) rfl (fun _ => Nat.le_of_ble_eq_true rfl) (fun Z h hr => ?_)
  have hT := big_D hm.big hD.2
  refine z_iload_n h d_S_sumUp_0 rfl ?_
  refine z_tabIn h d_S_sumUp_1 (off := 56) (tgt := 57) (by decide) (by decide) (by decide) (by decide) ?_
  refine z_aload_n h d_S_sumUp_57 rfl ?_
  refine z_cR h (ms_S_sumCubes D Q 2200 HC r dp wk sm hD hT hs (by decide) hm.hc hm.hcq hm.hcp) (zf_S_sumCubes (by decide)) wm_S_62 wi_S_sumCubes ws_S_sumCubes d_S_sumUp_58 (Nat.le_of_ble_eq_true rfl) rfl (fun x_58 hx_58 => ?_)
  refine z_goto (tgt := 64) h d_S_sumUp_61 (by decide) ?_
  refine hr.2.2.2.1 _ _ _ _ _ (Nat.le_refl _) (Nat.le_refl _) rfl d_S_sumUp_64 ?_
  refine ⟨x_58, rfl, rfl, hx_58.1, ?_⟩
  rw [hm.c4]
  exact hx_58.2
theorem set_T {v : Int} {Q c D : Nat} (h : (v * Q - ((c : Nat) : Int) * (1073741824 ^ D : Nat)).natAbs ≤ 536870912 * Q) (hQ : 0 < Q) (h1 : Q ≤ 2 * c) (h2 : c ≤ 4 * Q) (hD : 2 ≤ D) : ∃ T : Nat, v - 1073741824 = (T : Int) ∧ T < 1073741824 ^ (D + 1) ∧ (((T : Nat) : Int) * Q - ((c : Nat) : Int) * (1073741824 ^ D : Nat)).natAbs ≤ 2147483648 * Q := by
  have hB : 1152921504606846976 ≤ 1073741824 ^ D := Nat.le_trans (show 1152921504606846976 ≤ 1073741824 ^ 2 by decide) (Nat.pow_le_pow_right (by decide) hD)
  have hBs : 1073741824 ^ (D + 1) = 1073741824 ^ D * 1073741824 := Nat.pow_succ _ _
  rw [hBs]
  generalize 1073741824 ^ D = T0 at *
  have hQi : (0 : Int) < Q := by omega
  have hc1 : (Q : Int) * (T0 : Int) ≤ 2 * ((c : Int) * (T0 : Int)) := by
    have : Q * T0 ≤ 2 * c * T0 := Nat.mul_le_mul_right T0 h1
    rw [Nat.mul_assoc] at this
    have e := Int.ofNat_le.mpr this
    rw [Int.natCast_mul, Int.natCast_mul, Int.natCast_mul] at e
    exact e
  have hc2 : (c : Int) * (T0 : Int) ≤ 4 * ((Q : Int) * (T0 : Int)) := by
    have : c * T0 ≤ 4 * Q * T0 := Nat.mul_le_mul_right T0 h2
    rw [Nat.mul_assoc] at this
    have e := Int.ofNat_le.mpr this
    rw [Int.natCast_mul, Int.natCast_mul, Int.natCast_mul] at e
    exact e
  have hQT : (1152921504606846976 : Int) * Q ≤ (Q : Int) * (T0 : Int) := by
    rw [Int.mul_comm]
    exact Int.mul_le_mul_of_nonneg_left (by omega) (by omega)
  have hlo : 0 < v - 1073741824 := by
    apply Int.lt_of_not_ge
    intro q
    have : (v - 1073741824) * Q ≤ 0 := Int.mul_nonpos_of_nonpos_of_nonneg q (by omega)
    rw [Int.sub_mul] at this
    omega
  obtain ⟨T, hT⟩ : ∃ T : Nat, v - 1073741824 = (T : Int) := ⟨(v - 1073741824).toNat, by omega⟩
  have hv : v * Q = (T : Int) * Q + 1073741824 * Q := by
    rw [show v = (T : Int) + 1073741824 by omega, Int.add_mul]
  refine ⟨T, hT, ?_, ?_⟩
  · apply Nat.lt_of_not_le
    intro q
    have e : ((T0 * 1073741824 : Nat) : Int) * Q ≤ (T : Int) * Q := Int.mul_le_mul_of_nonneg_right (by omega) (by omega)
    rw [Int.natCast_mul, Int.mul_right_comm, Int.mul_comm (T0 : Int)] at e
    rw [show ((1073741824 : Nat) : Int) = 1073741824 from rfl] at e
    omega
  · rw [hv] at h
    omega
/-- what a row has to do with its number -/
def RowOK (Q : Nat) (c : Nat → Nat) (r : Nat → Nat → Nat) (dp : Nat → Nat) (W : Nat) : Prop := dp W ≤ 704 ∧ (∀ j, r W j < 1073741824) ∧ (dp W ≠ 0 → (((nv 1073741824 (r W) (dp W + 1) : Nat) : Int) * Q - ((c W : Nat) : Int) * (1073741824 ^ dp W : Nat)).natAbs ≤ 2147483648 * Q)
def SI (Q : Nat) (c : Nat → Nat) (r : Nat → Nat → Nat) (dp : Nat → Nat) : Prop := ∀ W, W = 0 ∨ W = 1 ∨ W = 3 ∨ W = 4 → RowOK Q c r dp W
theorem SI_upd {Q D W : Nat} {c : Nat → Nat} {r : Nat → Nat → Nat} {dp a : Nat → Nat} (h : SI Q c r dp) (hD : D ≤ 704) (ha : ∀ j, a j < 1073741824) (hv : (((nv 1073741824 a (D + 1) : Nat) : Int) * Q - ((c W : Nat) : Int) * (1073741824 ^ D : Nat)).natAbs ≤ 2147483648 * Q) : SI Q c (ru r W a) (un dp W D) := fun V hV => by
  unfold RowOK
  by_cases e : V = W
  · subst e
    rw [un_eq, show ru r V a V = a from if_pos rfl]
    exact ⟨hD, ha, fun _ => hv⟩
  · rw [un_ne e, show ru r W a V = r V from if_neg e]
    exact h V hV
abbrev XS : Type := Nat × (Nat → Nat → Nat) × (Nat → Nat) × (Nat → Int) × (Nat → Int)
set_option maxRecDepth 100000 in
set_option maxHeartbeats 4000000 in
theorem ms_S_reach0 (D Q wn : Nat) (c G1 G2 GE HL HC : Nat → Nat) (r : Nat → Nat → Nat) (dp : Nat → Nat) (wk sm : Nat → Int) (hm : Mst Q c G1 G2 GE HL HC) (hI : SI Q c r dp) (hw : 2 ≤ wn ∧ wn ≤ 704) : MS y_S_reach c_S_reach 4 (some .int) (rm 7) [.ref 0, .int (nI 0), .int (nI wn)] (sX D r dp wk sm) (zP (X := XS) (fun q => some (.int (nI (q.2.2.1 0)))) (fun q => sX q.1 q.2.1 q.2.2.1 q.2.2.2.1 q.2.2.2.2) (fun q => SI Q c q.2.1 q.2.2.1 ∧ wn ≤ q.2.2.1 0)) := by
  refine MS_of (own := R_S) (by decide) rfl (fun _ => Nat.le_of_ble_eq_true rfl) (fun Z h hr => ?_)
  have hR := hI 0 (by decide)
  have hd := hR.1
  obtain ⟨hw1, hw2⟩ := hw
  have hQ : 0 < Q := Nat.lt_of_lt_of_le (Nat.pow_pos (by decide)) hm.big
  have hlo := hm.lo 0 (by decide)
  refine z_aload_n h d_S_reach_0 rfl ?_
  refine z_get (C := R_S) (T := F_S) (N := 5) h 1 d_S_reach_1 in_S rfl (by decide) wf_S_16 rfl rfl ?_
  refine z_iload_n h d_S_reach_4 rfl ?_
  refine z_ialoadN h d_S_reach_5 rfl (by omega) ?_
  refine z_istore_n h d_S_reach_6 (by decide) ?_
  refine z_iload_n h d_S_reach_7 rfl ?_
  refine z_iload_n h d_S_reach_8 rfl ?_
  refine z_icmp_geN (tgt := 49) h d_S_reach_9 (by decide) (by omega) (fun c_9 => ?_) (fun c_9 => ?_)
  · refine z_aload_n h d_S_reach_49 rfl ?_
    refine z_get (C := R_S) (T := F_S) (N := 5) h 1 d_S_reach_50 in_S rfl (by decide) wf_S_16 rfl rfl ?_
    refine z_iload_n h d_S_reach_53 rfl ?_
    refine z_ialoadN h d_S_reach_54 rfl (by omega) ?_
    refine hr.1 _ _ _ _ _ _ (Nat.le_refl _) (Nat.le_refl _) rfl d_S_reach_55 ?_
    exact ⟨(D, r, dp, wk, sm), rfl, rfl, hI, c_9⟩
  · refine z_aload_n h d_S_reach_12 rfl ?_
    refine z_sipush (v := nI 704) h d_S_reach_13 (by decide) ?_
    refine z_iload_n h d_S_reach_16 rfl ?_
    refine z_iload_n h d_S_reach_17 rfl ?_
    refine z_iload_n h d_S_reach_18 rfl ?_
    refine z_iconst (v := nI 2) h d_S_reach_19 (by decide) ?_
    refine z_idivN h d_S_reach_20 (by omega) ?_
    refine z_iaddN h d_S_reach_21 ?_
    refine z_mmaxN h d_S_reach_22 wq_S_27 (by decide) (Nat.le_of_ble_eq_true rfl) (by decide) (by decide) (by omega) ?_
    refine z_mminN h d_S_reach_25 wq_S_33 (by decide) (Nat.le_of_ble_eq_true rfl) (by decide) (by decide) (by omega) ?_
    refine z_put (C := R_S) (T := F_S) (N := 5) (ty := .int) h 4 d_S_reach_28 in_S rfl ft_S_ok n_S (by decide) wf_S_36 rfl rfl rfl rfl rfl (Nat.le_of_ble_eq_true rfl) ?_
    obtain ⟨D', hD'⟩ : ∃ D', D' = min 704 (max wn (dp 0 + dp 0 / 2)) := ⟨_, rfl⟩
    rw [← hD']
    show Z 0 0 (sX D' r dp wk sm) _ _ _
    have hDD : 2 ≤ D' ∧ D' ≤ 704 ∧ wn ≤ D' := by omega
    refine z_aload_n h d_S_reach_31 rfl ?_
    refine z_get (C := R_S) (T := F_S) (N := 5) h 3 d_S_reach_32 in_S rfl (by decide) wf_S_24 rfl rfl ?_
    refine z_lconst (v := 0) h d_S_reach_35 (by decide) ?_
    rw [show (0 : Int64) = lI 0 from rfl]
    refine z_cS h (ms_JA_fillJ 705 0 sm (by decide)) (zf_JA_fillJ (by decide)) wm_S_40 wt_JA_fillJ d_S_reach_36 [9] (by decide) rfl (Nat.le_of_ble_eq_true rfl) rfl (fun _ => rfl) (fun x_36 hx_36 => ?_)
    show Z 0 0 (sX D' r dp wk (fiJ sm 705 0)) _ _ _
    refine z_aload_n h d_S_reach_39 rfl ?_
    refine z_iload_n h d_S_reach_40 rfl ?_
    refine z_cR h (ms_S_sumUp0 D' Q c G1 G2 GE HL HC r dp wk (fiJ sm 705 0) (by omega) hm (fun i hi => fiJ_0 (by omega))) (zf_S_sumUp (by decide)) wm_S_46 wi_S_sumUp ws_S_sumUp d_S_reach_41 (Nat.le_of_ble_eq_true rfl) rfl (fun x_41 hx_41 => ?_)
    obtain ⟨u1, u2⟩ := hx_41
    obtain ⟨T, hT1, hT2, hT3⟩ := set_T u2 hQ hlo.1 hlo.2 hDD.1
    refine z_aload_n h d_S_reach_44 rfl ?_
    refine z_iload_n h d_S_reach_45 rfl ?_
    refine z_cR h (ms_S_settle0 D' T r dp x_41.1 x_41.2 (by omega) hR.2.1 u1 hT1 hT2) (zf_S_settle (by decide)) wm_S_50 wi_S_settle ws_S_settle d_S_reach_46 (Nat.le_of_ble_eq_true rfl) rfl (fun x_46 hx_46 => ?_)
    obtain ⟨s1, s2⟩ := hx_46
    have hI2 := SI_upd (W := 0) hI hDD.2.1 s1 (by rw [s2]; exact hT3)
    have hdw : un dp 0 D' 0 = D' := un_eq
    refine z_aload_n h d_S_reach_49 rfl ?_
    refine z_get (C := R_S) (T := F_S) (N := 5) h 1 d_S_reach_50 in_S rfl (by decide) wf_S_16 rfl rfl ?_
    refine z_iload_n h d_S_reach_53 rfl ?_
    refine z_ialoadN h d_S_reach_54 rfl (by omega) ?_
    refine hr.1 _ _ _ _ _ _ (Nat.le_refl _) (Nat.le_refl _) rfl d_S_reach_55 ?_
    exact ⟨(D', ru r 0 x_46.1, un dp 0 D', x_41.1, x_46.2), rfl, rfl, hI2, by show wn ≤ un dp 0 D' 0; rw [hdw]; exact hDD.2.2⟩
set_option maxRecDepth 100000 in
set_option maxHeartbeats 4000000 in
theorem ms_S_reach1 (D Q wn : Nat) (c G1 G2 GE HL HC : Nat → Nat) (r : Nat → Nat → Nat) (dp : Nat → Nat) (wk sm : Nat → Int) (hm : Mst Q c G1 G2 GE HL HC) (hI : SI Q c r dp) (hw : 2 ≤ wn ∧ wn ≤ 704) : MS y_S_reach c_S_reach 4 (some .int) (rm 7) [.ref 0, .int (nI 1), .int (nI wn)] (sX D r dp wk sm) (zP (X := XS) (fun q => some (.int (nI (q.2.2.1 1)))) (fun q => sX q.1 q.2.1 q.2.2.1 q.2.2.2.1 q.2.2.2.2) (fun q => SI Q c q.2.1 q.2.2.1 ∧ wn ≤ q.2.2.1 1)) := by
  refine MS_of (own := R_S) (by decide) rfl (fun _ => Nat.le_of_ble_eq_true rfl) (fun Z h hr => ?_)
  have hR := hI 1 (by decide)
  have hd := hR.1
  obtain ⟨hw1, hw2⟩ := hw
  have hQ : 0 < Q := Nat.lt_of_lt_of_le (Nat.pow_pos (by decide)) hm.big
  have hlo := hm.lo 1 (by decide)
  refine z_aload_n h d_S_reach_0 rfl ?_
  refine z_get (C := R_S) (T := F_S) (N := 5) h 1 d_S_reach_1 in_S rfl (by decide) wf_S_16 rfl rfl ?_
  refine z_iload_n h d_S_reach_4 rfl ?_
  refine z_ialoadN h d_S_reach_5 rfl (by omega) ?_
  refine z_istore_n h d_S_reach_6 (by decide) ?_
  refine z_iload_n h d_S_reach_7 rfl ?_
  refine z_iload_n h d_S_reach_8 rfl ?_
  refine z_icmp_geN (tgt := 49) h d_S_reach_9 (by decide) (by omega) (fun c_9 => ?_) (fun c_9 => ?_)
  · refine z_aload_n h d_S_reach_49 rfl ?_
    refine z_get (C := R_S) (T := F_S) (N := 5) h 1 d_S_reach_50 in_S rfl (by decide) wf_S_16 rfl rfl ?_
    refine z_iload_n h d_S_reach_53 rfl ?_
    refine z_ialoadN h d_S_reach_54 rfl (by omega) ?_
    refine hr.1 _ _ _ _ _ _ (Nat.le_refl _) (Nat.le_refl _) rfl d_S_reach_55 ?_
    exact ⟨(D, r, dp, wk, sm), rfl, rfl, hI, c_9⟩
  · refine z_aload_n h d_S_reach_12 rfl ?_
    refine z_sipush (v := nI 704) h d_S_reach_13 (by decide) ?_
    refine z_iload_n h d_S_reach_16 rfl ?_
    refine z_iload_n h d_S_reach_17 rfl ?_
    refine z_iload_n h d_S_reach_18 rfl ?_
    refine z_iconst (v := nI 2) h d_S_reach_19 (by decide) ?_
    refine z_idivN h d_S_reach_20 (by omega) ?_
    refine z_iaddN h d_S_reach_21 ?_
    refine z_mmaxN h d_S_reach_22 wq_S_27 (by decide) (Nat.le_of_ble_eq_true rfl) (by decide) (by decide) (by omega) ?_
    refine z_mminN h d_S_reach_25 wq_S_33 (by decide) (Nat.le_of_ble_eq_true rfl) (by decide) (by decide) (by omega) ?_
    refine z_put (C := R_S) (T := F_S) (N := 5) (ty := .int) h 4 d_S_reach_28 in_S rfl ft_S_ok n_S (by decide) wf_S_36 rfl rfl rfl rfl rfl (Nat.le_of_ble_eq_true rfl) ?_
    obtain ⟨D', hD'⟩ : ∃ D', D' = min 704 (max wn (dp 1 + dp 1 / 2)) := ⟨_, rfl⟩
    rw [← hD']
    show Z 0 0 (sX D' r dp wk sm) _ _ _
    have hDD : 2 ≤ D' ∧ D' ≤ 704 ∧ wn ≤ D' := by omega
    refine z_aload_n h d_S_reach_31 rfl ?_
    refine z_get (C := R_S) (T := F_S) (N := 5) h 3 d_S_reach_32 in_S rfl (by decide) wf_S_24 rfl rfl ?_
    refine z_lconst (v := 0) h d_S_reach_35 (by decide) ?_
    rw [show (0 : Int64) = lI 0 from rfl]
    refine z_cS h (ms_JA_fillJ 705 0 sm (by decide)) (zf_JA_fillJ (by decide)) wm_S_40 wt_JA_fillJ d_S_reach_36 [9] (by decide) rfl (Nat.le_of_ble_eq_true rfl) rfl (fun _ => rfl) (fun x_36 hx_36 => ?_)
    show Z 0 0 (sX D' r dp wk (fiJ sm 705 0)) _ _ _
    refine z_aload_n h d_S_reach_39 rfl ?_
    refine z_iload_n h d_S_reach_40 rfl ?_
    refine z_cR h (ms_S_sumUp1 D' Q c G1 G2 GE HL HC r dp wk (fiJ sm 705 0) (by omega) hm (fun i hi => fiJ_0 (by omega))) (zf_S_sumUp (by decide)) wm_S_46 wi_S_sumUp ws_S_sumUp d_S_reach_41 (Nat.le_of_ble_eq_true rfl) rfl (fun x_41 hx_41 => ?_)
    obtain ⟨u1, u2⟩ := hx_41
    obtain ⟨T, hT1, hT2, hT3⟩ := set_T u2 hQ hlo.1 hlo.2 hDD.1
    refine z_aload_n h d_S_reach_44 rfl ?_
    refine z_iload_n h d_S_reach_45 rfl ?_
    refine z_cR h (ms_S_settle1 D' T r dp x_41.1 x_41.2 (by omega) hR.2.1 u1 hT1 hT2) (zf_S_settle (by decide)) wm_S_50 wi_S_settle ws_S_settle d_S_reach_46 (Nat.le_of_ble_eq_true rfl) rfl (fun x_46 hx_46 => ?_)
    obtain ⟨s1, s2⟩ := hx_46
    have hI2 := SI_upd (W := 1) hI hDD.2.1 s1 (by rw [s2]; exact hT3)
    have hdw : un dp 1 D' 1 = D' := un_eq
    refine z_aload_n h d_S_reach_49 rfl ?_
    refine z_get (C := R_S) (T := F_S) (N := 5) h 1 d_S_reach_50 in_S rfl (by decide) wf_S_16 rfl rfl ?_
    refine z_iload_n h d_S_reach_53 rfl ?_
    refine z_ialoadN h d_S_reach_54 rfl (by omega) ?_
    refine hr.1 _ _ _ _ _ _ (Nat.le_refl _) (Nat.le_refl _) rfl d_S_reach_55 ?_
    exact ⟨(D', ru r 1 x_46.1, un dp 1 D', x_41.1, x_46.2), rfl, rfl, hI2, by show wn ≤ un dp 1 D' 1; rw [hdw]; exact hDD.2.2⟩
set_option maxRecDepth 100000 in
set_option maxHeartbeats 4000000 in
theorem ms_S_reach3 (D Q wn : Nat) (c G1 G2 GE HL HC : Nat → Nat) (r : Nat → Nat → Nat) (dp : Nat → Nat) (wk sm : Nat → Int) (hm : Mst Q c G1 G2 GE HL HC) (hI : SI Q c r dp) (hw : 2 ≤ wn ∧ wn ≤ 704) : MS y_S_reach c_S_reach 4 (some .int) (rm 7) [.ref 0, .int (nI 3), .int (nI wn)] (sX D r dp wk sm) (zP (X := XS) (fun q => some (.int (nI (q.2.2.1 3)))) (fun q => sX q.1 q.2.1 q.2.2.1 q.2.2.2.1 q.2.2.2.2) (fun q => SI Q c q.2.1 q.2.2.1 ∧ wn ≤ q.2.2.1 3)) := by
  refine MS_of (own := R_S) (by decide) rfl (fun _ => Nat.le_of_ble_eq_true rfl) (fun Z h hr => ?_)
  have hR := hI 3 (by decide)
  have hd := hR.1
  obtain ⟨hw1, hw2⟩ := hw
  have hQ : 0 < Q := Nat.lt_of_lt_of_le (Nat.pow_pos (by decide)) hm.big
  have hlo := hm.lo 3 (by decide)
  refine z_aload_n h d_S_reach_0 rfl ?_
  refine z_get (C := R_S) (T := F_S) (N := 5) h 1 d_S_reach_1 in_S rfl (by decide) wf_S_16 rfl rfl ?_
  refine z_iload_n h d_S_reach_4 rfl ?_
  refine z_ialoadN h d_S_reach_5 rfl (by omega) ?_
  refine z_istore_n h d_S_reach_6 (by decide) ?_
  refine z_iload_n h d_S_reach_7 rfl ?_
  refine z_iload_n h d_S_reach_8 rfl ?_
  refine z_icmp_geN (tgt := 49) h d_S_reach_9 (by decide) (by omega) (fun c_9 => ?_) (fun c_9 => ?_)
  · refine z_aload_n h d_S_reach_49 rfl ?_
    refine z_get (C := R_S) (T := F_S) (N := 5) h 1 d_S_reach_50 in_S rfl (by decide) wf_S_16 rfl rfl ?_
    refine z_iload_n h d_S_reach_53 rfl ?_
    refine z_ialoadN h d_S_reach_54 rfl (by omega) ?_
    refine hr.1 _ _ _ _ _ _ (Nat.le_refl _) (Nat.le_refl _) rfl d_S_reach_55 ?_
    exact ⟨(D, r, dp, wk, sm), rfl, rfl, hI, c_9⟩
  · refine z_aload_n h d_S_reach_12 rfl ?_
    refine z_sipush (v := nI 704) h d_S_reach_13 (by decide) ?_
    refine z_iload_n h d_S_reach_16 rfl ?_
    refine z_iload_n h d_S_reach_17 rfl ?_
    refine z_iload_n h d_S_reach_18 rfl ?_
    refine z_iconst (v := nI 2) h d_S_reach_19 (by decide) ?_
    refine z_idivN h d_S_reach_20 (by omega) ?_
    refine z_iaddN h d_S_reach_21 ?_
    refine z_mmaxN h d_S_reach_22 wq_S_27 (by decide) (Nat.le_of_ble_eq_true rfl) (by decide) (by decide) (by omega) ?_
    refine z_mminN h d_S_reach_25 wq_S_33 (by decide) (Nat.le_of_ble_eq_true rfl) (by decide) (by decide) (by omega) ?_
    refine z_put (C := R_S) (T := F_S) (N := 5) (ty := .int) h 4 d_S_reach_28 in_S rfl ft_S_ok n_S (by decide) wf_S_36 rfl rfl rfl rfl rfl (Nat.le_of_ble_eq_true rfl) ?_
    obtain ⟨D', hD'⟩ : ∃ D', D' = min 704 (max wn (dp 3 + dp 3 / 2)) := ⟨_, rfl⟩
    rw [← hD']
    show Z 0 0 (sX D' r dp wk sm) _ _ _
    have hDD : 2 ≤ D' ∧ D' ≤ 704 ∧ wn ≤ D' := by omega
    refine z_aload_n h d_S_reach_31 rfl ?_
    refine z_get (C := R_S) (T := F_S) (N := 5) h 3 d_S_reach_32 in_S rfl (by decide) wf_S_24 rfl rfl ?_
    refine z_lconst (v := 0) h d_S_reach_35 (by decide) ?_
    rw [show (0 : Int64) = lI 0 from rfl]
    refine z_cS h (ms_JA_fillJ 705 0 sm (by decide)) (zf_JA_fillJ (by decide)) wm_S_40 wt_JA_fillJ d_S_reach_36 [9] (by decide) rfl (Nat.le_of_ble_eq_true rfl) rfl (fun _ => rfl) (fun x_36 hx_36 => ?_)
    show Z 0 0 (sX D' r dp wk (fiJ sm 705 0)) _ _ _
    refine z_aload_n h d_S_reach_39 rfl ?_
    refine z_iload_n h d_S_reach_40 rfl ?_
    refine z_cR h (ms_S_sumUp3 D' Q c G1 G2 GE HL HC r dp wk (fiJ sm 705 0) (by omega) hm (fun i hi => fiJ_0 (by omega))) (zf_S_sumUp (by decide)) wm_S_46 wi_S_sumUp ws_S_sumUp d_S_reach_41 (Nat.le_of_ble_eq_true rfl) rfl (fun x_41 hx_41 => ?_)
    obtain ⟨u1, u2⟩ := hx_41
    obtain ⟨T, hT1, hT2, hT3⟩ := set_T u2 hQ hlo.1 hlo.2 hDD.1
    refine z_aload_n h d_S_reach_44 rfl ?_
    refine z_iload_n h d_S_reach_45 rfl ?_
    refine z_cR h (ms_S_settle3 D' T r dp x_41.1 x_41.2 (by omega) hR.2.1 u1 hT1 hT2) (zf_S_settle (by decide)) wm_S_50 wi_S_settle ws_S_settle d_S_reach_46 (Nat.le_of_ble_eq_true rfl) rfl (fun x_46 hx_46 => ?_)
    obtain ⟨s1, s2⟩ := hx_46
    have hI2 := SI_upd (W := 3) hI hDD.2.1 s1 (by rw [s2]; exact hT3)
    have hdw : un dp 3 D' 3 = D' := un_eq
    refine z_aload_n h d_S_reach_49 rfl ?_
    refine z_get (C := R_S) (T := F_S) (N := 5) h 1 d_S_reach_50 in_S rfl (by decide) wf_S_16 rfl rfl ?_
    refine z_iload_n h d_S_reach_53 rfl ?_
    refine z_ialoadN h d_S_reach_54 rfl (by omega) ?_
    refine hr.1 _ _ _ _ _ _ (Nat.le_refl _) (Nat.le_refl _) rfl d_S_reach_55 ?_
    exact ⟨(D', ru r 3 x_46.1, un dp 3 D', x_41.1, x_46.2), rfl, rfl, hI2, by show wn ≤ un dp 3 D' 3; rw [hdw]; exact hDD.2.2⟩
set_option maxRecDepth 100000 in
set_option maxHeartbeats 4000000 in
theorem ms_S_reach4 (D Q wn : Nat) (c G1 G2 GE HL HC : Nat → Nat) (r : Nat → Nat → Nat) (dp : Nat → Nat) (wk sm : Nat → Int) (hm : Mst Q c G1 G2 GE HL HC) (hI : SI Q c r dp) (hw : 2 ≤ wn ∧ wn ≤ 704) : MS y_S_reach c_S_reach 4 (some .int) (rm 7) [.ref 0, .int (nI 4), .int (nI wn)] (sX D r dp wk sm) (zP (X := XS) (fun q => some (.int (nI (q.2.2.1 4)))) (fun q => sX q.1 q.2.1 q.2.2.1 q.2.2.2.1 q.2.2.2.2) (fun q => SI Q c q.2.1 q.2.2.1 ∧ wn ≤ q.2.2.1 4)) := by
  refine MS_of (own := R_S) (by decide) rfl (fun _ => Nat.le_of_ble_eq_true rfl) (fun Z h hr => ?_)
  have hR := hI 4 (by decide)
  have hd := hR.1
  obtain ⟨hw1, hw2⟩ := hw
  have hQ : 0 < Q := Nat.lt_of_lt_of_le (Nat.pow_pos (by decide)) hm.big
  have hlo := hm.lo 4 (by decide)
  refine z_aload_n h d_S_reach_0 rfl ?_
  refine z_get (C := R_S) (T := F_S) (N := 5) h 1 d_S_reach_1 in_S rfl (by decide) wf_S_16 rfl rfl ?_
  refine z_iload_n h d_S_reach_4 rfl ?_
  refine z_ialoadN h d_S_reach_5 rfl (by omega) ?_
  refine z_istore_n h d_S_reach_6 (by decide) ?_
  refine z_iload_n h d_S_reach_7 rfl ?_
  refine z_iload_n h d_S_reach_8 rfl ?_
  refine z_icmp_geN (tgt := 49) h d_S_reach_9 (by decide) (by omega) (fun c_9 => ?_) (fun c_9 => ?_)
  · refine z_aload_n h d_S_reach_49 rfl ?_
    refine z_get (C := R_S) (T := F_S) (N := 5) h 1 d_S_reach_50 in_S rfl (by decide) wf_S_16 rfl rfl ?_
    refine z_iload_n h d_S_reach_53 rfl ?_
    refine z_ialoadN h d_S_reach_54 rfl (by omega) ?_
    refine hr.1 _ _ _ _ _ _ (Nat.le_refl _) (Nat.le_refl _) rfl d_S_reach_55 ?_
    exact ⟨(D, r, dp, wk, sm), rfl, rfl, hI, c_9⟩
  · refine z_aload_n h d_S_reach_12 rfl ?_
    refine z_sipush (v := nI 704) h d_S_reach_13 (by decide) ?_
    refine z_iload_n h d_S_reach_16 rfl ?_
    refine z_iload_n h d_S_reach_17 rfl ?_
    refine z_iload_n h d_S_reach_18 rfl ?_
    refine z_iconst (v := nI 2) h d_S_reach_19 (by decide) ?_
    refine z_idivN h d_S_reach_20 (by omega) ?_
    refine z_iaddN h d_S_reach_21 ?_
    refine z_mmaxN h d_S_reach_22 wq_S_27 (by decide) (Nat.le_of_ble_eq_true rfl) (by decide) (by decide) (by omega) ?_
    refine z_mminN h d_S_reach_25 wq_S_33 (by decide) (Nat.le_of_ble_eq_true rfl) (by decide) (by decide) (by omega) ?_
    refine z_put (C := R_S) (T := F_S) (N := 5) (ty := .int) h 4 d_S_reach_28 in_S rfl ft_S_ok n_S (by decide) wf_S_36 rfl rfl rfl rfl rfl (Nat.le_of_ble_eq_true rfl) ?_
    obtain ⟨D', hD'⟩ : ∃ D', D' = min 704 (max wn (dp 4 + dp 4 / 2)) := ⟨_, rfl⟩
    rw [← hD']
    show Z 0 0 (sX D' r dp wk sm) _ _ _
    have hDD : 2 ≤ D' ∧ D' ≤ 704 ∧ wn ≤ D' := by omega
    refine z_aload_n h d_S_reach_31 rfl ?_
    refine z_get (C := R_S) (T := F_S) (N := 5) h 3 d_S_reach_32 in_S rfl (by decide) wf_S_24 rfl rfl ?_
    refine z_lconst (v := 0) h d_S_reach_35 (by decide) ?_
    rw [show (0 : Int64) = lI 0 from rfl]
    refine z_cS h (ms_JA_fillJ 705 0 sm (by decide)) (zf_JA_fillJ (by decide)) wm_S_40 wt_JA_fillJ d_S_reach_36 [9] (by decide) rfl (Nat.le_of_ble_eq_true rfl) rfl (fun _ => rfl) (fun x_36 hx_36 => ?_)
    show Z 0 0 (sX D' r dp wk (fiJ sm 705 0)) _ _ _
    refine z_aload_n h d_S_reach_39 rfl ?_
    refine z_iload_n h d_S_reach_40 rfl ?_
    refine z_cR h (ms_S_sumUp4 D' Q c G1 G2 GE HL HC r dp wk (fiJ sm 705 0) (by omega) hm (fun i hi => fiJ_0 (by omega))) (zf_S_sumUp (by decide)) wm_S_46 wi_S_sumUp ws_S_sumUp d_S_reach_41 (Nat.le_of_ble_eq_true rfl) rfl (fun x_41 hx_41 => ?_)
    obtain ⟨u1, u2⟩ := hx_41
    obtain ⟨T, hT1, hT2, hT3⟩ := set_T u2 hQ hlo.1 hlo.2 hDD.1
    refine z_aload_n h d_S_reach_44 rfl ?_
    refine z_iload_n h d_S_reach_45 rfl ?_
    refine z_cR h (ms_S_settle4 D' T r dp x_41.1 x_41.2 (by omega) hR.2.1 u1 hT1 hT2) (zf_S_settle (by decide)) wm_S_50 wi_S_settle ws_S_settle d_S_reach_46 (Nat.le_of_ble_eq_true rfl) rfl (fun x_46 hx_46 => ?_)
    obtain ⟨s1, s2⟩ := hx_46
    have hI2 := SI_upd (W := 4) hI hDD.2.1 s1 (by rw [s2]; exact hT3)
    have hdw : un dp 4 D' 4 = D' := un_eq
    refine z_aload_n h d_S_reach_49 rfl ?_
    refine z_get (C := R_S) (T := F_S) (N := 5) h 1 d_S_reach_50 in_S rfl (by decide) wf_S_16 rfl rfl ?_
    refine z_iload_n h d_S_reach_53 rfl ?_
    refine z_ialoadN h d_S_reach_54 rfl (by omega) ?_
    refine hr.1 _ _ _ _ _ _ (Nat.le_refl _) (Nat.le_refl _) rfl d_S_reach_55 ?_
    exact ⟨(D', ru r 4 x_46.1, un dp 4 D', x_41.1, x_46.2), rfl, rfl, hI2, by show wn ≤ un dp 4 D' 4; rw [hdw]; exact hDD.2.2⟩
