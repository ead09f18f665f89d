/-! the constants: both sides answer the same -/
theorem near_le {a b : Nat} (h : near a b = true) : a ≤ b + 1048576 ∧ b ≤ a + 1048576 := by
  obtain ⟨h1, h2⟩ := ble_and h
  exact ⟨Nat.le_of_ble_eq_true h1, Nat.le_of_ble_eq_true h2⟩
theorem near_fin {S Q e c : Nat} {s r : Int} (h : Nr S Q e s r) (hr : (r - c).natAbs ≤ 1048576) (hS : S ≤ Q) : (s * Q - ((c : Nat) : Int) * S).natAbs ≤ (e + 1048576) * Q := by
  unfold Nr at h
  rw [show s * (Q : Int) - ((c : Nat) : Int) * S = (s * Q - r * S) + (r - c) * S by rw [Int.sub_mul]; omega, Nat.add_mul]
  refine Nat.le_trans (Int.natAbs_add_le _ _) (Nat.add_le_add h ?_)
  rw [Int.natAbs_mul, Int.natAbs_natCast]
  exact Nat.mul_le_mul hr hS
theorem rA_snd (x c n : Nat) (h : 50 * c = n) : (alt (pA qM x) n).toNat = (rA x c).2 := by
  subst h
  rw [rA_eq]
theorem rC_snd (c n : Nat) (h : 50 * c = n) : (alt (pC qM) n).toNat = (rC c).2 := by
  subst h
  rw [rC_eq]
theorem tA5 : tA qM 5 4600 = 0 := by
  obtain ⟨h1, -⟩ := ble_and R0k
  have := Nat.eq_of_beq_eq_true h1
  rw [rA_eq] at this
  exact this
theorem tA239 : tA qM 239 1350 = 0 := by
  obtain ⟨-, h1⟩ := ble_and R0k
  obtain ⟨h1, -⟩ := ble_and h1
  have := Nat.eq_of_beq_eq_true h1
  rw [rA_eq] at this
  exact this
theorem near0 (X Y : Nat) (hX : X = (rA 5 92).2) (hY : Y = (rA 239 27).2) : 16 * X ≤ 4 * Y + cL0 + 1048576 ∧ 4 * Y + cL0 ≤ 16 * X + 1048576 := by
  obtain ⟨-, h1⟩ := ble_and R0k
  obtain ⟨-, h1⟩ := ble_and h1
  rw [← hX, ← hY] at h1
  exact near_le h1
theorem tE1 : tE qM 2250 = 0 := by
  obtain ⟨h1, -⟩ := ble_and R1k
  have := Nat.eq_of_beq_eq_true h1
  rw [rE_eq] at this
  exact this
theorem near1 : sE qM 2250 ≤ cL1 + 1048576 ∧ cL1 ≤ sE qM 2250 + 1048576 := by
  obtain ⟨-, h1⟩ := ble_and R1k
  have := near_le h1
  rw [rE_eq] at this
  exact this
theorem tH1 : tH qM 21250 = 0 := by
  obtain ⟨h1, -⟩ := ble_and R3k
  have := Nat.eq_of_beq_eq_true h1
  rw [rH_eq] at this
  exact this
theorem near3 : sH qM 21250 ≤ cL3 + 1048576 ∧ cL3 ≤ sH qM 21250 + 1048576 := by
  obtain ⟨-, h1⟩ := ble_and R3k
  have := near_le h1
  rw [rH_eq] at this
  exact this
theorem tC1 : tC qM 10650 = 0 := by
  obtain ⟨h1, -⟩ := ble_and R4k
  have := Nat.eq_of_beq_eq_true h1
  rw [rC_eq] at this
  exact this
theorem near4 (X : Nat) (hX : X = (rC 213).2) : 5 * X / 2 ≤ cL4 + 1048576 ∧ cL4 ≤ 5 * X / 2 + 1048576 := by
  obtain ⟨-, h1⟩ := ble_and R4k
  rw [← hX] at h1
  exact near_le h1
theorem near_nat {a c : Nat} (h1 : a ≤ c + 1048576) (h2 : c ≤ a + 1048576) : ((a : Int) - c).natAbs ≤ 1048576 := by omega
theorem half_Nr {S Q e : Nat} {a b : Nat} (hS : S ≤ Q) (h : Nr S Q e a b) : Nr S Q (e + 1) ((a / 2 : Nat) : Int) ((b / 2 : Nat) : Int) := by
  unfold Nr at *
  have h1 := Nat.div_add_mod a 2
  have h2 := Nat.div_add_mod b 2
  have h3 : a % 2 < 2 := Nat.mod_lt _ (by decide)
  have h4 : b % 2 < 2 := Nat.mod_lt _ (by decide)
  generalize a / 2 = a' at *
  generalize b / 2 = b' at *
  generalize a % 2 = ra at *
  generalize b % 2 = rb at *
  have e1 : (2 : Int) * ((a' : Int) * Q - (b' : Int) * S) = ((a : Int) * Q - (b : Int) * S) + ((rb : Int) * S - (ra : Int) * Q) := by
    have i1 : (2 : Int) * a' + ra = (a : Int) := by omega
    have i2 : (2 : Int) * b' + rb = (b : Int) := by omega
    grind
  have r1 : rb * S ≤ 1 * Q := Nat.mul_le_mul (by omega) hS
  have r2 : ra * Q ≤ 1 * Q := Nat.mul_le_mul (by omega) (Nat.le_refl _)
  have c1 : (rb : Int) * S = ((rb * S : Nat) : Int) := (Int.natCast_mul _ _).symm
  have c2 : (ra : Int) * Q = ((ra * Q : Nat) : Int) := (Int.natCast_mul _ _).symm
  rw [c1, c2] at e1
  rw [Nat.add_mul]
  generalize e * Q = eQ at *
  omega
theorem comb16 {S Q e1 e2 c : Nat} {s a b a' b' : Int} (h3 : s = 16 * a - 4 * b) (n1 : Nr S Q e1 a a') (n2 : Nr S Q e2 b b') (ha : 0 ≤ a') (hb : 0 ≤ b') (h1 : 16 * a'.toNat ≤ 4 * b'.toNat + c + 1048576) (h2 : 4 * b'.toNat + c ≤ 16 * a'.toNat + 1048576) (hS : S ≤ Q) : (s * Q - ((c : Nat) : Int) * S).natAbs ≤ (16 * e1 + 4 * e2 + 1048576) * Q := by
  have n3 := Nr_add (Nr_mul 16 n1) (Nr_neg (Nr_mul 4 n2))
  rw [show ((16 : Nat) : Int) = 16 from rfl, show ((4 : Nat) : Int) = 4 from rfl, show 16 * a + -(4 * b) = s by omega] at n3
  exact near_fin n3 (by omega) hS
theorem comb5 {S Q e c s : Nat} {a b : Int} (h2 : s = (5 * a).toNat / 2) (n1 : Nr S Q e a b) (ha : 0 ≤ a) (hb : 0 ≤ b) (g1 : 5 * b.toNat / 2 ≤ c + 1048576) (g2 : c ≤ 5 * b.toNat / 2 + 1048576) (hS : S ≤ Q) : ((s : Int) * Q - ((c : Nat) : Int) * S).natAbs ≤ (5 * e + 1 + 1048576) * Q := by
  have n2 := Nr_mul 5 n1
  rw [show ((5 : Nat) : Int) = 5 from rfl, show 5 * a = (((5 * a).toNat : Nat) : Int) by omega, show 5 * b = ((5 * b.toNat : Nat) : Int) by omega] at n2
  have n3 := half_Nr hS n2
  rw [← h2] at n3
  exact near_fin n3 (near_nat g1 g2) hS
/-- the reference's sum, near the number -/
theorem RefS_near {W S s : Nat} (hS : S ≤ qM) (h : RefS W S s) : ((s : Int) * qM - ((cM W : Nat) : Int) * S).natAbs ≤ 2097152 * qM := by
  have up : ∀ {e : Nat}, e + 1048576 ≤ 2097152 → (e + 1048576) * qM ≤ 2097152 * qM := fun he => Nat.mul_le_mul_right qM he
  rcases h with ⟨rfl, K1, K2, h1, h2, h3⟩ | ⟨rfl, K, h1, h2⟩ | ⟨rfl, K, h1, h2⟩ | ⟨rfl, K, h1, h2⟩
  · have z1 : tA S 5 4600 = 0 := Nat.le_zero.mp (Nat.le_trans (tA_mono hS 4600) (Nat.le_of_eq tA5))
    have z2 : tA S 239 1350 = 0 := Nat.le_zero.mp (Nat.le_trans (tA_mono hS 1350) (Nat.le_of_eq tA239))
    rw [alt_two (tA_z h1) (tA_z z1), alt_two (tA_z h2) (tA_z z2)] at h3
    have a1 := (alt_nn (P := pA qM 5) pA_anti 4600).1
    have a2 := (alt_nn (P := pA qM 239) pA_anti 1350).1
    have g := near0 (alt (pA qM 5) 4600).toNat (alt (pA qM 239) 1350).toNat (rA_snd 5 92 4600 (by decide)) (rA_snd 239 27 1350 (by decide))
    rw [cM0]
    have n1 := alt_Nr (pA_Nr hS (show 0 < 5 by decide)) 4600
    have n2 := alt_Nr (pA_Nr hS (show 0 < 239 by decide)) 1350
    generalize alt (pA qM 5) 4600 = x1 at *
    generalize alt (pA qM 239) 1350 = x2 at *
    have n3 := comb16 h3 n1 n2 a1 a2 g.1 g.2 hS
    have n4 : (16 * (2 * 4600) + 4 * (2 * 1350) + 1048576) * qM ≤ 2097152 * qM := Nat.mul_le_mul_right qM (by decide)
    exact Nat.le_trans n3 n4
  · have z1 : tE S 2250 = 0 := Nat.le_zero.mp (Nat.le_trans (tE_mono hS 2250) (Nat.le_of_eq tE1))
    rw [h2, ext_two (f := sE S) (sE_ext h1) (sE_ext z1), cM1]
    exact Nat.le_trans (near_fin (sE_Nr hS 2250) (near_nat near1.1 near1.2) hS) (up (by decide))
  · have z1 : tH S 21250 = 0 := Nat.le_zero.mp (Nat.le_trans (tH_mono hS 21250) (Nat.le_of_eq tH1))
    rw [h2, ext_two (f := sH S) (sH_ext h1) (sH_ext z1), cM3]
    exact Nat.le_trans (near_fin (sH_Nr hS 21250) (near_nat near3.1 near3.2) hS) (up (by decide))
  · have z1 : tC S 10650 = 0 := Nat.le_zero.mp (Nat.le_trans (tC_mono hS 10650) (Nat.le_of_eq tC1))
    rw [alt_two (tC_z h1) (tC_z z1)] at h2
    have a1 := (alt_nn (P := pC qM) pC_anti 10650).1
    have a2 := (alt_nn (P := pC S) pC_anti 10650).1
    have g := near4 (alt (pC qM) 10650).toNat (rC_snd 213 10650 (by decide))
    rw [cM4]
    have n1 := alt_Nr (pC_Nr hS) 10650
    generalize alt (pC qM) 10650 = x1 at *
    have n3 := comb5 h2 n1 a2 a1 g.1 g.2 hS
    exact Nat.le_trans n3 (up (by decide))
theorem cM_ok {W b n : Nat} (hW : W = 0 ∨ W = 1 ∨ W = 3 ∨ W = 4) (hb : 2 ≤ b ∧ b < 37) (hn : n ≤ 6000) (hnb : n * bl (b - 1) ≤ 20000) : Okn (cM W) b n := by
  rcases hW with rfl | rfl | rfl | rfl
  · rw [cM0]; exact okn0 hb hn hnb
  · rw [cM1]; exact okn1 hb hn hnb
  · rw [cM3]; exact okn3 hb hn hnb
  · rw [cM4]; exact okn4 hb hn hnb
/-- the answer: the whole part of the number times b^n -/
def ansM (W b n : Nat) : Nat := cM W * b ^ n / qM
theorem con_cls {W b n : Nat} (hW : W = 0 ∨ W = 1 ∨ W = 3 ∨ W = 4) (hb : 2 ≤ b ∧ b < 37) (hn : n ≤ 6000) (hnb : n * bl (b - 1) ≤ 20000) : ∀ D R, n * bl (b - 1) + 31 + 60 ≤ 30 * D → D ≤ 704 → (((R : Nat) : Int) * qM - ((cM W : Nat) : Int) * (1073741824 ^ D : Nat)).natAbs ≤ 2147483648 * qM → R * b ^ n / 1073741824 ^ D = ansM W b n := fun _ _ hD _ h => cls_ok hb (cM_ok hW hb hn hnb) hD h
theorem ws_abs {s w Q c S : Nat} (h : ((s : Int) * Q - ((c : Nat) : Int) * S).natAbs ≤ 2097152 * Q) (hc : Q ≤ 2 * c) (hS : 1152921504606846976 ≤ S) (hQ : 0 < Q) (hw : w ≤ 8388608) : w ≤ s := by
  apply Nat.le_of_not_lt
  intro q
  have e1 : Q * 1152921504606846976 ≤ 2 * c * S := Nat.mul_le_mul hc hS
  have e2 : s * Q ≤ 8388608 * Q := Nat.mul_le_mul_right Q (by omega)
  have c1 : (s : Int) * Q = ((s * Q : Nat) : Int) := (Int.natCast_mul _ _).symm
  have c2 : (c : Int) * S = ((c * S : Nat) : Int) := (Int.natCast_mul _ _).symm
  rw [c1, c2] at h
  rw [Nat.mul_assoc] at e1
  generalize s * Q = y at *
  generalize c * S = z at *
  omega
theorem S_le {b n : Nat} (hbn : b ^ n ≤ 2 ^ 20000) : b ^ n * 1152921504606846976 ≤ qM := by
  refine Nat.le_trans ?_ q704
  calc b ^ n * 1152921504606846976 ≤ 2 ^ 20000 * 2 ^ 60 := Nat.mul_le_mul hbn (by decide)
    _ = 2 ^ 20060 := (Nat.pow_add 2 20000 60).symm
    _ ≤ 1073741824 ^ 704 := by rw [p30]; exact Nat.pow_le_pow_right (by decide) (by decide)
theorem con_ref {W b n : Nat} (hW : W = 0 ∨ W = 1 ∨ W = 3 ∨ W = 4) (hb : 2 ≤ b ∧ b < 37) (hn : n ≤ 6000) (hnb : n * bl (b - 1) ≤ 20000) : ∀ s, RefS W (b ^ n * 32768 ^ 4) s → ∀ w, w ≤ 8388608 → w ≤ s ∧ (s - w) / 32768 ^ 4 = ansM W b n ∧ (s + w) / 32768 ^ 4 = ansM W b n := by
  have e4 : (32768 : Nat) ^ 4 = 1152921504606846976 := by decide
  rw [e4]
  intro s hs w hw
  have hbn := bn_le hb.1 hnb
  have hnear := RefS_near (S_le hbn) hs
  have hS1 : 1152921504606846976 ≤ b ^ n * 1152921504606846976 := Nat.le_mul_of_pos_left _ (Nat.pow_pos (by omega))
  have hws : w ≤ s := ws_abs hnear (Mst_ok.lo W hW).1 hS1 qM0 hw
  exact ⟨hws, ref_ok (cM_ok hW hb hn hnb) hnear hw hws⟩
theorem ans_le {Q c P : Nat} (hc : c ≤ 4 * Q) (hQ : 0 < Q) : c * P / Q ≤ 4 * P := by
  apply Nat.div_le_of_le_mul
  calc c * P ≤ 4 * Q * P := Nat.mul_le_mul_right P hc
    _ = Q * (4 * P) := by rw [Nat.mul_comm 4 Q, Nat.mul_assoc]
theorem con_bl {W b n : Nat} (hW : W = 0 ∨ W = 1 ∨ W = 3 ∨ W = 4) (hb : 2 ≤ b ∧ b < 37) (hnb : n * bl (b - 1) ≤ 20000) : bl (ansM W b n) ≤ 24000 := by
  have hbn := bn_le hb.1 hnb
  have h1 : ansM W b n ≤ 4 * b ^ n := ans_le (Mst_ok.lo W hW).2 qM0
  have h2 : 4 * b ^ n ≤ 4 * 2 ^ 20000 := Nat.mul_le_mul_left 4 hbn
  have h3 : 4 * 2 ^ 20000 < 2 ^ 20003 := by
    rw [show (4 : Nat) = 2 ^ 2 from rfl, ← Nat.pow_add]
    exact Nat.pow_lt_pow_right (by decide) (by decide)
  exact Nat.le_trans (bl_lt (Nat.lt_of_le_of_lt (Nat.le_trans h1 h2) h3)) (by decide)
