/-! the four numbers: that the series lead there -/
def cM (W : Nat) : Nat := if W = 0 then cL0 else if W = 1 then cL1 else if W = 3 then cL3 else cL4
theorem dn_le {f : Nat → Nat → Nat} {K lo b : Nat} (hf : ∀ k m, lo ≤ k → k ≤ K → m ≤ b → f k m ≤ b) : ∀ j, lo + j ≤ K + 1 → dn f K j ≤ b
  | 0, _ => Nat.zero_le _
  | j + 1, h => hf (K - j) (dn f K j) (by omega) (by omega) (dn_le hf j (by omega))
theorem dnG_le {f : Nat → Nat → Nat} {K lo b k : Nat} (hf : ∀ k m, lo ≤ k → k ≤ K → m ≤ b → f k m ≤ b) (hk : lo ≤ k + 1) (hk2 : k ≤ K) : dnG f K k ≤ b := dn_le hf (K - k) (by omega)
theorem fA_le0 {Q x k m : Nat} (hx : 2 ≤ x) (hm : m ≤ Q) : (m + Q) * (2 * k) / ((2 * k + 1) * x) ≤ Q := by
  apply Nat.div_le_of_le_mul
  calc (m + Q) * (2 * k) ≤ (2 * Q) * (2 * k) := Nat.mul_le_mul_right _ (by omega)
    _ = (2 * k) * 2 * Q := (Nat.mul_comm _ _).trans (Nat.mul_assoc (2 * k) 2 Q).symm
    _ ≤ (2 * k + 1) * x * Q := Nat.mul_le_mul_right _ (Nat.mul_le_mul (by omega) hx)
theorem fA_le {x k m : Nat} (hx : 2 ≤ x) (hm : m ≤ qM) : fA x k m ≤ qM := fA_le0 hx hm
theorem fE_le0 {Q k m : Nat} (hk : 2 ≤ k) (hm : m ≤ Q) : (m + Q) / k ≤ Q := by
  apply Nat.div_le_of_le_mul
  calc m + Q ≤ 2 * Q := by omega
    _ ≤ k * Q := Nat.mul_le_mul_right _ hk
theorem fE_le {k m : Nat} (hk : 2 ≤ k) (hm : m ≤ qM) : fE k m ≤ qM := fE_le0 hk hm
theorem fL_le0 {Q k m : Nat} : (Q - m) * k / (4 * (2 * k + 1)) ≤ Q := by
  apply Nat.div_le_of_le_mul
  calc (Q - m) * k ≤ Q * k := Nat.mul_le_mul_right _ (Nat.sub_le _ _)
    _ = k * Q := Nat.mul_comm _ _
    _ ≤ 4 * (2 * k + 1) * Q := Nat.mul_le_mul_right _ (by omega)
theorem fL_le {k m : Nat} : fL k m ≤ qM := fL_le0
theorem q4 {X k : Nat} : X * (k * k) / ((2 * k + 1) * (2 * k + 1)) ≤ X / 4 := by
  have h0 : 0 < (2 * k + 1) * (2 * k + 1) := Nat.mul_pos (by omega) (by omega)
  rw [Nat.le_div_iff_mul_le (by decide)]
  have h1 : (2 * k + 1) * (2 * k + 1) = 4 * (k * k) + 4 * k + 1 := by grind
  have h2 := Nat.div_mul_le_self (X * (k * k)) ((2 * k + 1) * (2 * k + 1))
  generalize X * (k * k) / ((2 * k + 1) * (2 * k + 1)) = y at *
  rcases Nat.eq_zero_or_pos (k * k) with q | q
  · rw [q, Nat.mul_zero] at h2
    have : y = 0 := by
      rcases Nat.eq_zero_or_pos y with e | e
      · exact e
      · have := Nat.mul_pos e h0
        omega
    omega
  · apply Nat.le_of_mul_le_mul_right (c := k * k) _ q
    calc y * 4 * (k * k) = y * (4 * (k * k)) := Nat.mul_assoc _ _ _
      _ ≤ y * ((2 * k + 1) * (2 * k + 1)) := Nat.mul_le_mul_left y (by omega)
      _ ≤ X * (k * k) := h2
theorem q64 {X k : Nat} : X * k / (32 * (2 * k + 1)) ≤ X / 64 := by
  rw [Nat.le_div_iff_mul_le (by decide)]
  have h2 := Nat.div_mul_le_self (X * k) (32 * (2 * k + 1))
  generalize X * k / (32 * (2 * k + 1)) = y at *
  rcases Nat.eq_zero_or_pos k with q | q
  · subst q
    omega
  · apply Nat.le_of_mul_le_mul_right (c := k) _ q
    calc y * 64 * k = y * (64 * k) := Nat.mul_assoc _ _ _
      _ ≤ y * (32 * (2 * k + 1)) := Nat.mul_le_mul_left y (by omega)
      _ ≤ X * k := h2
theorem hz_le {Q h k : Nat} : hz Q h k ≤ pz k * Q / 1024 := by
  unfold hz
  have e1 := @q4 (pz k * Q - h) k
  have e2 := @q4 ((pz k * Q - h) * (k * k) / ((2 * k + 1) * (2 * k + 1))) k
  have e3 := @q64 ((pz k * Q - h) * (k * k) / ((2 * k + 1) * (2 * k + 1)) * (k * k) / ((2 * k + 1) * (2 * k + 1))) k
  generalize (pz k * Q - h) * (k * k) / ((2 * k + 1) * (2 * k + 1)) * (k * k) / ((2 * k + 1) * (2 * k + 1)) * k / (32 * (2 * k + 1)) = y3 at *
  generalize (pz k * Q - h) * (k * k) / ((2 * k + 1) * (2 * k + 1)) * (k * k) / ((2 * k + 1) * (2 * k + 1)) = y2 at *
  generalize (pz k * Q - h) * (k * k) / ((2 * k + 1) * (2 * k + 1)) = y1 at *
  generalize pz k * Q = z at *
  omega
theorem pz_2200 {k : Nat} (hk : k ≤ 2200) : pz k ≤ 1073741824 := by
  have h1 : k * k ≤ 2200 * 2200 := Nat.mul_le_mul hk hk
  unfold pz
  rw [Nat.mul_assoc]
  omega
theorem pz_s {k : Nat} : pz (k + 1) ≤ 1024 * pz k := by
  unfold pz
  rw [Nat.mul_assoc, Nat.mul_assoc, show (k + 1) * (k + 1) = k * k + 2 * k + 1 by grind]
  omega
theorem d1024 {p Q m : Nat} (h : p ≤ 1024 * m) : p * Q / 1024 ≤ m * Q := by
  apply Nat.div_le_of_le_mul
  rw [← Nat.mul_assoc]
  exact Nat.mul_le_mul_right Q h
theorem HCq (k : Nat) (hk : k ≤ 2200) : dnG fZ 2200 k ≤ 1048576 * qM ∧ dnG fZ 2200 k ≤ pz k * qM := by
  by_cases e : k = 2200
  · subst e
    rw [dnG_top]
    exact ⟨Nat.zero_le _, Nat.zero_le _⟩
  · rw [dnG_eq (by omega)]
    have h1 : fZ (k + 1) (dnG fZ 2200 (k + 1)) ≤ pz (k + 1) * qM / 1024 := hz_le
    exact ⟨Nat.le_trans h1 (d1024 (Nat.le_trans (pz_2200 (by omega)) (by decide))), Nat.le_trans h1 (d1024 pz_s)⟩
theorem q704 : 1073741824 ^ 704 ≤ qM := by
  unfold qM
  have e1 : (2 ^ 19) ^ 1112 ≤ (3 ^ 12) ^ 1112 := Nat.pow_le_pow_left (by decide) 1112
  rw [← Nat.pow_mul, ← Nat.pow_mul] at e1
  rw [p30]
  exact Nat.le_trans (Nat.pow_le_pow_right (by decide) (show 30 * 704 ≤ 19 * 1112 by decide)) (Nat.le_trans e1 (Nat.pow_le_pow_right (by decide) (show 12 * 1112 ≤ 13401 by decide)))
theorem ble_and {a b : Bool} (h : (a && b) = true) : a = true ∧ b = true := by
  cases a <;> cases b <;> simp_all
theorem Llo8 : (qM ≤ 2 * cL0 ∧ qM ≤ 2 * cL1 ∧ qM ≤ 2 * cL3 ∧ qM ≤ 2 * cL4) ∧ cL0 ≤ 4 * qM ∧ cL1 ≤ 4 * qM ∧ cL3 ≤ 4 * qM ∧ cL4 ≤ 4 * qM := by
  have h := Llo
  obtain ⟨h, a8⟩ := ble_and h
  obtain ⟨h, a7⟩ := ble_and h
  obtain ⟨h, a6⟩ := ble_and h
  obtain ⟨h, a5⟩ := ble_and h
  obtain ⟨h, a4⟩ := ble_and h
  obtain ⟨h, a3⟩ := ble_and h
  obtain ⟨a1, a2⟩ := ble_and h
  exact ⟨⟨Nat.le_of_ble_eq_true a1, Nat.le_of_ble_eq_true a2, Nat.le_of_ble_eq_true a3, Nat.le_of_ble_eq_true a4⟩, Nat.le_of_ble_eq_true a5, Nat.le_of_ble_eq_true a6, Nat.le_of_ble_eq_true a7, Nat.le_of_ble_eq_true a8⟩
theorem cM0 : cM 0 = cL0 := if_pos rfl
theorem cM1 : cM 1 = cL1 := by unfold cM; rw [if_neg (by decide), if_pos rfl]
theorem cM3 : cM 3 = cL3 := by unfold cM; rw [if_neg (by decide), if_neg (by decide), if_pos rfl]
theorem cM4 : cM 4 = cL4 := by unfold cM; rw [if_neg (by decide), if_neg (by decide), if_neg (by decide)]
theorem dA1 : dnG (fA 26) 4550 0 = dnK (fA 26) 4550 91 := dnK_eq (by decide)
theorem dA2 : dnG (fA 57122) 1350 0 = dnK (fA 57122) 1350 27 := dnK_eq (by decide)
theorem dE1 : dnG fE 3000 0 = dnK fE 3000 60 := dnK_eq (by decide)
theorem dL1 : dnG fL 7100 0 = dnK fL 7100 142 := dnK_eq (by decide)
theorem dZ1 : dnG fZ 2200 0 = dnK fZ 2200 44 := dnK_eq (by decide)
set_option maxRecDepth 100000 in
theorem Mst_ok : Mst qM cM (dnG (fA 26) 4550) (dnG (fA 57122) 1350) (dnG fE 3000) (dnG fL 7100) (dnG fZ 2200) := by
  refine ⟨q704, fun k hk => dnG_eq hk, fun k hk => dnG_le (lo := 0) (fun k m _ _ hm => fA_le (by decide) hm) (Nat.zero_le _) hk, fun k hk => dnG_eq hk, fun k hk => dnG_le (lo := 0) (fun k m _ _ hm => fA_le (by decide) hm) (Nat.zero_le _) hk, fun k hk => dnG_eq hk, fun k h1 hk => dnG_le (lo := 2) (fun k m h _ hm => fE_le h hm) (by omega) hk, fun k hk => dnG_eq hk, fun k hk => dnG_le (lo := 0) (fun k m _ _ hm => fL_le) (Nat.zero_le _) hk, fun k hk => dnG_eq hk, fun k hk => (HCq k hk).1, fun k hk => (HCq k hk).2, ⟨?_, ?_⟩, ?_, ?_, ?_, ?_⟩
  · rw [dA1, dA2]
    exact Nat.le_of_ble_eq_true L0l
  · rw [dA1, dA2, cM0]
    exact (Nat.eq_of_beq_eq_true L0k).symm
  · rw [dE1, cM1]
    exact (Nat.eq_of_beq_eq_true L1k).symm
  · rw [dL1, cM3]
    exact (Nat.eq_of_beq_eq_true L3k).symm
  · rw [dZ1, cM4]
    exact (Nat.eq_of_beq_eq_true L4k).symm
  · obtain ⟨⟨a1, a2, a3, a4⟩, a5, a6, a7, a8⟩ := Llo8
    intro W hW
    rcases hW with rfl | rfl | rfl | rfl
    · rw [cM0]; exact ⟨a1, a5⟩
    · rw [cM1]; exact ⟨a2, a6⟩
    · rw [cM3]; exact ⟨a3, a7⟩
    · rw [cM4]; exact ⟨a4, a8⟩
