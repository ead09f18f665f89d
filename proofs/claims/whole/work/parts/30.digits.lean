/-! digits of a number in a base -/
def ndF (b : Nat) : Nat → Nat → Nat
  | 0, _ => 1
  | m + 1, v => if v < b then 1 else ndF b m (v / b) + 1
/-- how many digits v has in base b -/
def nd (b v : Nat) : Nat := ndF b v v
theorem ndF_spec {b : Nat} (hb : 2 ≤ b) : ∀ (m v : Nat), v ≤ m → 1 ≤ ndF b m v ∧ v < b ^ ndF b m v ∧ (ndF b m v = 1 ∨ b ^ (ndF b m v - 1) ≤ v)
  | 0, v, h => by
    have : v = 0 := by omega
    subst this
    refine ⟨Nat.le_refl 1, ?_, Or.inl rfl⟩
    show 0 < b ^ 1
    rw [Nat.pow_one]
    omega
  | m + 1, v, h => by
    show 1 ≤ (if v < b then 1 else ndF b m (v / b) + 1) ∧ v < b ^ (if v < b then 1 else ndF b m (v / b) + 1) ∧ ((if v < b then 1 else ndF b m (v / b) + 1) = 1 ∨ b ^ ((if v < b then 1 else ndF b m (v / b) + 1) - 1) ≤ v)
    split
    · rename_i h1
      exact ⟨Nat.le_refl 1, by rw [Nat.pow_one]; exact h1, Or.inl rfl⟩
    · rename_i h1
      have h2 : v / b < v := Nat.div_lt_self (by omega) (by omega)
      obtain ⟨g1, g2, g3⟩ := ndF_spec hb m (v / b) (by omega)
      refine ⟨by omega, ?_, Or.inr ?_⟩
      · rw [Nat.pow_succ]
        exact (Nat.div_lt_iff_lt_mul (by omega)).mp g2
      · rw [Nat.add_sub_cancel]
        rcases g3 with g3 | g3
        · rw [g3, Nat.pow_one]
          omega
        · have e : ndF b m (v / b) = (ndF b m (v / b) - 1) + 1 := by omega
          rw [e, Nat.pow_succ]
          exact Nat.le_trans (Nat.mul_le_mul_right b g3) (Nat.div_mul_le_self v b)
theorem nd_spec {b : Nat} (hb : 2 ≤ b) (v : Nat) : 1 ≤ nd b v ∧ v < b ^ nd b v ∧ (nd b v = 1 ∨ b ^ (nd b v - 1) ≤ v) := ndF_spec hb v v (Nat.le_refl v)
theorem nd_uniq {b v d : Nat} (hb : 2 ≤ b) (h1 : 1 ≤ d) (h2 : v < b ^ d) (h3 : d = 1 ∨ b ^ (d - 1) ≤ v) : d = nd b v := by
  obtain ⟨g1, g2, g3⟩ := nd_spec hb v
  rcases Nat.lt_trichotomy d (nd b v) with q | q | q
  · rcases g3 with g3 | g3
    · omega
    · have : b ^ d ≤ b ^ (nd b v - 1) := Nat.pow_le_pow_right (by omega) (by omega)
      omega
  · exact q
  · rcases h3 with h3 | h3
    · omega
    · have : b ^ nd b v ≤ b ^ (d - 1) := Nat.pow_le_pow_right (by omega) (by omega)
      omega
theorem dpg_lo : ∀ b, b < 37 → 2 ≤ b → 33554432 ≤ b ^ dpg b := by decide +kernel
/-- the value of groups of base G, limb k of it -/
theorem nv_dig {G : Nat} {g : Nat → Nat} (hG : 0 < G) : ∀ {n k : Nat}, k < n → (∀ j, j < n → g j < G) → nv G g n / G ^ k % G = g k := by
  intro n k hk hg
  have e1 := nv_split (B := G) (a := g) (k := k) (m := n - k)
  rw [show k + (n - k) = n by omega] at e1
  have e2 : nv G g k < G ^ k := nv_lt fun j hj => hg j (by omega)
  have e3 : nv G g n / G ^ k = nv G (sh g k) (n - k) := by rw [e1, Nat.add_mul_div_right _ _ (Nat.pow_pos hG), Nat.div_eq_of_lt e2, Nat.zero_add]
  have e4 := nv_split (B := G) (a := sh g k) (k := 1) (m := n - k - 1)
  rw [show 1 + (n - k - 1) = n - k by omega] at e4
  have e5 : nv G (sh g k) 1 = g k := by
    show 0 + sh g k 0 * G ^ 0 = g k
    unfold sh
    simp
  rw [e3, e4, e5, Nat.pow_one, Nat.add_mul_mod_self_right, Nat.mod_eq_of_lt (hg k hk)]
/-- the digit with b^j of v -/
def dig (b v j : Nat) : Nat := v / b ^ j % b
theorem grp_dig {b p v k r : Nat} (hb : 0 < b) (hr : r < p) : (v / (b ^ p) ^ k % b ^ p) / b ^ r % b = dig b v (p * k + r) := by
  unfold dig
  rw [← Nat.pow_mul]
  generalize hx : v / b ^ (p * k) = x
  have e1 : v / b ^ (p * k + r) = x / b ^ r := by rw [Nat.pow_add, ← Nat.div_div_eq_div_mul, hx]
  rw [e1]
  have e2 : b ^ p = b ^ r * (b * b ^ (p - r - 1)) := by
    rw [← Nat.mul_assoc, ← Nat.pow_succ, ← Nat.pow_add]
    congr 1
    omega
  rw [e2, Nat.mod_mul_right_div_self, Nat.mod_mul_right_mod]
/-- the sum of the lowest n digits -/
def dsm (b v : Nat) : Nat → Nat
  | 0 => 0
  | n + 1 => dsm b v n + dig b v n
theorem dig_0 {b v j : Nat} (h : v < b ^ j) : dig b v j = 0 := by
  unfold dig
  rw [Nat.div_eq_of_lt h, Nat.zero_mod]
theorem dsm_more {b v n : Nat} (hb : 2 ≤ b) (h : v < b ^ n) : ∀ {m : Nat}, n ≤ m → dsm b v m = dsm b v n
  | 0, hm => by rw [show n = 0 by omega]
  | m + 1, hm => by
    by_cases e : n = m + 1
    · rw [e]
    · show dsm b v m + dig b v m = _
      rw [dsm_more hb h (m := m) (by omega), dig_0 (Nat.lt_of_lt_of_le h (Nat.pow_le_pow_right (by omega) (by omega))), Nat.add_zero]
theorem dig_lt {b v j : Nat} (hb : 0 < b) : dig b v j < b := Nat.mod_lt _ hb
theorem dsm_le {b v : Nat} (hb : 0 < b) : ∀ n, dsm b v n ≤ n * b
  | 0 => Nat.zero_le _
  | n + 1 => by
    have h1 := dsm_le hb (b := b) (v := v) n
    have h2 := dig_lt (v := v) (j := n) hb
    show dsm b v n + dig b v n ≤ (n + 1) * b
    rw [Nat.add_mul]
    omega
/-! the state of a Text -/
abbrev tx (p1 b p3 gu pg p5 dg td : Nat) : va_E := .inr (2, [.ref p1, .int (nI b), .ref p3, .int (nI gu), .int (nI pg), .ref p5, .int (nI dg), .int (nI td)])
def Tld (b v gu pg dg : Nat) (g pw : Nat → Nat) : Prop := pg = dpg b ∧ (∀ j, j ≤ pg → pw j = b ^ j) ∧ 1 ≤ gu ∧ (∀ j, j < gu → g j < b ^ pg) ∧ nv (b ^ pg) g gu = v ∧ (gu = 1 ∨ g (gu - 1) ≠ 0) ∧ dg = nd b v
def TI (b v s : Nat) (a : Nat → Nat) (gu pg dg td : Nat) (g pw : Nat → Nat) : Prop := Rp 1073741824 800 a s v ∧ (2 ≤ b ∧ b < 37) ∧ gu ≤ 960 ∧ (∀ j, g j < 2 ^ 31) ∧ (∀ j, pw j < 2 ^ 31) ∧ pg < 2 ^ 31 ∧ dg < 2 ^ 31 ∧ td ≤ 1 ∧ (td = 1 → Tld b v gu pg dg g pw)
