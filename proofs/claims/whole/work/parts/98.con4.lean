/-! the reference's sums against the four numbers -/
def Nr (S Q e : Nat) (a b : Int) : Prop := (a * Q - b * S).natAbs ≤ e * Q
theorem Nr_le {S Q e e' : Nat} {a b : Int} (h : Nr S Q e a b) (he : e ≤ e') : Nr S Q e' a b := Nat.le_trans h (Nat.mul_le_mul_right Q he)
theorem Nr_add {S Q e e' : Nat} {a b a' b' : Int} (h : Nr S Q e a b) (h' : Nr S Q e' a' b') : Nr S Q (e + e') (a + a') (b + b') := by
  unfold Nr at *
  rw [show (a + a') * (Q : Int) - (b + b') * S = (a * Q - b * S) + (a' * Q - b' * S) by rw [Int.add_mul, Int.add_mul]; omega, Nat.add_mul]
  exact Nat.le_trans (Int.natAbs_add_le _ _) (Nat.add_le_add h h')
theorem Nr_neg {S Q e : Nat} {a b : Int} (h : Nr S Q e a b) : Nr S Q e (-a) (-b) := by
  unfold Nr at *
  rw [show -a * (Q : Int) - -b * S = -(a * Q - b * S) by rw [Int.neg_mul, Int.neg_mul]; omega, Int.natAbs_neg]
  exact h
theorem Nr_mul {S Q e : Nat} {a b : Int} (c : Nat) (h : Nr S Q e a b) : Nr S Q (c * e) (c * a) (c * b) := by
  unfold Nr at *
  rw [show (c : Int) * a * (Q : Int) - c * b * S = c * (a * Q - b * S) by rw [Int.mul_sub, Int.mul_assoc, Int.mul_assoc], Int.natAbs_mul, Int.natAbs_natCast, Nat.mul_assoc]
  exact Nat.mul_le_mul_left c h
/-- a quotient of m-folds -/
theorem Nr_md {S Q a b m x : Nat} (hS : S ≤ Q) (hm : 2 * m ≤ x + 1) (hx : 0 < x) (h : Nr S Q 2 a b) : Nr S Q 2 ((a * m / x : Nat) : Int) ((b * m / x : Nat) : Int) := by
  unfold Nr at *
  have h1 := Nat.div_add_mod (a * m) x
  have h2 := Nat.div_add_mod (b * m) x
  have h3 := Nat.mod_lt (a * m) hx
  have h4 := Nat.mod_lt (b * m) hx
  generalize a * m / x = a' at *
  generalize b * m / x = b' at *
  generalize a * m % x = ra at *
  generalize b * m % x = rb at *
  have e1 : (x : Int) * ((a' : Int) * Q - (b' : Int) * S) = (m : Int) * ((a : Int) * Q - (b : Int) * S) + ((rb : Int) * S - (ra : Int) * Q) := by
    have i1 : (x : Int) * a' + ra = (a : Int) * m := by rw [← Int.natCast_mul, ← Int.natCast_mul, ← Int.natCast_add, h1]
    have i2 : (x : Int) * b' + rb = (b : Int) * m := by rw [← Int.natCast_mul, ← Int.natCast_mul, ← Int.natCast_add, h2]
    grind
  have n1 : x * ((a' : Int) * Q - (b' : Int) * S).natAbs ≤ m * ((a : Int) * Q - (b : Int) * S).natAbs + (x - 1) * Q := by
    have q := congrArg Int.natAbs e1
    rw [Int.natAbs_mul, Int.natAbs_natCast] at q
    rw [q]
    refine Nat.le_trans (Int.natAbs_add_le _ _) (Nat.add_le_add ?_ ?_)
    · rw [Int.natAbs_mul, Int.natAbs_natCast]
      exact Nat.le_refl _
    · have r1 : rb * S ≤ (x - 1) * Q := Nat.mul_le_mul (by omega) hS
      have r2 : ra * Q ≤ (x - 1) * Q := Nat.mul_le_mul (by omega) (Nat.le_refl _)
      rw [← Int.natCast_mul, ← Int.natCast_mul]
      omega
  apply Nat.le_of_mul_le_mul_left (c := x) _ hx
  calc x * ((a' : Int) * Q - (b' : Int) * S).natAbs ≤ m * ((a : Int) * Q - (b : Int) * S).natAbs + (x - 1) * Q := n1
    _ ≤ m * (2 * Q) + (x - 1) * Q := Nat.add_le_add_right (Nat.mul_le_mul_left m h) _
    _ = (2 * m + (x - 1)) * Q := by rw [Nat.add_mul, ← Nat.mul_assoc, Nat.mul_comm m 2]
    _ ≤ (x * 2) * Q := Nat.mul_le_mul_right Q (by omega)
    _ = x * (2 * Q) := Nat.mul_assoc _ _ _
theorem Nr_div {S Q a b x : Nat} (hS : S ≤ Q) (hx : 0 < x) (h : Nr S Q 2 a b) : Nr S Q 2 ((a / x : Nat) : Int) ((b / x : Nat) : Int) := by
  have := Nr_md (m := 1) hS (by omega) hx h
  rw [Nat.mul_one, Nat.mul_one] at this
  exact this
theorem Nr_0 {S Q : Nat} : Nr S Q 2 S Q := by
  unfold Nr
  rw [Int.mul_comm (S : Int), Int.sub_self]
  exact Nat.zero_le _
theorem Nr_z {S Q e : Nat} : Nr S Q e 0 0 := by
  unfold Nr
  rw [Int.zero_mul, Int.zero_mul]
  exact Nat.zero_le _
theorem alt_Nr {S Q : Nat} {P P' : Nat → Nat} (h : ∀ k, Nr S Q 2 (P k) (P' k)) : ∀ k, Nr S Q (2 * k) (alt P k) (alt P' k)
  | 0 => Nr_z
  | k + 1 => by
    unfold alt
    have h0 := alt_Nr h k
    by_cases q : k % 2 = 0
    · rw [if_pos q, if_pos q]
      exact Nr_add h0 (h k)
    · rw [if_neg q, if_neg q]
      exact Nr_add h0 (Nr_neg (h k))
theorem tA_Nr {S Q x : Nat} (hS : S ≤ Q) (hx : 0 < x) : ∀ k, Nr S Q 2 (tA S x k) (tA Q x k)
  | 0 => Nr_div hS hx Nr_0
  | k + 1 => Nr_div hS (Nat.mul_pos hx hx) (tA_Nr hS hx k)
theorem pA_Nr {S Q x : Nat} (hS : S ≤ Q) (hx : 0 < x) (k : Nat) : Nr S Q 2 (pA S x k) (pA Q x k) := Nr_div hS (by omega) (tA_Nr hS hx k)
theorem tC_Nr {S Q : Nat} (hS : S ≤ Q) : ∀ k, Nr S Q 2 (tC S k) (tC Q k)
  | 0 => Nr_div hS (by decide) Nr_0
  | k + 1 => Nr_md hS (by omega) (by omega) (tC_Nr hS k)
theorem pC_Nr {S Q : Nat} (hS : S ≤ Q) (k : Nat) : Nr S Q 2 (pC S k) (pC Q k) := Nr_div hS (Nat.mul_pos (Nat.mul_pos (by omega) (by omega)) (by omega)) (tC_Nr hS k)
theorem tE_Nr {S Q : Nat} (hS : S ≤ Q) : ∀ k, Nr S Q 2 (tE S k) (tE Q k)
  | 0 => Nr_0
  | k + 1 => Nr_div hS (by omega) (tE_Nr hS k)
theorem sE_Nr {S Q : Nat} (hS : S ≤ Q) : ∀ k, Nr S Q (2 * k) (sE S k) (sE Q k)
  | 0 => Nr_z
  | k + 1 => by
    have h0 := Nr_add (sE_Nr hS k) (tE_Nr hS k)
    rw [← Int.natCast_add, ← Int.natCast_add] at h0
    exact h0
theorem tH_Nr {S Q : Nat} (hS : S ≤ Q) : ∀ k, Nr S Q 2 (tH S k) (tH Q k)
  | 0 => Nr_0
  | k + 1 => Nr_div hS (by decide) (tH_Nr hS k)
theorem sH_Nr {S Q : Nat} (hS : S ≤ Q) : ∀ k, Nr S Q (2 * k) (sH S k) (sH Q k)
  | 0 => Nr_z
  | k + 1 => by
    have h0 := Nr_add (sH_Nr hS k) (Nr_div (x := k + 1) hS (by omega) (tH_Nr hS (k + 1)))
    rw [← Int.natCast_add, ← Int.natCast_add] at h0
    exact h0
/-- past the end nothing is added -/
theorem alt_ext {P : Nat → Nat} {K : Nat} (h : ∀ k, K ≤ k → P k = 0) : ∀ m, alt P (K + m) = alt P K
  | 0 => rfl
  | m + 1 => by
    show alt P (K + m) + (if (K + m) % 2 = 0 then (P (K + m) : Int) else -(P (K + m) : Int)) = _
    rw [h (K + m) (by omega), alt_ext h m]
    split <;> simp
theorem alt_two {P : Nat → Nat} {K L : Nat} (h1 : ∀ k, K ≤ k → P k = 0) (h2 : ∀ k, L ≤ k → P k = 0) : alt P K = alt P L := by
  rcases Nat.le_total K L with q | q
  · obtain ⟨m, rfl⟩ := Nat.exists_eq_add_of_le q
    exact (alt_ext h1 m).symm
  · obtain ⟨m, rfl⟩ := Nat.exists_eq_add_of_le q
    exact alt_ext h2 m
theorem tA_z {S x K : Nat} (h : tA S x K = 0) : ∀ k, K ≤ k → pA S x k = 0 := by
  have t : ∀ m, tA S x (K + m) = 0 := by
    intro m
    induction m with
    | zero => exact h
    | succ m ih =>
      show tA S x (K + m) / (x * x) = 0
      rw [ih, Nat.zero_div]
  intro k hk
  obtain ⟨m, rfl⟩ := Nat.exists_eq_add_of_le hk
  unfold pA
  rw [t m, Nat.zero_div]
theorem tA_mono {S Q x : Nat} (h : S ≤ Q) : ∀ k, tA S x k ≤ tA Q x k
  | 0 => Nat.div_le_div_right h
  | k + 1 => Nat.div_le_div_right (tA_mono h k)
theorem tC_z {S K : Nat} (h : tC S K = 0) : ∀ k, K ≤ k → pC S k = 0 := by
  have t : ∀ m, tC S (K + m) = 0 := by
    intro m
    induction m with
    | zero => exact h
    | succ m ih =>
      show tC S (K + m) * (K + m + 2) / (4 * (K + m) + 6) = 0
      rw [ih, Nat.zero_mul, Nat.zero_div]
  intro k hk
  obtain ⟨m, rfl⟩ := Nat.exists_eq_add_of_le hk
  unfold pC
  rw [t m, Nat.zero_div]
theorem tC_mono {S Q : Nat} (h : S ≤ Q) : ∀ k, tC S k ≤ tC Q k
  | 0 => Nat.div_le_div_right h
  | k + 1 => Nat.div_le_div_right (Nat.mul_le_mul_right _ (tC_mono h k))
theorem tE_mono {S Q : Nat} (h : S ≤ Q) : ∀ k, tE S k ≤ tE Q k
  | 0 => h
  | k + 1 => Nat.div_le_div_right (tE_mono h k)
theorem tH_mono {S Q : Nat} (h : S ≤ Q) : ∀ k, tH S k ≤ tH Q k
  | 0 => h
  | k + 1 => Nat.div_le_div_right (tH_mono h k)
theorem sE_ext {S K : Nat} (h : tE S K = 0) : ∀ m, sE S (K + m) = sE S K := by
  have t : ∀ m, tE S (K + m) = 0 := by
    intro m
    induction m with
    | zero => exact h
    | succ m ih =>
      show tE S (K + m) / (K + m + 1) = 0
      rw [ih, Nat.zero_div]
  intro m
  induction m with
  | zero => rfl
  | succ m ih =>
    show sE S (K + m) + tE S (K + m) = _
    rw [t m, ih, Nat.add_zero]
theorem sH_ext {S K : Nat} (h : tH S K = 0) : ∀ m, sH S (K + m) = sH S K := by
  have t : ∀ m, tH S (K + m) = 0 := by
    intro m
    induction m with
    | zero => exact h
    | succ m ih =>
      show tH S (K + m) / 2 = 0
      rw [ih]
  intro m
  induction m with
  | zero => rfl
  | succ m ih =>
    show sH S (K + m) + tH S (K + m + 1) / (K + m + 1) = _
    rw [show tH S (K + m + 1) = 0 from t (m + 1), ih, Nat.zero_div, Nat.add_zero]
theorem ext_two {f : Nat → Nat} {K L : Nat} (h1 : ∀ m, f (K + m) = f K) (h2 : ∀ m, f (L + m) = f L) : f K = f L := by
  rcases Nat.le_total K L with q | q
  · obtain ⟨m, rfl⟩ := Nat.exists_eq_add_of_le q
    exact (h1 m).symm
  · obtain ⟨m, rfl⟩ := Nat.exists_eq_add_of_le q
    exact h2 m
