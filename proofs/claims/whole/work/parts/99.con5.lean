/-! the reference's sums at the scale of the four numbers, worked out -/
def rA (x c : Nat) : Nat × Nat := ito (fun _ a _ => a / (x * x)) (fun k a b => cond (Nat.beq (k % 2) 0) (b + a / (2 * k + 1)) (b - a / (2 * k + 1))) 50 c 0 (qM / x) 0
def rE (c : Nat) : Nat × Nat := ito (fun k a _ => a / (k + 1)) (fun _ a b => b + a) 50 c 0 qM 0
def rH (c : Nat) : Nat × Nat := ito (fun _ a _ => a / 2) (fun k a b => b + a / 2 / (k + 1)) 50 c 0 qM 0
def rC (c : Nat) : Nat × Nat := ito (fun j a _ => a * (j + 2) / (4 * j + 6)) (fun j a b => cond (Nat.beq (j % 2) 0) (b + a / ((j + 1) * (j + 1) * (j + 1))) (b - a / ((j + 1) * (j + 1) * (j + 1)))) 50 c 0 (qM / 2) 0
theorem alt_nat {P : Nat → Nat} (hP : ∀ k, P (k + 1) ≤ P k) (k : Nat) : (alt P (k + 1)).toNat = cond (Nat.beq (k % 2) 0) ((alt P k).toNat + P k) ((alt P k).toNat - P k) := by
  have h0 := alt_bd hP k
  show (alt P k + (if k % 2 = 0 then (P k : Int) else -(P k : Int))).toNat = _
  rcases (show k % 2 = 0 ∨ k % 2 = 1 by omega) with q | q
  · have := h0.1 q
    rw [if_pos q, q]
    show (alt P k + (P k : Int)).toNat = (alt P k).toNat + P k
    omega
  · have := h0.2 q
    rw [if_neg (by omega), q]
    show (alt P k + -(P k : Int)).toNat = (alt P k).toNat - P k
    omega
theorem rA_eq (x c : Nat) : rA x c = (tA qM x (50 * c), (alt (pA qM x) (50 * c)).toNat) := by
  have e := ito_eq (f1 := fun _ a _ => a / (x * x)) (f2 := fun k a b => cond (Nat.beq (k % 2) 0) (b + a / (2 * k + 1)) (b - a / (2 * k + 1))) (m := 50) (A := tA qM x) (B := fun k => (alt (pA qM x) k).toNat) (fun _ => rfl) (fun k => alt_nat pA_anti k) c 0
  rw [Nat.zero_add] at e
  exact e
theorem rC_eq (c : Nat) : rC c = (tC qM (50 * c), (alt (pC qM) (50 * c)).toNat) := by
  have e := ito_eq (f1 := fun j a _ => a * (j + 2) / (4 * j + 6)) (f2 := fun j a b => cond (Nat.beq (j % 2) 0) (b + a / ((j + 1) * (j + 1) * (j + 1))) (b - a / ((j + 1) * (j + 1) * (j + 1)))) (m := 50) (A := tC qM) (B := fun k => (alt (pC qM) k).toNat) (fun _ => rfl) (fun k => alt_nat pC_anti k) c 0
  rw [Nat.zero_add] at e
  exact e
theorem rE_eq (c : Nat) : rE c = (tE qM (50 * c), sE qM (50 * c)) := by
  have e := ito_eq (f1 := fun k a _ => a / (k + 1)) (f2 := fun _ a b => b + a) (m := 50) (A := tE qM) (B := sE qM) (fun _ => rfl) (fun _ => rfl) c 0
  rw [Nat.zero_add] at e
  exact e
theorem rH_eq (c : Nat) : rH c = (tH qM (50 * c), sH qM (50 * c)) := by
  have e := ito_eq (f1 := fun _ a _ => a / 2) (f2 := fun k a b => b + a / 2 / (k + 1)) (m := 50) (A := tH qM) (B := sH qM) (fun _ => rfl) (fun _ => rfl) c 0
  rw [Nat.zero_add] at e
  exact e
def near (a b : Nat) : Bool := Nat.ble a (b + 1048576) && Nat.ble b (a + 1048576)
