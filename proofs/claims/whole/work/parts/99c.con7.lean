/-! no digit is in doubt: the check, and what follows from it -/
def loM : Nat := qM / 1073741824 + 1
def hiM : Nat := qM - loM
def gK (b x : Nat) : Nat := cond (Nat.ble loM x) (cond (Nat.ble x hiM) (x * b % qM) 0) 0
def sqn (b c : Nat) : Nat → Nat
  | 0 => c % qM
  | n + 1 => gK b (sqn b c n)
def Okn (c b n : Nat) : Prop := loM ≤ c * b ^ n % qM ∧ c * b ^ n % qM ≤ hiM
theorem gK_nz {b x : Nat} (h : gK b x ≠ 0) : (loM ≤ x ∧ x ≤ hiM) ∧ gK b x = x * b % qM := by
  unfold gK at *
  cases h1 : Nat.ble loM x with
  | false => rw [h1] at h; exact absurd rfl h
  | true =>
    rw [h1] at h
    cases h2 : Nat.ble x hiM with
    | false => rw [h2] at h; exact absurd rfl h
    | true => exact ⟨⟨Nat.le_of_ble_eq_true h1, Nat.le_of_ble_eq_true h2⟩, rfl⟩
theorem lo_pos : 0 < loM := Nat.lt_of_lt_of_le Nat.zero_lt_one (Nat.le_add_left 1 (qM / 1073741824))
theorem sqn_0 {b c : Nat} : sqn b c 0 = c % qM := by rw [sqn]
theorem sqn_s {b c n : Nat} : sqn b c (n + 1) = gK b (sqn b c n) := by rw [sqn]
theorem sqn_ok {b c : Nat} (N : Nat) : sqn b c N ≠ 0 → sqn b c N = c * b ^ N % qM ∧ ∀ n, n < N → Okn c b n := by
  induction N with
  | zero =>
    intro _
    rw [sqn_0, Nat.pow_zero, Nat.mul_one]
    exact ⟨rfl, fun n hn => absurd hn (Nat.not_lt_zero n)⟩
  | succ N ih =>
    intro h
    rw [sqn_s] at h
    obtain ⟨h1, h2⟩ := gK_nz (b := b) (x := sqn b c N) h
    have hne : sqn b c N ≠ 0 := fun q => by
      have := lo_pos
      rw [q] at h1
      exact absurd h1.1 (Nat.not_le.mpr this)
    obtain ⟨i1, i2⟩ := ih hne
    refine ⟨?_, fun n hn => ?_⟩
    · rw [sqn_s, h2, i1, Nat.pow_succ, ← Nat.mul_assoc, Nat.mod_mul_mod]
    · by_cases q : n = N
      · subst q
        unfold Okn
        rw [← i1]
        exact h1
      · exact i2 n (by omega)
def chk (c b k : Nat) : Bool := Nat.ble 1 (ito (fun _ a _ => gK b a) (fun _ _ _ => 0) 50 k 0 (c % qM) 0).1
theorem chk_use {c b k n : Nat} (h : chk c b k = true) (hn : n < 50 * k) : Okn c b n := by
  have e := ito_eq (f1 := fun _ a _ => gK b a) (f2 := fun _ _ _ => 0) (m := 50) (A := sqn b c) (B := fun _ => 0) (fun _ => rfl) (fun _ => rfl) k 0
  rw [Nat.zero_add] at e
  have h1 : 1 ≤ (ito (fun _ a _ => gK b a) (fun _ _ _ => 0) 50 k 0 (sqn b c 0) 0).1 := Nat.le_of_ble_eq_true h
  rw [e] at h1
  exact (sqn_ok (50 * k) (Nat.pos_iff_ne_zero.mp h1)).2 n hn
/-- a number that lies near enough to (a + m / Q) T -/
theorem fl_lem {X Q T a m e : Nat} (hQ : 0 < Q) (hT : 0 < T) (h : ((X : Int) * Q - ((a * Q + m : Nat) : Int) * T).natAbs ≤ e) (h1 : e ≤ m * T) (h2 : m * T + e < Q * T) : X / T = a := by
  have c1 : ((a * Q + m : Nat) : Int) * T = ((a * T * Q + m * T : Nat) : Int) := by
    rw [← Int.natCast_mul, Nat.add_mul, Nat.mul_right_comm]
  have c2 : (X : Int) * Q = ((X * Q : Nat) : Int) := (Int.natCast_mul _ _).symm
  rw [c1, c2] at h
  have lo : a * T * Q ≤ X * Q := by omega
  have hi : X * Q < (a * T + T) * Q := by
    rw [Nat.add_mul, Nat.mul_comm T Q]
    omega
  have lo' : a * T ≤ X := Nat.le_of_mul_le_mul_right lo hQ
  have hi' : X < (a + 1) * T := by
    rw [Nat.add_mul, Nat.one_mul]
    exact Nat.lt_of_mul_lt_mul_right hi
  exact Nat.div_eq_of_lt_le lo' hi'
theorem lo_q : qM ≤ 1073741824 * loM := by
  unfold loM
  exact Nat.le_of_lt (Nat.lt_mul_div_succ qM (by decide))
theorem hi_q {m : Nat} (h : m ≤ hiM) : m + loM ≤ qM := by
  unfold hiM at h
  have h2 : loM ≤ qM := by
    unfold loM
    have : 1073741824 ^ 704 ≤ qM := q704
    have h3 : 2 ≤ qM := Nat.le_trans (Nat.le_trans (show 2 ≤ 1073741824 ^ 1 by decide) (Nat.pow_le_pow_right (by decide) (by decide))) this
    omega
  omega
theorem qM0 : 0 < qM := Nat.lt_of_lt_of_le (Nat.pow_pos (by decide)) q704
/-- the class's answer -/
theorem cls_ok {c b n D R : Nat} (hb : 2 ≤ b ∧ b < 37) (hok : Okn c b n) (hD : n * bl (b - 1) + 31 + 60 ≤ 30 * D) (h : (((R : Nat) : Int) * qM - ((c : Nat) : Int) * (1073741824 ^ D : Nat)).natAbs ≤ 2147483648 * qM) : R * b ^ n / 1073741824 ^ D = c * b ^ n / qM := by
  have hdm := Nat.div_add_mod (c * b ^ n) qM
  obtain ⟨hlo, hhi⟩ := hok
  have hhi := hi_q hhi
  have hlq := lo_q
  have hbn : b ^ n ≤ 2 ^ (n * bl (b - 1)) := by
    rw [Nat.mul_comm, Nat.pow_mul]
    exact Nat.pow_le_pow_left (by have := bl_ub (b - 1); omega) n
  have hT : 2147483648 * b ^ n * 1152921504606846976 ≤ 1073741824 ^ D := by
    calc 2147483648 * b ^ n * 1152921504606846976 ≤ 2 ^ 31 * 2 ^ (n * bl (b - 1)) * 2 ^ 60 := Nat.mul_le_mul (Nat.mul_le_mul (by decide) hbn) (by decide)
      _ = 2 ^ (n * bl (b - 1) + 31 + 60) := by rw [Nat.pow_add, Nat.pow_add, Nat.mul_comm (2 ^ 31)]
      _ ≤ 1073741824 ^ D := by rw [p30]; exact Nat.pow_le_pow_right (by decide) hD
  have hT0 : 0 < 1073741824 ^ D := Nat.pow_pos (by decide)
  have hQ0 := qM0
  have herr : (((R * b ^ n : Nat) : Int) * qM - ((c * b ^ n / qM * qM + c * b ^ n % qM : Nat) : Int) * (1073741824 ^ D : Nat)).natAbs ≤ 2147483648 * qM * b ^ n := by
    rw [show c * b ^ n / qM * qM + c * b ^ n % qM = c * b ^ n by rw [Nat.mul_comm]; exact hdm]
    have e1 : ((R * b ^ n : Nat) : Int) * qM - ((c * b ^ n : Nat) : Int) * (1073741824 ^ D : Nat) = (((R : Nat) : Int) * qM - ((c : Nat) : Int) * (1073741824 ^ D : Nat)) * ((b ^ n : Nat) : Int) := by
      rw [Int.natCast_mul, Int.natCast_mul, Int.sub_mul, Int.mul_right_comm, Int.mul_right_comm (c : Int)]
    rw [e1, Int.natAbs_mul, Int.natAbs_natCast]
    exact Nat.mul_le_mul_right _ h
  generalize 1073741824 ^ D = T at *
  generalize c * b ^ n % qM = m at *
  generalize c * b ^ n / qM = a at *
  generalize b ^ n = P at *
  generalize qM = Q at *
  have k1 : 2147483648 * Q * P * 1152921504606846976 ≤ Q * T := by
    calc 2147483648 * Q * P * 1152921504606846976 = Q * (2147483648 * P * 1152921504606846976) := by
          rw [Nat.mul_comm 2147483648 Q, Nat.mul_assoc Q, Nat.mul_assoc Q]
      _ ≤ Q * T := Nat.mul_le_mul_left Q hT
  have k2 : Q * T ≤ 1073741824 * (loM * T) := by
    rw [← Nat.mul_assoc]
    exact Nat.mul_le_mul_right T hlq
  have k3 : loM * T ≤ m * T := Nat.mul_le_mul_right T hlo
  have k4 : m * T + loM * T ≤ Q * T := by rw [← Nat.add_mul]; exact Nat.mul_le_mul_right T hhi
  have k5 : 0 < Q * T := Nat.mul_pos hQ0 hT0
  refine fl_lem hQ0 hT0 herr ?_ ?_
  · omega
  · omega
theorem ref_abs {Q lo c P s w m a : Nat} (hdm : a * Q + m = c * P) (hlo : lo ≤ m) (hhi : m + lo ≤ Q) (hlq : Q ≤ 1073741824 * lo) (hQ0 : 0 < Q) (h : ((s : Int) * Q - ((c : Nat) : Int) * (P * 1152921504606846976 : Nat)).natAbs ≤ 2097152 * Q) (hw : w ≤ 8388608) (hsw : w ≤ s) : (s - w) / 1152921504606846976 = a ∧ (s + w) / 1152921504606846976 = a := by
  have e0 : ((c : Nat) : Int) * (P * 1152921504606846976 : Nat) = ((a * Q + m : Nat) : Int) * ((1152921504606846976 : Nat) : Int) := by
    rw [hdm, ← Int.natCast_mul, ← Int.natCast_mul, Nat.mul_assoc]
  rw [e0] at h
  have hwq : w * Q ≤ 8388608 * Q := Nat.mul_le_mul_right _ hw
  have hm1 : ((s - w : Nat) : Int) * Q = (s : Int) * Q - ((w * Q : Nat) : Int) := by rw [Int.ofNat_sub hsw, Int.sub_mul, Int.natCast_mul]
  have hm2 : ((s + w : Nat) : Int) * Q = (s : Int) * Q + ((w * Q : Nat) : Int) := by rw [Int.natCast_add, Int.add_mul, Int.natCast_mul]
  have g1 : (((s - w : Nat) : Int) * Q - ((a * Q + m : Nat) : Int) * ((1152921504606846976 : Nat) : Int)).natAbs ≤ 16777216 * Q := by
    rw [hm1]
    generalize ((a * Q + m : Nat) : Int) * ((1152921504606846976 : Nat) : Int) = z at *
    generalize (s : Int) * Q = y at *
    omega
  have g2 : (((s + w : Nat) : Int) * Q - ((a * Q + m : Nat) : Int) * ((1152921504606846976 : Nat) : Int)).natAbs ≤ 16777216 * Q := by
    rw [hm2]
    generalize ((a * Q + m : Nat) : Int) * ((1152921504606846976 : Nat) : Int) = z at *
    generalize (s : Int) * Q = y at *
    omega
  have k1 : 16777216 * Q ≤ m * 1152921504606846976 := by omega
  have k2 : m * 1152921504606846976 + 16777216 * Q < Q * 1152921504606846976 := by omega
  exact ⟨fl_lem hQ0 (by decide) g1 k1 k2, fl_lem hQ0 (by decide) g2 k1 k2⟩
/-- the reference's answer -/
theorem ref_ok {c b n s w : Nat} (hok : Okn c b n) (h : ((s : Int) * qM - ((c : Nat) : Int) * (b ^ n * 1152921504606846976 : Nat)).natAbs ≤ 2097152 * qM) (hw : w ≤ 8388608) (hsw : w ≤ s) : (s - w) / 1152921504606846976 = c * b ^ n / qM ∧ (s + w) / 1152921504606846976 = c * b ^ n / qM :=
  ref_abs (P := b ^ n) ((congrArg (fun z => z + c * b ^ n % qM) (Nat.mul_comm _ _)).trans (Nat.div_add_mod (c * b ^ n) qM)) hok.1 (hi_q hok.2) lo_q qM0 h hw hsw
