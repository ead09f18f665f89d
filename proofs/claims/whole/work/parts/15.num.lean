/-! NUMBERS: ints and longs by whole numbers; limbs and their value -/
def lI (z : Int) : Int64 := Int64.ofInt z
def iI (z : Int) : Int32 := Int32.ofInt z
theorem lI_add (a b : Int) : lI a + lI b = lI (a + b) := (Int64.ofInt_add a b).symm
theorem lI_sub (a b : Int) : lI a - lI b = lI (a - b) := (Int64.ofInt_sub a b).symm
theorem lI_mul (a b : Int) : lI a * lI b = lI (a * b) := (Int64.ofInt_mul a b).symm
theorem iI_add (a b : Int) : iI a + iI b = iI (a + b) := (Int32.ofInt_add a b).symm
theorem iI_sub (a b : Int) : iI a - iI b = iI (a - b) := (Int32.ofInt_sub a b).symm
theorem iI_mul (a b : Int) : iI a * iI b = iI (a * b) := (Int32.ofInt_mul a b).symm
theorem lI_b (z : Int) : (lI z).toInt = z.bmod (2 ^ 64) := Int64.toInt_ofInt
theorem iI_b (z : Int) : (iI z).toInt = z.bmod (2 ^ 32) := Int32.toInt_ofInt
theorem lI_t {z : Int} (h1 : -2 ^ 63 ≤ z) (h2 : z < 2 ^ 63) : (lI z).toInt = z := by rw [lI_b, Jvm.Kit.bmod64 h1 h2]
theorem iI_t {z : Int} (h1 : -2 ^ 31 ≤ z) (h2 : z < 2 ^ 31) : (iI z).toInt = z := by rw [iI_b, Jvm.Kit.bmod32 h1 h2]
theorem lI_self (x : Int64) : lI x.toInt = x := Int64.ofInt_toInt x
theorem iI_self (x : Int32) : iI x.toInt = x := Int32.ofInt_toInt x
theorem nI_iI (n : Nat) : nI n = iI n := Int32.ofInt_eq_ofNat.symm
theorem lN_lI (n : Nat) : lN n = lI n := Int64.ofInt_eq_ofNat.symm
theorem bm_q (z : Int) (M : Nat) : ∃ q : Int, z.bmod M = z + M * q := by
  have h := Int.mul_ediv_add_emod z M
  by_cases h1 : z % M < (M + 1) / 2
  · exact ⟨-(z / M), by rw [Int.bmod_def, if_pos h1, Int.mul_neg]; omega⟩
  · exact ⟨-(z / M) - 1, by rw [Int.bmod_def, if_neg h1, Int.mul_sub, Int.mul_neg, Int.mul_one]; omega⟩
theorem lI_and30 (z : Int) : lI z &&& 1073741823 = lI (z % 1073741824) := by
  apply Int64.toInt_inj.mp
  rw [Jvm.Kit.i64_mask (k := 30) _ _ (by decide) (by decide), lI_b, lI_t (by omega) (by omega)]
  obtain ⟨q, hq⟩ := bm_q z (2 ^ 64)
  rw [hq]
  omega
theorem lI_and15 (z : Int) : lI z &&& 32767 = lI (z % 32768) := by
  apply Int64.toInt_inj.mp
  rw [Jvm.Kit.i64_mask (k := 15) _ _ (by decide) (by decide), lI_b, lI_t (by omega) (by omega)]
  obtain ⟨q, hq⟩ := bm_q z (2 ^ 64)
  rw [hq]
  omega
theorem iI_and30 (z : Int) : iI z &&& 1073741823 = iI (z % 1073741824) := by
  apply Int32.toInt_inj.mp
  rw [Jvm.Kit.i32_mask (k := 30) _ _ (by decide) (by decide), iI_b, iI_t (by omega) (by omega)]
  obtain ⟨q, hq⟩ := bm_q z (2 ^ 32)
  rw [hq]
  omega
theorem lI_shr30 {z : Int} (h1 : -2 ^ 63 ≤ z) (h2 : z < 2 ^ 63) : lI z >>> ((30 : Int32).toInt64 &&& 63) = lI (z / 1073741824) := by
  apply Int64.toInt_inj.mp
  rw [Jvm.Kit.i64_shr (k := 30) _ _ (by decide), lI_t h1 h2, lI_t (by omega) (by omega)]
  rfl
theorem lI_shr15 {z : Int} (h1 : -2 ^ 63 ≤ z) (h2 : z < 2 ^ 63) : lI z >>> ((15 : Int32).toInt64 &&& 63) = lI (z / 32768) := by
  apply Int64.toInt_inj.mp
  rw [Jvm.Kit.i64_shr (k := 15) _ _ (by decide), lI_t h1 h2, lI_t (by omega) (by omega)]
  rfl
theorem iI_shr30 {z : Int} (h1 : -2 ^ 31 ≤ z) (h2 : z < 2 ^ 31) : iI z >>> ((30 : Int32) &&& 31) = iI (z / 1073741824) := by
  apply Int32.toInt_inj.mp
  rw [Jvm.Kit.i32_shr (k := 30) _ _ (by decide), iI_t h1 h2, iI_t (by omega) (by omega)]
  rfl
theorem lI_shl30 {z : Int} (h1 : -2 ^ 33 ≤ z) (h2 : z < 2 ^ 33) : lI z <<< ((30 : Int32).toInt64 &&& 63) = lI (z * 1073741824) := by
  apply Int64.toInt_inj.mp
  rw [Jvm.Kit.i64_shl (k := 30) _ _ (by decide) (by rw [lI_t (by omega) (by omega)]; omega) (by rw [lI_t (by omega) (by omega)]; omega), lI_t (by omega) (by omega), lI_t (by omega) (by omega)]
  rfl
theorem lI_shl15 {z : Int} (h1 : -2 ^ 48 ≤ z) (h2 : z < 2 ^ 48) : lI z <<< ((15 : Int32).toInt64 &&& 63) = lI (z * 32768) := by
  apply Int64.toInt_inj.mp
  rw [Jvm.Kit.i64_shl (k := 15) _ _ (by decide) (by rw [lI_t (by omega) (by omega)]; omega) (by rw [lI_t (by omega) (by omega)]; omega), lI_t (by omega) (by omega), lI_t (by omega) (by omega)]
  rfl
theorem lI_i (z : Int) : (lI z).toInt32 = iI z := by
  apply Int32.toInt_inj.mp
  rw [Int64.toInt_toInt32, lI_b, iI_b]
  obtain ⟨q, hq⟩ := bm_q z (2 ^ 64)
  rw [hq]
  have : z + ((2 ^ 64 : Nat) : Int) * q = z + ((2 ^ 32 : Nat) : Int) * (2 ^ 32 * q) := by omega
  rw [this, Int.add_mul_bmod_self_left]
theorem iI_l {z : Int} (h1 : -2 ^ 31 ≤ z) (h2 : z < 2 ^ 31) : (iI z).toInt64 = lI z := by
  apply Int64.toInt_inj.mp
  rw [Int32.toInt_toInt64, iI_t h1 h2, lI_t (by omega) (by omega)]
theorem lI_inj {a b : Int} (a1 : -2 ^ 63 ≤ a) (a2 : a < 2 ^ 63) (b1 : -2 ^ 63 ≤ b) (b2 : b < 2 ^ 63) : lI a = lI b ↔ a = b := by
  rw [← Int64.toInt_inj, lI_t a1 a2, lI_t b1 b2]
theorem iI_inj {a b : Int} (a1 : -2 ^ 31 ≤ a) (a2 : a < 2 ^ 31) (b1 : -2 ^ 31 ≤ b) (b2 : b < 2 ^ 31) : iI a = iI b ↔ a = b := by
  rw [← Int32.toInt_inj, iI_t a1 a2, iI_t b1 b2]
theorem lI_lt {a b : Int} (a1 : -2 ^ 63 ≤ a) (a2 : a < 2 ^ 63) (b1 : -2 ^ 63 ≤ b) (b2 : b < 2 ^ 63) : lI a < lI b ↔ a < b := by
  rw [Int64.lt_iff_toInt_lt, lI_t a1 a2, lI_t b1 b2]
theorem lI_le {a b : Int} (a1 : -2 ^ 63 ≤ a) (a2 : a < 2 ^ 63) (b1 : -2 ^ 63 ≤ b) (b2 : b < 2 ^ 63) : lI a ≤ lI b ↔ a ≤ b := by
  rw [Int64.le_iff_toInt_le, lI_t a1 a2, lI_t b1 b2]
theorem iI_lt {a b : Int} (a1 : -2 ^ 31 ≤ a) (a2 : a < 2 ^ 31) (b1 : -2 ^ 31 ≤ b) (b2 : b < 2 ^ 31) : iI a < iI b ↔ a < b := by
  rw [Int32.lt_iff_toInt_lt, iI_t a1 a2, iI_t b1 b2]
theorem iI_le {a b : Int} (a1 : -2 ^ 31 ≤ a) (a2 : a < 2 ^ 31) (b1 : -2 ^ 31 ≤ b) (b2 : b < 2 ^ 31) : iI a ≤ iI b ↔ a ≤ b := by
  rw [Int32.le_iff_toInt_le, iI_t a1 a2, iI_t b1 b2]
theorem lI_div {a b : Int} (a1 : 0 ≤ a) (a2 : a < 2 ^ 63) (b1 : 0 < b) (b2 : b < 2 ^ 63) : lI a / lI b = lI (a / b) := by
  apply Int64.toInt_inj.mp
  have hle : a / b ≤ a := Int.ediv_le_self b a1
  have h0 : 0 ≤ a / b := Int.ediv_nonneg a1 (Int.le_of_lt b1)
  rw [lg_ldiv_nonneg (by rw [lI_t (by omega) a2]; exact a1) (by rw [lI_t (by omega) b2]; exact b1), lI_t (by omega) a2, lI_t (by omega) b2, lI_t (by omega) (by omega)]
theorem iI_div {a b : Int} (a1 : 0 ≤ a) (a2 : a < 2 ^ 31) (b1 : 0 < b) (b2 : b < 2 ^ 31) : iI a / iI b = iI (a / b) := by
  apply Int32.toInt_inj.mp
  have hle : a / b ≤ a := Int.ediv_le_self b a1
  have h0 : 0 ≤ a / b := Int.ediv_nonneg a1 (Int.le_of_lt b1)
  rw [lg_idiv_nonneg (by rw [iI_t (by omega) a2]; exact a1) (by rw [iI_t (by omega) b2]; exact b1), iI_t (by omega) a2, iI_t (by omega) b2, iI_t (by omega) (by omega)]
theorem lI_0 : lI 0 = 0 := rfl
theorem iI_0 : iI 0 = 0 := rfl
theorem lI_1 : lI 1 = 1 := rfl
theorem iI_1 : iI 1 = 1 := rfl
theorem lI_or30 {x y : Nat} (hx : x < 2 ^ 33) (hy : y < 1073741824) : lI ((x : Int) * 1073741824) ||| lI y = lI ((x : Int) * 1073741824 + y) := by
  have e1 : lI ((x : Int) * 1073741824) = lN (x * 1073741824) := by rw [lN_lI]; congr 1
  have e2 : lI ((x : Int) * 1073741824 + y) = lN (x * 1073741824 + y) := by rw [lN_lI]; congr 1
  have e3 : lI (y : Int) = lN y := (lN_lI y).symm
  rw [e1, e2, e3]
  apply Int64.toBitVec_inj.mp
  rw [Int64.toBitVec_or]
  show BitVec.ofNat 64 _ ||| BitVec.ofNat 64 _ = BitVec.ofNat 64 _
  apply BitVec.eq_of_toNat_eq
  rw [BitVec.toNat_or, BitVec.toNat_ofNat, BitVec.toNat_ofNat, BitVec.toNat_ofNat, Nat.mod_eq_of_lt (by omega), Nat.mod_eq_of_lt (by omega), Nat.mod_eq_of_lt (by omega)]
  have h := Nat.two_pow_add_eq_or_of_lt (i := 30) (b := y) hy x
  rw [show x * 1073741824 = 2 ^ 30 * x by omega]
  exact h.symm
/-! limbs -/
abbrev wh (p s : Nat) : va_E := .inr (3, [.ref p, .int (nI s)])
abbrev ar (N : Nat) (a : Nat → Nat) : va_E := .inl (0, N, .inl (fun j => nI (a j)))
def un (a : Nat → Nat) (i x : Nat) : Nat → Nat := fun j => if j = i then x else a j
theorem upd_nI (a : Nat → Nat) (i x : Nat) : upd (fun j => nI (a j)) i (nI x) = fun j => nI (un a i x j) := by
  funext j
  by_cases h : j = i
  · subst h; simp [upd, un]
  · simp [upd, un, h]
def trm (a : Nat → Nat) : Nat → Nat
  | 0 => 0
  | s + 1 => if a s = 0 then trm a s else s + 1
def nv (B : Nat) (a : Nat → Nat) : Nat → Nat
  | 0 => 0
  | s + 1 => nv B a s + a s * B ^ s
theorem nv_congr {B : Nat} {a b : Nat → Nat} : ∀ {s : Nat}, (∀ j, j < s → a j = b j) → nv B a s = nv B b s
  | 0, _ => rfl
  | s + 1, h => by
    show nv B a s + a s * B ^ s = nv B b s + b s * B ^ s
    rw [nv_congr (s := s) (fun j hj => h j (by omega)), h s (by omega)]
theorem nv_lt {B : Nat} {a : Nat → Nat} : ∀ {s : Nat}, (∀ j, j < s → a j < B) → nv B a s < B ^ s
  | 0, _ => by simp [nv]
  | s + 1, h => by
    have h1 := nv_lt (B := B) (a := a) (s := s) (fun j hj => h j (by omega))
    have h2 : a s + 1 ≤ B := h s (by omega)
    have h3 : (a s + 1) * B ^ s ≤ B * B ^ s := Nat.mul_le_mul_right _ h2
    show nv B a s + a s * B ^ s < B ^ (s + 1)
    rw [Nat.pow_succ, Nat.mul_comm (B ^ s) B]
    rw [Nat.add_mul] at h3
    omega
theorem nv_le {B : Nat} {a : Nat → Nat} {s : Nat} : ∀ {t : Nat}, s ≤ t → nv B a s ≤ nv B a t
  | 0, h => by rw [show s = 0 by omega]; exact Nat.le_refl _
  | t + 1, h => by
    by_cases e : s = t + 1
    · subst e; exact Nat.le_refl _
    · exact Nat.le_trans (nv_le (t := t) (by omega)) (Nat.le_add_right _ _)
theorem un_eq {a : Nat → Nat} {i x : Nat} : un a i x i = x := if_pos rfl
theorem un_ne {a : Nat → Nat} {i x j : Nat} (h : j ≠ i) : un a i x j = a j := if_neg h
theorem nv_un {B : Nat} {a : Nat → Nat} {i x s : Nat} (h : s ≤ i) : nv B (un a i x) s = nv B a s := nv_congr fun j hj => un_ne (by omega)
theorem trm_le (a : Nat → Nat) : ∀ s, trm a s ≤ s
  | 0 => Nat.le_refl _
  | s + 1 => by
    show (if a s = 0 then trm a s else s + 1) ≤ s + 1
    split
    · exact Nat.le_trans (trm_le a s) (by omega)
    · exact Nat.le_refl _
theorem trm_nv (B : Nat) (a : Nat → Nat) : ∀ s, nv B a (trm a s) = nv B a s
  | 0 => rfl
  | s + 1 => by
    show nv B a (if a s = 0 then trm a s else s + 1) = nv B a s + a s * B ^ s
    split
    · rename_i h
      rw [trm_nv B a s, h, Nat.zero_mul, Nat.add_zero]
    · rfl
theorem trm_top (B : Nat) (a : Nat → Nat) : ∀ s, trm a s = 0 ∨ B ^ (trm a s - 1) ≤ nv B a (trm a s)
  | 0 => Or.inl rfl
  | s + 1 => by
    show (if a s = 0 then trm a s else s + 1) = 0 ∨ B ^ ((if a s = 0 then trm a s else s + 1) - 1) ≤ nv B a (if a s = 0 then trm a s else s + 1)
    split
    · exact trm_top B a s
    · rename_i h
      refine Or.inr ?_
      show B ^ s ≤ nv B a s + a s * B ^ s
      have : 1 * B ^ s ≤ a s * B ^ s := Nat.mul_le_mul_right _ (Nat.pos_of_ne_zero h)
      omega
/-- the limbs a, s of them in a row of N, are the number v -/
def Rp (B N : Nat) (a : Nat → Nat) (s v : Nat) : Prop := s ≤ N ∧ (∀ j, a j < B) ∧ nv B a s = v ∧ (s = 0 ∨ B ^ (s - 1) ≤ v)
theorem Rp_trm {B N : Nat} {a : Nat → Nat} {s v : Nat} (h1 : s ≤ N) (h2 : ∀ j, a j < B) (h3 : nv B a s = v) : Rp B N a (trm a s) v :=
  ⟨Nat.le_trans (trm_le a s) h1, h2, (trm_nv B a s).trans h3, by have := trm_top B a s; rw [trm_nv, h3] at this; exact this⟩
theorem Rp_lt {B N : Nat} {a : Nat → Nat} {s v : Nat} (h : Rp B N a s v) : v < B ^ s := by
  obtain ⟨-, h2, rfl, -⟩ := h
  exact nv_lt fun j _ => h2 j
theorem Rp_top {B N : Nat} {a : Nat → Nat} {s v : Nat} (hB : 0 < B) (h : Rp B N a (s + 1) v) : a s ≠ 0 := by
  obtain ⟨-, h2, rfl, h4⟩ := h
  intro z
  have h5 : B ^ s ≤ nv B a (s + 1) := by
    rcases h4 with h4 | h4
    · omega
    · exact h4
  have h6 : nv B a (s + 1) = nv B a s := by show nv B a s + a s * B ^ s = _; rw [z, Nat.zero_mul, Nat.add_zero]
  have h7 : nv B a s < B ^ s := nv_lt fun j _ => h2 j
  omega
theorem nv_put {B : Nat} {a : Nat → Nat} {i r : Nat} : nv B (un a i r) (i + 1) = nv B a i + r * B ^ i := by
  show nv B (un a i r) i + un a i r i * B ^ i = _
  rw [nv_un (Nat.le_refl i), un_eq]
theorem nv_s {B : Nat} {a : Nat → Nat} {i : Nat} : nv B a (i + 1) = nv B a i + a i * B ^ i := rfl
theorem carry_step {B x P : Nat} : (x % B) * P + (x / B) * (P * B) = x * P := by
  have h := Nat.mod_add_div x B
  calc (x % B) * P + (x / B) * (P * B) = (x % B + B * (x / B)) * P := by grind
    _ = x * P := by rw [h]
theorem un_lt {B : Nat} {a : Nat → Nat} {i x : Nat} (h : ∀ j, a j < B) (hx : x < B) : ∀ j, un a i x j < B := fun j => by
  by_cases e : j = i
  · rw [e, un_eq]; exact hx
  · rw [un_ne e]; exact h j
theorem scale_step {v c x f q P n : Nat} (h : v + c * P = n * f + q) : v + (c + x * f) * P = (n + x * P) * f + q := by grind
theorem nv_upd {B : Nat} {a : Nat → Nat} {i x : Nat} : ∀ {s : Nat}, i < s → nv B (un a i x) s + a i * B ^ i = nv B a s + x * B ^ i
  | 0, h => absurd h (Nat.not_lt_zero _)
  | s + 1, h => by
    by_cases e : i = s
    · subst e
      rw [nv_put, nv_s]
      omega
    · have h1 := nv_upd (B := B) (a := a) (i := i) (x := x) (s := s) (by omega)
      rw [nv_s, nv_s, un_ne (show s ≠ i by omega)]
      omega
theorem sub_dm (y f : Nat) : y - y / f * f = y % f := by
  have h := Nat.div_add_mod y f
  rw [Nat.mul_comm] at h
  omega
theorem shrink_step {H f B P r x t r' n : Nat} (e : f * t + r' = r * B + x) : H * f * (P * B) + r * (P * B) + (n + x * P) = (H * B + t) * f * P + r' * P + n := by
  have e2 : H * f * (P * B) + r * (P * B) + (n + x * P) = H * f * (P * B) + (r * B + x) * P + n := by grind
  rw [e2, ← e]
  grind
theorem shrink_step2 {H B P n x t : Nat} {m : Nat} (e : m + x * P = n + x * P + H * (P * B) + t * P) : m = n + (H * B + t) * P := by
  have e2 : n + (H * B + t) * P = n + H * (P * B) + t * P := by grind
  omega
def fil (a : Nat → Nat) (p q x : Nat) : Nat → Nat := fun j => if p ≤ j ∧ j < q then x else a j
def lim (a : Nat → Nat) (s : Nat) : Nat → Nat := fun j => if j < s then a j else 0
theorem lim_nv {B : Nat} {a : Nat → Nat} {s : Nat} : ∀ {n : Nat}, s ≤ n → nv B (lim a s) n = nv B a s
  | 0, h => by rw [show s = 0 by omega]; rfl
  | n + 1, h => by
    by_cases e : s = n + 1
    · subst e
      exact nv_congr fun j hj => by unfold lim; rw [if_pos hj]
    · rw [nv_s, lim_nv (n := n) (by omega)]
      unfold lim
      rw [if_neg (by omega), Nat.zero_mul, Nat.add_zero]
theorem lim_lt {B : Nat} {a : Nat → Nat} {s : Nat} (hB : 0 < B) (h : ∀ j, a j < B) : ∀ j, lim a s j < B := fun j => by
  unfold lim
  split
  · exact h j
  · exact hB
/-- the first limb from above that differs decides -/
theorem nv_cmp {B : Nat} {a b : Nat → Nat} {i : Nat} (ha : ∀ j, a j < B) (h : a i < b i) : ∀ {s : Nat}, i < s → (∀ j, i < j → j < s → a j = b j) → nv B a s < nv B b s
  | 0, hi, _ => absurd hi (Nat.not_lt_zero _)
  | s + 1, hi, hj => by
    by_cases e : i = s
    · subst e
      have h1 : nv B a i < B ^ i := nv_lt fun j _ => ha j
      have h2 : (a i + 1) * B ^ i ≤ b i * B ^ i := Nat.mul_le_mul_right _ h
      rw [nv_s, nv_s]
      rw [Nat.add_mul] at h2
      omega
    · have h1 := nv_cmp ha h (s := s) (by omega) (fun j q1 q2 => hj j q1 (by omega))
      rw [nv_s, nv_s, hj s (by omega) (by omega)]
      omega
def ordI (v u : Nat) : Int32 := if v < u then -1 else if v = u then 0 else 1
theorem Rp_size {B N M : Nat} {a b : Nat → Nat} {s t v u : Nat} (hB : 0 < B) (h : Rp B N a s v) (g : Rp B M b t u) (hst : s < t) : v < u := by
  have h1 := Rp_lt h
  obtain ⟨-, -, -, g4⟩ := g
  rcases g4 with g4 | g4
  · omega
  · have : B ^ s ≤ B ^ (t - 1) := Nat.pow_le_pow_right hB (by omega)
    omega
theorem fil_0 {a : Nat → Nat} {p x : Nat} : fil a p p x = a := by
  funext j
  unfold fil
  rw [if_neg (by omega)]
theorem un_fil {a : Nat → Nat} {p q x : Nat} (h : p ≤ q) : un (fil a p q x) q x = fil a p (q + 1) x := by
  funext j
  unfold un fil
  by_cases e : j = q
  · rw [if_pos e, if_pos (by omega)]
  · rw [if_neg e]
    by_cases e2 : p ≤ j ∧ j < q
    · rw [if_pos e2, if_pos (by omega)]
    · rw [if_neg e2, if_neg (by omega)]
theorem add_step {m c x y P n1 n2 : Nat} (h : m + c * P = n1 + n2) : m + (x + y + c) * P = (n1 + x * P) + (n2 + y * P) := by grind
