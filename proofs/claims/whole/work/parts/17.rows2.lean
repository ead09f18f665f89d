/-! more rows at numbers -/
theorem sh_amt : ∀ r : Nat, r < 32 → ((nI r &&& 31).toBitVec.smod 32).toNat = r := by decide +kernel
theorem nI_shl {x r : Nat} (hr : r < 32) (h : x * 2 ^ r < 2 ^ 32) : nI x <<< (nI r &&& 31) = nI (x * 2 ^ r) := pk_shlN (nI r &&& 31) r (sh_amt r hr) h
theorem ush_amt : ∀ r : Nat, r < 32 → (((nI r).toUInt32 &&& Int32.toUInt32 31).toBitVec % 32).toNat = r := by decide +kernel
theorem emod_nat (z : Int) : ((z % 1073741824).toNat : Int) = z % 1073741824 := Int.toNat_of_nonneg (Int.emod_nonneg z (by decide))
theorem emod_lt (z : Int) : (z % 1073741824).toNat < 1073741824 := by
  have h1 := emod_nat z
  have h2 := Int.emod_lt_of_pos z (show (0 : Int) < 1073741824 by decide)
  omega
section ZN2
variable {Z : ZP} {own : String} {cc : ByteArray} {nL : Nat} {R : Room} {k n pc : Nat} {w : List va_E} {lv : List (Nat × Value)} {st : List Value}
theorem z_ishlN (h : Cb Z own cc nL R) {x r : Nat} (d : decode cc pc = .ok (.ishl, 1)) (hs : r < 32 ∧ x * 2 ^ r < 2 ^ 32) (kk : Z k n w lv (pc + 1) (.int (nI (x * 2 ^ r)) :: st)) : Z k n w lv pc (.int (nI r) :: .int (nI x) :: st) := z_ishl h d (z_topi (nI_shl hs.1 hs.2) kk)
theorem z_iushrN (h : Cb Z own cc nL R) {x r : Nat} (d : decode cc pc = .ok (.iushr, 1)) (hs : r < 32 ∧ x < 2 ^ 32) (kk : Z k n w lv (pc + 1) (.int (nI (x / 2 ^ r)) :: st)) : Z k n w lv pc (.int (nI r) :: .int (nI x) :: st) := z_iushr h d (z_topi (pk_ushrN hs.2 (nI r) r (ush_amt r hs.1)) kk)
theorem z_iincS (h : Cb Z own cc nL R) {i x : Nat} {b : Int} (c : Nat) (d : decode cc pc = .ok (.iinc i b, 3)) (hg : zg lv i = some (.int (nI x))) (hv : Int32.ofInt b = -nI c) (hn : i < nL) (hle : c ≤ x) (kk : Z k n w (zs1 lv i (.int (nI (x - c)))) (pc + 3) st) : Z k n w lv pc st := by
  refine z_iinc h d hg hv hn ?_
  rw [show nI x + -nI c = nI x - nI c from (Int32.sub_eq_add_neg _ _).symm, pk_sub hle]
  exact kk
theorem z_i2lI (h : Cb Z own cc nL R) {x : Nat} (d : decode cc pc = .ok (.i2l, 1)) (hs : x < 2 ^ 31) (kk : Z k n w lv (pc + 1) (.long (lI x) :: st)) : Z k n w lv pc (.int (nI x) :: st) := z_i2lN h d hs (by rw [lN_lI]; exact kk)
theorem z_land30I (h : Cb Z own cc nL R) {z : Int} (d : decode cc pc = .ok (.land, 1)) (kk : Z k n w lv (pc + 1) (.long (lI (z % 1073741824)) :: st)) : Z k n w lv pc (.long 1073741823 :: .long (lI z) :: st) := z_land h d (z_topl (lI_and30 z) kk)
theorem z_lshr30I (h : Cb Z own cc nL R) {z : Int} (d : decode cc pc = .ok (.lshr, 1)) (hs : -2 ^ 63 ≤ z ∧ z < 2 ^ 63) (kk : Z k n w lv (pc + 1) (.long (lI (z / 1073741824)) :: st)) : Z k n w lv pc (.int 30 :: .long (lI z) :: st) := z_lshr h d (z_topl (lI_shr30 hs.1 hs.2) kk)
theorem z_l2iI (h : Cb Z own cc nL R) {z : Int} (d : decode cc pc = .ok (.l2i, 1)) (kk : Z k n w lv (pc + 1) (.int (iI z) :: st)) : Z k n w lv pc (.long (lI z) :: st) := z_l2i h d (z_topi (lI_i z) kk)
theorem z_l2iM (h : Cb Z own cc nL R) {z : Int} (d : decode cc pc = .ok (.l2i, 1)) (kk : Z k n w lv (pc + 1) (.int (nI (z % 1073741824).toNat) :: st)) : Z k n w lv pc (.long (lI (z % 1073741824)) :: st) := z_l2i h d (z_topi (by rw [lI_i, nI_iI, emod_nat]) kk)
end ZN2
/-! bits of a number -/
def bl (x : Nat) : Nat := if x = 0 then 0 else Nat.log2 x + 1
theorem bl_pos {x : Nat} (h : 0 < x) : bl x = Nat.log2 x + 1 := if_neg (by omega)
theorem bl_lt {x k : Nat} (h : x < 2 ^ k) : bl x ≤ k := by
  unfold bl
  split
  · exact Nat.zero_le _
  · rename_i h0
    have := (Nat.log2_lt h0).mpr h
    omega
theorem bl_ub (x : Nat) : x < 2 ^ bl x := by
  unfold bl
  split
  · rename_i h; rw [h]; decide
  · exact Nat.lt_log2_self
theorem bl_lb {x : Nat} (h : 0 < x) : 2 ^ (bl x - 1) ≤ x := by
  rw [bl_pos h]
  exact Nat.log2_self_le (by omega)
theorem bl_eq {x k : Nat} (h1 : 2 ^ k ≤ x) (h2 : x < 2 ^ (k + 1)) : bl x = k + 1 := by
  have h0 : 0 < x := Nat.lt_of_lt_of_le (Nat.pow_pos (by decide)) h1
  have a1 := bl_lt h2
  have a2 : k < bl x := by
    apply Nat.lt_of_not_le
    intro q
    have a3 := bl_ub x
    have a4 : 2 ^ bl x ≤ 2 ^ k := Nat.pow_le_pow_right (by decide) q
    omega
  omega
theorem bl_div {x k : Nat} (h : 2 ^ k ≤ x) : bl x = bl (x / 2 ^ k) + k := by
  have hp : 0 < 2 ^ k := Nat.pow_pos (by decide)
  have h0 : 0 < x / 2 ^ k := Nat.div_pos h hp
  have a1 := bl_lb h0
  have a2 := bl_ub (x / 2 ^ k)
  have a3 : 1 ≤ bl (x / 2 ^ k) := by rw [bl_pos h0]; omega
  have e : bl (x / 2 ^ k) + k = (bl (x / 2 ^ k) - 1 + k) + 1 := by omega
  rw [e]
  apply bl_eq
  · rw [Nat.pow_add]
    exact Nat.le_trans (Nat.mul_le_mul_right _ a1) (Nat.div_mul_le_self x (2 ^ k))
  · rw [show bl (x / 2 ^ k) - 1 + k + 1 = bl (x / 2 ^ k) + k by omega, Nat.pow_add]
    exact (Nat.div_lt_iff_lt_mul hp).mp a2
theorem bl_small4 : ∀ x, x < 4 → 0 < x → bl x = 1 + x / 2 := by decide +kernel
theorem bl_small (x : Nat) (h1 : 0 < x) (h2 : x < 4) : bl x = 1 + x / 2 := bl_small4 x h2 h1
theorem bl_ge1 {x : Nat} (h : 0 < x) : 1 ≤ bl x := by rw [bl_pos h]; omega
