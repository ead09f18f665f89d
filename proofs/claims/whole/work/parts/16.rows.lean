/-! ROWS AT NUMBERS -/
theorem nI_L {n : Nat} (h : n < 2 ^ 31) : (nI n).toInt64 = lN n := nI_l h
theorem lN_and30 (n : Nat) : lN n &&& lN 1073741823 = lN (n % 1073741824) := by
  rw [lN_lI, lN_lI (n % 1073741824)]
  exact (lI_and30 n).trans (by rw [Int.natCast_emod]; rfl)
theorem lN_and15 (n : Nat) : lN n &&& lN 32767 = lN (n % 32768) := by
  rw [lN_lI, lN_lI (n % 32768)]
  exact (lI_and15 n).trans (by rw [Int.natCast_emod]; rfl)
theorem nI_and30 (n : Nat) : nI n &&& nI 1073741823 = nI (n % 1073741824) := by
  rw [nI_iI, nI_iI (n % 1073741824)]
  exact (iI_and30 n).trans (by rw [Int.natCast_emod]; rfl)
theorem lN_shr30 {n : Nat} (h : n < 2 ^ 63) : lN n >>> ((nI 30).toInt64 &&& 63) = lN (n / 1073741824) := by
  rw [lN_lI, lN_lI (n / 1073741824)]
  exact (lI_shr30 (z := n) (by omega) (by omega)).trans (by rw [Int.natCast_ediv]; rfl)
theorem lN_shr15 {n : Nat} (h : n < 2 ^ 63) : lN n >>> ((nI 15).toInt64 &&& 63) = lN (n / 32768) := by
  rw [lN_lI, lN_lI (n / 32768)]
  exact (lI_shr15 (z := n) (by omega) (by omega)).trans (by rw [Int.natCast_ediv]; rfl)
theorem nI_shr30 {n : Nat} (h : n < 2 ^ 31) : nI n >>> (nI 30 &&& 31) = nI (n / 1073741824) := by
  rw [nI_iI, nI_iI (n / 1073741824)]
  exact (iI_shr30 (z := n) (by omega) (by omega)).trans (by rw [Int.natCast_ediv]; rfl)
theorem lN_shl30 {n : Nat} (h : n < 2 ^ 33) : lN n <<< ((nI 30).toInt64 &&& 63) = lN (n * 1073741824) := by
  rw [lN_lI, lN_lI (n * 1073741824)]
  exact (lI_shl30 (z := n) (by omega) (by omega)).trans (by rw [Int.natCast_mul]; rfl)
theorem lN_shl15 {n : Nat} (h : n < 2 ^ 48) : lN n <<< ((nI 15).toInt64 &&& 63) = lN (n * 32768) := by
  rw [lN_lI, lN_lI (n * 32768)]
  exact (lI_shl15 (z := n) (by omega) (by omega)).trans (by rw [Int.natCast_mul]; rfl)
theorem lN_or30 {x y : Nat} (hx : x < 2 ^ 33) (hy : y < 1073741824) : lN (x * 1073741824) ||| lN y = lN (x * 1073741824 + y) := by
  rw [lN_lI, lN_lI y, lN_lI (x * 1073741824 + y)]
  have h := lI_or30 hx hy
  rw [Int.natCast_add, Int.natCast_mul]
  exact h
section ZN
variable {Z : ZP} {own : String} {cc : ByteArray} {nL : Nat} {R : Room} {k n pc : Nat} {w : List va_E} {lv : List (Nat × Value)} {st : List Value}
theorem z_topi {x y : Int32} (e : x = y) (kk : Z k n w lv pc (.int y :: st)) : Z k n w lv pc (.int x :: st) := by rw [e]; exact kk
theorem z_topl {x y : Int64} (e : x = y) (kk : Z k n w lv pc (.long y :: st)) : Z k n w lv pc (.long x :: st) := by rw [e]; exact kk
theorem z_w {w' : List va_E} (e : w = w') (kk : Z k n w' lv pc st) : Z k n w lv pc st := by rw [e]; exact kk
theorem z_iaddN (h : Cb Z own cc nL R) {x y : Nat} (d : decode cc pc = .ok (.iadd, 1)) (kk : Z k n w lv (pc + 1) (.int (nI (x + y)) :: st)) : Z k n w lv pc (.int (nI y) :: .int (nI x) :: st) := by
  exact z_iadd h d (z_topi (nI_add x y) kk)
theorem z_imulN (h : Cb Z own cc nL R) {x y : Nat} (d : decode cc pc = .ok (.imul, 1)) (kk : Z k n w lv (pc + 1) (.int (nI (x * y)) :: st)) : Z k n w lv pc (.int (nI y) :: .int (nI x) :: st) := by
  exact z_imul h d (z_topi (pk_mul x y) kk)
theorem z_isubN (h : Cb Z own cc nL R) {x y : Nat} (d : decode cc pc = .ok (.isub, 1)) (hle : y ≤ x) (kk : Z k n w lv (pc + 1) (.int (nI (x - y)) :: st)) : Z k n w lv pc (.int (nI y) :: .int (nI x) :: st) := by
  exact z_isub h d (z_topi (pk_sub hle) kk)
theorem z_idivN (h : Cb Z own cc nL R) {x y : Nat} (d : decode cc pc = .ok (.idiv, 1)) (hs : x < 2 ^ 31 ∧ 0 < y ∧ y < 2 ^ 31) (kk : Z k n w lv (pc + 1) (.int (nI (x / y)) :: st)) : Z k n w lv pc (.int (nI y) :: .int (nI x) :: st) := by
  exact z_idiv h d (nI_ne0 hs.2.1 hs.2.2) (z_topi (pk_div hs.1 hs.2.1 hs.2.2) kk)
theorem z_iremN (h : Cb Z own cc nL R) {x y : Nat} (d : decode cc pc = .ok (.irem, 1)) (hs : x < 2 ^ 31 ∧ 0 < y ∧ y < 2 ^ 31) (kk : Z k n w lv (pc + 1) (.int (nI (x % y)) :: st)) : Z k n w lv pc (.int (nI y) :: .int (nI x) :: st) := by
  exact z_irem h d (nI_ne0 hs.2.1 hs.2.2) (z_topi (pk_rem hs.1 hs.2.1 hs.2.2) kk)
theorem z_iand30N (h : Cb Z own cc nL R) {x : Nat} (d : decode cc pc = .ok (.iand, 1)) (kk : Z k n w lv (pc + 1) (.int (nI (x % 1073741824)) :: st)) : Z k n w lv pc (.int (nI 1073741823) :: .int (nI x) :: st) := by
  exact z_iand h d (z_topi (nI_and30 x) kk)
theorem z_ishr30N (h : Cb Z own cc nL R) {x : Nat} (d : decode cc pc = .ok (.ishr, 1)) (hs : x < 2 ^ 31) (kk : Z k n w lv (pc + 1) (.int (nI (x / 1073741824)) :: st)) : Z k n w lv pc (.int (nI 30) :: .int (nI x) :: st) := by
  exact z_ishr h d (z_topi (nI_shr30 hs) kk)
theorem z_laddN (h : Cb Z own cc nL R) {x y : Nat} (d : decode cc pc = .ok (.ladd, 1)) (kk : Z k n w lv (pc + 1) (.long (lN (x + y)) :: st)) : Z k n w lv pc (.long (lN y) :: .long (lN x) :: st) := by
  exact z_ladd h d (z_topl (lN_add x y) kk)
theorem z_lmulN (h : Cb Z own cc nL R) {x y : Nat} (d : decode cc pc = .ok (.lmul, 1)) (kk : Z k n w lv (pc + 1) (.long (lN (x * y)) :: st)) : Z k n w lv pc (.long (lN y) :: .long (lN x) :: st) := by
  exact z_lmul h d (z_topl (lN_mul x y) kk)
theorem z_lsubN (h : Cb Z own cc nL R) {x y : Nat} (d : decode cc pc = .ok (.lsub, 1)) (hle : y ≤ x) (kk : Z k n w lv (pc + 1) (.long (lN (x - y)) :: st)) : Z k n w lv pc (.long (lN y) :: .long (lN x) :: st) := by
  exact z_lsub h d (z_topl (lN_sub hle) kk)
theorem lN_ne0 {n : Nat} (h0 : 0 < n) (h : n < 2 ^ 63) : ¬ lN n = 0 := fun e => by
  have := (pk_lEQ (a := n) (b := 0) h (by decide)).mp e
  omega
theorem z_ldivN (h : Cb Z own cc nL R) {x y : Nat} (d : decode cc pc = .ok (.ldiv, 1)) (hs : x < 2 ^ 63 ∧ 0 < y ∧ y < 2 ^ 63) (kk : Z k n w lv (pc + 1) (.long (lN (x / y)) :: st)) : Z k n w lv pc (.long (lN y) :: .long (lN x) :: st) := by
  exact z_ldiv h d (lN_ne0 hs.2.1 hs.2.2) (z_topl (pk_lDiv hs.1 hs.2.1 hs.2.2) kk)
theorem z_lremN (h : Cb Z own cc nL R) {x y : Nat} (d : decode cc pc = .ok (.lrem, 1)) (hs : x < 2 ^ 63 ∧ 0 < y ∧ y < 2 ^ 63) (kk : Z k n w lv (pc + 1) (.long (lN (x % y)) :: st)) : Z k n w lv pc (.long (lN y) :: .long (lN x) :: st) := by
  exact z_lrem h d (lN_ne0 hs.2.1 hs.2.2) (z_topl (pk_lRem hs.1 hs.2.1 hs.2.2) kk)
theorem z_land30N (h : Cb Z own cc nL R) {x : Nat} (d : decode cc pc = .ok (.land, 1)) (kk : Z k n w lv (pc + 1) (.long (lN (x % 1073741824)) :: st)) : Z k n w lv pc (.long (lN 1073741823) :: .long (lN x) :: st) := by
  exact z_land h d (z_topl (lN_and30 x) kk)
theorem z_lshr30N (h : Cb Z own cc nL R) {x : Nat} (d : decode cc pc = .ok (.lshr, 1)) (hs : x < 2 ^ 63) (kk : Z k n w lv (pc + 1) (.long (lN (x / 1073741824)) :: st)) : Z k n w lv pc (.int (nI 30) :: .long (lN x) :: st) := by
  exact z_lshr h d (z_topl (lN_shr30 hs) kk)
theorem z_lshl30N (h : Cb Z own cc nL R) {x : Nat} (d : decode cc pc = .ok (.lshl, 1)) (hs : x < 2 ^ 33) (kk : Z k n w lv (pc + 1) (.long (lN (x * 1073741824)) :: st)) : Z k n w lv pc (.int (nI 30) :: .long (lN x) :: st) := by
  exact z_lshl h d (z_topl (lN_shl30 hs) kk)
theorem z_land15N (h : Cb Z own cc nL R) {x : Nat} (d : decode cc pc = .ok (.land, 1)) (kk : Z k n w lv (pc + 1) (.long (lN (x % 32768)) :: st)) : Z k n w lv pc (.long (lN 32767) :: .long (lN x) :: st) := by
  exact z_land h d (z_topl (lN_and15 x) kk)
theorem z_lshr15N (h : Cb Z own cc nL R) {x : Nat} (d : decode cc pc = .ok (.lshr, 1)) (hs : x < 2 ^ 63) (kk : Z k n w lv (pc + 1) (.long (lN (x / 32768)) :: st)) : Z k n w lv pc (.int (nI 15) :: .long (lN x) :: st) := by
  exact z_lshr h d (z_topl (lN_shr15 hs) kk)
theorem z_lshl15N (h : Cb Z own cc nL R) {x : Nat} (d : decode cc pc = .ok (.lshl, 1)) (hs : x < 2 ^ 48) (kk : Z k n w lv (pc + 1) (.long (lN (x * 32768)) :: st)) : Z k n w lv pc (.int (nI 15) :: .long (lN x) :: st) := by
  exact z_lshl h d (z_topl (lN_shl15 hs) kk)
theorem z_lorN (h : Cb Z own cc nL R) {x y : Nat} (d : decode cc pc = .ok (.lor, 1)) (hs : x < 2 ^ 33 ∧ y < 1073741824) (kk : Z k n w lv (pc + 1) (.long (lN (x * 1073741824 + y)) :: st)) : Z k n w lv pc (.long (lN y) :: .long (lN (x * 1073741824)) :: st) := by
  exact z_lor h d (z_topl (lN_or30 hs.1 hs.2) kk)
theorem z_i2lN (h : Cb Z own cc nL R) {x : Nat} (d : decode cc pc = .ok (.i2l, 1)) (hs : x < 2 ^ 31) (kk : Z k n w lv (pc + 1) (.long (lN x) :: st)) : Z k n w lv pc (.int (nI x) :: st) := by
  exact z_i2l h d (z_topl (nI_L hs) kk)
theorem z_l2iN (h : Cb Z own cc nL R) {x : Nat} (d : decode cc pc = .ok (.l2i, 1)) (kk : Z k n w lv (pc + 1) (.int (nI x) :: st)) : Z k n w lv pc (.long (lN x) :: st) := by
  exact z_l2i h d (z_topi (lN_i x) kk)
theorem z_iincN (h : Cb Z own cc nL R) {i x : Nat} {b : Int} (c : Nat) (d : decode cc pc = .ok (.iinc i b, 3)) (hg : zg lv i = some (.int (nI x))) (hv : Int32.ofInt b = nI c) (hn : i < nL) (kk : Z k n w (zs1 lv i (.int (nI (x + c)))) (pc + 3) st) : Z k n w lv pc st := by
  refine z_iinc h d hg hv hn ?_
  rw [nI_add]
  exact kk
theorem z_iincD (h : Cb Z own cc nL R) {i x : Nat} (d : decode cc pc = .ok (.iinc i (-1), 3)) (hg : zg lv i = some (.int (nI (x + 1) - 1))) (hn : i < nL) (kk : Z k n w (zs1 lv i (.int (nI x - 1))) (pc + 3) st) : Z k n w lv pc st := by
  refine z_iinc (cst := -1) h d hg (by decide) hn ?_
  rw [nI_pred, show nI x + (-1 : Int32) = nI x - 1 from (Int32.sub_eq_add_neg _ _).symm]
  exact kk
theorem z_ialoadN (h : Cb Z own cc nL R) {a N i : Nat} {f : Nat → Nat} (d : decode cc pc = .ok (.iaload, 1)) (he : w[a]? = some (ar N f)) (hs : i < N ∧ N < 2 ^ 31) (kk : Z k n w lv (pc + 1) (.int (nI (f i)) :: st)) : Z k n w lv pc (.int (nI i) :: .ref a :: st) := by
  refine z_iaload h d he (vp_in_nI hs.1 hs.2) ?_
  rw [nI_clamp (by omega)]
  exact kk
theorem z_iastoreN (h : Cb Z own cc nL R) {a N i x : Nat} {f : Nat → Nat} (d : decode cc pc = .ok (.iastore, 1)) (he : w[a]? = some (ar N f)) (hs : i < N ∧ N < 2 ^ 31) (kk : Z k n (w.set a (ar N (un f i x))) lv (pc + 1) st) : Z k n w lv pc (.int (nI x) :: .int (nI i) :: .ref a :: st) := by
  refine z_iastore h d he (vp_in_nI hs.1 hs.2) ?_
  rw [nI_clamp (by omega), upd_nI]
  exact kk
theorem z_alenN (h : Cb Z own cc nL R) {a N : Nat} {f : Nat → Nat} (d : decode cc pc = .ok (.arraylength, 1)) (he : w[a]? = some (ar N f)) (kk : Z k n w lv (pc + 1) (.int (nI N) :: st)) : Z k n w lv pc (.ref a :: st) := z_alen h d he (by decide) rfl kk
theorem z_mminN (h : Cb Z own cc nL R) {ix x y : Nat} (d : decode cc pc = .ok (.invokestatic ix, 3)) (hl : Cond.methodLink own ix Lib.Math.min.name ∈ TT) (hf : 1 ≤ R.frames) (hlo : (st.map fun v => v.category).sum + 13 ≤ R.locals) (hc : k ≤ R.cells) (hs : n ≤ R.slots) (hb : x < 2 ^ 31 ∧ y < 2 ^ 31) (kk : Z k n w lv (pc + 3) (.int (nI (min x y)) :: st)) : Z k n w lv pc (.int (nI y) :: .int (nI x) :: st) := by
  refine z_mmin h d hl hf hlo hc hs (z_topi (y := nI (min x y)) ?_ kk)
  by_cases q : y < x
  · rw [if_pos ((nI_ltI hb.2 hb.1).mpr q), Nat.min_eq_right (by omega)]
  · rw [if_neg (fun z => q ((nI_ltI hb.2 hb.1).mp z)), Nat.min_eq_left (by omega)]
theorem z_mmaxN (h : Cb Z own cc nL R) {ix x y : Nat} (d : decode cc pc = .ok (.invokestatic ix, 3)) (hl : Cond.methodLink own ix Lib.Math.max.name ∈ TT) (hf : 1 ≤ R.frames) (hlo : (st.map fun v => v.category).sum + 13 ≤ R.locals) (hc : k ≤ R.cells) (hs : n ≤ R.slots) (hb : x < 2 ^ 31 ∧ y < 2 ^ 31) (kk : Z k n w lv (pc + 3) (.int (nI (max x y)) :: st)) : Z k n w lv pc (.int (nI y) :: .int (nI x) :: st) := by
  refine z_mmax h d hl hf hlo hc hs (z_topi (y := nI (max x y)) ?_ kk)
  by_cases q : x < y
  · rw [if_pos ((nI_ltI hb.1 hb.2).mpr q), Nat.max_eq_right (by omega)]
  · rw [if_neg (fun z => q ((nI_ltI hb.1 hb.2).mp z)), Nat.max_eq_left (by omega)]
theorem z_mminlN (h : Cb Z own cc nL R) {ix x y : Nat} (d : decode cc pc = .ok (.invokestatic ix, 3)) (hl : Cond.methodLink own ix Lib.MathLoose.min_long.x ∈ TT) (hf : 1 ≤ R.frames) (hlo : (st.map fun v => v.category).sum + 15 ≤ R.locals) (hc : k ≤ R.cells) (hs : n ≤ R.slots) (hb : x < 2 ^ 63 ∧ y < 2 ^ 63) (kk : Z k n w lv (pc + 3) (.long (lN (min x y)) :: st)) : Z k n w lv pc (.long (lN y) :: .long (lN x) :: st) := by
  refine z_mminl h d hl hf hlo hc hs (z_topl (y := lN (min x y)) ?_ kk)
  by_cases q : y < x
  · rw [if_pos ((pk_lLT hb.2 hb.1).mpr q), Nat.min_eq_right (by omega)]
  · rw [if_neg (fun z => q ((pk_lLT hb.2 hb.1).mp z)), Nat.min_eq_left (by omega)]
theorem z_copyN (h : Cb Z own cc nL R) {ix a b N0 N1 sp dp q : Nat} {f g : Nat → Nat} (d : decode cc pc = .ok (.invokestatic ix, 3)) (hl : Cond.methodLink own ix arraycopyName ∈ TT) (ha : w[a]? = some (ar N0 f)) (hb9 : w[b]? = some (ar N1 g)) (hs : sp + q ≤ N0 ∧ dp + q ≤ N1 ∧ N0 < 2 ^ 31 ∧ N1 < 2 ^ 31) (hf : 1 ≤ R.frames) (hlo : (st.map fun v => v.category).sum + (nativeFrameWords "java/lang/System" "arraycopy" 5 + 11) ≤ R.locals)
    (kk : Z k n (w.set b (ar N1 (va_cpy f g sp dp q))) lv (pc + 3) st) : Z k n w lv pc (.int (nI q) :: .int (nI dp) :: .ref b :: .int (nI sp) :: .ref a :: st) := by
  obtain ⟨g1, g2, g3, g4⟩ := hs
  refine z_copy h d hl ha hb9 (nI_pos (by omega)) (nI_pos (by omega)) (nI_pos (by omega)) (by rw [nI_clamp (by omega), nI_clamp (by omega)]; exact g1) (by rw [nI_clamp (by omega), nI_clamp (by omega)]; exact g2) hf hlo ?_
  rw [nI_clamp (by omega), nI_clamp (by omega), nI_clamp (by omega)]
  have e : va_cpy (fun j => nI (f j)) (fun j => nI (g j)) sp dp q = fun j => nI (va_cpy f g sp dp q j) := by
    funext j
    unfold va_cpy
    split <;> rfl
  rw [e]
  exact kk
theorem z_icmp_eqN (h : Cb Z own cc nL R) {x y tgt : Nat} {off : Int} (d : decode cc pc = .ok (.if_icmp .eq off, 3)) (ht : (pc : Int) + off = (tgt : Int)) (hs : x < 2 ^ 31 ∧ y < 2 ^ 31) (kt : x = y → Z k n w lv tgt st) (kf : ¬ x = y → Z k n w lv (pc + 3) st) : Z k n w lv pc (.int (nI y) :: .int (nI x) :: st) :=
  z_icmp_eq h d ht (fun q => kt ((nI_eq hs.1 hs.2).mp q)) (fun q => kf (fun z => q ((nI_eq hs.1 hs.2).mpr z)))
theorem z_icmp_neN (h : Cb Z own cc nL R) {x y tgt : Nat} {off : Int} (d : decode cc pc = .ok (.if_icmp .ne off, 3)) (ht : (pc : Int) + off = (tgt : Int)) (hs : x < 2 ^ 31 ∧ y < 2 ^ 31) (kt : ¬ x = y → Z k n w lv tgt st) (kf : x = y → Z k n w lv (pc + 3) st) : Z k n w lv pc (.int (nI y) :: .int (nI x) :: st) :=
  z_icmp_ne h d ht (fun q => kt (fun z => q ((nI_eq hs.1 hs.2).mpr z))) (fun q => kf ((nI_eq hs.1 hs.2).mp q))
theorem z_icmp_ltN (h : Cb Z own cc nL R) {x y tgt : Nat} {off : Int} (d : decode cc pc = .ok (.if_icmp .lt off, 3)) (ht : (pc : Int) + off = (tgt : Int)) (hs : x < 2 ^ 31 ∧ y < 2 ^ 31) (kt : x < y → Z k n w lv tgt st) (kf : y ≤ x → Z k n w lv (pc + 3) st) : Z k n w lv pc (.int (nI y) :: .int (nI x) :: st) :=
  z_icmp_lt h d ht (fun q => kt ((nI_ltI hs.1 hs.2).mp q)) (fun q => kf (Nat.le_of_not_lt (fun z => q ((nI_ltI hs.1 hs.2).mpr z))))
theorem z_icmp_geN (h : Cb Z own cc nL R) {x y tgt : Nat} {off : Int} (d : decode cc pc = .ok (.if_icmp .ge off, 3)) (ht : (pc : Int) + off = (tgt : Int)) (hs : x < 2 ^ 31 ∧ y < 2 ^ 31) (kt : y ≤ x → Z k n w lv tgt st) (kf : x < y → Z k n w lv (pc + 3) st) : Z k n w lv pc (.int (nI y) :: .int (nI x) :: st) :=
  z_icmp_ge h d ht (fun q => kt ((nI_leI hs.2 hs.1).mp q)) (fun q => kf (Nat.lt_of_not_le (fun z => q ((nI_leI hs.2 hs.1).mpr z))))
theorem z_icmp_gtN (h : Cb Z own cc nL R) {x y tgt : Nat} {off : Int} (d : decode cc pc = .ok (.if_icmp .gt off, 3)) (ht : (pc : Int) + off = (tgt : Int)) (hs : x < 2 ^ 31 ∧ y < 2 ^ 31) (kt : y < x → Z k n w lv tgt st) (kf : x ≤ y → Z k n w lv (pc + 3) st) : Z k n w lv pc (.int (nI y) :: .int (nI x) :: st) :=
  z_icmp_gt h d ht (fun q => kt ((nI_ltI hs.2 hs.1).mp q)) (fun q => kf (Nat.le_of_not_lt (fun z => q ((nI_ltI hs.2 hs.1).mpr z))))
theorem z_icmp_leN (h : Cb Z own cc nL R) {x y tgt : Nat} {off : Int} (d : decode cc pc = .ok (.if_icmp .le off, 3)) (ht : (pc : Int) + off = (tgt : Int)) (hs : x < 2 ^ 31 ∧ y < 2 ^ 31) (kt : x ≤ y → Z k n w lv tgt st) (kf : y < x → Z k n w lv (pc + 3) st) : Z k n w lv pc (.int (nI y) :: .int (nI x) :: st) :=
  z_icmp_le h d ht (fun q => kt ((nI_leI hs.1 hs.2).mp q)) (fun q => kf (Nat.lt_of_not_le (fun z => q ((nI_leI hs.1 hs.2).mpr z))))
theorem nI_z {x : Nat} (hs : x < 2 ^ 31) : nI x = 0 ↔ x = 0 := by rw [← nI_0]; exact nI_eq hs (by decide)
theorem z_if_eqN (h : Cb Z own cc nL R) {x tgt : Nat} {off : Int} (d : decode cc pc = .ok (.ifCond .eq off, 3)) (ht : (pc : Int) + off = (tgt : Int)) (hs : x < 2 ^ 31) (kt : x = 0 → Z k n w lv tgt st) (kf : ¬ x = 0 → Z k n w lv (pc + 3) st) : Z k n w lv pc (.int (nI x) :: st) :=
  z_if_eq h d ht (fun q => kt ((nI_z hs).mp q)) (fun q => kf (fun z => q ((nI_z hs).mpr z)))
theorem z_if_neN (h : Cb Z own cc nL R) {x tgt : Nat} {off : Int} (d : decode cc pc = .ok (.ifCond .ne off, 3)) (ht : (pc : Int) + off = (tgt : Int)) (hs : x < 2 ^ 31) (kt : ¬ x = 0 → Z k n w lv tgt st) (kf : x = 0 → Z k n w lv (pc + 3) st) : Z k n w lv pc (.int (nI x) :: st) :=
  z_if_ne h d ht (fun q => kt (fun z => q ((nI_z hs).mpr z))) (fun q => kf ((nI_z hs).mp q))
theorem z_if_gtN (h : Cb Z own cc nL R) {x tgt : Nat} {off : Int} (d : decode cc pc = .ok (.ifCond .gt off, 3)) (ht : (pc : Int) + off = (tgt : Int)) (hs : x < 2 ^ 31) (kt : 0 < x → Z k n w lv tgt st) (kf : x = 0 → Z k n w lv (pc + 3) st) : Z k n w lv pc (.int (nI x) :: st) :=
  z_if_gt h d ht (fun q => kt (Nat.pos_of_ne_zero (fun z => by rw [z, nI_0] at q; exact absurd q (by decide)))) (fun q => kf (by rcases Nat.eq_zero_or_pos x with z | z; exact z; exact absurd (by rw [← nI_0]; exact (nI_ltI (by decide) hs).mpr z) q))
theorem z_if_leN (h : Cb Z own cc nL R) {x tgt : Nat} {off : Int} (d : decode cc pc = .ok (.ifCond .le off, 3)) (ht : (pc : Int) + off = (tgt : Int)) (hs : x < 2 ^ 31) (kt : x = 0 → Z k n w lv tgt st) (kf : 0 < x → Z k n w lv (pc + 3) st) : Z k n w lv pc (.int (nI x) :: st) :=
  z_if_le h d ht (fun q => kt (by rcases Nat.eq_zero_or_pos x with z | z; exact z; exact absurd q (nI_nle z hs))) (fun q => kf (Nat.pos_of_ne_zero (fun z => q (by rw [z, nI_0]; decide))))
theorem nI_m1 {x : Nat} (hs : x < 2 ^ 31) : nI x - 1 < 0 ↔ x = 0 := by
  constructor
  · intro q
    rcases Nat.eq_zero_or_pos x with z | z
    · exact z
    · obtain ⟨y, rfl⟩ : ∃ y, x = y + 1 := ⟨x - 1, by omega⟩
      rw [nI_pred] at q
      exact absurd q (nI_pos (by omega))
  · intro z
    rw [z, nI_0]
    decide
theorem z_if_ltD (h : Cb Z own cc nL R) {x tgt : Nat} {off : Int} (d : decode cc pc = .ok (.ifCond .lt off, 3)) (ht : (pc : Int) + off = (tgt : Int)) (hs : x < 2 ^ 31) (kt : x = 0 → Z k n w lv tgt st) (kf : ∀ y, x = y + 1 → Z k n w lv (pc + 3) st) : Z k n w lv pc (.int (nI x - 1) :: st) :=
  z_if_lt h d ht (fun q => kt ((nI_m1 hs).mp q)) (fun q => kf (x - 1) (by have : ¬ x = 0 := fun z => q ((nI_m1 hs).mpr z); omega))
theorem z_lcmp_eqN (h : Cb Z own cc nL R) {x y tgt : Nat} {off : Int} (d1 : decode cc pc = .ok (.lcmp, 1)) (d : decode cc (pc + 1) = .ok (.ifCond .eq off, 3)) (ht : ((pc + 1 : Nat) : Int) + off = (tgt : Int)) (hs : x < 2 ^ 63 ∧ y < 2 ^ 63) (kt : x = y → Z k n w lv tgt st) (kf : ¬ x = y → Z k n w lv (pc + 1 + 3) st) : Z k n w lv pc (.long (lN y) :: .long (lN x) :: st) :=
  z_lcmp h d1 (z_if_eq h d ht (fun q => kt (((lg_cmp_eq (lN x) (lN y)).trans (pk_lEQ hs.1 hs.2)).mp q)) (fun q => kf (fun z => q (((lg_cmp_eq (lN x) (lN y)).trans (pk_lEQ hs.1 hs.2)).mpr z))))
theorem z_lcmp_neN (h : Cb Z own cc nL R) {x y tgt : Nat} {off : Int} (d1 : decode cc pc = .ok (.lcmp, 1)) (d : decode cc (pc + 1) = .ok (.ifCond .ne off, 3)) (ht : ((pc + 1 : Nat) : Int) + off = (tgt : Int)) (hs : x < 2 ^ 63 ∧ y < 2 ^ 63) (kt : ¬ x = y → Z k n w lv tgt st) (kf : x = y → Z k n w lv (pc + 1 + 3) st) : Z k n w lv pc (.long (lN y) :: .long (lN x) :: st) :=
  z_lcmp h d1 (z_if_ne h d ht (fun q => kt (fun z => q (((lg_cmp_eq (lN x) (lN y)).trans (pk_lEQ hs.1 hs.2)).mpr z))) (fun q => kf (((lg_cmp_eq (lN x) (lN y)).trans (pk_lEQ hs.1 hs.2)).mp q)))
theorem z_lcmp_ltN (h : Cb Z own cc nL R) {x y tgt : Nat} {off : Int} (d1 : decode cc pc = .ok (.lcmp, 1)) (d : decode cc (pc + 1) = .ok (.ifCond .lt off, 3)) (ht : ((pc + 1 : Nat) : Int) + off = (tgt : Int)) (hs : x < 2 ^ 63 ∧ y < 2 ^ 63) (kt : x < y → Z k n w lv tgt st) (kf : y ≤ x → Z k n w lv (pc + 1 + 3) st) : Z k n w lv pc (.long (lN y) :: .long (lN x) :: st) :=
  z_lcmp h d1 (z_if_lt h d ht (fun q => kt (((lg_cmp_lt (lN x) (lN y)).trans (pk_lLT hs.1 hs.2)).mp q)) (fun q => kf (Nat.le_of_not_lt (fun z => q (((lg_cmp_lt (lN x) (lN y)).trans (pk_lLT hs.1 hs.2)).mpr z)))))
theorem z_lcmp_geN (h : Cb Z own cc nL R) {x y tgt : Nat} {off : Int} (d1 : decode cc pc = .ok (.lcmp, 1)) (d : decode cc (pc + 1) = .ok (.ifCond .ge off, 3)) (ht : ((pc + 1 : Nat) : Int) + off = (tgt : Int)) (hs : x < 2 ^ 63 ∧ y < 2 ^ 63) (kt : y ≤ x → Z k n w lv tgt st) (kf : x < y → Z k n w lv (pc + 1 + 3) st) : Z k n w lv pc (.long (lN y) :: .long (lN x) :: st) :=
  z_lcmp h d1 (z_if_ge h d ht (fun q => kt (((lg_cmp_ge (lN x) (lN y)).trans (pk_lLE hs.2 hs.1)).mp q)) (fun q => kf (Nat.lt_of_not_le (fun z => q (((lg_cmp_ge (lN x) (lN y)).trans (pk_lLE hs.2 hs.1)).mpr z)))))
theorem z_lcmp_gtN (h : Cb Z own cc nL R) {x y tgt : Nat} {off : Int} (d1 : decode cc pc = .ok (.lcmp, 1)) (d : decode cc (pc + 1) = .ok (.ifCond .gt off, 3)) (ht : ((pc + 1 : Nat) : Int) + off = (tgt : Int)) (hs : x < 2 ^ 63 ∧ y < 2 ^ 63) (kt : y < x → Z k n w lv tgt st) (kf : x ≤ y → Z k n w lv (pc + 1 + 3) st) : Z k n w lv pc (.long (lN y) :: .long (lN x) :: st) :=
  z_lcmp h d1 (z_if_gt h d ht (fun q => kt (((lg_cmp_gt (lN x) (lN y)).trans (pk_lLT hs.2 hs.1)).mp q)) (fun q => kf (Nat.le_of_not_lt (fun z => q (((lg_cmp_gt (lN x) (lN y)).trans (pk_lLT hs.2 hs.1)).mpr z)))))
theorem z_lcmp_leN (h : Cb Z own cc nL R) {x y tgt : Nat} {off : Int} (d1 : decode cc pc = .ok (.lcmp, 1)) (d : decode cc (pc + 1) = .ok (.ifCond .le off, 3)) (ht : ((pc + 1 : Nat) : Int) + off = (tgt : Int)) (hs : x < 2 ^ 63 ∧ y < 2 ^ 63) (kt : x ≤ y → Z k n w lv tgt st) (kf : y < x → Z k n w lv (pc + 1 + 3) st) : Z k n w lv pc (.long (lN y) :: .long (lN x) :: st) :=
  z_lcmp h d1 (z_if_le h d ht (fun q => kt (((lg_cmp_le (lN x) (lN y)).trans (pk_lLE hs.1 hs.2)).mp q)) (fun q => kf (Nat.lt_of_not_le (fun z => q (((lg_cmp_le (lN x) (lN y)).trans (pk_lLE hs.1 hs.2)).mpr z)))))
theorem z_iaddI (h : Cb Z own cc nL R) {x y : Int} (d : decode cc pc = .ok (.iadd, 1)) (kk : Z k n w lv (pc + 1) (.int (iI (x + y)) :: st)) : Z k n w lv pc (.int (iI y) :: .int (iI x) :: st) := by
  exact z_iadd h d (z_topi (iI_add x y) kk)
theorem z_isubI (h : Cb Z own cc nL R) {x y : Int} (d : decode cc pc = .ok (.isub, 1)) (kk : Z k n w lv (pc + 1) (.int (iI (x - y)) :: st)) : Z k n w lv pc (.int (iI y) :: .int (iI x) :: st) := by
  exact z_isub h d (z_topi (iI_sub x y) kk)
theorem z_imulI (h : Cb Z own cc nL R) {x y : Int} (d : decode cc pc = .ok (.imul, 1)) (kk : Z k n w lv (pc + 1) (.int (iI (x * y)) :: st)) : Z k n w lv pc (.int (iI y) :: .int (iI x) :: st) := by
  exact z_imul h d (z_topi (iI_mul x y) kk)
theorem z_laddI (h : Cb Z own cc nL R) {x y : Int} (d : decode cc pc = .ok (.ladd, 1)) (kk : Z k n w lv (pc + 1) (.long (lI (x + y)) :: st)) : Z k n w lv pc (.long (lI y) :: .long (lI x) :: st) := by
  exact z_ladd h d (z_topl (lI_add x y) kk)
theorem z_lsubI (h : Cb Z own cc nL R) {x y : Int} (d : decode cc pc = .ok (.lsub, 1)) (kk : Z k n w lv (pc + 1) (.long (lI (x - y)) :: st)) : Z k n w lv pc (.long (lI y) :: .long (lI x) :: st) := by
  exact z_lsub h d (z_topl (lI_sub x y) kk)
theorem z_lmulI (h : Cb Z own cc nL R) {x y : Int} (d : decode cc pc = .ok (.lmul, 1)) (kk : Z k n w lv (pc + 1) (.long (lI (x * y)) :: st)) : Z k n w lv pc (.long (lI y) :: .long (lI x) :: st) := by
  exact z_lmul h d (z_topl (lI_mul x y) kk)
end ZN
