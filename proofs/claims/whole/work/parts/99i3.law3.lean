/-! the law: the class and the reference answer alike, call by call -/
def Pair (y : MethodName) (cy : ByteArray) (ny : Nat) (hs : List Hrow) (As : List Value) (y2 : MethodName) (c2 : ByteArray) (n2 : Nat) (As2 : List Value) : Prop :=
  ∀ (v b v2 b2 t : Nat) (o : Int) (wH wM : List va_E), HW qM cM v b v2 b2 o wH → RS v b v2 b2 t wM → ∃ (k v' b' v2' b2' : Nat) (o' : Int) (a : Int32), k ≤ 2 ∧ (k = 0 → o' = a.toInt) ∧ MH y cy ny hs (rmT 11) (.ref 0 :: As) wH (HP k v' b' v2' b2' o') ∧ MS y2 c2 n2 (some .int) (rm 7) (.ref 0 :: As2) wM (RP a v' b' v2' b2' k)
theorem lN_ofI {x : Int64} (h : ¬ x < 0) : ∃ n : Nat, x = lN n ∧ n < 2 ^ 63 ∧ x.toInt = n := by
  have h1 : 0 ≤ x.toInt := by
    have h2 : ¬ x.toInt < (0 : Int64).toInt := fun q => h (Int64.lt_iff_toInt_lt.mpr q)
    have h3 : (0 : Int64).toInt = 0 := by decide
    omega
  have h2 := Int64.toInt_lt x
  refine ⟨x.toInt.toNat, ?_, by omega, by omega⟩
  rw [lN_lI, Int.toNat_of_nonneg h1, lI_self]
theorem ltI {x y : Int32} : x < y ↔ x.toInt < y.toInt := Int32.lt_iff_toInt_lt
theorem okB_n {y : Int32} (h : okB y) : ∃ b : Nat, y = nI b ∧ 2 ≤ b ∧ b < 37 := by
  obtain ⟨h1, h2⟩ := h
  rw [ltI] at h1 h2
  have e1 : (2 : Int32).toInt = 2 := by decide
  have e2 : (36 : Int32).toInt = 36 := by decide
  have e0 : (0 : Int32).toInt = 0 := by decide
  obtain ⟨n, rfl, -, hn⟩ := nI_ofI (x := y) (fun q => by have q1 := ltI.mp q; omega)
  exact ⟨n, rfl, by omega, by omega⟩
theorem okN_n {y : Int32} (h : okN y) : ∃ n : Nat, y = nI n ∧ n ≤ 6000 := by
  obtain ⟨h1, h2⟩ := h
  obtain ⟨n, rfl, -, hn⟩ := nI_ofI h1
  rw [ltI] at h2
  have e2 : (6000 : Int32).toInt = 6000 := by decide
  exact ⟨n, rfl, by omega⟩
theorem RS_b {v b v2 b2 t : Nat} {w : List va_E} (h : RS v b v2 b2 t w) : (2 ≤ b ∧ b < 37) ∧ (2 ≤ b2 ∧ b2 < 37) ∧ bl v ≤ 24000 ∧ bl v2 ≤ 24000 := by
  obtain ⟨d, n, V, lf, m, kn, dg, wd, rfl, -, -, -, -, h1, h2, h3, h4⟩ := h
  exact ⟨h1, h2, h3, h4⟩
theorem RS_nd {v b v2 b2 t : Nat} {w : List va_E} (h : RS v b v2 b2 t w) : nd b v ≤ 24000 := nd_cap (RS_b h).1.1 (RS_b h).2.2.1
theorem MSr {y : MethodName} {c : ByteArray} {n : Nat} {As : List Value} {w : List va_E} {X v2 b2 b : Nat} (h : MS y c n (some .int) (rm 7) As w (fun r w' => ∃ x, IsR X x ∧ RP (nI (nd b x)) x b v2 b2 0 r w')) {x : Nat} (hx : IsR X x) : MS y c n (some .int) (rm 7) As w (RP (nI (nd b x)) x b v2 b2 0) :=
  h.mono fun r w' ⟨y, hy, hp⟩ => by rw [IsR_uniq hx hy]; exact hp
theorem p_root (a : Int64) (x y : Int32) : Pair y_L_root c_L_root 7 hs_L_root [.long a, .int x, .int y, .ref 28] y_M_root c_M_root 5 [.long a, .int x, .int y] := by
  intro v b v2 b2 t o wH wM hH hR
  by_cases h1 : a < 0 ∨ ¬ (okN x ∧ okB y)
  · exact ⟨1, v, b, v2, b2, o, 0, by decide, (fun q => absurd q (by decide)), mk_root1 qM cM v b v2 b2 a x y o wH hH h1, mf_M_root1 v b v2 b2 t a x y wM hR h1⟩
  · obtain ⟨h2, g3⟩ := not_or.mp h1
    obtain ⟨h3, h4⟩ := Classical.not_not.mp g3
    clear g3 h1
    obtain ⟨n, rfl, hn, -⟩ := lN_ofI h2
    obtain ⟨p, rfl, hp⟩ := okN_n h3
    obtain ⟨b', rfl, hb⟩ := okB_n h4
    by_cases hnb : p * bl (b' - 1) ≤ 20000
    · obtain ⟨z, hz⟩ := IsR_ex (n * b' ^ (2 * p))
      refine ⟨0, z, b', v2, b2, _, _, by decide, fun _ => rfl, (mh_root qM cM v b v2 b2 n p b' o wH hH hn hp hb hnb).mono (fun r w' ⟨u, hu, hp⟩ => ?_), MSr (ms_M_root v b v2 b2 t n p b' wM hR hn hp hb hnb) hz⟩
      rw [IsR_uniq hz hu]
      exact hp
    · exact ⟨2, v, b, v2, b2, o, 0, by decide, (fun q => absurd q (by decide)), mk_root2 qM cM v b v2 b2 n p b' o wH hH hn hp hb hnb, mf_M_root2 v b v2 b2 t n p b' wM hR hn hp hb hnb⟩
theorem p_over (a c : Int64) (x y : Int32) : Pair y_L_over c_L_over 9 hs_L_over [.long a, .long c, .int x, .int y, .ref 28] y_M_over c_M_over 7 [.long a, .long c, .int x, .int y] := by
  intro v b v2 b2 t o wH wM hH hR
  by_cases h1 : a < 0 ∨ c < 1 ∨ ¬ (okN x ∧ okB y)
  · exact ⟨1, v, b, v2, b2, o, 0, by decide, (fun q => absurd q (by decide)), mk_over1 qM cM v b v2 b2 a c x y o wH hH h1, mf_M_over1 v b v2 b2 t a c x y wM hR h1⟩
  · obtain ⟨h2, g3⟩ := not_or.mp h1
    obtain ⟨h5, g4⟩ := not_or.mp g3
    obtain ⟨h3, h4⟩ := Classical.not_not.mp g4
    clear g3 g4 h1
    obtain ⟨n, rfl, hn, -⟩ := lN_ofI h2
    have e0 : (0 : Int64).toInt = 0 := by decide
    have e1 : (1 : Int64).toInt = 1 := by decide
    obtain ⟨u, rfl, hu, hu9⟩ := lN_ofI (x := c) (fun q => h5 (by rw [Int64.lt_iff_toInt_lt] at q ⊢; omega))
    have hu0 : 0 < u := by rw [Int64.lt_iff_toInt_lt] at h5; omega
    obtain ⟨p, rfl, hp⟩ := okN_n h3
    obtain ⟨b', rfl, hb⟩ := okB_n h4
    by_cases hnb : p * bl (b' - 1) ≤ 20000
    · exact ⟨0, _, b', v2, b2, _, _, by decide, fun _ => rfl, mh_over qM cM v b v2 b2 n u p b' o wH hH hn hu hu0 hp hb hnb, ms_M_over v b v2 b2 t n u p b' wM hR hn hu hu0 hp hb hnb⟩
    · exact ⟨2, v, b, v2, b2, o, 0, by decide, (fun q => absurd q (by decide)), mk_over2 qM cM v b v2 b2 n u p b' o wH hH hn hu hu0 hp hb hnb, mf_M_over2 v b v2 b2 t n u p b' wM hR hn hu hu0 hp hb hnb⟩
theorem p_number (a : Int64) (y : Int32) : Pair y_L_number c_L_number 6 hs_L_number [.long a, .int y, .ref 28] y_M_number c_M_number 4 [.long a, .int y] := by
  intro v b v2 b2 t o wH wM hH hR
  by_cases h1 : a < 0 ∨ ¬ okB y
  · exact ⟨1, v, b, v2, b2, o, 0, by decide, (fun q => absurd q (by decide)), mk_number1 qM cM v b v2 b2 a y o wH hH h1, mf_M_number v b v2 b2 t a y wM hR h1⟩
  · obtain ⟨h2, h3⟩ := not_or.mp h1
    obtain ⟨n, rfl, hn, -⟩ := lN_ofI h2
    obtain ⟨b', rfl, hb⟩ := okB_n (Classical.not_not.mp h3)
    exact ⟨0, n, b', v2, b2, _, _, by decide, fun _ => rfl, mh_number qM cM v b v2 b2 n b' o wH hH hn hb, ms_M_number v b v2 b2 t n b' wM hR hn hb⟩
theorem p_push (x : Int32) : Pair y_L_push c_L_push 4 hs_L_push [.int x, .ref 28] y_M_push c_M_push 2 [.int x] := by
  intro v b v2 b2 t o wH wM hH hR
  by_cases h1 : x < 0 ∨ ¬ x < nI b
  · exact ⟨1, v, b, v2, b2, o, 0, by decide, (fun q => absurd q (by decide)), mk_push1 qM cM v b v2 b2 x o wH hH h1, mf_M_push1 v b v2 b2 t x wM hR h1⟩
  · obtain ⟨h2, g3⟩ := not_or.mp h1
    have h3 := Classical.not_not.mp g3
    clear g3 h1
    obtain ⟨d, rfl, hd, hd9⟩ := nI_ofI h2
    have hb := (RS_b hR).1
    have h4 : d < b := by
      rw [ltI, hd9, nI_ti (by omega)] at h3
      omega
    by_cases hl : bl (v * b + d) ≤ 24000
    · exact ⟨0, _, b, v2, b2, _, _, by decide, fun _ => rfl, mh_push qM cM v b v2 b2 d o wH hH h4 hl, ms_M_push v b v2 b2 t d wM hR h4 hl⟩
    · exact ⟨2, v, b, v2, b2, o, 0, by decide, (fun q => absurd q (by decide)), mk_push2 qM cM v b v2 b2 d o wH hH h4 hl, mf_M_push2 v b v2 b2 t d wM hR h4 hl⟩
theorem p_add : Pair y_L_add c_L_add 3 hs_L_add [.ref 28] y_M_add c_M_add 1 [] := by
  intro v b v2 b2 t o wH wM hH hR
  by_cases hl : bl (v + v2) ≤ 24000
  · exact ⟨0, _, b, v2, b2, _, _, by decide, fun _ => rfl, mh_add qM cM v b v2 b2 o wH hH hl, ms_M_add v b v2 b2 t wM hR hl⟩
  · exact ⟨1, v, b, v2, b2, o, 0, by decide, (fun q => absurd q (by decide)), mk_add1 qM cM v b v2 b2 o wH hH hl, mf_M_add v b v2 b2 t wM hR hl⟩
theorem p_subtract : Pair y_L_subtract c_L_subtract 3 hs_L_subtract [.ref 28] y_M_subtract c_M_subtract 1 [] := by
  intro v b v2 b2 t o wH wM hH hR
  by_cases hl : v2 ≤ v
  · exact ⟨0, _, b, v2, b2, _, _, by decide, fun _ => rfl, mh_subtract qM cM v b v2 b2 o wH hH hl, ms_M_subtract v b v2 b2 t wM hR hl⟩
  · exact ⟨1, v, b, v2, b2, o, 0, by decide, (fun q => absurd q (by decide)), mk_subtract1 qM cM v b v2 b2 o wH hH hl, mf_M_subtract v b v2 b2 t wM hR hl⟩
theorem p_times : Pair y_L_times c_L_times 3 hs_L_times [.ref 28] y_M_times c_M_times 1 [] := by
  intro v b v2 b2 t o wH wM hH hR
  by_cases hl : bl v + bl v2 ≤ 24001 ∧ bl (v * v2) ≤ 24000
  · exact ⟨0, _, b, v2, b2, _, _, by decide, fun _ => rfl, mh_times qM cM v b v2 b2 o wH hH hl.1 hl.2, ms_M_times v b v2 b2 t wM hR hl.1 hl.2⟩
  · exact ⟨1, v, b, v2, b2, o, 0, by decide, (fun q => absurd q (by decide)), mk_times1 qM cM v b v2 b2 o wH hH hl, mf_M_times v b v2 b2 t wM hR hl⟩
theorem p_divide : Pair y_L_divide c_L_divide 3 hs_L_divide [.ref 28] y_M_divide c_M_divide 1 [] := by
  intro v b v2 b2 t o wH wM hH hR
  by_cases hz : v2 = 0
  · subst hz
    exact ⟨1, v, b, 0, b2, o, 0, by decide, (fun q => absurd q (by decide)), mk_divide1 qM cM v b 0 b2 o wH hH rfl, mf_M_divide v b b2 t wM hR⟩
  · exact ⟨0, _, b, _, b2, _, _, by decide, fun _ => rfl, mh_divide qM cM v b v2 b2 o wH hH hz, ms_M_divide v b v2 b2 t wM hR hz⟩
theorem p_convert (y : Int32) : Pair y_L_convert c_L_convert 4 hs_L_convert [.int y, .ref 28] y_M_convert c_M_convert 2 [.int y] := by
  intro v b v2 b2 t o wH wM hH hR
  by_cases h1 : okB y
  · obtain ⟨b', rfl, hb⟩ := okB_n h1
    exact ⟨0, v, b', v2, b2, _, _, by decide, fun _ => rfl, mh_convert qM cM v b v2 b2 b' o wH hH hb, ms_M_convert v b v2 b2 t b' wM hR hb⟩
  · exact ⟨1, v, b, v2, b2, o, 0, by decide, (fun q => absurd q (by decide)), mk_convert1 qM cM v b v2 b2 y o wH hH h1, mf_M_convert v b v2 b2 t y wM hR h1⟩
theorem p_digit (x : Int32) : Pair y_L_digit c_L_digit 4 hs_L_digit [.int x, .ref 28] y_M_digit c_M_digit 2 [.int x] := by
  intro v b v2 b2 t o wH wM hH hR
  have hnd := RS_nd hR
  by_cases h1 : x < 0 ∨ ¬ x < nI (nd b v)
  · exact ⟨1, v, b, v2, b2, o, 0, by decide, (fun q => absurd q (by decide)), mk_digit1 qM cM v b v2 b2 x o wH hH h1, mf_M_digit v b v2 b2 t x wM hR h1⟩
  · obtain ⟨h2, g3⟩ := not_or.mp h1
    have h3 := Classical.not_not.mp g3
    clear g3 h1
    obtain ⟨d, rfl, hd, hd9⟩ := nI_ofI h2
    have h4 : d < nd b v := by
      rw [ltI, hd9, nI_ti (by omega)] at h3
      omega
    exact ⟨0, v, b, v2, b2, _, _, by decide, fun _ => rfl, mh_digit qM cM v b v2 b2 d o wH hH h4 (by omega), ms_M_digit v b v2 b2 t d wM hR h4⟩
theorem p_about (x : Int32) : Pair y_L_about c_L_about 4 hs_L_about [.int x, .ref 28] y_M_about c_M_about 4 [.int x] := by
  intro v b v2 b2 t o wH wM hH hR
  by_cases h1 : x.toInt < 0 ∨ 3 < x.toInt
  · exact ⟨1, v, b, v2, b2, o, 0, by decide, (fun q => absurd q (by decide)), mk_about1 qM cM v b v2 b2 x o wH hH h1, mf_M_about v b v2 b2 t x wM hR h1⟩
  · obtain ⟨d, rfl, hd, hd9⟩ := nI_ofI (x := x) (fun q => h1 (Or.inl (by rw [ltI] at q; exact q)))
    have h4 : d < 4 := by omega
    exact ⟨0, v, b, v2, b2, _, _, by decide, fun _ => rfl, mh_about qM cM v b v2 b2 d o wH hH h4, ms_M_about v b v2 b2 t d wM hR h4⟩
theorem p_count (x y z : Int32) : Pair y_L_count c_L_count 6 hs_L_count [.int x, .int y, .int z, .ref 28] y_M_count c_M_count 6 [.int x, .int y, .int z] := by
  intro v b v2 b2 t o wH wM hH hR
  have hnd := RS_nd hR
  by_cases h1 : y < 0 ∨ ¬ z < nI (nd b v)
  · exact ⟨1, v, b, v2, b2, o, 0, by decide, (fun q => absurd q (by decide)), mk_count1 qM cM v b v2 b2 x y z o wH hH h1, mf_M_count v b v2 b2 t x y z wM hR h1⟩
  · obtain ⟨h2, g3⟩ := not_or.mp h1
    have h3 := Classical.not_not.mp g3
    clear g3 h1
    obtain ⟨d, rfl, hd, hd9⟩ := nI_ofI h2
    exact ⟨0, v, b, v2, b2, _, _, by decide, fun _ => rfl, mh_count qM cM v b v2 b2 d x z o wH hH hd h3 (by omega), ms_M_count v b v2 b2 t d x z wM hR hd h3⟩
theorem p_find (a : Int64) (x y : Int32) : Pair y_L_find c_L_find 7 hs_L_find [.long a, .int x, .int y, .ref 28] y_M_find c_M_find 11 [.long a, .int x, .int y] := by
  intro v b v2 b2 t o wH wM hH hR
  have hnd := RS_nd hR
  by_cases h1 : x < 1 ∨ 12 < x ∨ a < 0 ∨ y < 0
  · exact ⟨1, v, b, v2, b2, o, 0, by decide, (fun q => absurd q (by decide)), mk_find1 qM cM v b v2 b2 a x y o wH hH h1, mf_M_find1 v b v2 b2 t a x y wM hR h1⟩
  · obtain ⟨h2, g3⟩ := not_or.mp h1
    obtain ⟨h3, g4⟩ := not_or.mp g3
    obtain ⟨h4, h5⟩ := not_or.mp g4
    clear g3 g4 h1
    obtain ⟨u, rfl, hu, -⟩ := lN_ofI h4
    obtain ⟨i, rfl, hi, -⟩ := nI_ofI h5
    rw [ltI] at h2 h3
    have e0 : (0 : Int32).toInt = 0 := by decide
    have e1 : (1 : Int32).toInt = 1 := by decide
    have e2 : (12 : Int32).toInt = 12 := by decide
    obtain ⟨n, rfl, hn, hn9⟩ := nI_ofI (x := x) (fun q => by rw [ltI] at q; omega)
    have hn2 : 1 ≤ n ∧ n ≤ 12 := by omega
    by_cases hx : u < b ^ n
    · exact ⟨0, v, b, v2, b2, _, _, by decide, fun _ => rfl, mh_find qM cM v b v2 b2 u n i o wH hH hx hn2 hi (by omega), ms_M_find v b v2 b2 t u n i wM hR hx hn2 hi hu⟩
    · exact ⟨1, v, b, v2, b2, o, 0, by decide, (fun q => absurd q (by decide)), mk_find2 qM cM v b v2 b2 u n i o wH hH (Nat.le_of_not_lt hx) hu hn2 hi, mf_M_find2 v b v2 b2 t u n i wM hR (Nat.le_of_not_lt hx) hu hn2 hi⟩
theorem p_mill (a x y : Int32) : Pair y_L_mill c_L_mill 6 hs_L_mill [.int a, .int x, .int y, .ref 28] y_M_mill c_M_mill 4 [.int a, .int x, .int y] := by
  intro v b v2 b2 t o wH wM hH hR
  have e0 : (0 : Int32).toInt = 0 := by decide
  have e4 : (4 : Int32).toInt = 4 := by decide
  have e5 : (5 : Int32).toInt = 5 := by decide
  by_cases h1 : a < 0 ∨ ¬ a < 5 ∨ ¬ (okN x ∧ okB y)
  · refine ⟨1, v, b, v2, b2, o, 0, by decide, (fun q => absurd q (by decide)), mk_mill1 qM cM v b v2 b2 a x y o wH hH h1, mf_M_mill1 v b v2 b2 t a x y wM hR ?_⟩
    rcases h1 with h | h | h
    · exact Or.inl h
    · exact Or.inr (Or.inl (by rw [ltI] at h ⊢; omega))
    · exact Or.inr (Or.inr h)
  · obtain ⟨h2, g3⟩ := not_or.mp h1
    obtain ⟨g4, g5⟩ := not_or.mp g3
    have h3 := Classical.not_not.mp g4
    obtain ⟨h4, h5⟩ := Classical.not_not.mp g5
    clear g3 g4 g5 h1
    obtain ⟨wh, rfl, hw, hw9⟩ := nI_ofI h2
    have hw5 : wh < 5 := by rw [ltI] at h3; omega
    obtain ⟨p, rfl, hp⟩ := okN_n h4
    obtain ⟨b', rfl, hb⟩ := okB_n h5
    by_cases hnb : p * bl (b' - 1) ≤ 20000
    · by_cases h2 : wh = 2
      · subst h2
        obtain ⟨z, hz⟩ := IsR_ex (5 * b' ^ (2 * p))
        refine ⟨0, (z + b' ^ p) / 2, b', v2, b2, _, nI (nd b' ((z + b' ^ p) / 2)), by decide, fun _ => rfl, (mh_golden qM cM v b v2 b2 p b' o wH hH hp hb hnb).mono (fun r w' ⟨u, hu, hp⟩ => ?_), (ms_M_mill v b v2 b2 t 2 p b' 0 wM hR hw5 hp hb hnb (fun q => absurd rfl q) (fun q => absurd rfl q)).mono (fun r w' ⟨u, _, hu, hp⟩ => ?_)⟩
        · rw [IsR_uniq hz hu]
          exact hp
        · obtain ⟨x, hx, rfl⟩ := hu rfl
          rw [IsR_uniq hz hx]
          exact hp
      · have hW : wh = 0 ∨ wh = 1 ∨ wh = 3 ∨ wh = 4 := by omega
        refine ⟨0, ansM wh b' p, b', v2, b2, _, nI (nd b' (ansM wh b' p)), by decide, fun _ => rfl, mh_mill v b v2 b2 wh p b' o wH hH hW hp hb hnb, (ms_M_mill v b v2 b2 t wh p b' (ansM wh b' p) wM hR hw5 hp hb hnb (fun _ => con_ref hW hb hp hnb) (fun _ => con_bl hW hb hnb)).mono (fun r w' ⟨u, hu, _, hp⟩ => ?_)⟩
        rw [hu h2] at hp
        exact hp
    · exact ⟨2, v, b, v2, b2, o, 0, by decide, (fun q => absurd q (by decide)), mk_mill2 qM cM v b v2 b2 wh p b' o wH hH hw5 hp hb hnb, mf_M_mill2 v b v2 b2 t wh p b' wM hR hw5 hp hb hnb⟩
