/-! number 0: every place of every base -/
set_option maxRecDepth 100000 in
theorem kc_0_2 : chk cL0 2 121 = true := by decide +kernel
set_option maxRecDepth 100000 in
theorem kc_0_3 : chk cL0 3 121 = true := by decide +kernel
set_option maxRecDepth 100000 in
theorem kc_0_4 : chk cL0 4 121 = true := by decide +kernel
set_option maxRecDepth 100000 in
theorem kc_0_5 : chk cL0 5 121 = true := by decide +kernel
set_option maxRecDepth 100000 in
theorem kc_0_6 : chk cL0 6 121 = true := by decide +kernel
set_option maxRecDepth 100000 in
theorem kc_0_7 : chk cL0 7 121 = true := by decide +kernel
set_option maxRecDepth 100000 in
theorem kc_0_8 : chk cL0 8 121 = true := by decide +kernel
set_option maxRecDepth 100000 in
theorem kc_0_9 : chk cL0 9 101 = true := by decide +kernel
set_option maxRecDepth 100000 in
theorem kc_0_10 : chk cL0 10 101 = true := by decide +kernel
set_option maxRecDepth 100000 in
theorem kc_0_11 : chk cL0 11 101 = true := by decide +kernel
set_option maxRecDepth 100000 in
theorem kc_0_12 : chk cL0 12 101 = true := by decide +kernel
set_option maxRecDepth 100000 in
theorem kc_0_13 : chk cL0 13 101 = true := by decide +kernel
set_option maxRecDepth 100000 in
theorem kc_0_14 : chk cL0 14 101 = true := by decide +kernel
set_option maxRecDepth 100000 in
theorem kc_0_15 : chk cL0 15 101 = true := by decide +kernel
set_option maxRecDepth 100000 in
theorem kc_0_16 : chk cL0 16 101 = true := by decide +kernel
set_option maxRecDepth 100000 in
theorem kc_0_17 : chk cL0 17 81 = true := by decide +kernel
set_option maxRecDepth 100000 in
theorem kc_0_18 : chk cL0 18 81 = true := by decide +kernel
set_option maxRecDepth 100000 in
theorem kc_0_19 : chk cL0 19 81 = true := by decide +kernel
set_option maxRecDepth 100000 in
theorem kc_0_20 : chk cL0 20 81 = true := by decide +kernel
set_option maxRecDepth 100000 in
theorem kc_0_21 : chk cL0 21 81 = true := by decide +kernel
set_option maxRecDepth 100000 in
theorem kc_0_22 : chk cL0 22 81 = true := by decide +kernel
set_option maxRecDepth 100000 in
theorem kc_0_23 : chk cL0 23 81 = true := by decide +kernel
set_option maxRecDepth 100000 in
theorem kc_0_24 : chk cL0 24 81 = true := by decide +kernel
set_option maxRecDepth 100000 in
theorem kc_0_25 : chk cL0 25 81 = true := by decide +kernel
set_option maxRecDepth 100000 in
theorem kc_0_26 : chk cL0 26 81 = true := by decide +kernel
set_option maxRecDepth 100000 in
theorem kc_0_27 : chk cL0 27 81 = true := by decide +kernel
set_option maxRecDepth 100000 in
theorem kc_0_28 : chk cL0 28 81 = true := by decide +kernel
set_option maxRecDepth 100000 in
theorem kc_0_29 : chk cL0 29 81 = true := by decide +kernel
set_option maxRecDepth 100000 in
theorem kc_0_30 : chk cL0 30 81 = true := by decide +kernel
set_option maxRecDepth 100000 in
theorem kc_0_31 : chk cL0 31 81 = true := by decide +kernel
set_option maxRecDepth 100000 in
theorem kc_0_32 : chk cL0 32 81 = true := by decide +kernel
set_option maxRecDepth 100000 in
theorem kc_0_33 : chk cL0 33 67 = true := by decide +kernel
set_option maxRecDepth 100000 in
theorem kc_0_34 : chk cL0 34 67 = true := by decide +kernel
set_option maxRecDepth 100000 in
theorem kc_0_35 : chk cL0 35 67 = true := by decide +kernel
set_option maxRecDepth 100000 in
theorem kc_0_36 : chk cL0 36 67 = true := by decide +kernel
theorem okn0 {b n : Nat} (hb : 2 ≤ b ∧ b < 37) (hn : n ≤ 6000) (hnb : n * bl (b - 1) ≤ 20000) : Okn cL0 b n := by
  rcases (show b = 2 ∨ b = 3 ∨ b = 4 ∨ b = 5 ∨ b = 6 ∨ b = 7 ∨ b = 8 ∨ b = 9 ∨ b = 10 ∨ b = 11 ∨ b = 12 ∨ b = 13 ∨ b = 14 ∨ b = 15 ∨ b = 16 ∨ b = 17 ∨ b = 18 ∨ b = 19 ∨ b = 20 ∨ b = 21 ∨ b = 22 ∨ b = 23 ∨ b = 24 ∨ b = 25 ∨ b = 26 ∨ b = 27 ∨ b = 28 ∨ b = 29 ∨ b = 30 ∨ b = 31 ∨ b = 32 ∨ b = 33 ∨ b = 34 ∨ b = 35 ∨ b = 36 by omega) with rfl | rfl | rfl | rfl | rfl | rfl | rfl | rfl | rfl | rfl | rfl | rfl | rfl | rfl | rfl | rfl | rfl | rfl | rfl | rfl | rfl | rfl | rfl | rfl | rfl | rfl | rfl | rfl | rfl | rfl | rfl | rfl | rfl | rfl | rfl
  · exact chk_use kc_0_2 (by omega)
  · exact chk_use kc_0_3 (by omega)
  · exact chk_use kc_0_4 (by omega)
  · exact chk_use kc_0_5 (by omega)
  · exact chk_use kc_0_6 (by omega)
  · exact chk_use kc_0_7 (by omega)
  · exact chk_use kc_0_8 (by omega)
  · exact chk_use kc_0_9 (by rw [show bl (9 - 1) = 4 by decide] at hnb; omega)
  · exact chk_use kc_0_10 (by rw [show bl (10 - 1) = 4 by decide] at hnb; omega)
  · exact chk_use kc_0_11 (by rw [show bl (11 - 1) = 4 by decide] at hnb; omega)
  · exact chk_use kc_0_12 (by rw [show bl (12 - 1) = 4 by decide] at hnb; omega)
  · exact chk_use kc_0_13 (by rw [show bl (13 - 1) = 4 by decide] at hnb; omega)
  · exact chk_use kc_0_14 (by rw [show bl (14 - 1) = 4 by decide] at hnb; omega)
  · exact chk_use kc_0_15 (by rw [show bl (15 - 1) = 4 by decide] at hnb; omega)
  · exact chk_use kc_0_16 (by rw [show bl (16 - 1) = 4 by decide] at hnb; omega)
  · exact chk_use kc_0_17 (by rw [show bl (17 - 1) = 5 by decide] at hnb; omega)
  · exact chk_use kc_0_18 (by rw [show bl (18 - 1) = 5 by decide] at hnb; omega)
  · exact chk_use kc_0_19 (by rw [show bl (19 - 1) = 5 by decide] at hnb; omega)
  · exact chk_use kc_0_20 (by rw [show bl (20 - 1) = 5 by decide] at hnb; omega)
  · exact chk_use kc_0_21 (by rw [show bl (21 - 1) = 5 by decide] at hnb; omega)
  · exact chk_use kc_0_22 (by rw [show bl (22 - 1) = 5 by decide] at hnb; omega)
  · exact chk_use kc_0_23 (by rw [show bl (23 - 1) = 5 by decide] at hnb; omega)
  · exact chk_use kc_0_24 (by rw [show bl (24 - 1) = 5 by decide] at hnb; omega)
  · exact chk_use kc_0_25 (by rw [show bl (25 - 1) = 5 by decide] at hnb; omega)
  · exact chk_use kc_0_26 (by rw [show bl (26 - 1) = 5 by decide] at hnb; omega)
  · exact chk_use kc_0_27 (by rw [show bl (27 - 1) = 5 by decide] at hnb; omega)
  · exact chk_use kc_0_28 (by rw [show bl (28 - 1) = 5 by decide] at hnb; omega)
  · exact chk_use kc_0_29 (by rw [show bl (29 - 1) = 5 by decide] at hnb; omega)
  · exact chk_use kc_0_30 (by rw [show bl (30 - 1) = 5 by decide] at hnb; omega)
  · exact chk_use kc_0_31 (by rw [show bl (31 - 1) = 5 by decide] at hnb; omega)
  · exact chk_use kc_0_32 (by rw [show bl (32 - 1) = 5 by decide] at hnb; omega)
  · exact chk_use kc_0_33 (by rw [show bl (33 - 1) = 6 by decide] at hnb; omega)
  · exact chk_use kc_0_34 (by rw [show bl (34 - 1) = 6 by decide] at hnb; omega)
  · exact chk_use kc_0_35 (by rw [show bl (35 - 1) = 6 by decide] at hnb; omega)
  · exact chk_use kc_0_36 (by rw [show bl (36 - 1) = 6 by decide] at hnb; omega)
