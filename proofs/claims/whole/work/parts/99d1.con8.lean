/-! number 1: every place of every base -/
set_option maxRecDepth 100000 in
theorem kc_1_2 : chk cL1 2 121 = true := by decide +kernel
set_option maxRecDepth 100000 in
theorem kc_1_3 : chk cL1 3 121 = true := by decide +kernel
set_option maxRecDepth 100000 in
theorem kc_1_4 : chk cL1 4 121 = true := by decide +kernel
set_option maxRecDepth 100000 in
theorem kc_1_5 : chk cL1 5 121 = true := by decide +kernel
set_option maxRecDepth 100000 in
theorem kc_1_6 : chk cL1 6 121 = true := by decide +kernel
set_option maxRecDepth 100000 in
theorem kc_1_7 : chk cL1 7 121 = true := by decide +kernel
set_option maxRecDepth 100000 in
theorem kc_1_8 : chk cL1 8 121 = true := by decide +kernel
set_option maxRecDepth 100000 in
theorem kc_1_9 : chk cL1 9 101 = true := by decide +kernel
set_option maxRecDepth 100000 in
theorem kc_1_10 : chk cL1 10 101 = true := by decide +kernel
set_option maxRecDepth 100000 in
theorem kc_1_11 : chk cL1 11 101 = true := by decide +kernel
set_option maxRecDepth 100000 in
theorem kc_1_12 : chk cL1 12 101 = true := by decide +kernel
set_option maxRecDepth 100000 in
theorem kc_1_13 : chk cL1 13 101 = true := by decide +kernel
set_option maxRecDepth 100000 in
theorem kc_1_14 : chk cL1 14 101 = true := by decide +kernel
set_option maxRecDepth 100000 in
theorem kc_1_15 : chk cL1 15 101 = true := by decide +kernel
set_option maxRecDepth 100000 in
theorem kc_1_16 : chk cL1 16 101 = true := by decide +kernel
set_option maxRecDepth 100000 in
theorem kc_1_17 : chk cL1 17 81 = true := by decide +kernel
set_option maxRecDepth 100000 in
theorem kc_1_18 : chk cL1 18 81 = true := by decide +kernel
set_option maxRecDepth 100000 in
theorem kc_1_19 : chk cL1 19 81 = true := by decide +kernel
set_option maxRecDepth 100000 in
theorem kc_1_20 : chk cL1 20 81 = true := by decide +kernel
set_option maxRecDepth 100000 in
theorem kc_1_21 : chk cL1 21 81 = true := by decide +kernel
set_option maxRecDepth 100000 in
theorem kc_1_22 : chk cL1 22 81 = true := by decide +kernel
set_option maxRecDepth 100000 in
theorem kc_1_23 : chk cL1 23 81 = true := by decide +kernel
set_option maxRecDepth 100000 in
theorem kc_1_24 : chk cL1 24 81 = true := by decide +kernel
set_option maxRecDepth 100000 in
theorem kc_1_25 : chk cL1 25 81 = true := by decide +kernel
set_option maxRecDepth 100000 in
theorem kc_1_26 : chk cL1 26 81 = true := by decide +kernel
set_option maxRecDepth 100000 in
theorem kc_1_27 : chk cL1 27 81 = true := by decide +kernel
set_option maxRecDepth 100000 in
theorem kc_1_28 : chk cL1 28 81 = true := by decide +kernel
set_option maxRecDepth 100000 in
theorem kc_1_29 : chk cL1 29 81 = true := by decide +kernel
set_option maxRecDepth 100000 in
theorem kc_1_30 : chk cL1 30 81 = true := by decide +kernel
set_option maxRecDepth 100000 in
theorem kc_1_31 : chk cL1 31 81 = true := by decide +kernel
set_option maxRecDepth 100000 in
theorem kc_1_32 : chk cL1 32 81 = true := by decide +kernel
set_option maxRecDepth 100000 in
theorem kc_1_33 : chk cL1 33 67 = true := by decide +kernel
set_option maxRecDepth 100000 in
theorem kc_1_34 : chk cL1 34 67 = true := by decide +kernel
set_option maxRecDepth 100000 in
theorem kc_1_35 : chk cL1 35 67 = true := by decide +kernel
set_option maxRecDepth 100000 in
theorem kc_1_36 : chk cL1 36 67 = true := by decide +kernel
theorem okn1 {b n : Nat} (hb : 2 ≤ b ∧ b < 37) (hn : n ≤ 6000) (hnb : n * bl (b - 1) ≤ 20000) : Okn cL1 b n := by
  rcases (show b = 2 ∨ b = 3 ∨ b = 4 ∨ b = 5 ∨ b = 6 ∨ b = 7 ∨ b = 8 ∨ b = 9 ∨ b = 10 ∨ b = 11 ∨ b = 12 ∨ b = 13 ∨ b = 14 ∨ b = 15 ∨ b = 16 ∨ b = 17 ∨ b = 18 ∨ b = 19 ∨ b = 20 ∨ b = 21 ∨ b = 22 ∨ b = 23 ∨ b = 24 ∨ b = 25 ∨ b = 26 ∨ b = 27 ∨ b = 28 ∨ b = 29 ∨ b = 30 ∨ b = 31 ∨ b = 32 ∨ b = 33 ∨ b = 34 ∨ b = 35 ∨ b = 36 by omega) with rfl | rfl | rfl | rfl | rfl | rfl | rfl | rfl | rfl | rfl | rfl | rfl | rfl | rfl | rfl | rfl | rfl | rfl | rfl | rfl | rfl | rfl | rfl | rfl | rfl | rfl | rfl | rfl | rfl | rfl | rfl | rfl | rfl | rfl | rfl
  · exact chk_use kc_1_2 (by omega)
  · exact chk_use kc_1_3 (by omega)
  · exact chk_use kc_1_4 (by omega)
  · exact chk_use kc_1_5 (by omega)
  · exact chk_use kc_1_6 (by omega)
  · exact chk_use kc_1_7 (by omega)
  · exact chk_use kc_1_8 (by omega)
  · exact chk_use kc_1_9 (by rw [show bl (9 - 1) = 4 by decide] at hnb; omega)
  · exact chk_use kc_1_10 (by rw [show bl (10 - 1) = 4 by decide] at hnb; omega)
  · exact chk_use kc_1_11 (by rw [show bl (11 - 1) = 4 by decide] at hnb; omega)
  · exact chk_use kc_1_12 (by rw [show bl (12 - 1) = 4 by decide] at hnb; omega)
  · exact chk_use kc_1_13 (by rw [show bl (13 - 1) = 4 by decide] at hnb; omega)
  · exact chk_use kc_1_14 (by rw [show bl (14 - 1) = 4 by decide] at hnb; omega)
  · exact chk_use kc_1_15 (by rw [show bl (15 - 1) = 4 by decide] at hnb; omega)
  · exact chk_use kc_1_16 (by rw [show bl (16 - 1) = 4 by decide] at hnb; omega)
  · exact chk_use kc_1_17 (by rw [show bl (17 - 1) = 5 by decide] at hnb; omega)
  · exact chk_use kc_1_18 (by rw [show bl (18 - 1) = 5 by decide] at hnb; omega)
  · exact chk_use kc_1_19 (by rw [show bl (19 - 1) = 5 by decide] at hnb; omega)
  · exact chk_use kc_1_20 (by rw [show bl (20 - 1) = 5 by decide] at hnb; omega)
  · exact chk_use kc_1_21 (by rw [show bl (21 - 1) = 5 by decide] at hnb; omega)
  · exact chk_use kc_1_22 (by rw [show bl (22 - 1) = 5 by decide] at hnb; omega)
  · exact chk_use kc_1_23 (by rw [show bl (23 - 1) = 5 by decide] at hnb; omega)
  · exact chk_use kc_1_24 (by rw [show bl (24 - 1) = 5 by decide] at hnb; omega)
  · exact chk_use kc_1_25 (by rw [show bl (25 - 1) = 5 by decide] at hnb; omega)
  · exact chk_use kc_1_26 (by rw [show bl (26 - 1) = 5 by decide] at hnb; omega)
  · exact chk_use kc_1_27 (by rw [show bl (27 - 1) = 5 by decide] at hnb; omega)
  · exact chk_use kc_1_28 (by rw [show bl (28 - 1) = 5 by decide] at hnb; omega)
  · exact chk_use kc_1_29 (by rw [show bl (29 - 1) = 5 by decide] at hnb; omega)
  · exact chk_use kc_1_30 (by rw [show bl (30 - 1) = 5 by decide] at hnb; omega)
  · exact chk_use kc_1_31 (by rw [show bl (31 - 1) = 5 by decide] at hnb; omega)
  · exact chk_use kc_1_32 (by rw [show bl (32 - 1) = 5 by decide] at hnb; omega)
  · exact chk_use kc_1_33 (by rw [show bl (33 - 1) = 6 by decide] at hnb; omega)
  · exact chk_use kc_1_34 (by rw [show bl (34 - 1) = 6 by decide] at hnb; omega)
  · exact chk_use kc_1_35 (by rw [show bl (35 - 1) = 6 by decide] at hnb; omega)
  · exact chk_use kc_1_36 (by rw [show bl (36 - 1) = 6 by decide] at hnb; omega)
