/-! number 3: every place of every base -/
set_option maxRecDepth 100000 in
theorem kc_3_2 : chk cL3 2 121 = true := by decide +kernel
set_option maxRecDepth 100000 in
theorem kc_3_3 : chk cL3 3 121 = true := by decide +kernel
set_option maxRecDepth 100000 in
theorem kc_3_4 : chk cL3 4 121 = true := by decide +kernel
set_option maxRecDepth 100000 in
theorem kc_3_5 : chk cL3 5 121 = true := by decide +kernel
set_option maxRecDepth 100000 in
theorem kc_3_6 : chk cL3 6 121 = true := by decide +kernel
set_option maxRecDepth 100000 in
theorem kc_3_7 : chk cL3 7 121 = true := by decide +kernel
set_option maxRecDepth 100000 in
theorem kc_3_8 : chk cL3 8 121 = true := by decide +kernel
set_option maxRecDepth 100000 in
theorem kc_3_9 : chk cL3 9 101 = true := by decide +kernel
set_option maxRecDepth 100000 in
theorem kc_3_10 : chk cL3 10 101 = true := by decide +kernel
set_option maxRecDepth 100000 in
theorem kc_3_11 : chk cL3 11 101 = true := by decide +kernel
set_option maxRecDepth 100000 in
theorem kc_3_12 : chk cL3 12 101 = true := by decide +kernel
set_option maxRecDepth 100000 in
theorem kc_3_13 : chk cL3 13 101 = true := by decide +kernel
set_option maxRecDepth 100000 in
theorem kc_3_14 : chk cL3 14 101 = true := by decide +kernel
set_option maxRecDepth 100000 in
theorem kc_3_15 : chk cL3 15 101 = true := by decide +kernel
set_option maxRecDepth 100000 in
theorem kc_3_16 : chk cL3 16 101 = true := by decide +kernel
set_option maxRecDepth 100000 in
theorem kc_3_17 : chk cL3 17 81 = true := by decide +kernel
set_option maxRecDepth 100000 in
theorem kc_3_18 : chk cL3 18 81 = true := by decide +kernel
set_option maxRecDepth 100000 in
theorem kc_3_19 : chk cL3 19 81 = true := by decide +kernel
set_option maxRecDepth 100000 in
theorem kc_3_20 : chk cL3 20 81 = true := by decide +kernel
set_option maxRecDepth 100000 in
theorem kc_3_21 : chk cL3 21 81 = true := by decide +kernel
set_option maxRecDepth 100000 in
theorem kc_3_22 : chk cL3 22 81 = true := by decide +kernel
set_option maxRecDepth 100000 in
theorem kc_3_23 : chk cL3 23 81 = true := by decide +kernel
set_option maxRecDepth 100000 in
theorem kc_3_24 : chk cL3 24 81 = true := by decide +kernel
set_option maxRecDepth 100000 in
theorem kc_3_25 : chk cL3 25 81 = true := by decide +kernel
set_option maxRecDepth 100000 in
theorem kc_3_26 : chk cL3 26 81 = true := by decide +kernel
set_option maxRecDepth 100000 in
theorem kc_3_27 : chk cL3 27 81 = true := by decide +kernel
set_option maxRecDepth 100000 in
theorem kc_3_28 : chk cL3 28 81 = true := by decide +kernel
set_option maxRecDepth 100000 in
theorem kc_3_29 : chk cL3 29 81 = true := by decide +kernel
set_option maxRecDepth 100000 in
theorem kc_3_30 : chk cL3 30 81 = true := by decide +kernel
set_option maxRecDepth 100000 in
theorem kc_3_31 : chk cL3 31 81 = true := by decide +kernel
set_option maxRecDepth 100000 in
theorem kc_3_32 : chk cL3 32 81 = true := by decide +kernel
set_option maxRecDepth 100000 in
theorem kc_3_33 : chk cL3 33 67 = true := by decide +kernel
set_option maxRecDepth 100000 in
theorem kc_3_34 : chk cL3 34 67 = true := by decide +kernel
set_option maxRecDepth 100000 in
theorem kc_3_35 : chk cL3 35 67 = true := by decide +kernel
set_option maxRecDepth 100000 in
theorem kc_3_36 : chk cL3 36 67 = true := by decide +kernel
theorem okn3 {b n : Nat} (hb : 2 ≤ b ∧ b < 37) (hn : n ≤ 6000) (hnb : n * bl (b - 1) ≤ 20000) : Okn cL3 b n := by
  rcases (show b = 2 ∨ b = 3 ∨ b = 4 ∨ b = 5 ∨ b = 6 ∨ b = 7 ∨ b = 8 ∨ b = 9 ∨ b = 10 ∨ b = 11 ∨ b = 12 ∨ b = 13 ∨ b = 14 ∨ b = 15 ∨ b = 16 ∨ b = 17 ∨ b = 18 ∨ b = 19 ∨ b = 20 ∨ b = 21 ∨ b = 22 ∨ b = 23 ∨ b = 24 ∨ b = 25 ∨ b = 26 ∨ b = 27 ∨ b = 28 ∨ b = 29 ∨ b = 30 ∨ b = 31 ∨ b = 32 ∨ b = 33 ∨ b = 34 ∨ b = 35 ∨ b = 36 by omega) with rfl | rfl | rfl | rfl | rfl | rfl | rfl | rfl | rfl | rfl | rfl | rfl | rfl | rfl | rfl | rfl | rfl | rfl | rfl | rfl | rfl | rfl | rfl | rfl | rfl | rfl | rfl | rfl | rfl | rfl | rfl | rfl | rfl | rfl | rfl
  · exact chk_use kc_3_2 (by omega)
  · exact chk_use kc_3_3 (by omega)
  · exact chk_use kc_3_4 (by omega)
  · exact chk_use kc_3_5 (by omega)
  · exact chk_use kc_3_6 (by omega)
  · exact chk_use kc_3_7 (by omega)
  · exact chk_use kc_3_8 (by omega)
  · exact chk_use kc_3_9 (by rw [show bl (9 - 1) = 4 by decide] at hnb; omega)
  · exact chk_use kc_3_10 (by rw [show bl (10 - 1) = 4 by decide] at hnb; omega)
  · exact chk_use kc_3_11 (by rw [show bl (11 - 1) = 4 by decide] at hnb; omega)
  · exact chk_use kc_3_12 (by rw [show bl (12 - 1) = 4 by decide] at hnb; omega)
  · exact chk_use kc_3_13 (by rw [show bl (13 - 1) = 4 by decide] at hnb; omega)
  · exact chk_use kc_3_14 (by rw [show bl (14 - 1) = 4 by decide] at hnb; omega)
  · exact chk_use kc_3_15 (by rw [show bl (15 - 1) = 4 by decide] at hnb; omega)
  · exact chk_use kc_3_16 (by rw [show bl (16 - 1) = 4 by decide] at hnb; omega)
  · exact chk_use kc_3_17 (by rw [show bl (17 - 1) = 5 by decide] at hnb; omega)
  · exact chk_use kc_3_18 (by rw [show bl (18 - 1) = 5 by decide] at hnb; omega)
  · exact chk_use kc_3_19 (by rw [show bl (19 - 1) = 5 by decide] at hnb; omega)
  · exact chk_use kc_3_20 (by rw [show bl (20 - 1) = 5 by decide] at hnb; omega)
  · exact chk_use kc_3_21 (by rw [show bl (21 - 1) = 5 by decide] at hnb; omega)
  · exact chk_use kc_3_22 (by rw [show bl (22 - 1) = 5 by decide] at hnb; omega)
  · exact chk_use kc_3_23 (by rw [show bl (23 - 1) = 5 by decide] at hnb; omega)
  · exact chk_use kc_3_24 (by rw [show bl (24 - 1) = 5 by decide] at hnb; omega)
  · exact chk_use kc_3_25 (by rw [show bl (25 - 1) = 5 by decide] at hnb; omega)
  · exact chk_use kc_3_26 (by rw [show bl (26 - 1) = 5 by decide] at hnb; omega)
  · exact chk_use kc_3_27 (by rw [show bl (27 - 1) = 5 by decide] at hnb; omega)
  · exact chk_use kc_3_28 (by rw [show bl (28 - 1) = 5 by decide] at hnb; omega)
  · exact chk_use kc_3_29 (by rw [show bl (29 - 1) = 5 by decide] at hnb; omega)
  · exact chk_use kc_3_30 (by rw [show bl (30 - 1) = 5 by decide] at hnb; omega)
  · exact chk_use kc_3_31 (by rw [show bl (31 - 1) = 5 by decide] at hnb; omega)
  · exact chk_use kc_3_32 (by rw [show bl (32 - 1) = 5 by decide] at hnb; omega)
  · exact chk_use kc_3_33 (by rw [show bl (33 - 1) = 6 by decide] at hnb; omega)
  · exact chk_use kc_3_34 (by rw [show bl (34 - 1) = 6 by decide] at hnb; omega)
  · exact chk_use kc_3_35 (by rw [show bl (35 - 1) = 6 by decide] at hnb; omega)
  · exact chk_use kc_3_36 (by rw [show bl (36 - 1) = 6 by decide] at hnb; omega)
