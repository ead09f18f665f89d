/-! number 4: every place of every base -/
set_option maxRecDepth 100000 in
theorem kc_4_2 : chk cL4 2 121 = true := by decide +kernel
set_option maxRecDepth 100000 in
theorem kc_4_3 : chk cL4 3 121 = true := by decide +kernel
set_option maxRecDepth 100000 in
theorem kc_4_4 : chk cL4 4 121 = true := by decide +kernel
set_option maxRecDepth 100000 in
theorem kc_4_5 : chk cL4 5 121 = true := by decide +kernel
set_option maxRecDepth 100000 in
theorem kc_4_6 : chk cL4 6 121 = true := by decide +kernel
set_option maxRecDepth 100000 in
theorem kc_4_7 : chk cL4 7 121 = true := by decide +kernel
set_option maxRecDepth 100000 in
theorem kc_4_8 : chk cL4 8 121 = true := by decide +kernel
set_option maxRecDepth 100000 in
theorem kc_4_9 : chk cL4 9 101 = true := by decide +kernel
set_option maxRecDepth 100000 in
theorem kc_4_10 : chk cL4 10 101 = true := by decide +kernel
set_option maxRecDepth 100000 in
theorem kc_4_11 : chk cL4 11 101 = true := by decide +kernel
set_option maxRecDepth 100000 in
theorem kc_4_12 : chk cL4 12 101 = true := by decide +kernel
set_option maxRecDepth 100000 in
theorem kc_4_13 : chk cL4 13 101 = true := by decide +kernel
set_option maxRecDepth 100000 in
theorem kc_4_14 : chk cL4 14 101 = true := by decide +kernel
set_option maxRecDepth 100000 in
theorem kc_4_15 : chk cL4 15 101 = true := by decide +kernel
set_option maxRecDepth 100000 in
theorem kc_4_16 : chk cL4 16 101 = true := by decide +kernel
set_option maxRecDepth 100000 in
theorem kc_4_17 : chk cL4 17 81 = true := by decide +kernel
set_option maxRecDepth 100000 in
theorem kc_4_18 : chk cL4 18 81 = true := by decide +kernel
set_option maxRecDepth 100000 in
theorem kc_4_19 : chk cL4 19 81 = true := by decide +kernel
set_option maxRecDepth 100000 in
theorem kc_4_20 : chk cL4 20 81 = true := by decide +kernel
set_option maxRecDepth 100000 in
theorem kc_4_21 : chk cL4 21 81 = true := by decide +kernel
set_option maxRecDepth 100000 in
theorem kc_4_22 : chk cL4 22 81 = true := by decide +kernel
set_option maxRecDepth 100000 in
theorem kc_4_23 : chk cL4 23 81 = true := by decide +kernel
set_option maxRecDepth 100000 in
theorem kc_4_24 : chk cL4 24 81 = true := by decide +kernel
set_option maxRecDepth 100000 in
theorem kc_4_25 : chk cL4 25 81 = true := by decide +kernel
set_option maxRecDepth 100000 in
theorem kc_4_26 : chk cL4 26 81 = true := by decide +kernel
set_option maxRecDepth 100000 in
theorem kc_4_27 : chk cL4 27 81 = true := by decide +kernel
set_option maxRecDepth 100000 in
theorem kc_4_28 : chk cL4 28 81 = true := by decide +kernel
set_option maxRecDepth 100000 in
theorem kc_4_29 : chk cL4 29 81 = true := by decide +kernel
set_option maxRecDepth 100000 in
theorem kc_4_30 : chk cL4 30 81 = true := by decide +kernel
set_option maxRecDepth 100000 in
theorem kc_4_31 : chk cL4 31 81 = true := by decide +kernel
set_option maxRecDepth 100000 in
theorem kc_4_32 : chk cL4 32 81 = true := by decide +kernel
set_option maxRecDepth 100000 in
theorem kc_4_33 : chk cL4 33 67 = true := by decide +kernel
set_option maxRecDepth 100000 in
theorem kc_4_34 : chk cL4 34 67 = true := by decide +kernel
set_option maxRecDepth 100000 in
theorem kc_4_35 : chk cL4 35 67 = true := by decide +kernel
set_option maxRecDepth 100000 in
theorem kc_4_36 : chk cL4 36 67 = true := by decide +kernel
theorem okn4 {b n : Nat} (hb : 2 ≤ b ∧ b < 37) (hn : n ≤ 6000) (hnb : n * bl (b - 1) ≤ 20000) : Okn cL4 b n := by
  rcases (show b = 2 ∨ b = 3 ∨ b = 4 ∨ b = 5 ∨ b = 6 ∨ b = 7 ∨ b = 8 ∨ b = 9 ∨ b = 10 ∨ b = 11 ∨ b = 12 ∨ b = 13 ∨ b = 14 ∨ b = 15 ∨ b = 16 ∨ b = 17 ∨ b = 18 ∨ b = 19 ∨ b = 20 ∨ b = 21 ∨ b = 22 ∨ b = 23 ∨ b = 24 ∨ b = 25 ∨ b = 26 ∨ b = 27 ∨ b = 28 ∨ b = 29 ∨ b = 30 ∨ b = 31 ∨ b = 32 ∨ b = 33 ∨ b = 34 ∨ b = 35 ∨ b = 36 by omega) with rfl | rfl | rfl | rfl | rfl | rfl | rfl | rfl | rfl | rfl | rfl | rfl | rfl | rfl | rfl | rfl | rfl | rfl | rfl | rfl | rfl | rfl | rfl | rfl | rfl | rfl | rfl | rfl | rfl | rfl | rfl | rfl | rfl | rfl | rfl
  · exact chk_use kc_4_2 (by omega)
  · exact chk_use kc_4_3 (by omega)
  · exact chk_use kc_4_4 (by omega)
  · exact chk_use kc_4_5 (by omega)
  · exact chk_use kc_4_6 (by omega)
  · exact chk_use kc_4_7 (by omega)
  · exact chk_use kc_4_8 (by omega)
  · exact chk_use kc_4_9 (by rw [show bl (9 - 1) = 4 by decide] at hnb; omega)
  · exact chk_use kc_4_10 (by rw [show bl (10 - 1) = 4 by decide] at hnb; omega)
  · exact chk_use kc_4_11 (by rw [show bl (11 - 1) = 4 by decide] at hnb; omega)
  · exact chk_use kc_4_12 (by rw [show bl (12 - 1) = 4 by decide] at hnb; omega)
  · exact chk_use kc_4_13 (by rw [show bl (13 - 1) = 4 by decide] at hnb; omega)
  · exact chk_use kc_4_14 (by rw [show bl (14 - 1) = 4 by decide] at hnb; omega)
  · exact chk_use kc_4_15 (by rw [show bl (15 - 1) = 4 by decide] at hnb; omega)
  · exact chk_use kc_4_16 (by rw [show bl (16 - 1) = 4 by decide] at hnb; omega)
  · exact chk_use kc_4_17 (by rw [show bl (17 - 1) = 5 by decide] at hnb; omega)
  · exact chk_use kc_4_18 (by rw [show bl (18 - 1) = 5 by decide] at hnb; omega)
  · exact chk_use kc_4_19 (by rw [show bl (19 - 1) = 5 by decide] at hnb; omega)
  · exact chk_use kc_4_20 (by rw [show bl (20 - 1) = 5 by decide] at hnb; omega)
  · exact chk_use kc_4_21 (by rw [show bl (21 - 1) = 5 by decide] at hnb; omega)
  · exact chk_use kc_4_22 (by rw [show bl (22 - 1) = 5 by decide] at hnb; omega)
  · exact chk_use kc_4_23 (by rw [show bl (23 - 1) = 5 by decide] at hnb; omega)
  · exact chk_use kc_4_24 (by rw [show bl (24 - 1) = 5 by decide] at hnb; omega)
  · exact chk_use kc_4_25 (by rw [show bl (25 - 1) = 5 by decide] at hnb; omega)
  · exact chk_use kc_4_26 (by rw [show bl (26 - 1) = 5 by decide] at hnb; omega)
  · exact chk_use kc_4_27 (by rw [show bl (27 - 1) = 5 by decide] at hnb; omega)
  · exact chk_use kc_4_28 (by rw [show bl (28 - 1) = 5 by decide] at hnb; omega)
  · exact chk_use kc_4_29 (by rw [show bl (29 - 1) = 5 by decide] at hnb; omega)
  · exact chk_use kc_4_30 (by rw [show bl (30 - 1) = 5 by decide] at hnb; omega)
  · exact chk_use kc_4_31 (by rw [show bl (31 - 1) = 5 by decide] at hnb; omega)
  · exact chk_use kc_4_32 (by rw [show bl (32 - 1) = 5 by decide] at hnb; omega)
  · exact chk_use kc_4_33 (by rw [show bl (33 - 1) = 6 by decide] at hnb; omega)
  · exact chk_use kc_4_34 (by rw [show bl (34 - 1) = 6 by decide] at hnb; omega)
  · exact chk_use kc_4_35 (by rw [show bl (35 - 1) = 6 by decide] at hnb; omega)
  · exact chk_use kc_4_36 (by rw [show bl (36 - 1) = 6 by decide] at hnb; omega)
