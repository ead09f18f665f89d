/-! near -/
set_option maxRecDepth 100000 in
theorem R0k : (Nat.beq (rA 5 92).1 0 && (Nat.beq (rA 239 27).1 0 && near (16 * (rA 5 92).2) (4 * (rA 239 27).2 + cL0))) = true := by decide +kernel
set_option maxRecDepth 100000 in
theorem R1k : (Nat.beq (rE 45).1 0 && near (rE 45).2 cL1) = true := by decide +kernel
set_option maxRecDepth 100000 in
theorem R3k : (Nat.beq (rH 425).1 0 && near (rH 425).2 cL3) = true := by decide +kernel
set_option maxRecDepth 100000 in
theorem R4k : (Nat.beq (rC 213).1 0 && near (5 * (rC 213).2 / 2) cL4) = true := by decide +kernel
