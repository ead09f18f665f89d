/-! words on exceptions, and of the methods with handlers -/
theorem zStr_mem {q : Nat × String} (h : zStr.contains q = true) : q ∈ zStr := by simpa using h
theorem wnx_IAE : Cond.instantiable X_IAE 6 ∈ TT := tt_of 295 (by decide +kernel) (by decide +kernel)
theorem wix_IAE : Cond.initialized X_IAE ∈ TT := tt_of 63 (by decide +kernel) (by decide +kernel)
theorem wkx_IAE : Cond.classLink "DigitMill" 33 X_IAE ∈ TT := tt_of 687 (by decide +kernel) (by decide +kernel)
theorem wlx_IAE : Cond.classLink "DigitMillLaw" 13 X_IAE ∈ TT := tt_of 681 (by decide +kernel) (by decide +kernel)
theorem fit_IAE : Jvm.Bundle.fit X_IAE = true := by decide +kernel
theorem wnx_UOE : Cond.instantiable X_UOE 6 ∈ TT := tt_of 706 (by decide +kernel) (by decide +kernel)
theorem wix_UOE : Cond.initialized X_UOE ∈ TT := tt_of 65 (by decide +kernel) (by decide +kernel)
theorem wkx_UOE : Cond.classLink "DigitMill" 140 X_UOE ∈ TT := tt_of 705 (by decide +kernel) (by decide +kernel)
theorem wlx_UOE : Cond.classLink "DigitMillLaw" 15 X_UOE ∈ TT := tt_of 682 (by decide +kernel) (by decide +kernel)
theorem fit_UOE : Jvm.Bundle.fit X_UOE = true := by decide +kernel
theorem wnx_ARE : Cond.instantiable X_ARE 6 ∈ TT := tt_of 901 (by decide +kernel) (by decide +kernel)
theorem wix_ARE : Cond.initialized X_ARE ∈ TT := tt_of 78 (by decide +kernel) (by decide +kernel)
theorem wkx_ARE : Cond.classLink "DigitMill" 129 X_ARE ∈ TT := tt_of 900 (by decide +kernel) (by decide +kernel)
theorem wlx_ARE : Cond.classLink "DigitMillLaw" 40 X_ARE ∈ TT := tt_of 895 (by decide +kernel) (by decide +kernel)
theorem fit_ARE : Jvm.Bundle.fit X_ARE = true := by decide +kernel
theorem wnx_IOE : Cond.instantiable X_IOE 6 ∈ TT := tt_of 958 (by decide +kernel) (by decide +kernel)
theorem wix_IOE : Cond.initialized X_IOE ∈ TT := tt_of 76 (by decide +kernel) (by decide +kernel)
theorem wkx_IOE : Cond.classLink "DigitMill" 164 X_IOE ∈ TT := tt_of 957 (by decide +kernel) (by decide +kernel)
theorem wlx_IOE : Cond.classLink "DigitMillLaw" 54 X_IOE ∈ TT := tt_of 952 (by decide +kernel) (by decide +kernel)
theorem fit_IOE : Jvm.Bundle.fit X_IOE = true := by decide +kernel
abbrev rmT (d : Nat) : Room := { frames := d, cells := 1, slots := 6, locals := 64 * d }
theorem zT {y : MethodName} {c : ByteArray} {n d d' np : Nat} {r : Option FieldType} (h : zFit y c n r (rm d') (rm d) np) : zFit y c n r (rm d') (rmT d) np := h
theorem zTT {y : MethodName} {c : ByteArray} {n d d' np : Nat} {r : Option FieldType} (h : zFit y c n r (rm d') (rm d) np) : zFit y c n r (rmT d') (rmT d) np := h
abbrev hs_L_mill : List Hrow := [(0, 12, 15, 13), (0, 12, 19, 15)]
abbrev hs_L_root : List Hrow := [(0, 13, 16, 13), (0, 13, 20, 15)]
abbrev hs_L_over : List Hrow := [(0, 15, 18, 13), (0, 15, 22, 15)]
abbrev hs_L_number : List Hrow := [(0, 11, 14, 13)]
abbrev hs_L_push : List Hrow := [(0, 9, 12, 13), (0, 9, 15, 15)]
abbrev hs_L_add : List Hrow := [(0, 8, 11, 15)]
abbrev hs_L_subtract : List Hrow := [(0, 8, 11, 40)]
abbrev hs_L_times : List Hrow := [(0, 8, 11, 15)]
abbrev hs_L_divide : List Hrow := [(0, 8, 11, 40)]
abbrev hs_L_convert : List Hrow := [(0, 9, 12, 13)]
abbrev hs_L_digit : List Hrow := [(0, 9, 12, 54)]
abbrev hs_L_about : List Hrow := [(0, 9, 12, 13)]
abbrev hs_L_count : List Hrow := [(0, 12, 15, 54)]
abbrev hs_L_find : List Hrow := [(0, 13, 16, 13)]

theorem wcw_L_mill : Cond.codeWith y_L_mill c_L_mill 6 (some .int) hs_L_mill ∈ TT := tt_of 680 (by decide +kernel) (by decide +kernel)
theorem wcw_L_root : Cond.codeWith y_L_root c_L_root 7 (some .int) hs_L_root ∈ TT := tt_of 830 (by decide +kernel) (by decide +kernel)
theorem wcw_L_over : Cond.codeWith y_L_over c_L_over 9 (some .int) hs_L_over ∈ TT := tt_of 839 (by decide +kernel) (by decide +kernel)
theorem wcw_L_number : Cond.codeWith y_L_number c_L_number 6 (some .int) hs_L_number ∈ TT := tt_of 861 (by decide +kernel) (by decide +kernel)
theorem wcw_L_push : Cond.codeWith y_L_push c_L_push 4 (some .int) hs_L_push ∈ TT := tt_of 868 (by decide +kernel) (by decide +kernel)
theorem wcw_L_add : Cond.codeWith y_L_add c_L_add 3 (some .int) hs_L_add ∈ TT := tt_of 886 (by decide +kernel) (by decide +kernel)
theorem wcw_L_subtract : Cond.codeWith y_L_subtract c_L_subtract 3 (some .int) hs_L_subtract ∈ TT := tt_of 894 (by decide +kernel) (by decide +kernel)
theorem wcw_L_times : Cond.codeWith y_L_times c_L_times 3 (some .int) hs_L_times ∈ TT := tt_of 922 (by decide +kernel) (by decide +kernel)
theorem wcw_L_divide : Cond.codeWith y_L_divide c_L_divide 3 (some .int) hs_L_divide ∈ TT := tt_of 935 (by decide +kernel) (by decide +kernel)
theorem wcw_L_convert : Cond.codeWith y_L_convert c_L_convert 4 (some .int) hs_L_convert ∈ TT := tt_of 943 (by decide +kernel) (by decide +kernel)
theorem wcw_L_digit : Cond.codeWith y_L_digit c_L_digit 4 (some .int) hs_L_digit ∈ TT := tt_of 951 (by decide +kernel) (by decide +kernel)
theorem wcw_L_about : Cond.codeWith y_L_about c_L_about 4 (some .int) hs_L_about ∈ TT := tt_of 976 (by decide +kernel) (by decide +kernel)
theorem wcw_L_count : Cond.codeWith y_L_count c_L_count 6 (some .int) hs_L_count ∈ TT := tt_of 992 (by decide +kernel) (by decide +kernel)
theorem wcw_L_find : Cond.codeWith y_L_find c_L_find 7 (some .int) hs_L_find ∈ TT := tt_of 1000 (by decide +kernel) (by decide +kernel)