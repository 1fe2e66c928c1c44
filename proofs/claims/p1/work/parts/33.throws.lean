/-! NAMES: the words of each throw. -/
theorem kT_Le_72 : ∀ w ∈ gx_ca "CommitLedger" 72 "java/lang/IllegalStateException" 7 prog_16_method_2_code, w ∈ gx_all := by
  have h : (gx_ca "CommitLedger" 72 "java/lang/IllegalStateException" 7 prog_16_method_2_code).all (fun w => decide (w ∈ gx_all)) = true := by decide +kernel
  exact fun w hw => of_decide_eq_true (List.all_eq_true.mp h w hw)
theorem kT_Le_83 : ∀ w ∈ gx_ca "CommitLedger" 83 "java/lang/UnsupportedOperationException" 7 prog_24_method_2_code, w ∈ gx_all := by
  have h : (gx_ca "CommitLedger" 83 "java/lang/UnsupportedOperationException" 7 prog_24_method_2_code).all (fun w => decide (w ∈ gx_all)) = true := by decide +kernel
  exact fun w hw => of_decide_eq_true (List.all_eq_true.mp h w hw)
theorem kT_Le_119 : ∀ w ∈ gx_ca "CommitLedger" 119 "java/lang/IndexOutOfBoundsException" 7 prog_17_method_2_code, w ∈ gx_all := by
  have h : (gx_ca "CommitLedger" 119 "java/lang/IndexOutOfBoundsException" 7 prog_17_method_2_code).all (fun w => decide (w ∈ gx_all)) = true := by decide +kernel
  exact fun w hw => of_decide_eq_true (List.all_eq_true.mp h w hw)
theorem kT_Le_154 : ∀ w ∈ gx_ca "CommitLedger" 154 "java/util/NoSuchElementException" 13 prog_31_method_4_code, w ∈ gx_all := by
  have h : (gx_ca "CommitLedger" 154 "java/util/NoSuchElementException" 13 prog_31_method_4_code).all (fun w => decide (w ∈ gx_all)) = true := by decide +kernel
  exact fun w hw => of_decide_eq_true (List.all_eq_true.mp h w hw)
theorem kT_Le_195 : ∀ w ∈ gx_ca "CommitLedger" 195 "java/lang/IllegalArgumentException" 7 prog_15_method_2_code, w ∈ gx_all := by
  have h : (gx_ca "CommitLedger" 195 "java/lang/IllegalArgumentException" 7 prog_15_method_2_code).all (fun w => decide (w ∈ gx_all)) = true := by decide +kernel
  exact fun w hw => of_decide_eq_true (List.all_eq_true.mp h w hw)
theorem kT_Le_301 : ∀ w ∈ gx_ca "CommitLedger" 301 "java/lang/ArithmeticException" 7 prog_12_method_2_code, w ∈ gx_all := by
  have h : (gx_ca "CommitLedger" 301 "java/lang/ArithmeticException" 7 prog_12_method_2_code).all (fun w => decide (w ∈ gx_all)) = true := by decide +kernel
  exact fun w hw => of_decide_eq_true (List.all_eq_true.mp h w hw)
