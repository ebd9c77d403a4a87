/-! the check, run -/
set_option maxRecDepth 100000 in
theorem ck_2 : chkAll 56 19 = true := by decide +kernel
