/-! the check, run -/
set_option maxRecDepth 100000 in
theorem ck_0 : chkAll 0 25 = true := by decide +kernel
set_option maxRecDepth 100000 in
theorem ck_1 : chkAll 25 25 = true := by decide +kernel
