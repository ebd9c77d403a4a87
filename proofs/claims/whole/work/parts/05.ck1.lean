/-! the check, run -/
set_option maxRecDepth 100000 in
theorem ck_2 : chkAll 50 25 = true := by decide +kernel
set_option maxRecDepth 100000 in
theorem ck_3 : chkAll 75 25 = true := by decide +kernel
