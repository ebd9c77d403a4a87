/-! the check, run -/
set_option maxRecDepth 100000 in
theorem ck_4 : chkAll 100 25 = true := by decide +kernel
set_option maxRecDepth 100000 in
theorem ck_5 : chkAll 125 30 = true := by decide +kernel
