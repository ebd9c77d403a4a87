/-! the check, run -/
set_option maxRecDepth 100000 in
theorem ck_1 : chkAll 28 28 = true := by decide +kernel
