/-! the check, run -/
set_option maxRecDepth 100000 in
theorem ck_0 : chkAll 0 28 = true := by decide +kernel
