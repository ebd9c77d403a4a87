/-! the check, run -/
set_option maxRecDepth 100000 in
theorem ck_6 : chkRng 155 0 150 = true := by decide +kernel
set_option maxRecDepth 100000 in
theorem ck_7 : chkRng 155 150 150 = true := by decide +kernel
