/-! the check, run -/
set_option maxRecDepth 100000 in
theorem ck_8 : chkRng 155 300 150 = true := by decide +kernel
set_option maxRecDepth 100000 in
theorem ck_9 : chkRng 155 450 124 = true := by decide +kernel
