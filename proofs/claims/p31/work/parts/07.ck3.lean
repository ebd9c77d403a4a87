/-! the check, run -/
set_option maxRecDepth 100000 in
theorem ck_75_0 : chkRng 75 0 47 = true := by decide +kernel
set_option maxRecDepth 100000 in
theorem ck_75_47 : chkRng 75 47 47 = true := by decide +kernel
set_option maxRecDepth 100000 in
theorem ck_75_94 : chkRng 75 94 47 = true := by decide +kernel
set_option maxRecDepth 100000 in
theorem ck_75_141 : chkRng 75 141 46 = true := by decide +kernel
