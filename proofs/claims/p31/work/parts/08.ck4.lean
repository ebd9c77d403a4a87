/-! the check, run -/
set_option maxRecDepth 100000 in
theorem ck_76_0 : chkRng 76 0 57 = true := by decide +kernel
set_option maxRecDepth 100000 in
theorem ck_76_57 : chkRng 76 57 57 = true := by decide +kernel
set_option maxRecDepth 100000 in
theorem ck_76_114 : chkRng 76 114 57 = true := by decide +kernel
set_option maxRecDepth 100000 in
theorem ck_76_171 : chkRng 76 171 57 = true := by decide +kernel
