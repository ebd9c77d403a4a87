/-! the check, run -/
set_option maxRecDepth 100000 in
theorem ck_77_0 : chkRng 77 0 56 = true := by decide +kernel
set_option maxRecDepth 100000 in
theorem ck_77_56 : chkRng 77 56 56 = true := by decide +kernel
set_option maxRecDepth 100000 in
theorem ck_77_112 : chkRng 77 112 56 = true := by decide +kernel
set_option maxRecDepth 100000 in
theorem ck_77_168 : chkRng 77 168 54 = true := by decide +kernel
