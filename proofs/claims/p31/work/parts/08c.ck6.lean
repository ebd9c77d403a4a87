/-! the check, run -/
set_option maxRecDepth 100000 in
theorem ck_78_0 : chkRng 78 0 37 = true := by decide +kernel
set_option maxRecDepth 100000 in
theorem ck_78_37 : chkRng 78 37 37 = true := by decide +kernel
set_option maxRecDepth 100000 in
theorem ck_79_0 : chkRng 79 0 45 = true := by decide +kernel
set_option maxRecDepth 100000 in
theorem ck_79_45 : chkRng 79 45 44 = true := by decide +kernel
set_option maxRecDepth 100000 in
theorem ck_80_0 : chkRng 80 0 49 = true := by decide +kernel
set_option maxRecDepth 100000 in
theorem ck_81_0 : chkRng 81 0 41 = true := by decide +kernel
set_option maxRecDepth 100000 in
theorem ck_81_41 : chkRng 81 41 41 = true := by decide +kernel
set_option maxRecDepth 100000 in
theorem ck_81_82 : chkRng 81 82 39 = true := by decide +kernel
