/-! THE LAW's LOOP: its rows, checked -/
theorem chk_lwk_28 : lwk_28.all chkR = true := by decide +kernel
theorem chk_lwk_29 : lwk_29.all chkR = true := by decide +kernel
theorem chk_lwk_30 : lwk_30.all chkR = true := by decide +kernel
theorem chk_lwk_31 : lwk_31.all chkR = true := by decide +kernel
theorem chk_lwk_32 : lwk_32.all chkR = true := by decide +kernel
theorem chk_lwk_33 : lwk_33.all chkR = true := by decide +kernel
theorem chk_lwk_34 : lwk_34.all chkR = true := by decide +kernel
