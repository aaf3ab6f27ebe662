/-! THE LAW's LOOP: its rows, checked -/
theorem chk_lwk_7 : lwk_7.all chkR = true := by decide +kernel
theorem chk_lwk_8 : lwk_8.all chkR = true := by decide +kernel
theorem chk_lwk_9 : lwk_9.all chkR = true := by decide +kernel
theorem chk_lwk_10 : lwk_10.all chkR = true := by decide +kernel
theorem chk_lwk_11 : lwk_11.all chkR = true := by decide +kernel
theorem chk_lwk_12 : lwk_12.all chkR = true := by decide +kernel
theorem chk_lwk_13 : lwk_13.all chkR = true := by decide +kernel
