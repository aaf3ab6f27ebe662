/-! THE LAW's LOOP: its rows, checked -/
theorem chk_lwk_14 : lwk_14.all chkR = true := by decide +kernel
theorem chk_lwk_15 : lwk_15.all chkR = true := by decide +kernel
theorem chk_lwk_16 : lwk_16.all chkR = true := by decide +kernel
theorem chk_lwk_17 : lwk_17.all chkR = true := by decide +kernel
theorem chk_lwk_18 : lwk_18.all chkR = true := by decide +kernel
theorem chk_lwk_19 : lwk_19.all chkR = true := by decide +kernel
theorem chk_lwk_20 : lwk_20.all chkR = true := by decide +kernel
