/-! THE LAW's LOOP: its rows, checked -/
theorem chk_lwk_21 : lwk_21.all chkR = true := by decide +kernel
theorem chk_lwk_22 : lwk_22.all chkR = true := by decide +kernel
theorem chk_lwk_23 : lwk_23.all chkR = true := by decide +kernel
theorem chk_lwk_24 : lwk_24.all chkR = true := by decide +kernel
theorem chk_lwk_25 : lwk_25.all chkR = true := by decide +kernel
theorem chk_lwk_26 : lwk_26.all chkR = true := by decide +kernel
theorem chk_lwk_27 : lwk_27.all chkR = true := by decide +kernel
