/-! THE LAW's LOOP: its rows, checked -/
theorem chk_lwk_0 : lwk_0.all chkR = true := by decide +kernel
theorem chk_lwk_1 : lwk_1.all chkR = true := by decide +kernel
theorem chk_lwk_2 : lwk_2.all chkR = true := by decide +kernel
theorem chk_lwk_3 : lwk_3.all chkR = true := by decide +kernel
theorem chk_lwk_4 : lwk_4.all chkR = true := by decide +kernel
theorem chk_lwk_5 : lwk_5.all chkR = true := by decide +kernel
theorem chk_lwk_6 : lwk_6.all chkR = true := by decide +kernel
