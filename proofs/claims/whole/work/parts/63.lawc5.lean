/-! THE LAW's LOOP: its rows, checked -/
theorem chk_lwk_35 : lwk_35.all chkR = true := by decide +kernel
theorem chk_lwk_36 : lwk_36.all chkR = true := by decide +kernel
theorem chk_lwk_37 : lwk_37.all chkR = true := by decide +kernel
theorem chk_lwk_38 : lwk_38.all chkR = true := by decide +kernel
theorem chk_lwk_39 : lwk_39.all chkR = true := by decide +kernel
theorem chk_lwk_40 : lwk_40.all chkR = true := by decide +kernel
theorem chk_law : chkTb cL_law "HeavyHaulLaw" false (tb_law slC smC) = true := by
  have h : (tb_law slC smC).all chkR = true := by
    rw [tb_split]
    simp only [List.all_append, chk_lwk_0, chk_lwk_1, chk_lwk_2, chk_lwk_3, chk_lwk_4, chk_lwk_5, chk_lwk_6, chk_lwk_7, chk_lwk_8, chk_lwk_9, chk_lwk_10, chk_lwk_11, chk_lwk_12, chk_lwk_13, chk_lwk_14, chk_lwk_15, chk_lwk_16, chk_lwk_17, chk_lwk_18, chk_lwk_19, chk_lwk_20, chk_lwk_21, chk_lwk_22, chk_lwk_23, chk_lwk_24, chk_lwk_25, chk_lwk_26, chk_lwk_27, chk_lwk_28, chk_lwk_29, chk_lwk_30, chk_lwk_31, chk_lwk_32, chk_lwk_33, chk_lwk_34, chk_lwk_35, chk_lwk_36, chk_lwk_37, chk_lwk_38, chk_lwk_39, chk_lwk_40, Bool.and_self]
  show (chn (tb_law slC smC) && (tb_law slC smC).all chkR) = true
  rw [chn_law, h]
  rfl
