theorem ok_L_law_0 : vmOkL S_L RL false cL_law 0 T_L_law_0 = true := by decide +kernel
theorem ok_L_law_1 : vmOkL S_L RL false cL_law 400 T_L_law_1 = true := by decide +kernel
theorem ok_L_law_2 : vmOkL S_L RL false cL_law 800 T_L_law_2 = true := by decide +kernel
theorem ok_L_law_3 : vmOkL S_L RL false cL_law 1200 T_L_law_3 = true := by decide +kernel
theorem ok_L_law_4 : vmOkL S_L RL false cL_law 1600 T_L_law_4 = true := by decide +kernel
theorem ok_L_law_5 : vmOkL S_L RL false cL_law 2000 T_L_law_5 = true := by decide +kernel
theorem ok_L_law_6 : vmOkL S_L RL false cL_law 2400 T_L_law_6 = true := by decide +kernel
theorem ok_L_law_7 : vmOkL S_L RL false cL_law 2800 T_L_law_7 = true := by decide +kernel
theorem ok_L_law_8 : vmOkL S_L RL false cL_law 3200 T_L_law_8 = true := by decide +kernel
theorem ok_L_law : vmOkL S_L RL false cL_law 0 T_L_law = true := vmOkL_app _ _ _ ok_L_law_0 (vmOkL_app _ _ _ ok_L_law_1 (vmOkL_app _ _ _ ok_L_law_2 (vmOkL_app _ _ _ ok_L_law_3 (vmOkL_app _ _ _ ok_L_law_4 (vmOkL_app _ _ _ ok_L_law_5 (vmOkL_app _ _ _ ok_L_law_6 (vmOkL_app _ _ _ ok_L_law_7 (ok_L_law_8))))))))
