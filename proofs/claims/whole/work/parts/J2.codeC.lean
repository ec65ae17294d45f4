theorem ok_J13_bitCount_95d88 : vmOkL S_J13 RJ13 false cJ13_bitCount_95d88 0 T_J13_bitCount_95d88 = true := by decide +kernel
theorem cw_J13_bitCount_95d88 : vmLk 3046 = some (.code yJ13_bitCount_95d88 cJ13_bitCount_95d88 2 (Option.some Jvm.ClassFile.FieldType.int)) := by decide +kernel
theorem ok_J0_length_8abf5 : vmOkL S_J0 RJ0 false cJ0_length_8abf5 0 T_J0_length_8abf5 = true := by decide +kernel
theorem cw_J0_length_8abf5 : vmLk 3184 = some (.code yJ0_length_8abf5 cJ0_length_8abf5 1 (Option.some Jvm.ClassFile.FieldType.int)) := by decide +kernel
theorem ok_J0_charAt_5068e : vmOkL S_J0 RJ0 false cJ0_charAt_5068e 0 T_J0_charAt_5068e = true := by decide +kernel
theorem cw_J0_charAt_5068e : vmLk 4032 = some (.code yJ0_charAt_5068e cJ0_charAt_5068e 2 (Option.some Jvm.ClassFile.FieldType.char)) := by decide +kernel
theorem ok_J0_indexOf_0f7a4 : vmOkL S_J0 RJ0 false cJ0_indexOf_0f7a4 0 T_J0_indexOf_0f7a4 = true := by decide +kernel
theorem cw_J0_indexOf_0f7a4 : vmLk 3170 = some (.code yJ0_indexOf_0f7a4 cJ0_indexOf_0f7a4 2 (Option.some Jvm.ClassFile.FieldType.int)) := by decide +kernel
theorem ok_J0_indexOf_7cf53 : vmOkL S_J0 RJ0 false cJ0_indexOf_7cf53 0 T_J0_indexOf_7cf53 = true := by decide +kernel
theorem cw_J0_indexOf_7cf53 : vmLk 3174 = some (.code yJ0_indexOf_7cf53 cJ0_indexOf_7cf53 3 (Option.some Jvm.ClassFile.FieldType.int)) := by decide +kernel
theorem ok_J0_coder_7d493 : vmOkL S_J0 RJ0 false cJ0_coder_7d493 0 T_J0_coder_7d493 = true := by decide +kernel
theorem cw_J0_coder_7d493 : vmLk 3188 = some (.code yJ0_coder_7d493 cJ0_coder_7d493 1 (Option.some Jvm.ClassFile.FieldType.byte)) := by decide +kernel
theorem ok_J0_isLatin1_aae02 : vmOkL S_J0 RJ0 false cJ0_isLatin1_aae02 0 T_J0_isLatin1_aae02 = true := by decide +kernel
theorem cw_J0_isLatin1_aae02 : vmLk 3178 = some (.code yJ0_isLatin1_aae02 cJ0_isLatin1_aae02 1 (Option.some Jvm.ClassFile.FieldType.boolean)) := by decide +kernel
theorem ok_J0_checkIndex_df160 : vmOkL S_J0 RJ0 false cJ0_checkIndex_df160 0 T_J0_checkIndex_df160 = true := by decide +kernel
theorem cw_J0_checkIndex_df160 : vmLk 4038 = some (.code yJ0_checkIndex_df160 cJ0_checkIndex_df160 2 (Option.none : Option Jvm.ClassFile.FieldType)) := by decide +kernel
theorem ok_J1_charAt_3b067 : vmOkL S_J1 RJ1 false cJ1_charAt_3b067 0 T_J1_charAt_3b067 = true := by decide +kernel
theorem cw_J1_charAt_3b067 : vmLk 4035 = some (.code yJ1_charAt_3b067 cJ1_charAt_3b067 2 (Option.some Jvm.ClassFile.FieldType.char)) := by decide +kernel
theorem ok_J1_canEncode_9a6ad : vmOkL S_J1 RJ1 false cJ1_canEncode_9a6ad 0 T_J1_canEncode_9a6ad = true := by decide +kernel
theorem cw_J1_canEncode_9a6ad : vmLk 3194 = some (.code yJ1_canEncode_9a6ad cJ1_canEncode_9a6ad 1 (Option.some Jvm.ClassFile.FieldType.boolean)) := by decide +kernel
theorem ok_J1_indexOf_4cfef : vmOkL S_J1 RJ1 false cJ1_indexOf_4cfef 0 T_J1_indexOf_4cfef = true := by decide +kernel
theorem cw_J1_indexOf_4cfef : vmLk 3191 = some (.code yJ1_indexOf_4cfef cJ1_indexOf_4cfef 4 (Option.some Jvm.ClassFile.FieldType.int)) := by decide +kernel
theorem ok_J1_indexOfChar_4cfef : vmOkL S_J1 RJ1 false cJ1_indexOfChar_4cfef 0 T_J1_indexOfChar_4cfef = true := by decide +kernel
theorem cw_J1_indexOfChar_4cfef : vmLk 3201 = some (.code yJ1_indexOfChar_4cfef cJ1_indexOfChar_4cfef 6 (Option.some Jvm.ClassFile.FieldType.int)) := by decide +kernel
theorem ok_J7_fill_d0a16 : vmOkL S_J7 RJ7 false cJ7_fill_d0a16 0 T_J7_fill_d0a16 = true := by decide +kernel
theorem cw_J7_fill_d0a16 : vmLk 6046 = some (.code yJ7_fill_d0a16 cJ7_fill_d0a16 5 (Option.none : Option Jvm.ClassFile.FieldType)) := by decide +kernel
theorem ok_J7_fill_53178 : vmOkL S_J7 RJ7 false cJ7_fill_53178 0 T_J7_fill_53178 = true := by decide +kernel
theorem cw_J7_fill_53178 : vmLk 2199 = some (.code yJ7_fill_53178 cJ7_fill_53178 4 (Option.none : Option Jvm.ClassFile.FieldType)) := by decide +kernel
theorem ok_J3_checkIndex_8e157 : vmOkL S_J3 RJ3 false cJ3_checkIndex_8e157 0 T_J3_checkIndex_8e157 = true := by decide +kernel
theorem cw_J3_checkIndex_8e157 : vmLk 4041 = some (.code yJ3_checkIndex_8e157 cJ3_checkIndex_8e157 3 (Option.some Jvm.ClassFile.FieldType.int)) := by decide +kernel
theorem ok_L_park : vmOkL S_L RL false cL_park 0 T_L_park = true := by decide +kernel
theorem cw_L_park : vmLk 3064 = some (.codeWith yL_park cL_park 4 (Option.some Jvm.ClassFile.FieldType.int) [(0, 9, 12, 13)]) := by decide +kernel
theorem ok_L_cell : vmOkL S_L RL false cL_cell 0 T_L_cell = true := by decide +kernel
theorem cw_L_cell : vmLk 4206 = some (.codeWith yL_cell cL_cell 5 (Option.some Jvm.ClassFile.FieldType.int) [(0, 10, 13, 19), (0, 10, 17, 13)]) := by decide +kernel
theorem ok_L_walker : vmOkL S_L RL false cL_walker 0 T_L_walker = true := by decide +kernel
theorem cw_L_walker : vmLk 5031 = some (.codeWith yL_walker cL_walker 5 (Option.some Jvm.ClassFile.FieldType.int) [(0, 10, 13, 19), (0, 10, 17, 13)]) := by decide +kernel
theorem ok_L_walk : vmOkL S_L RL false cL_walk 0 T_L_walk = true := by decide +kernel
theorem cw_L_walk : vmLk 5046 = some (.codeWith yL_walk cL_walk 5 (Option.some Jvm.ClassFile.FieldType.int) [(0, 10, 13, 19)]) := by decide +kernel
theorem ok_L_clip : vmOkL S_L RL false cL_clip 0 T_L_clip = true := by decide +kernel
theorem cw_L_clip : vmLk 5116 = some (.codeWith yL_clip cL_clip 5 (Option.some Jvm.ClassFile.FieldType.int) [(0, 10, 13, 19), (0, 10, 17, 30), (0, 10, 21, 13)]) := by decide +kernel
theorem ok_L_plant : vmOkL S_L RL false cL_plant 0 T_L_plant = true := by decide +kernel
theorem cw_L_plant : vmLk 5148 = some (.codeWith yL_plant cL_plant 5 (Option.some Jvm.ClassFile.FieldType.int) [(0, 10, 13, 19), (0, 10, 17, 13), (0, 10, 21, 30)]) := by decide +kernel
theorem ok_L_nights : vmOkL S_L RL false cL_nights 0 T_L_nights = true := by decide +kernel
theorem cw_L_nights : vmLk 5157 = some (.codeWith yL_nights cL_nights 4 (Option.some Jvm.ClassFile.FieldType.int) [(0, 9, 12, 13)]) := by decide +kernel
theorem ok_L_undo : vmOkL S_L RL false cL_undo 0 T_L_undo = true := by decide +kernel
theorem cw_L_undo : vmLk 5175 = some (.codeWith yL_undo cL_undo 4 (Option.some Jvm.ClassFile.FieldType.int) [(0, 9, 12, 13)]) := by decide +kernel
theorem ok_L_judge : vmOkL S_L RL false cL_judge 0 T_L_judge = true := by decide +kernel
theorem cw_L_judge : vmLk 5189 = some (.codeWith yL_judge cL_judge 5 (Option.some Jvm.ClassFile.FieldType.int) [(0, 10, 13, 19), (0, 10, 17, 30), (0, 10, 21, 13)]) := by decide +kernel
theorem ok_L_perform : vmOkL S_L RL false cL_perform 0 T_L_perform = true := by decide +kernel
theorem cw_L_perform : vmLk 5212 = some (.codeWith yL_perform cL_perform 4 (Option.some Jvm.ClassFile.FieldType.int) [(0, 9, 12, 19), (0, 9, 15, 30)]) := by decide +kernel
theorem ok_L_decade : vmOkL S_L RL false cL_decade 0 T_L_decade = true := by decide +kernel
theorem cw_L_decade : vmLk 5223 = some (.codeWith yL_decade cL_decade 5 (Option.some Jvm.ClassFile.FieldType.int) [(0, 10, 13, 13), (0, 10, 17, 30)]) := by decide +kernel
theorem ok_L_soonest : vmOkL S_L RL false cL_soonest 0 T_L_soonest = true := by decide +kernel
theorem cw_L_soonest : vmLk 6001 = some (.codeWith yL_soonest cL_soonest 5 (Option.some Jvm.ClassFile.FieldType.int) [(0, 10, 13, 19)]) := by decide +kernel
theorem ok_L_way : vmOkL S_L RL false cL_way 0 T_L_way = true := by decide +kernel
theorem cw_L_way : vmLk 6019 = some (.codeWith yL_way cL_way 6 (Option.some Jvm.ClassFile.FieldType.int) [(0, 12, 15, 19)]) := by decide +kernel
theorem ok_L_ways : vmOkL S_L RL false cL_ways 0 T_L_ways = true := by decide +kernel
theorem cw_L_ways : vmLk 6035 = some (.codeWith yL_ways cL_ways 5 (Option.some Jvm.ClassFile.FieldType.int) [(0, 9, 12, 19)]) := by decide +kernel
theorem ok_L_within : vmOkL S_L RL false cL_within 0 T_L_within = true := by decide +kernel
theorem cw_L_within : vmLk 6049 = some (.codeWith yL_within cL_within 6 (Option.some Jvm.ClassFile.FieldType.int) [(0, 12, 15, 19), (0, 12, 19, 13)]) := by decide +kernel
theorem ok_L_steps : vmOkL S_L RL false cL_steps 0 T_L_steps = true := by decide +kernel
theorem cw_L_steps : vmLk 6070 = some (.codeWith yL_steps cL_steps 6 (Option.some Jvm.ClassFile.FieldType.int) [(0, 12, 15, 19), (0, 12, 19, 13)]) := by decide +kernel
theorem ok_L_cleared : vmOkL S_L RL false cL_cleared 0 T_L_cleared = true := by decide +kernel
theorem cw_L_cleared : vmLk 6081 = some (.codeWith yL_cleared cL_cleared 6 (Option.some Jvm.ClassFile.FieldType.int) [(0, 12, 15, 19), (0, 12, 19, 13)]) := by decide +kernel
theorem ok_L_clipFor : vmOkL S_L RL false cL_clipFor 0 T_L_clipFor = true := by decide +kernel
theorem cw_L_clipFor : vmLk 6093 = some (.codeWith yL_clipFor cL_clipFor 7 (Option.some Jvm.ClassFile.FieldType.int) [(0, 14, 17, 19), (0, 14, 21, 13)]) := by decide +kernel
theorem ok_L_reach : vmOkL S_L RL false cL_reach 0 T_L_reach = true := by decide +kernel
theorem cw_L_reach : vmLk 6100 = some (.codeWith yL_reach cL_reach 5 (Option.some Jvm.ClassFile.FieldType.int) [(0, 9, 12, 19), (0, 9, 16, 13)]) := by decide +kernel
theorem ok_L_farthest : vmOkL S_L RL false cL_farthest 0 T_L_farthest = true := by decide +kernel
theorem cw_L_farthest : vmLk 6107 = some (.codeWith yL_farthest cL_farthest 4 (Option.some Jvm.ClassFile.FieldType.int) [(0, 9, 12, 19)]) := by decide +kernel
theorem ok_L_round : vmOkL S_L RL false cL_round 0 T_L_round = true := by decide +kernel
theorem cw_L_round : vmLk 6114 = some (.codeWith yL_round cL_round 5 (Option.some Jvm.ClassFile.FieldType.int) [(0, 10, 13, 19), (0, 10, 17, 13)]) := by decide +kernel
theorem ok_L_bestOrder : vmOkL S_L RL false cL_bestOrder 0 T_L_bestOrder = true := by decide +kernel
theorem cw_L_bestOrder : vmLk 6137 = some (.codeWith yL_bestOrder cL_bestOrder 5 (Option.some Jvm.ClassFile.FieldType.int) [(0, 10, 13, 19), (0, 10, 17, 13)]) := by decide +kernel
theorem ok_L_meet : vmOkL S_L RL false cL_meet 0 T_L_meet = true := by decide +kernel
theorem cw_L_meet : vmLk 6153 = some (.codeWith yL_meet cL_meet 7 (Option.some Jvm.ClassFile.FieldType.int) [(0, 14, 17, 19), (0, 14, 21, 13)]) := by decide +kernel
theorem ok_L_first : vmOkL S_L RL false cL_first 0 T_L_first = true := by decide +kernel
theorem cw_L_first : vmLk 6162 = some (.codeWith yL_first cL_first 4 (Option.some Jvm.ClassFile.FieldType.int) [(0, 9, 12, 19)]) := by decide +kernel
theorem ok_L_own : vmOkL S_L RL false cL_own 0 T_L_own = true := by decide +kernel
theorem cw_L_own : vmLk 6169 = some (.codeWith yL_own cL_own 4 (Option.some Jvm.ClassFile.FieldType.int) [(0, 8, 11, 19)]) := by decide +kernel
theorem ok_L_shutOff : vmOkL S_L RL false cL_shutOff 0 T_L_shutOff = true := by decide +kernel
theorem cw_L_shutOff : vmLk 6180 = some (.codeWith yL_shutOff cL_shutOff 5 (Option.some Jvm.ClassFile.FieldType.int) [(0, 10, 13, 19)]) := by decide +kernel
theorem ok_L_needed : vmOkL S_L RL false cL_needed 0 T_L_needed = true := by decide +kernel
theorem cw_L_needed : vmLk 6219 = some (.codeWith yL_needed cL_needed 5 (Option.some Jvm.ClassFile.FieldType.int) [(0, 9, 12, 19)]) := by decide +kernel
theorem ok_L_dearest : vmOkL S_L RL false cL_dearest 0 T_L_dearest = true := by decide +kernel
theorem cw_L_dearest : vmLk 6227 = some (.codeWith yL_dearest cL_dearest 5 (Option.some Jvm.ClassFile.FieldType.int) [(0, 10, 13, 19)]) := by decide +kernel
theorem ok_L_soonestIn : vmOkL S_L RL false cL_soonestIn 0 T_L_soonestIn = true := by decide +kernel
theorem cw_L_soonestIn : vmLk 7003 = some (.codeWith yL_soonestIn cL_soonestIn 6 (Option.some Jvm.ClassFile.FieldType.int) [(0, 12, 15, 19), (0, 12, 19, 13)]) := by decide +kernel
theorem ok_L_bestNight : vmOkL S_L RL false cL_bestNight 0 T_L_bestNight = true := by decide +kernel
theorem cw_L_bestNight : vmLk 7010 = some (.codeWith yL_bestNight cL_bestNight 6 (Option.some Jvm.ClassFile.FieldType.int) [(0, 12, 15, 19), (0, 12, 19, 13)]) := by decide +kernel
theorem ok_L_grownTo : vmOkL S_L RL false cL_grownTo 0 T_L_grownTo = true := by decide +kernel
theorem cw_L_grownTo : vmLk 7018 = some (.codeWith yL_grownTo cL_grownTo 6 (Option.some Jvm.ClassFile.FieldType.int) [(0, 12, 15, 19), (0, 12, 19, 13)]) := by decide +kernel
theorem ok_L_walks : vmOkL S_L RL false cL_walks 0 T_L_walks = true := by decide +kernel
theorem cw_L_walks : vmLk 7025 = some (.codeWith yL_walks cL_walks 6 (Option.some Jvm.ClassFile.FieldType.int) [(0, 11, 14, 19), (0, 11, 18, 13)]) := by decide +kernel
theorem ok_L_been : vmOkL S_L RL false cL_been 0 T_L_been = true := by decide +kernel
theorem cw_L_been : vmLk 7054 = some (.codeWith yL_been cL_been 6 (Option.some Jvm.ClassFile.FieldType.int) [(0, 11, 14, 19), (0, 11, 18, 13)]) := by decide +kernel
theorem ok_L_through : vmOkL S_L RL false cL_through 0 T_L_through = true := by decide +kernel
theorem cw_L_through : vmLk 7065 = some (.codeWith yL_through cL_through 7 (Option.some Jvm.ClassFile.FieldType.int) [(0, 13, 16, 19), (0, 13, 20, 13)]) := by decide +kernel
theorem ok_L_tells : vmOkL S_L RL false cL_tells 0 T_L_tells = true := by decide +kernel
theorem cw_L_tells : vmLk 7078 = some (.codeWith yL_tells cL_tells 6 (Option.some Jvm.ClassFile.FieldType.int) [(0, 12, 15, 19), (0, 12, 19, 13)]) := by decide +kernel
theorem ok_L_maybe : vmOkL S_L RL false cL_maybe 0 T_L_maybe = true := by decide +kernel
theorem cw_L_maybe : vmLk 7086 = some (.codeWith yL_maybe cL_maybe 5 (Option.some Jvm.ClassFile.FieldType.int) [(0, 9, 12, 19), (0, 9, 16, 13)]) := by decide +kernel
theorem ok_L_tray : vmOkL S_L RL false cL_tray 0 T_L_tray = true := by decide +kernel
theorem cw_L_tray : vmLk 7093 = some (.codeWith yL_tray cL_tray 5 (Option.some Jvm.ClassFile.FieldType.int) [(0, 7, 10, 19), (0, 7, 14, 13)]) := by decide +kernel
theorem ok_L_write : vmOkL S_L RL false cL_write 0 T_L_write = true := by decide +kernel
theorem cw_L_write : vmLk 7100 = some (.codeWith yL_write cL_write 7 (Option.some Jvm.ClassFile.FieldType.int) [(0, 11, 14, 19), (0, 11, 18, 30), (0, 11, 22, 140)]) := by decide +kernel
theorem ok_L_copy : vmOkL S_L RL false cL_copy 0 T_L_copy = true := by decide +kernel
theorem cw_L_copy : vmLk 7126 = some (.codeWith yL_copy cL_copy 4 (Option.some Jvm.ClassFile.FieldType.int) [(0, 9, 12, 19), (0, 9, 15, 30)]) := by decide +kernel
theorem ok_L_image : vmOkL S_L RL false cL_image 0 T_L_image = true := by decide +kernel
theorem cw_L_image : vmLk 7134 = some (.codeWith yL_image cL_image 3 (Option.some Jvm.ClassFile.FieldType.int) [(0, 5, 8, 19)]) := by decide +kernel
theorem ok_L_restore : vmOkL S_L RL false cL_restore 0 T_L_restore = true := by decide +kernel
theorem cw_L_restore : vmLk 7144 = some (.codeWith yL_restore cL_restore 3 (Option.some Jvm.ClassFile.FieldType.int) [(0, 5, 8, 19), (0, 5, 11, 30)]) := by decide +kernel
