theorem ok_X0_init : vmOkL S_X0 RX0 true cX0_init 0 T_X0_init = true := by decide +kernel
theorem cw_X0_init : vmLk 2073 = some (.code yX0_init cX0_init 1 (Option.none : Option Jvm.ClassFile.FieldType)) := by decide +kernel
theorem ok_X0_least : vmOkL S_X0 RX0 false cX0_least 0 T_X0_least = true := by decide +kernel
theorem cw_X0_least : vmLk 6191 = some (.code yX0_least cX0_least 7 (Option.some Jvm.ClassFile.FieldType.int)) := by decide +kernel
theorem ok_X0_findOne : vmOkL S_X0 RX0 false cX0_findOne 0 T_X0_findOne = true := by decide +kernel
theorem cw_X0_findOne : vmLk 6196 = some (.code yX0_findOne cX0_findOne 9 (Option.some Jvm.ClassFile.FieldType.boolean)) := by decide +kernel
theorem ok_X0_visit : vmOkL S_X0 RX0 false cX0_visit 0 T_X0_visit = true := by decide +kernel
theorem cw_X0_visit : vmLk 6200 = some (.code yX0_visit cX0_visit 3 (Option.none : Option Jvm.ClassFile.FieldType)) := by decide +kernel
theorem ok_X0_leave : vmOkL S_X0 RX0 false cX0_leave 0 T_X0_leave = true := by decide +kernel
theorem cw_X0_leave : vmLk 6204 = some (.code yX0_leave cX0_leave 8 (Option.none : Option Jvm.ClassFile.FieldType)) := by decide +kernel
theorem ok_X0_enter : vmOkL S_X0 RX0 false cX0_enter 0 T_X0_enter = true := by decide +kernel
theorem cw_X0_enter : vmLk 6209 = some (.code yX0_enter cX0_enter 7 (Option.none : Option Jvm.ClassFile.FieldType)) := by decide +kernel
theorem ok_X0_sideTo : vmOkL S_X0 RX0 false cX0_sideTo 0 T_X0_sideTo = true := by decide +kernel
theorem cw_X0_sideTo : vmLk 6212 = some (.code yX0_sideTo cX0_sideTo 4 (Option.some Jvm.ClassFile.FieldType.int)) := by decide +kernel
theorem ok_X0_turnOver : vmOkL S_X0 RX0 false cX0_turnOver 0 T_X0_turnOver = true := by decide +kernel
theorem cw_X0_turnOver : vmLk 6216 = some (.code yX0_turnOver cX0_turnOver 11 (Option.none : Option Jvm.ClassFile.FieldType)) := by decide +kernel
theorem ok_X1_init : vmOkL S_X1 RX1 true cX1_init 0 T_X1_init = true := by decide +kernel
theorem cw_X1_init : vmLk 2180 = some (.code yX1_init cX1_init 1 (Option.none : Option Jvm.ClassFile.FieldType)) := by decide +kernel
theorem ok_X1_toldWalk : vmOkL S_X1 RX1 false cX1_toldWalk 0 T_X1_toldWalk = true := by decide +kernel
theorem cw_X1_toldWalk : vmLk 5057 = some (.code yX1_toldWalk cX1_toldWalk 2 (Option.some Jvm.ClassFile.FieldType.int)) := by decide +kernel
theorem ok_X1_whyNot : vmOkL S_X1 RX1 false cX1_whyNot 0 T_X1_whyNot = true := by decide +kernel
theorem cw_X1_whyNot : vmLk 5061 = some (.code yX1_whyNot cX1_whyNot 10 (Option.some Jvm.ClassFile.FieldType.int)) := by decide +kernel
theorem ok_X1_act : vmOkL S_X1 RX1 false cX1_act 0 T_X1_act = true := by decide +kernel
theorem cw_X1_act : vmLk 5205 = some (.code yX1_act cX1_act 4 (Option.none : Option Jvm.ClassFile.FieldType)) := by decide +kernel
theorem ok_X1_goTo : vmOkL S_X1 RX1 false cX1_goTo 0 T_X1_goTo = true := by decide +kernel
theorem cw_X1_goTo : vmLk 5086 = some (.code yX1_goTo cX1_goTo 6 (Option.some Jvm.ClassFile.FieldType.int)) := by decide +kernel
theorem ok_X1_draw : vmOkL S_X1 RX1 false cX1_draw 0 T_X1_draw = true := by decide +kernel
theorem cw_X1_draw : vmLk 5235 = some (.code yX1_draw cX1_draw 2 (Option.some Jvm.ClassFile.FieldType.int)) := by decide +kernel
theorem ok_X1_drawDeed : vmOkL S_X1 RX1 false cX1_drawDeed 0 T_X1_drawDeed = true := by decide +kernel
theorem cw_X1_drawDeed : vmLk 5231 = some (.code yX1_drawDeed cX1_drawDeed 4 (Option.some Jvm.ClassFile.FieldType.long)) := by decide +kernel
theorem ok_X2_init : vmOkL S_X2 RX2 true cX2_init 0 T_X2_init = true := by decide +kernel
theorem cw_X2_init : vmLk 2023 = some (.code yX2_init cX2_init 1 (Option.none : Option Jvm.ClassFile.FieldType)) := by decide +kernel
theorem ok_X2_wouldGrow : vmOkL S_X2 RX2 false cX2_wouldGrow 0 T_X2_wouldGrow = true := by decide +kernel
theorem cw_X2_wouldGrow : vmLk 4238 = some (.code yX2_wouldGrow cX2_wouldGrow 6 (Option.some Jvm.ClassFile.FieldType.boolean)) := by decide +kernel
theorem ok_X2_holds : vmOkL S_X2 RX2 false cX2_holds 0 T_X2_holds = true := by decide +kernel
theorem cw_X2_holds : vmLk 5013 = some (.code yX2_holds cX2_holds 5 (Option.some Jvm.ClassFile.FieldType.boolean)) := by decide +kernel
theorem ok_X2_pass : vmOkL S_X2 RX2 false cX2_pass 0 T_X2_pass = true := by decide +kernel
theorem cw_X2_pass : vmLk 5165 = some (.code yX2_pass cX2_pass 6 (Option.some Jvm.ClassFile.FieldType.int)) := by decide +kernel
theorem ok_X2_passOne : vmOkL S_X2 RX2 false cX2_passOne 0 T_X2_passOne = true := by decide +kernel
theorem cw_X2_passOne : vmLk 5169 = some (.code yX2_passOne cX2_passOne 8 (Option.some Jvm.ClassFile.FieldType.int)) := by decide +kernel
theorem ok_X3_init : vmOkL S_X3 RX3 true cX3_init 0 T_X3_init = true := by decide +kernel
theorem cw_X3_init : vmLk 1054 = some (.code yX3_init cX3_init 1 (Option.none : Option Jvm.ClassFile.FieldType)) := by decide +kernel
theorem ok_X3_put : vmOkL S_X3 RX3 false cX3_put 0 T_X3_put = true := by decide +kernel
theorem cw_X3_put : vmLk 4152 = some (.code yX3_put cX3_put 2 (Option.none : Option Jvm.ClassFile.FieldType)) := by decide +kernel
theorem ok_X3_becomes : vmOkL S_X3 RX3 false cX3_becomes 0 T_X3_becomes = true := by decide +kernel
theorem cw_X3_becomes : vmLk 4196 = some (.code yX3_becomes cX3_becomes 2 (Option.none : Option Jvm.ClassFile.FieldType)) := by decide +kernel
theorem ok_X3_join : vmOkL S_X3 RX3 false cX3_join 0 T_X3_join = true := by decide +kernel
theorem cw_X3_join : vmLk 5016 = some (.code yX3_join cX3_join 5 (Option.some Jvm.ClassFile.FieldType.int)) := by decide +kernel
theorem ok_X4_init : vmOkL S_X4 RX4 true cX4_init 0 T_X4_init = true := by decide +kernel
theorem cw_X4_init : vmLk 1048 = some (.code yX4_init cX4_init 1 (Option.none : Option Jvm.ClassFile.FieldType)) := by decide +kernel
theorem ok_X4_clear : vmOkL S_X4 RX4 false cX4_clear 0 T_X4_clear = true := by decide +kernel
theorem cw_X4_clear : vmLk 3151 = some (.code yX4_clear cX4_clear 1 (Option.none : Option Jvm.ClassFile.FieldType)) := by decide +kernel
theorem ok_X4_cells : vmOkL S_X4 RX4 false cX4_cells 0 T_X4_cells = true := by decide +kernel
theorem cw_X4_cells : vmLk 3057 = some (.code yX4_cells cX4_cells 1 (Option.some Jvm.ClassFile.FieldType.int)) := by decide +kernel
theorem ok_X4_isFree : vmOkL S_X4 RX4 false cX4_isFree 0 T_X4_isFree = true := by decide +kernel
theorem cw_X4_isFree : vmLk 5043 = some (.code yX4_isFree cX4_isFree 2 (Option.some Jvm.ClassFile.FieldType.boolean)) := by decide +kernel
theorem ok_X4_isWinter : vmOkL S_X4 RX4 false cX4_isWinter 0 T_X4_isWinter = true := by decide +kernel
theorem cw_X4_isWinter : vmLk 3053 = some (.code yX4_isWinter cX4_isWinter 2 (Option.some Jvm.ClassFile.FieldType.boolean)) := by decide +kernel
theorem ok_X4_xOf : vmOkL S_X4 RX4 false cX4_xOf 0 T_X4_xOf = true := by decide +kernel
theorem cw_X4_xOf : vmLk 4077 = some (.code yX4_xOf cX4_xOf 2 (Option.some Jvm.ClassFile.FieldType.int)) := by decide +kernel
theorem ok_X4_yOf : vmOkL S_X4 RX4 false cX4_yOf 0 T_X4_yOf = true := by decide +kernel
theorem cw_X4_yOf : vmLk 4081 = some (.code yX4_yOf cX4_yOf 2 (Option.some Jvm.ClassFile.FieldType.int)) := by decide +kernel
theorem ok_X4_layOut : vmOkL S_X4 RX4 false cX4_layOut 0 T_X4_layOut = true := by decide +kernel
theorem cw_X4_layOut : vmLk 4072 = some (.code yX4_layOut cX4_layOut 6 (Option.none : Option Jvm.ClassFile.FieldType)) := by decide +kernel
theorem ok_X4_besideBits : vmOkL S_X4 RX4 false cX4_besideBits 0 T_X4_besideBits = true := by decide +kernel
theorem cw_X4_besideBits : vmLk 5007 = some (.code yX4_besideBits cX4_besideBits 7 (Option.some Jvm.ClassFile.FieldType.long)) := by decide +kernel
theorem ok_X4_flood : vmOkL S_X4 RX4 false cX4_flood 0 T_X4_flood = true := by decide +kernel
theorem cw_X4_flood : vmLk 5069 = some (.code yX4_flood cX4_flood 9 (Option.some Jvm.ClassFile.FieldType.long)) := by decide +kernel
theorem ok_X4_addWalker : vmOkL S_X4 RX4 false cX4_addWalker 0 T_X4_addWalker = true := by decide +kernel
theorem cw_X4_addWalker : vmLk 4121 = some (.code yX4_addWalker cX4_addWalker 2 (Option.none : Option Jvm.ClassFile.FieldType)) := by decide +kernel
theorem ok_X4_addErrand : vmOkL S_X4 RX4 false cX4_addErrand 0 T_X4_addErrand = true := by decide +kernel
theorem cw_X4_addErrand : vmLk 4130 = some (.code yX4_addErrand cX4_addErrand 5 (Option.none : Option Jvm.ClassFile.FieldType)) := by decide +kernel
theorem ok_X4_becomes : vmOkL S_X4 RX4 false cX4_becomes 0 T_X4_becomes = true := by decide +kernel
theorem cw_X4_becomes : vmLk 4189 = some (.code yX4_becomes cX4_becomes 2 (Option.none : Option Jvm.ClassFile.FieldType)) := by decide +kernel
theorem ok_X5_init : vmOkL S_X5 RX5 true cX5_init 0 T_X5_init = true := by decide +kernel
theorem cw_X5_init : vmLk 1217 = some (.code yX5_init cX5_init 1 (Option.none : Option Jvm.ClassFile.FieldType)) := by decide +kernel
theorem ok_X5_read : vmOkL S_X5 RX5 false cX5_read 0 T_X5_read = true := by decide +kernel
theorem cw_X5_read : vmLk 3140 = some (.code yX5_read cX5_read 4 (Option.none : Option Jvm.ClassFile.FieldType)) := by decide +kernel
theorem ok_X5_refuse : vmOkL S_X5 RX5 false cX5_refuse 0 T_X5_refuse = true := by decide +kernel
theorem cw_X5_refuse : vmLk 4014 = some (.code yX5_refuse cX5_refuse 2 (Option.none : Option Jvm.ClassFile.FieldType)) := by decide +kernel
theorem ok_X5_advance : vmOkL S_X5 RX5 false cX5_advance 0 T_X5_advance = true := by decide +kernel
theorem cw_X5_advance : vmLk 3161 = some (.code yX5_advance cX5_advance 2 (Option.none : Option Jvm.ClassFile.FieldType)) := by decide +kernel
theorem ok_X5_endOfRun : vmOkL S_X5 RX5 false cX5_endOfRun 0 T_X5_endOfRun = true := by decide +kernel
theorem cw_X5_endOfRun : vmLk 3165 = some (.code yX5_endOfRun cX5_endOfRun 4 (Option.some Jvm.ClassFile.FieldType.int)) := by decide +kernel
theorem ok_X5_isWord : vmOkL S_X5 RX5 false cX5_isWord 0 T_X5_isWord = true := by decide +kernel
theorem cw_X5_isWord : vmLk 4027 = some (.code yX5_isWord cX5_isWord 3 (Option.some Jvm.ClassFile.FieldType.boolean)) := by decide +kernel
theorem ok_X5_isSign : vmOkL S_X5 RX5 false cX5_isSign 0 T_X5_isSign = true := by decide +kernel
theorem cw_X5_isSign : vmLk 4068 = some (.code yX5_isSign cX5_isSign 2 (Option.some Jvm.ClassFile.FieldType.boolean)) := by decide +kernel
theorem ok_X5_takeIfWord : vmOkL S_X5 RX5 false cX5_takeIfWord 0 T_X5_takeIfWord = true := by decide +kernel
theorem cw_X5_takeIfWord : vmLk 4023 = some (.code yX5_takeIfWord cX5_takeIfWord 3 (Option.some Jvm.ClassFile.FieldType.boolean)) := by decide +kernel
theorem ok_X5_takeIfSign : vmOkL S_X5 RX5 false cX5_takeIfSign 0 T_X5_takeIfSign = true := by decide +kernel
theorem cw_X5_takeIfSign : vmLk 4064 = some (.code yX5_takeIfSign cX5_takeIfSign 3 (Option.some Jvm.ClassFile.FieldType.boolean)) := by decide +kernel
theorem ok_X5_needSign : vmOkL S_X5 RX5 false cX5_needSign 0 T_X5_needSign = true := by decide +kernel
theorem cw_X5_needSign : vmLk 4060 = some (.code yX5_needSign cX5_needSign 2 (Option.none : Option Jvm.ClassFile.FieldType)) := by decide +kernel
theorem ok_X5_lookNumber : vmOkL S_X5 RX5 false cX5_lookNumber 0 T_X5_lookNumber = true := by decide +kernel
theorem cw_X5_lookNumber : vmLk 4056 = some (.code yX5_lookNumber cX5_lookNumber 3 (Option.some Jvm.ClassFile.FieldType.int)) := by decide +kernel
theorem ok_X5_takeNumberOf : vmOkL S_X5 RX5 false cX5_takeNumberOf 0 T_X5_takeNumberOf = true := by decide +kernel
theorem cw_X5_takeNumberOf : vmLk 4052 = some (.code yX5_takeNumberOf cX5_takeNumberOf 4 (Option.some Jvm.ClassFile.FieldType.int)) := by decide +kernel
theorem ok_X5_readPark : vmOkL S_X5 RX5 false cX5_readPark 0 T_X5_readPark = true := by decide +kernel
theorem cw_X5_readPark : vmLk 4018 = some (.code yX5_readPark cX5_readPark 3 (Option.none : Option Jvm.ClassFile.FieldType)) := by decide +kernel
theorem ok_X5_readLine : vmOkL S_X5 RX5 false cX5_readLine 0 T_X5_readLine = true := by decide +kernel
theorem cw_X5_readLine : vmLk 4085 = some (.code yX5_readLine cX5_readLine 1 (Option.none : Option Jvm.ClassFile.FieldType)) := by decide +kernel
theorem ok_X5_takeCell : vmOkL S_X5 RX5 false cX5_takeCell 0 T_X5_takeCell = true := by decide +kernel
theorem cw_X5_takeCell : vmLk 4094 = some (.code yX5_takeCell cX5_takeCell 3 (Option.some Jvm.ClassFile.FieldType.int)) := by decide +kernel
theorem ok_X5_readHedge : vmOkL S_X5 RX5 false cX5_readHedge 0 T_X5_readHedge = true := by decide +kernel
theorem cw_X5_readHedge : vmLk 4090 = some (.code yX5_readHedge cX5_readHedge 4 (Option.none : Option Jvm.ClassFile.FieldType)) := by decide +kernel
theorem ok_X5_takeKind : vmOkL S_X5 RX5 false cX5_takeKind 0 T_X5_takeKind = true := by decide +kernel
theorem cw_X5_takeKind : vmLk 4098 = some (.code yX5_takeKind cX5_takeKind 1 (Option.some Jvm.ClassFile.FieldType.int)) := by decide +kernel
theorem ok_X5_readWall : vmOkL S_X5 RX5 false cX5_readWall 0 T_X5_readWall = true := by decide +kernel
theorem cw_X5_readWall : vmLk 4110 = some (.code yX5_readWall cX5_readWall 2 (Option.none : Option Jvm.ClassFile.FieldType)) := by decide +kernel
theorem ok_X5_readWalker : vmOkL S_X5 RX5 false cX5_readWalker 0 T_X5_readWalker = true := by decide +kernel
theorem cw_X5_readWalker : vmLk 4115 = some (.code yX5_readWalker cX5_readWalker 6 (Option.none : Option Jvm.ClassFile.FieldType)) := by decide +kernel
theorem ok_X5_readErrand : vmOkL S_X5 RX5 false cX5_readErrand 0 T_X5_readErrand = true := by decide +kernel
theorem cw_X5_readErrand : vmLk 4126 = some (.code yX5_readErrand cX5_readErrand 4 (Option.none : Option Jvm.ClassFile.FieldType)) := by decide +kernel
theorem ok_X5_readTruth : vmOkL S_X5 RX5 false cX5_readTruth 0 T_X5_readTruth = true := by decide +kernel
theorem cw_X5_readTruth : vmLk 4135 = some (.code yX5_readTruth cX5_readTruth 3 (Option.none : Option Jvm.ClassFile.FieldType)) := by decide +kernel
theorem ok_X5_readBoth : vmOkL S_X5 RX5 false cX5_readBoth 0 T_X5_readBoth = true := by decide +kernel
theorem cw_X5_readBoth : vmLk 4139 = some (.code yX5_readBoth cX5_readBoth 3 (Option.none : Option Jvm.ClassFile.FieldType)) := by decide +kernel
theorem ok_X5_readUnit : vmOkL S_X5 RX5 false cX5_readUnit 0 T_X5_readUnit = true := by decide +kernel
theorem cw_X5_readUnit : vmLk 4143 = some (.code yX5_readUnit cX5_readUnit 3 (Option.none : Option Jvm.ClassFile.FieldType)) := by decide +kernel
theorem ok_X5_goDeeper : vmOkL S_X5 RX5 false cX5_goDeeper 0 T_X5_goDeeper = true := by decide +kernel
theorem cw_X5_goDeeper : vmLk 4148 = some (.code yX5_goDeeper cX5_goDeeper 2 (Option.some Jvm.ClassFile.FieldType.boolean)) := by decide +kernel
theorem ok_X5_takeComparison : vmOkL S_X5 RX5 false cX5_takeComparison 0 T_X5_takeComparison = true := by decide +kernel
theorem cw_X5_takeComparison : vmLk 4178 = some (.code yX5_takeComparison cX5_takeComparison 1 (Option.some Jvm.ClassFile.FieldType.int)) := by decide +kernel
theorem ok_X5_readSum : vmOkL S_X5 RX5 false cX5_readSum 0 T_X5_readSum = true := by decide +kernel
theorem cw_X5_readSum : vmLk 4156 = some (.code yX5_readSum cX5_readSum 4 (Option.none : Option Jvm.ClassFile.FieldType)) := by decide +kernel
theorem ok_X5_readTerm : vmOkL S_X5 RX5 false cX5_readTerm 0 T_X5_readTerm = true := by decide +kernel
theorem cw_X5_readTerm : vmLk 4160 = some (.code yX5_readTerm cX5_readTerm 3 (Option.none : Option Jvm.ClassFile.FieldType)) := by decide +kernel
theorem ok_X5_readAtom : vmOkL S_X5 RX5 false cX5_readAtom 0 T_X5_readAtom = true := by decide +kernel
theorem cw_X5_readAtom : vmLk 4164 = some (.code yX5_readAtom cX5_readAtom 3 (Option.none : Option Jvm.ClassFile.FieldType)) := by decide +kernel
theorem ok_X5_factAtHand : vmOkL S_X5 RX5 false cX5_factAtHand 0 T_X5_factAtHand = true := by decide +kernel
theorem cw_X5_factAtHand : vmLk 4168 = some (.code yX5_factAtHand cX5_factAtHand 1 (Option.some Jvm.ClassFile.FieldType.int)) := by decide +kernel
theorem ok_X6_init : vmOkL S_X6 RX6 true cX6_init 0 T_X6_init = true := by decide +kernel
theorem cw_X6_init : vmLk 2129 = some (.code yX6_init cX6_init 1 (Option.none : Option Jvm.ClassFile.FieldType)) := by decide +kernel
theorem ok_X6_prepare : vmOkL S_X6 RX6 false cX6_prepare 0 T_X6_prepare = true := by decide +kernel
theorem cw_X6_prepare : vmLk 6122 = some (.code yX6_prepare cX6_prepare 7 (Option.none : Option Jvm.ClassFile.FieldType)) := by decide +kernel
theorem ok_X6_inOrderTold : vmOkL S_X6 RX6 false cX6_inOrderTold 0 T_X6_inOrderTold = true := by decide +kernel
theorem cw_X6_inOrderTold : vmLk 6129 = some (.code yX6_inOrderTold cX6_inOrderTold 2 (Option.none : Option Jvm.ClassFile.FieldType)) := by decide +kernel
theorem ok_X6_goRound : vmOkL S_X6 RX6 false cX6_goRound 0 T_X6_goRound = true := by decide +kernel
theorem cw_X6_goRound : vmLk 6133 = some (.code yX6_goRound cX6_goRound 6 (Option.none : Option Jvm.ClassFile.FieldType)) := by decide +kernel
theorem ok_X6_inBestOrder : vmOkL S_X6 RX6 false cX6_inBestOrder 0 T_X6_inBestOrder = true := by decide +kernel
theorem cw_X6_inBestOrder : vmLk 6145 = some (.code yX6_inBestOrder cX6_inBestOrder 3 (Option.none : Option Jvm.ClassFile.FieldType)) := by decide +kernel
theorem ok_X6_isOrder : vmOkL S_X6 RX6 false cX6_isOrder 0 T_X6_isOrder = true := by decide +kernel
theorem cw_X6_isOrder : vmLk 6149 = some (.code yX6_isOrder cX6_isOrder 5 (Option.some Jvm.ClassFile.FieldType.boolean)) := by decide +kernel
theorem ok_X7_init : vmOkL S_X7 RX7 true cX7_init 0 T_X7_init = true := by decide +kernel
theorem cw_X7_init : vmLk 1137 = some (.code yX7_init cX7_init 1 (Option.none : Option Jvm.ClassFile.FieldType)) := by decide +kernel
theorem ok_X7_clear : vmOkL S_X7 RX7 false cX7_clear 0 T_X7_clear = true := by decide +kernel
theorem cw_X7_clear : vmLk 3156 = some (.code yX7_clear cX7_clear 1 (Option.none : Option Jvm.ClassFile.FieldType)) := by decide +kernel
theorem ok_X7_isHedge : vmOkL S_X7 RX7 false cX7_isHedge 0 T_X7_isHedge = true := by decide +kernel
theorem cw_X7_isHedge : vmLk 3035 = some (.code yX7_isHedge cX7_isHedge 2 (Option.some Jvm.ClassFile.FieldType.boolean)) := by decide +kernel
theorem ok_X7_hedgeBits : vmOkL S_X7 RX7 false cX7_hedgeBits 0 T_X7_hedgeBits = true := by decide +kernel
theorem cw_X7_hedgeBits : vmLk 3031 = some (.code yX7_hedgeBits cX7_hedgeBits 4 (Option.some Jvm.ClassFile.FieldType.long)) := by decide +kernel
theorem ok_X7_openBits : vmOkL S_X7 RX7 false cX7_openBits 0 T_X7_openBits = true := by decide +kernel
theorem cw_X7_openBits : vmLk 3061 = some (.code yX7_openBits cX7_openBits 5 (Option.some Jvm.ClassFile.FieldType.long)) := by decide +kernel
theorem ok_X7_walkersAt : vmOkL S_X7 RX7 false cX7_walkersAt 0 T_X7_walkersAt = true := by decide +kernel
theorem cw_X7_walkersAt : vmLk 5028 = some (.code yX7_walkersAt cX7_walkersAt 5 (Option.some Jvm.ClassFile.FieldType.int)) := by decide +kernel
theorem ok_X7_isPlot : vmOkL S_X7 RX7 false cX7_isPlot 0 T_X7_isPlot = true := by decide +kernel
theorem cw_X7_isPlot : vmLk 5076 = some (.code yX7_isPlot cX7_isPlot 3 (Option.some Jvm.ClassFile.FieldType.boolean)) := by decide +kernel
theorem ok_X7_put : vmOkL S_X7 RX7 false cX7_put 0 T_X7_put = true := by decide +kernel
theorem cw_X7_put : vmLk 4105 = some (.code yX7_put cX7_put 4 (Option.none : Option Jvm.ClassFile.FieldType)) := by decide +kernel
theorem ok_X7_shear : vmOkL S_X7 RX7 false cX7_shear 0 T_X7_shear = true := by decide +kernel
theorem cw_X7_shear : vmLk 5144 = some (.code yX7_shear cX7_shear 4 (Option.none : Option Jvm.ClassFile.FieldType)) := by decide +kernel
theorem ok_X7_becomes : vmOkL S_X7 RX7 false cX7_becomes 0 T_X7_becomes = true := by decide +kernel
theorem cw_X7_becomes : vmLk 4201 = some (.code yX7_becomes cX7_becomes 2 (Option.none : Option Jvm.ClassFile.FieldType)) := by decide +kernel
theorem ok_X8_init : vmOkL S_X8 RX8 true cX8_init 0 T_X8_init = true := by decide +kernel
theorem cw_X8_init : vmLk 1042 = some (.code yX8_init cX8_init 2 (Option.none : Option Jvm.ClassFile.FieldType)) := by decide +kernel
theorem ok_X8_clear : vmOkL S_X8 RX8 false cX8_clear 0 T_X8_clear = true := by decide +kernel
theorem cw_X8_clear : vmLk 3147 = some (.code yX8_clear cX8_clear 1 (Option.none : Option Jvm.ClassFile.FieldType)) := by decide +kernel
theorem ok_X8_remember : vmOkL S_X8 RX8 false cX8_remember 0 T_X8_remember = true := by decide +kernel
theorem cw_X8_remember : vmLk 5081 = some (.code yX8_remember cX8_remember 1 (Option.none : Option Jvm.ClassFile.FieldType)) := by decide +kernel
theorem ok_X8_goBack : vmOkL S_X8 RX8 false cX8_goBack 0 T_X8_goBack = true := by decide +kernel
theorem cw_X8_goBack : vmLk 5183 = some (.code yX8_goBack cX8_goBack 2 (Option.none : Option Jvm.ClassFile.FieldType)) := by decide +kernel
theorem ok_X8_becomes : vmOkL S_X8 RX8 false cX8_becomes 0 T_X8_becomes = true := by decide +kernel
theorem cw_X8_becomes : vmLk 4185 = some (.code yX8_becomes cX8_becomes 3 (Option.none : Option Jvm.ClassFile.FieldType)) := by decide +kernel
theorem ok_X9_init : vmOkL S_X9 RX9 true cX9_init 0 T_X9_init = true := by decide +kernel
theorem cw_X9_init : vmLk 2095 = some (.code yX9_init cX9_init 1 (Option.none : Option Jvm.ClassFile.FieldType)) := by decide +kernel
theorem ok_X9_prepare : vmOkL S_X9 RX9 false cX9_prepare 0 T_X9_prepare = true := by decide +kernel
theorem cw_X9_prepare : vmLk 7037 = some (.code yX9_prepare cX9_prepare 8 (Option.none : Option Jvm.ClassFile.FieldType)) := by decide +kernel
theorem ok_X9_passed : vmOkL S_X9 RX9 false cX9_passed 0 T_X9_passed = true := by decide +kernel
theorem cw_X9_passed : vmLk 7062 = some (.code yX9_passed cX9_passed 4 (Option.some Jvm.ClassFile.FieldType.long)) := by decide +kernel
theorem ok_X9_countWithout : vmOkL S_X9 RX9 false cX9_countWithout 0 T_X9_countWithout = true := by decide +kernel
theorem cw_X9_countWithout : vmLk 7046 = some (.code yX9_countWithout cX9_countWithout 8 (Option.some Jvm.ClassFile.FieldType.long)) := by decide +kernel
theorem ok_X9_manyBehind : vmOkL S_X9 RX9 false cX9_manyBehind 0 T_X9_manyBehind = true := by decide +kernel
theorem cw_X9_manyBehind : vmLk 7051 = some (.code yX9_manyBehind cX9_manyBehind 9 (Option.some Jvm.ClassFile.FieldType.long)) := by decide +kernel
theorem ok_X9_countBy : vmOkL S_X9 RX9 false cX9_countBy 0 T_X9_countBy = true := by decide +kernel
theorem cw_X9_countBy : vmLk 7073 = some (.code yX9_countBy cX9_countBy 5 (Option.some Jvm.ClassFile.FieldType.long)) := by decide +kernel
theorem ok_X10_init : vmOkL S_X10 RX10 true cX10_init 0 T_X10_init = true := by decide +kernel
theorem cw_X10_init : vmLk 2036 = some (.code yX10_init cX10_init 1 (Option.none : Option Jvm.ClassFile.FieldType)) := by decide +kernel
theorem ok_X10_costOf : vmOkL S_X10 RX10 false cX10_costOf 0 T_X10_costOf = true := by decide +kernel
theorem cw_X10_costOf : vmLk 4233 = some (.code yX10_costOf cX10_costOf 6 (Option.some Jvm.ClassFile.FieldType.int)) := by decide +kernel
theorem ok_X10_price : vmOkL S_X10 RX10 false cX10_price 0 T_X10_price = true := by decide +kernel
theorem cw_X10_price : vmLk 5091 = some (.code yX10_price cX10_price 5 (Option.none : Option Jvm.ClassFile.FieldType)) := by decide +kernel
theorem ok_X10_spreadOf : vmOkL S_X10 RX10 false cX10_spreadOf 0 T_X10_spreadOf = true := by decide +kernel
theorem cw_X10_spreadOf : vmLk 6009 = some (.code yX10_spreadOf cX10_spreadOf 4 (Option.none : Option Jvm.ClassFile.FieldType)) := by decide +kernel
theorem ok_X10_stand : vmOkL S_X10 RX10 false cX10_stand 0 T_X10_stand = true := by decide +kernel
theorem cw_X10_stand : vmLk 5101 = some (.code yX10_stand cX10_stand 2 (Option.none : Option Jvm.ClassFile.FieldType)) := by decide +kernel
theorem ok_X10_spread : vmOkL S_X10 RX10 false cX10_spread 0 T_X10_spread = true := by decide +kernel
theorem cw_X10_spread : vmLk 5097 = some (.code yX10_spread cX10_spread 3 (Option.none : Option Jvm.ClassFile.FieldType)) := by decide +kernel
theorem ok_X10_spreadWithout : vmOkL S_X10 RX10 false cX10_spreadWithout 0 T_X10_spreadWithout = true := by decide +kernel
theorem cw_X10_spreadWithout : vmLk 7000 = some (.code yX10_spreadWithout cX10_spreadWithout 6 (Option.some Jvm.ClassFile.FieldType.int)) := by decide +kernel
theorem ok_X10_settle : vmOkL S_X10 RX10 false cX10_settle 0 T_X10_settle = true := by decide +kernel
theorem cw_X10_settle : vmLk 5107 = some (.code yX10_settle cX10_settle 6 (Option.none : Option Jvm.ClassFile.FieldType)) := by decide +kernel
theorem ok_X10_nearest : vmOkL S_X10 RX10 false cX10_nearest 0 T_X10_nearest = true := by decide +kernel
theorem cw_X10_nearest : vmLk 5111 = some (.code yX10_nearest cX10_nearest 5 (Option.some Jvm.ClassFile.FieldType.int)) := by decide +kernel
theorem ok_X10_isIn : vmOkL S_X10 RX10 false cX10_isIn 0 T_X10_isIn = true := by decide +kernel
theorem cw_X10_isIn : vmLk 6078 = some (.code yX10_isIn cX10_isIn 3 (Option.some Jvm.ClassFile.FieldType.boolean)) := by decide +kernel
theorem ok_X10_keep : vmOkL S_X10 RX10 false cX10_keep 0 T_X10_keep = true := by decide +kernel
theorem cw_X10_keep : vmLk 6062 = some (.code yX10_keep cX10_keep 1 (Option.none : Option Jvm.ClassFile.FieldType)) := by decide +kernel
theorem ok_X10_keepLess : vmOkL S_X10 RX10 false cX10_keepLess 0 T_X10_keepLess = true := by decide +kernel
theorem cw_X10_keepLess : vmLk 6177 = some (.code yX10_keepLess cX10_keepLess 2 (Option.none : Option Jvm.ClassFile.FieldType)) := by decide +kernel
theorem ok_X10_trace : vmOkL S_X10 RX10 false cX10_trace 0 T_X10_trace = true := by decide +kernel
theorem cw_X10_trace : vmLk 6028 = some (.code yX10_trace cX10_trace 6 (Option.some Jvm.ClassFile.FieldType.int)) := by decide +kernel
theorem ok_X10_onward : vmOkL S_X10 RX10 false cX10_onward 0 T_X10_onward = true := by decide +kernel
theorem cw_X10_onward : vmLk 6032 = some (.code yX10_onward cX10_onward 5 (Option.some Jvm.ClassFile.FieldType.int)) := by decide +kernel
theorem ok_X10_rowBits : vmOkL S_X10 RX10 false cX10_rowBits 0 T_X10_rowBits = true := by decide +kernel
theorem cw_X10_rowBits : vmLk 6235 = some (.code yX10_rowBits cX10_rowBits 5 (Option.some Jvm.ClassFile.FieldType.long)) := by decide +kernel
theorem ok_X10_manyTo : vmOkL S_X10 RX10 false cX10_manyTo 0 T_X10_manyTo = true := by decide +kernel
theorem cw_X10_manyTo : vmLk 6043 = some (.code yX10_manyTo cX10_manyTo 7 (Option.some Jvm.ClassFile.FieldType.long)) := by decide +kernel
theorem ok_X10_stepOn : vmOkL S_X10 RX10 false cX10_stepOn 0 T_X10_stepOn = true := by decide +kernel
theorem cw_X10_stepOn : vmLk 6058 = some (.code yX10_stepOn cX10_stepOn 4 (Option.some Jvm.ClassFile.FieldType.boolean)) := by decide +kernel
theorem ok_X10_clearOneMore : vmOkL S_X10 RX10 false cX10_clearOneMore 0 T_X10_clearOneMore = true := by decide +kernel
theorem cw_X10_clearOneMore : vmLk 6089 = some (.code yX10_clearOneMore cX10_clearOneMore 5 (Option.some Jvm.ClassFile.FieldType.boolean)) := by decide +kernel
theorem ok_X10_lessFromBeside : vmOkL S_X10 RX10 false cX10_lessFromBeside 0 T_X10_lessFromBeside = true := by decide +kernel
theorem cw_X10_lessFromBeside : vmLk 6067 = some (.code yX10_lessFromBeside cX10_lessFromBeside 7 (Option.some Jvm.ClassFile.FieldType.boolean)) := by decide +kernel
theorem ok_X11_init : vmOkL S_X11 RX11 true cX11_init 0 T_X11_init = true := by decide +kernel
theorem cw_X11_init : vmLk 1034 = some (.code yX11_init cX11_init 2 (Option.none : Option Jvm.ClassFile.FieldType)) := by decide +kernel
theorem ok_X11_feed : vmOkL S_X11 RX11 false cX11_feed 0 T_X11_feed = true := by decide +kernel
theorem cw_X11_feed : vmLk 3015 = some (.code yX11_feed cX11_feed 6 (Option.some Jvm.ClassFile.FieldType.int)) := by decide +kernel
theorem ok_X11_tapeInt : vmOkL S_X11 RX11 false cX11_tapeInt 0 T_X11_tapeInt = true := by decide +kernel
theorem cw_X11_tapeInt : vmLk 3019 = some (.code yX11_tapeInt cX11_tapeInt 3 (Option.none : Option Jvm.ClassFile.FieldType)) := by decide +kernel
theorem ok_X11_park : vmOkL S_X11 RX11 false cX11_park 0 T_X11_park = true := by decide +kernel
theorem cw_X11_park : vmLk 3069 = some (.code yX11_park cX11_park 2 (Option.some Jvm.ClassFile.FieldType.int)) := by decide +kernel
theorem ok_X11_fault : vmOkL S_X11 RX11 false cX11_fault 0 T_X11_fault = true := by decide +kernel
theorem cw_X11_fault : vmLk 3023 = some (.code yX11_fault cX11_fault 2 (Option.some Jvm.ClassFile.FieldType.int)) := by decide +kernel
theorem ok_X11_cell : vmOkL S_X11 RX11 false cX11_cell 0 T_X11_cell = true := by decide +kernel
theorem cw_X11_cell : vmLk 4211 = some (.code yX11_cell cX11_cell 5 (Option.some Jvm.ClassFile.FieldType.int)) := by decide +kernel
theorem ok_X11_walker : vmOkL S_X11 RX11 false cX11_walker 0 T_X11_walker = true := by decide +kernel
theorem cw_X11_walker : vmLk 5035 = some (.code yX11_walker cX11_walker 7 (Option.some Jvm.ClassFile.FieldType.int)) := by decide +kernel
theorem ok_X11_hedges : vmOkL S_X11 RX11 false cX11_hedges 0 T_X11_hedges = true := by decide +kernel
theorem cw_X11_hedges : vmLk 3027 = some (.code yX11_hedges cX11_hedges 1 (Option.some Jvm.ClassFile.FieldType.long)) := by decide +kernel
theorem ok_X11_thickness : vmOkL S_X11 RX11 false cX11_thickness 0 T_X11_thickness = true := by decide +kernel
theorem cw_X11_thickness : vmLk 3039 = some (.code yX11_thickness cX11_thickness 3 (Option.some Jvm.ClassFile.FieldType.int)) := by decide +kernel
theorem ok_X11_walk : vmOkL S_X11 RX11 false cX11_walk 0 T_X11_walk = true := by decide +kernel
theorem cw_X11_walk : vmLk 5050 = some (.code yX11_walk cX11_walk 3 (Option.some Jvm.ClassFile.FieldType.int)) := by decide +kernel
theorem ok_X11_clip : vmOkL S_X11 RX11 false cX11_clip 0 T_X11_clip = true := by decide +kernel
theorem cw_X11_clip : vmLk 5121 = some (.code yX11_clip cX11_clip 3 (Option.some Jvm.ClassFile.FieldType.int)) := by decide +kernel
theorem ok_X11_plant : vmOkL S_X11 RX11 false cX11_plant 0 T_X11_plant = true := by decide +kernel
theorem cw_X11_plant : vmLk 5152 = some (.code yX11_plant cX11_plant 3 (Option.some Jvm.ClassFile.FieldType.int)) := by decide +kernel
theorem ok_X11_nights : vmOkL S_X11 RX11 false cX11_nights 0 T_X11_nights = true := by decide +kernel
theorem cw_X11_nights : vmLk 5161 = some (.code yX11_nights cX11_nights 2 (Option.some Jvm.ClassFile.FieldType.int)) := by decide +kernel
theorem ok_X11_undo : vmOkL S_X11 RX11 false cX11_undo 0 T_X11_undo = true := by decide +kernel
theorem cw_X11_undo : vmLk 5179 = some (.code yX11_undo cX11_undo 2 (Option.some Jvm.ClassFile.FieldType.int)) := by decide +kernel
theorem ok_X11_judge : vmOkL S_X11 RX11 false cX11_judge 0 T_X11_judge = true := by decide +kernel
theorem cw_X11_judge : vmLk 5193 = some (.code yX11_judge cX11_judge 7 (Option.some Jvm.ClassFile.FieldType.int)) := by decide +kernel
theorem ok_X11_perform : vmOkL S_X11 RX11 false cX11_perform 0 T_X11_perform = true := by decide +kernel
theorem cw_X11_perform : vmLk 5216 = some (.code yX11_perform cX11_perform 3 (Option.some Jvm.ClassFile.FieldType.int)) := by decide +kernel
theorem ok_X11_performOne : vmOkL S_X11 RX11 false cX11_performOne 0 T_X11_performOne = true := by decide +kernel
theorem cw_X11_performOne : vmLk 5220 = some (.code yX11_performOne cX11_performOne 3 (Option.some Jvm.ClassFile.FieldType.boolean)) := by decide +kernel
theorem ok_X11_decade : vmOkL S_X11 RX11 false cX11_decade 0 T_X11_decade = true := by decide +kernel
theorem cw_X11_decade : vmLk 5227 = some (.code yX11_decade cX11_decade 5 (Option.some Jvm.ClassFile.FieldType.int)) := by decide +kernel
theorem ok_X11_soonest : vmOkL S_X11 RX11 false cX11_soonest 0 T_X11_soonest = true := by decide +kernel
theorem cw_X11_soonest : vmLk 6005 = some (.code yX11_soonest cX11_soonest 3 (Option.some Jvm.ClassFile.FieldType.int)) := by decide +kernel
theorem ok_X11_way : vmOkL S_X11 RX11 false cX11_way 0 T_X11_way = true := by decide +kernel
theorem cw_X11_way : vmLk 6023 = some (.code yX11_way cX11_way 5 (Option.some Jvm.ClassFile.FieldType.int)) := by decide +kernel
theorem ok_X11_ways : vmOkL S_X11 RX11 false cX11_ways 0 T_X11_ways = true := by decide +kernel
theorem cw_X11_ways : vmLk 6039 = some (.code yX11_ways cX11_ways 3 (Option.some Jvm.ClassFile.FieldType.long)) := by decide +kernel
theorem ok_X11_within : vmOkL S_X11 RX11 false cX11_within 0 T_X11_within = true := by decide +kernel
theorem cw_X11_within : vmLk 6053 = some (.code yX11_within cX11_within 6 (Option.some Jvm.ClassFile.FieldType.int)) := by decide +kernel
theorem ok_X11_steps : vmOkL S_X11 RX11 false cX11_steps 0 T_X11_steps = true := by decide +kernel
theorem cw_X11_steps : vmLk 6074 = some (.code yX11_steps cX11_steps 5 (Option.some Jvm.ClassFile.FieldType.int)) := by decide +kernel
theorem ok_X11_cleared : vmOkL S_X11 RX11 false cX11_cleared 0 T_X11_cleared = true := by decide +kernel
theorem cw_X11_cleared : vmLk 6085 = some (.code yX11_cleared cX11_cleared 6 (Option.some Jvm.ClassFile.FieldType.int)) := by decide +kernel
theorem ok_X11_clipFor : vmOkL S_X11 RX11 false cX11_clipFor 0 T_X11_clipFor = true := by decide +kernel
theorem cw_X11_clipFor : vmLk 6097 = some (.code yX11_clipFor cX11_clipFor 6 (Option.some Jvm.ClassFile.FieldType.int)) := by decide +kernel
theorem ok_X11_reach : vmOkL S_X11 RX11 false cX11_reach 0 T_X11_reach = true := by decide +kernel
theorem cw_X11_reach : vmLk 6104 = some (.code yX11_reach cX11_reach 6 (Option.some Jvm.ClassFile.FieldType.long)) := by decide +kernel
theorem ok_X11_farthest : vmOkL S_X11 RX11 false cX11_farthest 0 T_X11_farthest = true := by decide +kernel
theorem cw_X11_farthest : vmLk 6111 = some (.code yX11_farthest cX11_farthest 5 (Option.some Jvm.ClassFile.FieldType.int)) := by decide +kernel
theorem ok_X11_round : vmOkL S_X11 RX11 false cX11_round 0 T_X11_round = true := by decide +kernel
theorem cw_X11_round : vmLk 6118 = some (.code yX11_round cX11_round 3 (Option.some Jvm.ClassFile.FieldType.int)) := by decide +kernel
theorem ok_X11_bestOrder : vmOkL S_X11 RX11 false cX11_bestOrder 0 T_X11_bestOrder = true := by decide +kernel
theorem cw_X11_bestOrder : vmLk 6141 = some (.code yX11_bestOrder cX11_bestOrder 4 (Option.some Jvm.ClassFile.FieldType.int)) := by decide +kernel
theorem ok_X11_meet : vmOkL S_X11 RX11 false cX11_meet 0 T_X11_meet = true := by decide +kernel
theorem cw_X11_meet : vmLk 6157 = some (.code yX11_meet cX11_meet 11 (Option.some Jvm.ClassFile.FieldType.int)) := by decide +kernel
theorem ok_X11_first : vmOkL S_X11 RX11 false cX11_first 0 T_X11_first = true := by decide +kernel
theorem cw_X11_first : vmLk 6166 = some (.code yX11_first cX11_first 5 (Option.some Jvm.ClassFile.FieldType.int)) := by decide +kernel
theorem ok_X11_own : vmOkL S_X11 RX11 false cX11_own 0 T_X11_own = true := by decide +kernel
theorem cw_X11_own : vmLk 6173 = some (.code yX11_own cX11_own 5 (Option.some Jvm.ClassFile.FieldType.long)) := by decide +kernel
theorem ok_X11_shutOff : vmOkL S_X11 RX11 false cX11_shutOff 0 T_X11_shutOff = true := by decide +kernel
theorem cw_X11_shutOff : vmLk 6184 = some (.code yX11_shutOff cX11_shutOff 7 (Option.some Jvm.ClassFile.FieldType.int)) := by decide +kernel
theorem ok_X11_needed : vmOkL S_X11 RX11 false cX11_needed 0 T_X11_needed = true := by decide +kernel
theorem cw_X11_needed : vmLk 6223 = some (.code yX11_needed cX11_needed 13 (Option.some Jvm.ClassFile.FieldType.long)) := by decide +kernel
theorem ok_X11_dearest : vmOkL S_X11 RX11 false cX11_dearest 0 T_X11_dearest = true := by decide +kernel
theorem cw_X11_dearest : vmLk 6231 = some (.code yX11_dearest cX11_dearest 12 (Option.some Jvm.ClassFile.FieldType.int)) := by decide +kernel
theorem ok_X11_soonestIn : vmOkL S_X11 RX11 false cX11_soonestIn 0 T_X11_soonestIn = true := by decide +kernel
theorem cw_X11_soonestIn : vmLk 7007 = some (.code yX11_soonestIn cX11_soonestIn 4 (Option.some Jvm.ClassFile.FieldType.int)) := by decide +kernel
theorem ok_X11_bestNight : vmOkL S_X11 RX11 false cX11_bestNight 0 T_X11_bestNight = true := by decide +kernel
theorem cw_X11_bestNight : vmLk 7014 = some (.code yX11_bestNight cX11_bestNight 7 (Option.some Jvm.ClassFile.FieldType.int)) := by decide +kernel
theorem ok_X11_grownTo : vmOkL S_X11 RX11 false cX11_grownTo 0 T_X11_grownTo = true := by decide +kernel
theorem cw_X11_grownTo : vmLk 7022 = some (.code yX11_grownTo cX11_grownTo 5 (Option.some Jvm.ClassFile.FieldType.int)) := by decide +kernel
theorem ok_X11_walks : vmOkL S_X11 RX11 false cX11_walks 0 T_X11_walks = true := by decide +kernel
theorem cw_X11_walks : vmLk 7029 = some (.code yX11_walks cX11_walks 4 (Option.some Jvm.ClassFile.FieldType.long)) := by decide +kernel
theorem ok_X11_been : vmOkL S_X11 RX11 false cX11_been 0 T_X11_been = true := by decide +kernel
theorem cw_X11_been : vmLk 7058 = some (.code yX11_been cX11_been 4 (Option.some Jvm.ClassFile.FieldType.long)) := by decide +kernel
theorem ok_X11_through : vmOkL S_X11 RX11 false cX11_through 0 T_X11_through = true := by decide +kernel
theorem cw_X11_through : vmLk 7069 = some (.code yX11_through cX11_through 5 (Option.some Jvm.ClassFile.FieldType.long)) := by decide +kernel
theorem ok_X11_tells : vmOkL S_X11 RX11 false cX11_tells 0 T_X11_tells = true := by decide +kernel
theorem cw_X11_tells : vmLk 7082 = some (.code yX11_tells cX11_tells 14 (Option.some Jvm.ClassFile.FieldType.int)) := by decide +kernel
theorem ok_X11_maybe : vmOkL S_X11 RX11 false cX11_maybe 0 T_X11_maybe = true := by decide +kernel
theorem cw_X11_maybe : vmLk 7090 = some (.code yX11_maybe cX11_maybe 3 (Option.some Jvm.ClassFile.FieldType.long)) := by decide +kernel
theorem ok_X11_stroll : vmOkL S_X11 RX11 false cX11_stroll 0 T_X11_stroll = true := by decide +kernel
theorem cw_X11_stroll : vmLk 7033 = some (.code yX11_stroll cX11_stroll 4 (Option.none : Option Jvm.ClassFile.FieldType)) := by decide +kernel
theorem ok_X11_tray : vmOkL S_X11 RX11 false cX11_tray 0 T_X11_tray = true := by decide +kernel
theorem cw_X11_tray : vmLk 7097 = some (.code yX11_tray cX11_tray 5 (Option.none : Option Jvm.ClassFile.FieldType)) := by decide +kernel
theorem ok_X11_write : vmOkL S_X11 RX11 false cX11_write 0 T_X11_write = true := by decide +kernel
theorem cw_X11_write : vmLk 7105 = some (.code yX11_write cX11_write 7 (Option.some Jvm.ClassFile.FieldType.long)) := by decide +kernel
theorem ok_X11_cutTo : vmOkL S_X11 RX11 false cX11_cutTo 0 T_X11_cutTo = true := by decide +kernel
theorem cw_X11_cutTo : vmLk 7123 = some (.code yX11_cutTo cX11_cutTo 3 (Option.some Jvm.ClassFile.FieldType.long)) := by decide +kernel
theorem ok_X11_copy : vmOkL S_X11 RX11 false cX11_copy 0 T_X11_copy = true := by decide +kernel
theorem cw_X11_copy : vmLk 7130 = some (.code yX11_copy cX11_copy 4 (Option.some Jvm.ClassFile.FieldType.int)) := by decide +kernel
theorem ok_X11_image : vmOkL S_X11 RX11 false cX11_image 0 T_X11_image = true := by decide +kernel
theorem cw_X11_image : vmLk 7138 = some (.code yX11_image cX11_image 2 (Option.none : Option Jvm.ClassFile.FieldType)) := by decide +kernel
theorem ok_X11_restore : vmOkL S_X11 RX11 false cX11_restore 0 T_X11_restore = true := by decide +kernel
theorem cw_X11_restore : vmLk 7148 = some (.code yX11_restore cX11_restore 2 (Option.none : Option Jvm.ClassFile.FieldType)) := by decide +kernel
theorem ok_X11_count : vmOkL S_X11 RX11 false cX11_count 0 T_X11_count = true := by decide +kernel
theorem cw_X11_count : vmLk 3043 = some (.code yX11_count cX11_count 4 (Option.some Jvm.ClassFile.FieldType.int)) := by decide +kernel
theorem ok_X11_needCell : vmOkL S_X11 RX11 false cX11_needCell 0 T_X11_needCell = true := by decide +kernel
theorem cw_X11_needCell : vmLk 4215 = some (.code yX11_needCell cX11_needCell 2 (Option.none : Option Jvm.ClassFile.FieldType)) := by decide +kernel
theorem ok_X11_needWalker : vmOkL S_X11 RX11 false cX11_needWalker 0 T_X11_needWalker = true := by decide +kernel
theorem cw_X11_needWalker : vmLk 5039 = some (.code yX11_needWalker cX11_needWalker 2 (Option.none : Option Jvm.ClassFile.FieldType)) := by decide +kernel
theorem ok_X11_needWalkerAndCell : vmOkL S_X11 RX11 false cX11_needWalkerAndCell 0 T_X11_needWalkerAndCell = true := by decide +kernel
theorem cw_X11_needWalkerAndCell : vmLk 5054 = some (.code yX11_needWalkerAndCell cX11_needWalkerAndCell 3 (Option.none : Option Jvm.ClassFile.FieldType)) := by decide +kernel
theorem ok_X11_needTray : vmOkL S_X11 RX11 false cX11_needTray 0 T_X11_needTray = true := by decide +kernel
theorem cw_X11_needTray : vmLk 5200 = some (.code yX11_needTray cX11_needTray 1 (Option.none : Option Jvm.ClassFile.FieldType)) := by decide +kernel
theorem ok_X11_needFilledTray : vmOkL S_X11 RX11 false cX11_needFilledTray 0 T_X11_needFilledTray = true := by decide +kernel
theorem cw_X11_needFilledTray : vmLk 5197 = some (.code yX11_needFilledTray cX11_needFilledTray 2 (Option.none : Option Jvm.ClassFile.FieldType)) := by decide +kernel
theorem ok_X11_needImage : vmOkL S_X11 RX11 false cX11_needImage 0 T_X11_needImage = true := by decide +kernel
theorem cw_X11_needImage : vmLk 7141 = some (.code yX11_needImage cX11_needImage 1 (Option.none : Option Jvm.ClassFile.FieldType)) := by decide +kernel
theorem ok_X11_demand : vmOkL S_X11 RX11 false cX11_demand 0 T_X11_demand = true := by decide +kernel
theorem cw_X11_demand : vmLk 3072 = some (.code yX11_demand cX11_demand 1 (Option.none : Option Jvm.ClassFile.FieldType)) := by decide +kernel
theorem ok_X11_demandState : vmOkL S_X11 RX11 false cX11_demandState 0 T_X11_demandState = true := by decide +kernel
theorem cw_X11_demandState : vmLk 5125 = some (.code yX11_demandState cX11_demandState 1 (Option.none : Option Jvm.ClassFile.FieldType)) := by decide +kernel
theorem ok_X11_orNone : vmOkL S_X11 RX11 false cX11_orNone 0 T_X11_orNone = true := by decide +kernel
theorem cw_X11_orNone : vmLk 6015 = some (.code yX11_orNone cX11_orNone 1 (Option.some Jvm.ClassFile.FieldType.int)) := by decide +kernel
theorem ok_X11_has : vmOkL S_X11 RX11 false cX11_has 0 T_X11_has = true := by decide +kernel
theorem cw_X11_has : vmLk 5001 = some (.code yX11_has cX11_has 3 (Option.some Jvm.ClassFile.FieldType.boolean)) := by decide +kernel
