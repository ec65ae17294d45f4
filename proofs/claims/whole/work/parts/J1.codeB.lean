theorem ok_X12_init : vmOkL S_X12 RX12 true cX12_init 0 T_X12_init = true := by decide +kernel
theorem cw_X12_init : vmLk 7153 = some (.code yX12_init cX12_init 1 (Option.none : Option Jvm.ClassFile.FieldType)) := by decide +kernel
theorem ok_X12_thrown : vmOkL S_X12 RX12 false cX12_thrown 0 T_X12_thrown = true := by decide +kernel
theorem cw_X12_thrown : vmLk 8040 = some (.code yX12_thrown cX12_thrown 1 (Option.some Jvm.ClassFile.FieldType.int)) := by decide +kernel
theorem ok_X12_fails : vmOkL S_X12 RX12 false cX12_fails 0 T_X12_fails = true := by decide +kernel
theorem cw_X12_fails : vmLk 8055 = some (.code yX12_fails cX12_fails 2 (Option.some Jvm.ClassFile.FieldType.int)) := by decide +kernel
theorem ok_X12_inside : vmOkL S_X12 RX12 false cX12_inside 0 T_X12_inside = true := by decide +kernel
theorem cw_X12_inside : vmLk 8051 = some (.code yX12_inside cX12_inside 6 (Option.some Jvm.ClassFile.FieldType.boolean)) := by decide +kernel
theorem ok_X12_has : vmOkL S_X12 RX12 false cX12_has 0 T_X12_has = true := by decide +kernel
theorem cw_X12_has : vmLk 8219 = some (.code yX12_has cX12_has 2 (Option.some Jvm.ClassFile.FieldType.boolean)) := by decide +kernel
theorem ok_X12_isOn : vmOkL S_X12 RX12 false cX12_isOn 0 T_X12_isOn = true := by decide +kernel
theorem cw_X12_isOn : vmLk 9192 = some (.code yX12_isOn cX12_isOn 3 (Option.some Jvm.ClassFile.FieldType.boolean)) := by decide +kernel
theorem ok_X12_feed : vmOkL S_X12 RX12 false cX12_feed 0 T_X12_feed = true := by decide +kernel
theorem cw_X12_feed : vmLk 8044 = some (.code yX12_feed cX12_feed 8 (Option.some Jvm.ClassFile.FieldType.int)) := by decide +kernel
theorem ok_X12_see : vmOkL S_X12 RX12 false cX12_see 0 T_X12_see = true := by decide +kernel
theorem cw_X12_see : vmLk 8066 = some (.code yX12_see cX12_see 2 (Option.some Jvm.ClassFile.FieldType.int)) := by decide +kernel
theorem ok_X12_isLetter : vmOkL S_X12 RX12 false cX12_isLetter 0 T_X12_isLetter = true := by decide +kernel
theorem cw_X12_isLetter : vmLk 8062 = some (.code yX12_isLetter cX12_isLetter 1 (Option.some Jvm.ClassFile.FieldType.boolean)) := by decide +kernel
theorem ok_X12_isDigit : vmOkL S_X12 RX12 false cX12_isDigit 0 T_X12_isDigit = true := by decide +kernel
theorem cw_X12_isDigit : vmLk 8069 = some (.code yX12_isDigit cX12_isDigit 1 (Option.some Jvm.ClassFile.FieldType.boolean)) := by decide +kernel
theorem ok_X12_isSignByte : vmOkL S_X12 RX12 false cX12_isSignByte 0 T_X12_isSignByte = true := by decide +kernel
theorem cw_X12_isSignByte : vmLk 8072 = some (.code yX12_isSignByte cX12_isSignByte 2 (Option.some Jvm.ClassFile.FieldType.boolean)) := by decide +kernel
theorem ok_X12_readsOn : vmOkL S_X12 RX12 false cX12_readsOn 0 T_X12_readsOn = true := by decide +kernel
theorem cw_X12_readsOn : vmLk 8059 = some (.code yX12_readsOn cX12_readsOn 2 (Option.none : Option Jvm.ClassFile.FieldType)) := by decide +kernel
theorem ok_X12_blames : vmOkL S_X12 RX12 false cX12_blames 0 T_X12_blames = true := by decide +kernel
theorem cw_X12_blames : vmLk 8091 = some (.code yX12_blames cX12_blames 2 (Option.none : Option Jvm.ClassFile.FieldType)) := by decide +kernel
theorem ok_X12_isWord : vmOkL S_X12 RX12 false cX12_isWord 0 T_X12_isWord = true := by decide +kernel
theorem cw_X12_isWord : vmLk 8085 = some (.code yX12_isWord cX12_isWord 4 (Option.some Jvm.ClassFile.FieldType.boolean)) := by decide +kernel
theorem ok_X12_took : vmOkL S_X12 RX12 false cX12_took 0 T_X12_took = true := by decide +kernel
theorem cw_X12_took : vmLk 8081 = some (.code yX12_took cX12_took 3 (Option.some Jvm.ClassFile.FieldType.boolean)) := by decide +kernel
theorem ok_X12_isSign : vmOkL S_X12 RX12 false cX12_isSign 0 T_X12_isSign = true := by decide +kernel
theorem cw_X12_isSign : vmLk 8163 = some (.code yX12_isSign cX12_isSign 2 (Option.some Jvm.ClassFile.FieldType.boolean)) := by decide +kernel
theorem ok_X12_mustSign : vmOkL S_X12 RX12 false cX12_mustSign 0 T_X12_mustSign = true := by decide +kernel
theorem cw_X12_mustSign : vmLk 8103 = some (.code yX12_mustSign cX12_mustSign 2 (Option.none : Option Jvm.ClassFile.FieldType)) := by decide +kernel
theorem ok_X12_number : vmOkL S_X12 RX12 false cX12_number 0 T_X12_number = true := by decide +kernel
theorem cw_X12_number : vmLk 8095 = some (.code yX12_number cX12_number 4 (Option.some Jvm.ClassFile.FieldType.int)) := by decide +kernel
theorem ok_X12_mustWord : vmOkL S_X12 RX12 false cX12_mustWord 0 T_X12_mustWord = true := by decide +kernel
theorem cw_X12_mustWord : vmLk 8077 = some (.code yX12_mustWord cX12_mustWord 2 (Option.none : Option Jvm.ClassFile.FieldType)) := by decide +kernel
theorem ok_X12_laysStep : vmOkL S_X12 RX12 false cX12_laysStep 0 T_X12_laysStep = true := by decide +kernel
theorem cw_X12_laysStep : vmLk 8159 = some (.code yX12_laysStep cX12_laysStep 2 (Option.none : Option Jvm.ClassFile.FieldType)) := by decide +kernel
theorem ok_X12_goesIn : vmOkL S_X12 RX12 false cX12_goesIn 0 T_X12_goesIn = true := by decide +kernel
theorem cw_X12_goesIn : vmLk 8155 = some (.code yX12_goesIn cX12_goesIn 1 (Option.none : Option Jvm.ClassFile.FieldType)) := by decide +kernel
theorem ok_X12_readTruth : vmOkL S_X12 RX12 false cX12_readTruth 0 T_X12_readTruth = true := by decide +kernel
theorem cw_X12_readTruth : vmLk 8142 = some (.code yX12_readTruth cX12_readTruth 1 (Option.none : Option Jvm.ClassFile.FieldType)) := by decide +kernel
theorem ok_X12_readBoth : vmOkL S_X12 RX12 false cX12_readBoth 0 T_X12_readBoth = true := by decide +kernel
theorem cw_X12_readBoth : vmLk 8146 = some (.code yX12_readBoth cX12_readBoth 1 (Option.none : Option Jvm.ClassFile.FieldType)) := by decide +kernel
theorem ok_X12_readUnit : vmOkL S_X12 RX12 false cX12_readUnit 0 T_X12_readUnit = true := by decide +kernel
theorem cw_X12_readUnit : vmLk 8150 = some (.code yX12_readUnit cX12_readUnit 2 (Option.none : Option Jvm.ClassFile.FieldType)) := by decide +kernel
theorem ok_X12_readSum : vmOkL S_X12 RX12 false cX12_readSum 0 T_X12_readSum = true := by decide +kernel
theorem cw_X12_readSum : vmLk 8167 = some (.code yX12_readSum cX12_readSum 2 (Option.none : Option Jvm.ClassFile.FieldType)) := by decide +kernel
theorem ok_X12_readTerm : vmOkL S_X12 RX12 false cX12_readTerm 0 T_X12_readTerm = true := by decide +kernel
theorem cw_X12_readTerm : vmLk 8171 = some (.code yX12_readTerm cX12_readTerm 1 (Option.none : Option Jvm.ClassFile.FieldType)) := by decide +kernel
theorem ok_X12_lawWord : vmOkL S_X12 RX12 false cX12_lawWord 0 T_X12_lawWord = true := by decide +kernel
theorem cw_X12_lawWord : vmLk 8179 = some (.code yX12_lawWord cX12_lawWord 1 (Option.some Jvm.ClassFile.FieldType.int)) := by decide +kernel
theorem ok_X12_readAtom : vmOkL S_X12 RX12 false cX12_readAtom 0 T_X12_readAtom = true := by decide +kernel
theorem cw_X12_readAtom : vmLk 8175 = some (.code yX12_readAtom cX12_readAtom 3 (Option.none : Option Jvm.ClassFile.FieldType)) := by decide +kernel
theorem ok_X12_readCell : vmOkL S_X12 RX12 false cX12_readCell 0 T_X12_readCell = true := by decide +kernel
theorem cw_X12_readCell : vmLk 8116 = some (.code yX12_readCell cX12_readCell 3 (Option.some Jvm.ClassFile.FieldType.int)) := by decide +kernel
theorem ok_X12_readHedge : vmOkL S_X12 RX12 false cX12_readHedge 0 T_X12_readHedge = true := by decide +kernel
theorem cw_X12_readHedge : vmLk 8112 = some (.code yX12_readHedge cX12_readHedge 4 (Option.none : Option Jvm.ClassFile.FieldType)) := by decide +kernel
theorem ok_X12_readWall : vmOkL S_X12 RX12 false cX12_readWall 0 T_X12_readWall = true := by decide +kernel
theorem cw_X12_readWall : vmLk 8124 = some (.code yX12_readWall cX12_readWall 2 (Option.none : Option Jvm.ClassFile.FieldType)) := by decide +kernel
theorem ok_X12_readWalker : vmOkL S_X12 RX12 false cX12_readWalker 0 T_X12_readWalker = true := by decide +kernel
theorem cw_X12_readWalker : vmLk 8129 = some (.code yX12_readWalker cX12_readWalker 5 (Option.none : Option Jvm.ClassFile.FieldType)) := by decide +kernel
theorem ok_X12_readErrand : vmOkL S_X12 RX12 false cX12_readErrand 0 T_X12_readErrand = true := by decide +kernel
theorem cw_X12_readErrand : vmLk 8136 = some (.code yX12_readErrand cX12_readErrand 4 (Option.none : Option Jvm.ClassFile.FieldType)) := by decide +kernel
theorem ok_X12_readStop : vmOkL S_X12 RX12 false cX12_readStop 0 T_X12_readStop = true := by decide +kernel
theorem cw_X12_readStop : vmLk 8099 = some (.code yX12_readStop cX12_readStop 1 (Option.none : Option Jvm.ClassFile.FieldType)) := by decide +kernel
theorem ok_X12_readLine : vmOkL S_X12 RX12 false cX12_readLine 0 T_X12_readLine = true := by decide +kernel
theorem cw_X12_readLine : vmLk 8107 = some (.code yX12_readLine cX12_readLine 1 (Option.none : Option Jvm.ClassFile.FieldType)) := by decide +kernel
theorem ok_X12_park : vmOkL S_X12 RX12 false cX12_park 0 T_X12_park = true := by decide +kernel
theorem cw_X12_park : vmLk 8048 = some (.code yX12_park cX12_park 3 (Option.some Jvm.ClassFile.FieldType.int)) := by decide +kernel
theorem ok_X12_fault : vmOkL S_X12 RX12 false cX12_fault 0 T_X12_fault = true := by decide +kernel
theorem cw_X12_fault : vmLk 8191 = some (.code yX12_fault cX12_fault 2 (Option.some Jvm.ClassFile.FieldType.int)) := by decide +kernel
theorem ok_X12_cells : vmOkL S_X12 RX12 false cX12_cells 0 T_X12_cells = true := by decide +kernel
theorem cw_X12_cells : vmLk 8203 = some (.code yX12_cells cX12_cells 1 (Option.some Jvm.ClassFile.FieldType.int)) := by decide +kernel
theorem ok_X12_kindOf : vmOkL S_X12 RX12 false cX12_kindOf 0 T_X12_kindOf = true := by decide +kernel
theorem cw_X12_kindOf : vmLk 8208 = some (.code yX12_kindOf cX12_kindOf 2 (Option.some Jvm.ClassFile.FieldType.int)) := by decide +kernel
theorem ok_X12_thickOf : vmOkL S_X12 RX12 false cX12_thickOf 0 T_X12_thickOf = true := by decide +kernel
theorem cw_X12_thickOf : vmLk 8212 = some (.code yX12_thickOf cX12_thickOf 2 (Option.some Jvm.ClassFile.FieldType.int)) := by decide +kernel
theorem ok_X12_isHedge : vmOkL S_X12 RX12 false cX12_isHedge 0 T_X12_isHedge = true := by decide +kernel
theorem cw_X12_isHedge : vmLk 8227 = some (.code yX12_isHedge cX12_isHedge 2 (Option.some Jvm.ClassFile.FieldType.boolean)) := by decide +kernel
theorem ok_X12_isCell : vmOkL S_X12 RX12 false cX12_isCell 0 T_X12_isCell = true := by decide +kernel
theorem cw_X12_isCell : vmLk 8199 = some (.code yX12_isCell cX12_isCell 3 (Option.some Jvm.ClassFile.FieldType.boolean)) := by decide +kernel
theorem ok_X12_isBody : vmOkL S_X12 RX12 false cX12_isBody 0 T_X12_isBody = true := by decide +kernel
theorem cw_X12_isBody : vmLk 9030 = some (.code yX12_isBody cX12_isBody 3 (Option.some Jvm.ClassFile.FieldType.boolean)) := by decide +kernel
theorem ok_X12_isWinter : vmOkL S_X12 RX12 false cX12_isWinter 0 T_X12_isWinter = true := by decide +kernel
theorem cw_X12_isWinter : vmLk 8232 = some (.code yX12_isWinter cX12_isWinter 1 (Option.some Jvm.ClassFile.FieldType.boolean)) := by decide +kernel
theorem ok_X12_hedgeCost : vmOkL S_X12 RX12 false cX12_hedgeCost 0 T_X12_hedgeCost = true := by decide +kernel
theorem cw_X12_hedgeCost : vmLk 8223 = some (.code yX12_hedgeCost cX12_hedgeCost 2 (Option.some Jvm.ClassFile.FieldType.int)) := by decide +kernel
theorem ok_X12_costFor : vmOkL S_X12 RX12 false cX12_costFor 0 T_X12_costFor = true := by decide +kernel
theorem cw_X12_costFor : vmLk 8216 = some (.code yX12_costFor cX12_costFor 3 (Option.some Jvm.ClassFile.FieldType.int)) := by decide +kernel
theorem ok_X12_beside : vmOkL S_X12 RX12 false cX12_beside 0 T_X12_beside = true := by decide +kernel
theorem cw_X12_beside : vmLk 9008 = some (.code yX12_beside cX12_beside 5 (Option.some Jvm.ClassFile.FieldType.int)) := by decide +kernel
theorem ok_X12_near : vmOkL S_X12 RX12 false cX12_near 0 T_X12_near = true := by decide +kernel
theorem cw_X12_near : vmLk 9004 = some (.code yX12_near cX12_near 4 (Option.some Jvm.ClassFile.FieldType.int)) := by decide +kernel
theorem ok_X12_bound : vmOkL S_X12 RX12 false cX12_bound 0 T_X12_bound = true := by decide +kernel
theorem cw_X12_bound : vmLk 9014 = some (.code yX12_bound cX12_bound 2 (Option.some Jvm.ClassFile.FieldType.int)) := by decide +kernel
theorem ok_X12_done : vmOkL S_X12 RX12 false cX12_done 0 T_X12_done = true := by decide +kernel
theorem cw_X12_done : vmLk 9011 = some (.code yX12_done cX12_done 5 (Option.some Jvm.ClassFile.FieldType.int)) := by decide +kernel
theorem ok_X12_wordOf : vmOkL S_X12 RX12 false cX12_wordOf 0 T_X12_wordOf = true := by decide +kernel
theorem cw_X12_wordOf : vmLk 9000 = some (.code yX12_wordOf cX12_wordOf 3 (Option.some Jvm.ClassFile.FieldType.int)) := by decide +kernel
theorem ok_X12_grows : vmOkL S_X12 RX12 false cX12_grows 0 T_X12_grows = true := by decide +kernel
theorem cw_X12_grows : vmLk 8236 = some (.code yX12_grows cX12_grows 5 (Option.some Jvm.ClassFile.FieldType.boolean)) := by decide +kernel
theorem ok_X12_night : vmOkL S_X12 RX12 false cX12_night 0 T_X12_night = true := by decide +kernel
theorem cw_X12_night : vmLk 9113 = some (.code yX12_night cX12_night 3 (Option.some Jvm.ClassFile.FieldType.int)) := by decide +kernel
theorem ok_X12_standing : vmOkL S_X12 RX12 false cX12_standing 0 T_X12_standing = true := by decide +kernel
theorem cw_X12_standing : vmLk 9022 = some (.code yX12_standing cX12_standing 4 (Option.some Jvm.ClassFile.FieldType.int)) := by decide +kernel
theorem ok_X12_cell : vmOkL S_X12 RX12 false cX12_cell 0 T_X12_cell = true := by decide +kernel
theorem cw_X12_cell : vmLk 8195 = some (.code yX12_cell cX12_cell 3 (Option.some Jvm.ClassFile.FieldType.int)) := by decide +kernel
theorem ok_X12_walker : vmOkL S_X12 RX12 false cX12_walker 0 T_X12_walker = true := by decide +kernel
theorem cw_X12_walker : vmLk 9026 = some (.code yX12_walker cX12_walker 3 (Option.some Jvm.ClassFile.FieldType.int)) := by decide +kernel
theorem ok_X12_hedges : vmOkL S_X12 RX12 false cX12_hedges 0 T_X12_hedges = true := by decide +kernel
theorem cw_X12_hedges : vmLk 9038 = some (.code yX12_hedges cX12_hedges 4 (Option.some Jvm.ClassFile.FieldType.long)) := by decide +kernel
theorem ok_X12_thickness : vmOkL S_X12 RX12 false cX12_thickness 0 T_X12_thickness = true := by decide +kernel
theorem cw_X12_thickness : vmLk 9042 = some (.code yX12_thickness cX12_thickness 3 (Option.some Jvm.ClassFile.FieldType.int)) := by decide +kernel
theorem ok_X12_laysPrice : vmOkL S_X12 RX12 false cX12_laysPrice 0 T_X12_laysPrice = true := by decide +kernel
theorem cw_X12_laysPrice : vmLk 9062 = some (.code yX12_laysPrice cX12_laysPrice 3 (Option.none : Option Jvm.ClassFile.FieldType)) := by decide +kernel
theorem ok_X12_laysDist : vmOkL S_X12 RX12 false cX12_laysDist 0 T_X12_laysDist = true := by decide +kernel
theorem cw_X12_laysDist : vmLk 9067 = some (.code yX12_laysDist cX12_laysDist 6 (Option.none : Option Jvm.ClassFile.FieldType)) := by decide +kernel
theorem ok_X12_laysRest : vmOkL S_X12 RX12 false cX12_laysRest 0 T_X12_laysRest = true := by decide +kernel
theorem cw_X12_laysRest : vmLk 9181 = some (.code yX12_laysRest cX12_laysRest 6 (Option.none : Option Jvm.ClassFile.FieldType)) := by decide +kernel
theorem ok_X12_laysFor : vmOkL S_X12 RX12 false cX12_laysFor 0 T_X12_laysFor = true := by decide +kernel
theorem cw_X12_laysFor : vmLk 9058 = some (.code yX12_laysFor cX12_laysFor 2 (Option.none : Option Jvm.ClassFile.FieldType)) := by decide +kernel
theorem ok_X12_told : vmOkL S_X12 RX12 false cX12_told 0 T_X12_told = true := by decide +kernel
theorem cw_X12_told : vmLk 9070 = some (.code yX12_told cX12_told 1 (Option.some Jvm.ClassFile.FieldType.int)) := by decide +kernel
theorem ok_X12_soonestOf : vmOkL S_X12 RX12 false cX12_soonestOf 0 T_X12_soonestOf = true := by decide +kernel
theorem cw_X12_soonestOf : vmLk 9054 = some (.code yX12_soonestOf cX12_soonestOf 3 (Option.some Jvm.ClassFile.FieldType.int)) := by decide +kernel
theorem ok_X12_areOut : vmOkL S_X12 RX12 false cX12_areOut 0 T_X12_areOut = true := by decide +kernel
theorem cw_X12_areOut : vmLk 9050 = some (.code yX12_areOut cX12_areOut 3 (Option.some Jvm.ClassFile.FieldType.boolean)) := by decide +kernel
theorem ok_X12_keeps : vmOkL S_X12 RX12 false cX12_keeps 0 T_X12_keeps = true := by decide +kernel
theorem cw_X12_keeps : vmLk 9074 = some (.code yX12_keeps cX12_keeps 2 (Option.none : Option Jvm.ClassFile.FieldType)) := by decide +kernel
theorem ok_X12_putsAside : vmOkL S_X12 RX12 false cX12_putsAside 0 T_X12_putsAside = true := by decide +kernel
theorem cw_X12_putsAside : vmLk 9132 = some (.code yX12_putsAside cX12_putsAside 2 (Option.none : Option Jvm.ClassFile.FieldType)) := by decide +kernel
theorem ok_X12_putsBack : vmOkL S_X12 RX12 false cX12_putsBack 0 T_X12_putsBack = true := by decide +kernel
theorem cw_X12_putsBack : vmLk 9151 = some (.code yX12_putsBack cX12_putsBack 2 (Option.none : Option Jvm.ClassFile.FieldType)) := by decide +kernel
theorem ok_X12_goes : vmOkL S_X12 RX12 false cX12_goes 0 T_X12_goes = true := by decide +kernel
theorem cw_X12_goes : vmLk 9078 = some (.code yX12_goes cX12_goes 4 (Option.none : Option Jvm.ClassFile.FieldType)) := by decide +kernel
theorem ok_X12_clips : vmOkL S_X12 RX12 false cX12_clips 0 T_X12_clips = true := by decide +kernel
theorem cw_X12_clips : vmLk 9087 = some (.code yX12_clips cX12_clips 4 (Option.some Jvm.ClassFile.FieldType.int)) := by decide +kernel
theorem ok_X12_plants : vmOkL S_X12 RX12 false cX12_plants 0 T_X12_plants = true := by decide +kernel
theorem cw_X12_plants : vmLk 9100 = some (.code yX12_plants cX12_plants 3 (Option.none : Option Jvm.ClassFile.FieldType)) := by decide +kernel
theorem ok_X12_walk : vmOkL S_X12 RX12 false cX12_walk 0 T_X12_walk = true := by decide +kernel
theorem cw_X12_walk : vmLk 9046 = some (.code yX12_walk cX12_walk 4 (Option.some Jvm.ClassFile.FieldType.int)) := by decide +kernel
theorem ok_X12_clip : vmOkL S_X12 RX12 false cX12_clip 0 T_X12_clip = true := by decide +kernel
theorem cw_X12_clip : vmLk 9082 = some (.code yX12_clip cX12_clip 3 (Option.some Jvm.ClassFile.FieldType.int)) := by decide +kernel
theorem ok_X12_mayPlant : vmOkL S_X12 RX12 false cX12_mayPlant 0 T_X12_mayPlant = true := by decide +kernel
theorem cw_X12_mayPlant : vmLk 9096 = some (.code yX12_mayPlant cX12_mayPlant 2 (Option.some Jvm.ClassFile.FieldType.boolean)) := by decide +kernel
theorem ok_X12_hedgesMany : vmOkL S_X12 RX12 false cX12_hedgesMany 0 T_X12_hedgesMany = true := by decide +kernel
theorem cw_X12_hedgesMany : vmLk 9104 = some (.code yX12_hedgesMany cX12_hedgesMany 3 (Option.some Jvm.ClassFile.FieldType.int)) := by decide +kernel
theorem ok_X12_plant : vmOkL S_X12 RX12 false cX12_plant 0 T_X12_plant = true := by decide +kernel
theorem cw_X12_plant : vmLk 9092 = some (.code yX12_plant cX12_plant 3 (Option.some Jvm.ClassFile.FieldType.int)) := by decide +kernel
theorem ok_X12_nights : vmOkL S_X12 RX12 false cX12_nights 0 T_X12_nights = true := by decide +kernel
theorem cw_X12_nights : vmLk 9108 = some (.code yX12_nights cX12_nights 4 (Option.some Jvm.ClassFile.FieldType.int)) := by decide +kernel
theorem ok_X12_undo : vmOkL S_X12 RX12 false cX12_undo 0 T_X12_undo = true := by decide +kernel
theorem cw_X12_undo : vmLk 9117 = some (.code yX12_undo cX12_undo 3 (Option.some Jvm.ClassFile.FieldType.int)) := by decide +kernel
theorem ok_X12_trayFault : vmOkL S_X12 RX12 false cX12_trayFault 0 T_X12_trayFault = true := by decide +kernel
theorem cw_X12_trayFault : vmLk 9125 = some (.code yX12_trayFault cX12_trayFault 2 (Option.some Jvm.ClassFile.FieldType.int)) := by decide +kernel
theorem ok_X12_whyTold : vmOkL S_X12 RX12 false cX12_whyTold 0 T_X12_whyTold = true := by decide +kernel
theorem cw_X12_whyTold : vmLk 9136 = some (.code yX12_whyTold cX12_whyTold 4 (Option.some Jvm.ClassFile.FieldType.int)) := by decide +kernel
theorem ok_X12_does : vmOkL S_X12 RX12 false cX12_does 0 T_X12_does = true := by decide +kernel
theorem cw_X12_does : vmLk 9147 = some (.code yX12_does cX12_does 2 (Option.none : Option Jvm.ClassFile.FieldType)) := by decide +kernel
theorem ok_X12_judge : vmOkL S_X12 RX12 false cX12_judge 0 T_X12_judge = true := by decide +kernel
theorem cw_X12_judge : vmLk 9121 = some (.code yX12_judge cX12_judge 7 (Option.some Jvm.ClassFile.FieldType.int)) := by decide +kernel
theorem ok_X12_perform : vmOkL S_X12 RX12 false cX12_perform 0 T_X12_perform = true := by decide +kernel
theorem cw_X12_perform : vmLk 9155 = some (.code yX12_perform cX12_perform 3 (Option.some Jvm.ClassFile.FieldType.int)) := by decide +kernel
theorem ok_X12_draw : vmOkL S_X12 RX12 false cX12_draw 0 T_X12_draw = true := by decide +kernel
theorem cw_X12_draw : vmLk 9164 = some (.code yX12_draw cX12_draw 2 (Option.some Jvm.ClassFile.FieldType.int)) := by decide +kernel
theorem ok_X12_decade : vmOkL S_X12 RX12 false cX12_decade 0 T_X12_decade = true := by decide +kernel
theorem cw_X12_decade : vmLk 9159 = some (.code yX12_decade cX12_decade 8 (Option.some Jvm.ClassFile.FieldType.int)) := by decide +kernel
theorem ok_X12_soonest : vmOkL S_X12 RX12 false cX12_soonest 0 T_X12_soonest = true := by decide +kernel
theorem cw_X12_soonest : vmLk 9169 = some (.code yX12_soonest cX12_soonest 3 (Option.some Jvm.ClassFile.FieldType.int)) := by decide +kernel
theorem ok_X12_laysPath : vmOkL S_X12 RX12 false cX12_laysPath 0 T_X12_laysPath = true := by decide +kernel
theorem cw_X12_laysPath : vmLk 9177 = some (.code yX12_laysPath cX12_laysPath 8 (Option.some Jvm.ClassFile.FieldType.int)) := by decide +kernel
theorem ok_X12_way : vmOkL S_X12 RX12 false cX12_way 0 T_X12_way = true := by decide +kernel
theorem cw_X12_way : vmLk 9173 = some (.code yX12_way cX12_way 5 (Option.some Jvm.ClassFile.FieldType.int)) := by decide +kernel
theorem ok_X12_ways : vmOkL S_X12 RX12 false cX12_ways 0 T_X12_ways = true := by decide +kernel
theorem cw_X12_ways : vmLk 9185 = some (.code yX12_ways cX12_ways 9 (Option.some Jvm.ClassFile.FieldType.long)) := by decide +kernel
theorem ok_X12_nearest : vmOkL S_X12 RX12 false cX12_nearest 0 T_X12_nearest = true := by decide +kernel
theorem cw_X12_nearest : vmLk 9189 = some (.code yX12_nearest cX12_nearest 5 (Option.some Jvm.ClassFile.FieldType.int)) := by decide +kernel
theorem ok_X12_laysFurther : vmOkL S_X12 RX12 false cX12_laysFurther 0 T_X12_laysFurther = true := by decide +kernel
theorem cw_X12_laysFurther : vmLk 9204 = some (.code yX12_laysFurther cX12_laysFurther 4 (Option.none : Option Jvm.ClassFile.FieldType)) := by decide +kernel
theorem ok_X12_laysHere : vmOkL S_X12 RX12 false cX12_laysHere 0 T_X12_laysHere = true := by decide +kernel
theorem cw_X12_laysHere : vmLk 9200 = some (.code yX12_laysHere cX12_laysHere 3 (Option.none : Option Jvm.ClassFile.FieldType)) := by decide +kernel
theorem ok_X12_within : vmOkL S_X12 RX12 false cX12_within 0 T_X12_within = true := by decide +kernel
theorem cw_X12_within : vmLk 9196 = some (.code yX12_within cX12_within 5 (Option.some Jvm.ClassFile.FieldType.int)) := by decide +kernel
theorem ok_X12_steps : vmOkL S_X12 RX12 false cX12_steps 0 T_X12_steps = true := by decide +kernel
theorem cw_X12_steps : vmLk 9208 = some (.code yX12_steps cX12_steps 5 (Option.some Jvm.ClassFile.FieldType.int)) := by decide +kernel
theorem ok_X12_laysCleared : vmOkL S_X12 RX12 false cX12_laysCleared 0 T_X12_laysCleared = true := by decide +kernel
theorem cw_X12_laysCleared : vmLk 9217 = some (.code yX12_laysCleared cX12_laysCleared 8 (Option.none : Option Jvm.ClassFile.FieldType)) := by decide +kernel
theorem ok_X12_cleared : vmOkL S_X12 RX12 false cX12_cleared 0 T_X12_cleared = true := by decide +kernel
theorem cw_X12_cleared : vmLk 9212 = some (.code yX12_cleared cX12_cleared 5 (Option.some Jvm.ClassFile.FieldType.int)) := by decide +kernel
theorem ok_X12_clipFor : vmOkL S_X12 RX12 false cX12_clipFor 0 T_X12_clipFor = true := by decide +kernel
theorem cw_X12_clipFor : vmLk 9221 = some (.code yX12_clipFor cX12_clipFor 7 (Option.some Jvm.ClassFile.FieldType.int)) := by decide +kernel
theorem ok_X12_reach : vmOkL S_X12 RX12 false cX12_reach 0 T_X12_reach = true := by decide +kernel
theorem cw_X12_reach : vmLk 9225 = some (.code yX12_reach cX12_reach 6 (Option.some Jvm.ClassFile.FieldType.long)) := by decide +kernel
theorem ok_X12_farthest : vmOkL S_X12 RX12 false cX12_farthest 0 T_X12_farthest = true := by decide +kernel
theorem cw_X12_farthest : vmLk 9229 = some (.code yX12_farthest cX12_farthest 4 (Option.some Jvm.ClassFile.FieldType.int)) := by decide +kernel
theorem ok_X12_goesRound : vmOkL S_X12 RX12 false cX12_goesRound 0 T_X12_goesRound = true := by decide +kernel
theorem cw_X12_goesRound : vmLk 9238 = some (.code yX12_goesRound cX12_goesRound 7 (Option.none : Option Jvm.ClassFile.FieldType)) := by decide +kernel
theorem ok_X12_round : vmOkL S_X12 RX12 false cX12_round 0 T_X12_round = true := by decide +kernel
theorem cw_X12_round : vmLk 9233 = some (.code yX12_round cX12_round 4 (Option.some Jvm.ClassFile.FieldType.int)) := by decide +kernel
theorem ok_X12_goesOrders : vmOkL S_X12 RX12 false cX12_goesOrders 0 T_X12_goesOrders = true := by decide +kernel
theorem cw_X12_goesOrders : vmLk 10006 = some (.code yX12_goesOrders cX12_goesOrders 5 (Option.none : Option Jvm.ClassFile.FieldType)) := by decide +kernel
theorem ok_X12_bestOrder : vmOkL S_X12 RX12 false cX12_bestOrder 0 T_X12_bestOrder = true := by decide +kernel
theorem cw_X12_bestOrder : vmLk 10002 = some (.code yX12_bestOrder cX12_bestOrder 3 (Option.some Jvm.ClassFile.FieldType.int)) := by decide +kernel
theorem ok_X12_meet : vmOkL S_X12 RX12 false cX12_meet 0 T_X12_meet = true := by decide +kernel
theorem cw_X12_meet : vmLk 10010 = some (.code yX12_meet cX12_meet 9 (Option.some Jvm.ClassFile.FieldType.int)) := by decide +kernel
theorem ok_X12_first : vmOkL S_X12 RX12 false cX12_first 0 T_X12_first = true := by decide +kernel
theorem cw_X12_first : vmLk 10015 = some (.code yX12_first cX12_first 5 (Option.some Jvm.ClassFile.FieldType.int)) := by decide +kernel
theorem ok_X12_own : vmOkL S_X12 RX12 false cX12_own 0 T_X12_own = true := by decide +kernel
theorem cw_X12_own : vmLk 10019 = some (.code yX12_own cX12_own 5 (Option.some Jvm.ClassFile.FieldType.long)) := by decide +kernel
theorem ok_X12_costShut : vmOkL S_X12 RX12 false cX12_costShut 0 T_X12_costShut = true := by decide +kernel
theorem cw_X12_costShut : vmLk 10035 = some (.code yX12_costShut cX12_costShut 6 (Option.some Jvm.ClassFile.FieldType.int)) := by decide +kernel
theorem ok_X12_isShut : vmOkL S_X12 RX12 false cX12_isShut 0 T_X12_isShut = true := by decide +kernel
theorem cw_X12_isShut : vmLk 10031 = some (.code yX12_isShut cX12_isShut 8 (Option.some Jvm.ClassFile.FieldType.boolean)) := by decide +kernel
theorem ok_X12_areBeside : vmOkL S_X12 RX12 false cX12_areBeside 0 T_X12_areBeside = true := by decide +kernel
theorem cw_X12_areBeside : vmLk 10027 = some (.code yX12_areBeside cX12_areBeside 4 (Option.some Jvm.ClassFile.FieldType.boolean)) := by decide +kernel
theorem ok_X12_shutOff : vmOkL S_X12 RX12 false cX12_shutOff 0 T_X12_shutOff = true := by decide +kernel
theorem cw_X12_shutOff : vmLk 10023 = some (.code yX12_shutOff cX12_shutOff 5 (Option.some Jvm.ClassFile.FieldType.int)) := by decide +kernel
theorem ok_X12_needed : vmOkL S_X12 RX12 false cX12_needed 0 T_X12_needed = true := by decide +kernel
theorem cw_X12_needed : vmLk 10039 = some (.code yX12_needed cX12_needed 7 (Option.some Jvm.ClassFile.FieldType.long)) := by decide +kernel
theorem ok_X12_dearest : vmOkL S_X12 RX12 false cX12_dearest 0 T_X12_dearest = true := by decide +kernel
theorem cw_X12_dearest : vmLk 10043 = some (.code yX12_dearest cX12_dearest 8 (Option.some Jvm.ClassFile.FieldType.int)) := by decide +kernel
theorem ok_X12_soonestIn : vmOkL S_X12 RX12 false cX12_soonestIn 0 T_X12_soonestIn = true := by decide +kernel
theorem cw_X12_soonestIn : vmLk 10047 = some (.code yX12_soonestIn cX12_soonestIn 5 (Option.some Jvm.ClassFile.FieldType.int)) := by decide +kernel
theorem ok_X12_bestNight : vmOkL S_X12 RX12 false cX12_bestNight 0 T_X12_bestNight = true := by decide +kernel
theorem cw_X12_bestNight : vmLk 10051 = some (.code yX12_bestNight cX12_bestNight 8 (Option.some Jvm.ClassFile.FieldType.int)) := by decide +kernel
theorem ok_X12_grownTo : vmOkL S_X12 RX12 false cX12_grownTo 0 T_X12_grownTo = true := by decide +kernel
theorem cw_X12_grownTo : vmLk 10055 = some (.code yX12_grownTo cX12_grownTo 7 (Option.some Jvm.ClassFile.FieldType.int)) := by decide +kernel
theorem ok_X12_laysCome : vmOkL S_X12 RX12 false cX12_laysCome 0 T_X12_laysCome = true := by decide +kernel
theorem cw_X12_laysCome : vmLk 10071 = some (.code yX12_laysCome cX12_laysCome 9 (Option.none : Option Jvm.ClassFile.FieldType)) := by decide +kernel
theorem ok_X12_laysGo : vmOkL S_X12 RX12 false cX12_laysGo 0 T_X12_laysGo = true := by decide +kernel
theorem cw_X12_laysGo : vmLk 10079 = some (.code yX12_laysGo cX12_laysGo 9 (Option.none : Option Jvm.ClassFile.FieldType)) := by decide +kernel
theorem ok_X12_areWalksOut : vmOkL S_X12 RX12 false cX12_areWalksOut 0 T_X12_areWalksOut = true := by decide +kernel
theorem cw_X12_areWalksOut : vmLk 10063 = some (.code yX12_areWalksOut cX12_areWalksOut 4 (Option.some Jvm.ClassFile.FieldType.boolean)) := by decide +kernel
theorem ok_X12_walksOf : vmOkL S_X12 RX12 false cX12_walksOf 0 T_X12_walksOf = true := by decide +kernel
theorem cw_X12_walksOf : vmLk 10067 = some (.code yX12_walksOf cX12_walksOf 5 (Option.some Jvm.ClassFile.FieldType.long)) := by decide +kernel
theorem ok_X12_walks : vmOkL S_X12 RX12 false cX12_walks 0 T_X12_walks = true := by decide +kernel
theorem cw_X12_walks : vmLk 10059 = some (.code yX12_walks cX12_walks 4 (Option.some Jvm.ClassFile.FieldType.long)) := by decide +kernel
theorem ok_X12_been : vmOkL S_X12 RX12 false cX12_been 0 T_X12_been = true := by decide +kernel
theorem cw_X12_been : vmLk 10075 = some (.code yX12_been cX12_been 8 (Option.some Jvm.ClassFile.FieldType.long)) := by decide +kernel
theorem ok_X12_throughOf : vmOkL S_X12 RX12 false cX12_throughOf 0 T_X12_throughOf = true := by decide +kernel
theorem cw_X12_throughOf : vmLk 10087 = some (.code yX12_throughOf cX12_throughOf 7 (Option.some Jvm.ClassFile.FieldType.long)) := by decide +kernel
theorem ok_X12_through : vmOkL S_X12 RX12 false cX12_through 0 T_X12_through = true := by decide +kernel
theorem cw_X12_through : vmLk 10083 = some (.code yX12_through cX12_through 5 (Option.some Jvm.ClassFile.FieldType.long)) := by decide +kernel
theorem ok_X12_tells : vmOkL S_X12 RX12 false cX12_tells 0 T_X12_tells = true := by decide +kernel
theorem cw_X12_tells : vmLk 10091 = some (.code yX12_tells cX12_tells 14 (Option.some Jvm.ClassFile.FieldType.int)) := by decide +kernel
theorem ok_X12_maybe : vmOkL S_X12 RX12 false cX12_maybe 0 T_X12_maybe = true := by decide +kernel
theorem cw_X12_maybe : vmLk 10095 = some (.code yX12_maybe cX12_maybe 6 (Option.some Jvm.ClassFile.FieldType.long)) := by decide +kernel
theorem ok_X12_isTray : vmOkL S_X12 RX12 false cX12_isTray 0 T_X12_isTray = true := by decide +kernel
theorem cw_X12_isTray : vmLk 9128 = some (.code yX12_isTray cX12_isTray 1 (Option.some Jvm.ClassFile.FieldType.boolean)) := by decide +kernel
theorem ok_X12_tray : vmOkL S_X12 RX12 false cX12_tray 0 T_X12_tray = true := by decide +kernel
theorem cw_X12_tray : vmLk 10099 = some (.code yX12_tray cX12_tray 5 (Option.none : Option Jvm.ClassFile.FieldType)) := by decide +kernel
theorem ok_X12_cut : vmOkL S_X12 RX12 false cX12_cut 0 T_X12_cut = true := by decide +kernel
theorem cw_X12_cut : vmLk 10108 = some (.code yX12_cut cX12_cut 6 (Option.some Jvm.ClassFile.FieldType.long)) := by decide +kernel
theorem ok_X12_write : vmOkL S_X12 RX12 false cX12_write 0 T_X12_write = true := by decide +kernel
theorem cw_X12_write : vmLk 10104 = some (.code yX12_write cX12_write 5 (Option.some Jvm.ClassFile.FieldType.long)) := by decide +kernel
theorem ok_X12_copy : vmOkL S_X12 RX12 false cX12_copy 0 T_X12_copy = true := by decide +kernel
theorem cw_X12_copy : vmLk 10112 = some (.code yX12_copy cX12_copy 4 (Option.some Jvm.ClassFile.FieldType.int)) := by decide +kernel
theorem ok_X12_image : vmOkL S_X12 RX12 false cX12_image 0 T_X12_image = true := by decide +kernel
theorem cw_X12_image : vmLk 10116 = some (.code yX12_image cX12_image 3 (Option.none : Option Jvm.ClassFile.FieldType)) := by decide +kernel
theorem ok_X12_restore : vmOkL S_X12 RX12 false cX12_restore 0 T_X12_restore = true := by decide +kernel
theorem cw_X12_restore : vmLk 10120 = some (.code yX12_restore cX12_restore 3 (Option.none : Option Jvm.ClassFile.FieldType)) := by decide +kernel
theorem ok_X12_wallsMany : vmOkL S_X12 RX12 false cX12_wallsMany 0 T_X12_wallsMany = true := by decide +kernel
theorem cw_X12_wallsMany : vmLk 10128 = some (.code yX12_wallsMany cX12_wallsMany 3 (Option.some Jvm.ClassFile.FieldType.int)) := by decide +kernel
theorem ok_X12_count : vmOkL S_X12 RX12 false cX12_count 0 T_X12_count = true := by decide +kernel
theorem cw_X12_count : vmLk 10124 = some (.code yX12_count cX12_count 2 (Option.some Jvm.ClassFile.FieldType.int)) := by decide +kernel
