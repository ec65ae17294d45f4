/-! ===== the store: shapes of the cells that the constructors make (by program) ===== -/
abbrev Sh : Type := Nat × Nat × Nat × Nat × Nat
def sh (a : Nat) : Sh := cond (Nat.blt a 406) (cond (Nat.blt a 203) (cond (Nat.blt a 101) (cond (Nat.blt a 50) (cond (Nat.blt a 25) (cond (Nat.blt a 12) (cond (Nat.blt a 6) (cond (Nat.blt a 3) (cond (Nat.blt a 1) (2, 11, 0, 0, 0) (cond (Nat.blt a 2) (0, 0, 900, 1100, 0) (2, 8, 0, 0, 0))) (cond (Nat.blt a 4) (2, 4, 0, 0, 0) (cond (Nat.blt a 5) (0, 0, 5, 406, 3) (0, 0, 20, 407, 3)))) (cond (Nat.blt a 9) (cond (Nat.blt a 7) (0, 0, 20, 408, 3) (cond (Nat.blt a 8) (2, 3, 0, 0, 0) (0, 0, 900, 300, 7))) (cond (Nat.blt a 10) (0, 0, 144, 410, 3) (cond (Nat.blt a 11) (2, 7, 0, 0, 0) (0, 0, 36, 700, 10))))) (cond (Nat.blt a 18) (cond (Nat.blt a 15) (cond (Nat.blt a 13) (0, 0, 36, 701, 10) (cond (Nat.blt a 14) (0, 0, 5, 702, 10) (0, 0, 5, 703, 10))) (cond (Nat.blt a 16) (1, 3, 10, 16, 5) (cond (Nat.blt a 17) (2, 7, 0, 0, 0) (0, 0, 36, 700, 16)))) (cond (Nat.blt a 21) (cond (Nat.blt a 19) (0, 0, 36, 701, 16) (cond (Nat.blt a 20) (0, 0, 5, 702, 16) (0, 0, 5, 703, 16))) (cond (Nat.blt a 23) (cond (Nat.blt a 22) (2, 7, 0, 0, 0) (0, 0, 36, 700, 21)) (cond (Nat.blt a 24) (0, 0, 36, 701, 21) (0, 0, 5, 702, 21)))))) (cond (Nat.blt a 37) (cond (Nat.blt a 31) (cond (Nat.blt a 28) (cond (Nat.blt a 26) (0, 0, 5, 703, 21) (cond (Nat.blt a 27) (2, 7, 0, 0, 0) (0, 0, 36, 700, 26))) (cond (Nat.blt a 29) (0, 0, 36, 701, 26) (cond (Nat.blt a 30) (0, 0, 5, 702, 26) (0, 0, 5, 703, 26)))) (cond (Nat.blt a 34) (cond (Nat.blt a 32) (2, 7, 0, 0, 0) (cond (Nat.blt a 33) (0, 0, 36, 700, 31) (0, 0, 36, 701, 31))) (cond (Nat.blt a 35) (0, 0, 5, 702, 31) (cond (Nat.blt a 36) (0, 0, 5, 703, 31) (2, 7, 0, 0, 0))))) (cond (Nat.blt a 43) (cond (Nat.blt a 40) (cond (Nat.blt a 38) (0, 0, 36, 700, 36) (cond (Nat.blt a 39) (0, 0, 36, 701, 36) (0, 0, 5, 702, 36))) (cond (Nat.blt a 41) (0, 0, 5, 703, 36) (cond (Nat.blt a 42) (2, 7, 0, 0, 0) (0, 0, 36, 700, 41)))) (cond (Nat.blt a 46) (cond (Nat.blt a 44) (0, 0, 36, 701, 41) (cond (Nat.blt a 45) (0, 0, 5, 702, 41) (0, 0, 5, 703, 41))) (cond (Nat.blt a 48) (cond (Nat.blt a 47) (2, 7, 0, 0, 0) (0, 0, 36, 700, 46)) (cond (Nat.blt a 49) (0, 0, 36, 701, 46) (0, 0, 5, 702, 46))))))) (cond (Nat.blt a 75) (cond (Nat.blt a 62) (cond (Nat.blt a 56) (cond (Nat.blt a 53) (cond (Nat.blt a 51) (0, 0, 5, 703, 46) (cond (Nat.blt a 52) (2, 7, 0, 0, 0) (0, 0, 36, 700, 51))) (cond (Nat.blt a 54) (0, 0, 36, 701, 51) (cond (Nat.blt a 55) (0, 0, 5, 702, 51) (0, 0, 5, 703, 51)))) (cond (Nat.blt a 59) (cond (Nat.blt a 57) (2, 7, 0, 0, 0) (cond (Nat.blt a 58) (0, 0, 36, 700, 56) (0, 0, 36, 701, 56))) (cond (Nat.blt a 60) (0, 0, 5, 702, 56) (cond (Nat.blt a 61) (0, 0, 5, 703, 56) (2, 7, 0, 0, 0))))) (cond (Nat.blt a 68) (cond (Nat.blt a 65) (cond (Nat.blt a 63) (0, 0, 36, 700, 61) (cond (Nat.blt a 64) (0, 0, 36, 701, 61) (0, 0, 5, 702, 61))) (cond (Nat.blt a 66) (0, 0, 5, 703, 61) (cond (Nat.blt a 67) (1, 4, 3, 190, 64) (2, 7, 0, 0, 0)))) (cond (Nat.blt a 71) (cond (Nat.blt a 69) (0, 0, 36, 700, 67) (cond (Nat.blt a 70) (0, 0, 36, 701, 67) (0, 0, 5, 702, 67))) (cond (Nat.blt a 73) (cond (Nat.blt a 72) (0, 0, 5, 703, 67) (0, 1, 160, 1107, 0)) (cond (Nat.blt a 74) (0, 0, 4, 1108, 0) (0, 0, 4, 1109, 0)))))) (cond (Nat.blt a 88) (cond (Nat.blt a 81) (cond (Nat.blt a 78) (cond (Nat.blt a 76) (2, 5, 0, 0, 0) (cond (Nat.blt a 77) (2, 8, 0, 0, 0) (2, 4, 0, 0, 0))) (cond (Nat.blt a 79) (0, 0, 5, 406, 77) (cond (Nat.blt a 80) (0, 0, 20, 407, 77) (0, 0, 20, 408, 77)))) (cond (Nat.blt a 84) (cond (Nat.blt a 82) (2, 3, 0, 0, 0) (cond (Nat.blt a 83) (0, 0, 900, 300, 81) (0, 0, 144, 410, 77))) (cond (Nat.blt a 86) (cond (Nat.blt a 85) (2, 7, 0, 0, 0) (0, 0, 36, 700, 84)) (cond (Nat.blt a 87) (0, 0, 36, 701, 84) (0, 0, 5, 702, 84))))) (cond (Nat.blt a 94) (cond (Nat.blt a 91) (cond (Nat.blt a 89) (0, 0, 5, 703, 84) (cond (Nat.blt a 90) (1, 3, 10, 90, 5) (2, 7, 0, 0, 0))) (cond (Nat.blt a 92) (0, 0, 36, 700, 90) (cond (Nat.blt a 93) (0, 0, 36, 701, 90) (0, 0, 5, 702, 90)))) (cond (Nat.blt a 97) (cond (Nat.blt a 95) (0, 0, 5, 703, 90) (cond (Nat.blt a 96) (2, 7, 0, 0, 0) (0, 0, 36, 700, 95))) (cond (Nat.blt a 99) (cond (Nat.blt a 98) (0, 0, 36, 701, 95) (0, 0, 5, 702, 95)) (cond (Nat.blt a 100) (0, 0, 5, 703, 95) (2, 7, 0, 0, 0)))))))) (cond (Nat.blt a 152) (cond (Nat.blt a 126) (cond (Nat.blt a 113) (cond (Nat.blt a 107) (cond (Nat.blt a 104) (cond (Nat.blt a 102) (0, 0, 36, 700, 100) (cond (Nat.blt a 103) (0, 0, 36, 701, 100) (0, 0, 5, 702, 100))) (cond (Nat.blt a 105) (0, 0, 5, 703, 100) (cond (Nat.blt a 106) (2, 7, 0, 0, 0) (0, 0, 36, 700, 105)))) (cond (Nat.blt a 110) (cond (Nat.blt a 108) (0, 0, 36, 701, 105) (cond (Nat.blt a 109) (0, 0, 5, 702, 105) (0, 0, 5, 703, 105))) (cond (Nat.blt a 111) (2, 7, 0, 0, 0) (cond (Nat.blt a 112) (0, 0, 36, 700, 110) (0, 0, 36, 701, 110))))) (cond (Nat.blt a 119) (cond (Nat.blt a 116) (cond (Nat.blt a 114) (0, 0, 5, 702, 110) (cond (Nat.blt a 115) (0, 0, 5, 703, 110) (2, 7, 0, 0, 0))) (cond (Nat.blt a 117) (0, 0, 36, 700, 115) (cond (Nat.blt a 118) (0, 0, 36, 701, 115) (0, 0, 5, 702, 115)))) (cond (Nat.blt a 122) (cond (Nat.blt a 120) (0, 0, 5, 703, 115) (cond (Nat.blt a 121) (2, 7, 0, 0, 0) (0, 0, 36, 700, 120))) (cond (Nat.blt a 124) (cond (Nat.blt a 123) (0, 0, 36, 701, 120) (0, 0, 5, 702, 120)) (cond (Nat.blt a 125) (0, 0, 5, 703, 120) (2, 7, 0, 0, 0)))))) (cond (Nat.blt a 139) (cond (Nat.blt a 132) (cond (Nat.blt a 129) (cond (Nat.blt a 127) (0, 0, 36, 700, 125) (cond (Nat.blt a 128) (0, 0, 36, 701, 125) (0, 0, 5, 702, 125))) (cond (Nat.blt a 130) (0, 0, 5, 703, 125) (cond (Nat.blt a 131) (2, 7, 0, 0, 0) (0, 0, 36, 700, 130)))) (cond (Nat.blt a 135) (cond (Nat.blt a 133) (0, 0, 36, 701, 130) (cond (Nat.blt a 134) (0, 0, 5, 702, 130) (0, 0, 5, 703, 130))) (cond (Nat.blt a 137) (cond (Nat.blt a 136) (2, 7, 0, 0, 0) (0, 0, 36, 700, 135)) (cond (Nat.blt a 138) (0, 0, 36, 701, 135) (0, 0, 5, 702, 135))))) (cond (Nat.blt a 145) (cond (Nat.blt a 142) (cond (Nat.blt a 140) (0, 0, 5, 703, 135) (cond (Nat.blt a 141) (0, 0, 0, 1301, 140) (2, 2, 0, 0, 0))) (cond (Nat.blt a 143) (0, 0, 64, 200, 141) (cond (Nat.blt a 144) (0, 0, 6, 201, 141) (2, 10, 0, 0, 0)))) (cond (Nat.blt a 148) (cond (Nat.blt a 146) (0, 0, 36, 1000, 144) (cond (Nat.blt a 147) (0, 0, 36, 1001, 144) (0, 0, 36, 1002, 144))) (cond (Nat.blt a 150) (cond (Nat.blt a 149) (0, 0, 37, 1003, 144) (0, 0, 36, 1005, 144)) (cond (Nat.blt a 151) (0, 1, 36, 1007, 144) (2, 0, 0, 0, 0))))))) (cond (Nat.blt a 177) (cond (Nat.blt a 164) (cond (Nat.blt a 158) (cond (Nat.blt a 155) (cond (Nat.blt a 153) (0, 0, 144, 1, 151) (cond (Nat.blt a 154) (0, 0, 72, 2, 151) (0, 0, 72, 3, 151))) (cond (Nat.blt a 156) (2, 9, 0, 0, 0) (cond (Nat.blt a 157) (0, 1, 31, 900, 155) (0, 1, 31, 901, 155)))) (cond (Nat.blt a 161) (cond (Nat.blt a 159) (0, 1, 31, 902, 155) (cond (Nat.blt a 160) (0, 1, 1116, 903, 155) (2, 10, 0, 0, 0))) (cond (Nat.blt a 162) (0, 0, 36, 1000, 160) (cond (Nat.blt a 163) (0, 0, 36, 1001, 160) (0, 0, 36, 1002, 160))))) (cond (Nat.blt a 170) (cond (Nat.blt a 167) (cond (Nat.blt a 165) (0, 0, 37, 1003, 160) (cond (Nat.blt a 166) (0, 0, 36, 1005, 160) (0, 1, 36, 1007, 160))) (cond (Nat.blt a 168) (2, 6, 0, 0, 0) (cond (Nat.blt a 169) (2, 10, 0, 0, 0) (0, 0, 36, 1000, 168)))) (cond (Nat.blt a 173) (cond (Nat.blt a 171) (0, 0, 36, 1001, 168) (cond (Nat.blt a 172) (0, 0, 36, 1002, 168) (0, 0, 37, 1003, 168))) (cond (Nat.blt a 175) (cond (Nat.blt a 174) (0, 0, 36, 1005, 168) (0, 1, 36, 1007, 168)) (cond (Nat.blt a 176) (0, 0, 20, 601, 167) (0, 0, 4, 602, 167)))))) (cond (Nat.blt a 190) (cond (Nat.blt a 183) (cond (Nat.blt a 180) (cond (Nat.blt a 178) (0, 0, 4, 603, 167) (cond (Nat.blt a 179) (0, 0, 4, 609, 167) (2, 1, 0, 0, 0))) (cond (Nat.blt a 181) (2, 10, 0, 0, 0) (cond (Nat.blt a 182) (0, 0, 36, 1000, 180) (0, 0, 36, 1001, 180)))) (cond (Nat.blt a 186) (cond (Nat.blt a 184) (0, 0, 36, 1002, 180) (cond (Nat.blt a 185) (0, 0, 37, 1003, 180) (0, 0, 36, 1005, 180))) (cond (Nat.blt a 188) (cond (Nat.blt a 187) (0, 1, 36, 1007, 180) (2, 2, 0, 0, 0)) (cond (Nat.blt a 189) (0, 0, 64, 200, 187) (0, 0, 6, 201, 187))))) (cond (Nat.blt a 196) (cond (Nat.blt a 193) (cond (Nat.blt a 191) (2, 8, 0, 0, 0) (cond (Nat.blt a 192) (2, 4, 0, 0, 0) (0, 0, 5, 406, 191))) (cond (Nat.blt a 194) (0, 0, 20, 407, 191) (cond (Nat.blt a 195) (0, 0, 20, 408, 191) (2, 3, 0, 0, 0)))) (cond (Nat.blt a 199) (cond (Nat.blt a 197) (0, 0, 900, 300, 195) (cond (Nat.blt a 198) (0, 0, 144, 410, 191) (2, 7, 0, 0, 0))) (cond (Nat.blt a 201) (cond (Nat.blt a 200) (0, 0, 36, 700, 198) (0, 0, 36, 701, 198)) (cond (Nat.blt a 202) (0, 0, 5, 702, 198) (0, 0, 5, 703, 198))))))))) (cond (Nat.blt a 304) (cond (Nat.blt a 253) (cond (Nat.blt a 228) (cond (Nat.blt a 215) (cond (Nat.blt a 209) (cond (Nat.blt a 206) (cond (Nat.blt a 204) (1, 3, 10, 204, 5) (cond (Nat.blt a 205) (2, 7, 0, 0, 0) (0, 0, 36, 700, 204))) (cond (Nat.blt a 207) (0, 0, 36, 701, 204) (cond (Nat.blt a 208) (0, 0, 5, 702, 204) (0, 0, 5, 703, 204)))) (cond (Nat.blt a 212) (cond (Nat.blt a 210) (2, 7, 0, 0, 0) (cond (Nat.blt a 211) (0, 0, 36, 700, 209) (0, 0, 36, 701, 209))) (cond (Nat.blt a 213) (0, 0, 5, 702, 209) (cond (Nat.blt a 214) (0, 0, 5, 703, 209) (2, 7, 0, 0, 0))))) (cond (Nat.blt a 221) (cond (Nat.blt a 218) (cond (Nat.blt a 216) (0, 0, 36, 700, 214) (cond (Nat.blt a 217) (0, 0, 36, 701, 214) (0, 0, 5, 702, 214))) (cond (Nat.blt a 219) (0, 0, 5, 703, 214) (cond (Nat.blt a 220) (2, 7, 0, 0, 0) (0, 0, 36, 700, 219)))) (cond (Nat.blt a 224) (cond (Nat.blt a 222) (0, 0, 36, 701, 219) (cond (Nat.blt a 223) (0, 0, 5, 702, 219) (0, 0, 5, 703, 219))) (cond (Nat.blt a 226) (cond (Nat.blt a 225) (2, 7, 0, 0, 0) (0, 0, 36, 700, 224)) (cond (Nat.blt a 227) (0, 0, 36, 701, 224) (0, 0, 5, 702, 224)))))) (cond (Nat.blt a 240) (cond (Nat.blt a 234) (cond (Nat.blt a 231) (cond (Nat.blt a 229) (0, 0, 5, 703, 224) (cond (Nat.blt a 230) (2, 7, 0, 0, 0) (0, 0, 36, 700, 229))) (cond (Nat.blt a 232) (0, 0, 36, 701, 229) (cond (Nat.blt a 233) (0, 0, 5, 702, 229) (0, 0, 5, 703, 229)))) (cond (Nat.blt a 237) (cond (Nat.blt a 235) (2, 7, 0, 0, 0) (cond (Nat.blt a 236) (0, 0, 36, 700, 234) (0, 0, 36, 701, 234))) (cond (Nat.blt a 238) (0, 0, 5, 702, 234) (cond (Nat.blt a 239) (0, 0, 5, 703, 234) (2, 7, 0, 0, 0))))) (cond (Nat.blt a 246) (cond (Nat.blt a 243) (cond (Nat.blt a 241) (0, 0, 36, 700, 239) (cond (Nat.blt a 242) (0, 0, 36, 701, 239) (0, 0, 5, 702, 239))) (cond (Nat.blt a 244) (0, 0, 5, 703, 239) (cond (Nat.blt a 245) (2, 7, 0, 0, 0) (0, 0, 36, 700, 244)))) (cond (Nat.blt a 249) (cond (Nat.blt a 247) (0, 0, 36, 701, 244) (cond (Nat.blt a 248) (0, 0, 5, 702, 244) (0, 0, 5, 703, 244))) (cond (Nat.blt a 251) (cond (Nat.blt a 250) (2, 7, 0, 0, 0) (0, 0, 36, 700, 249)) (cond (Nat.blt a 252) (0, 0, 36, 701, 249) (0, 0, 5, 702, 249))))))) (cond (Nat.blt a 278) (cond (Nat.blt a 265) (cond (Nat.blt a 259) (cond (Nat.blt a 256) (cond (Nat.blt a 254) (0, 0, 5, 703, 249) (cond (Nat.blt a 255) (2, 8, 0, 0, 0) (2, 4, 0, 0, 0))) (cond (Nat.blt a 257) (0, 0, 5, 406, 255) (cond (Nat.blt a 258) (0, 0, 20, 407, 255) (0, 0, 20, 408, 255)))) (cond (Nat.blt a 262) (cond (Nat.blt a 260) (2, 3, 0, 0, 0) (cond (Nat.blt a 261) (0, 0, 900, 300, 259) (0, 0, 144, 410, 255))) (cond (Nat.blt a 263) (2, 7, 0, 0, 0) (cond (Nat.blt a 264) (0, 0, 36, 700, 262) (0, 0, 36, 701, 262))))) (cond (Nat.blt a 271) (cond (Nat.blt a 268) (cond (Nat.blt a 266) (0, 0, 5, 702, 262) (cond (Nat.blt a 267) (0, 0, 5, 703, 262) (1, 3, 10, 268, 5))) (cond (Nat.blt a 269) (2, 7, 0, 0, 0) (cond (Nat.blt a 270) (0, 0, 36, 700, 268) (0, 0, 36, 701, 268)))) (cond (Nat.blt a 274) (cond (Nat.blt a 272) (0, 0, 5, 702, 268) (cond (Nat.blt a 273) (0, 0, 5, 703, 268) (2, 7, 0, 0, 0))) (cond (Nat.blt a 276) (cond (Nat.blt a 275) (0, 0, 36, 700, 273) (0, 0, 36, 701, 273)) (cond (Nat.blt a 277) (0, 0, 5, 702, 273) (0, 0, 5, 703, 273)))))) (cond (Nat.blt a 291) (cond (Nat.blt a 284) (cond (Nat.blt a 281) (cond (Nat.blt a 279) (2, 7, 0, 0, 0) (cond (Nat.blt a 280) (0, 0, 36, 700, 278) (0, 0, 36, 701, 278))) (cond (Nat.blt a 282) (0, 0, 5, 702, 278) (cond (Nat.blt a 283) (0, 0, 5, 703, 278) (2, 7, 0, 0, 0)))) (cond (Nat.blt a 287) (cond (Nat.blt a 285) (0, 0, 36, 700, 283) (cond (Nat.blt a 286) (0, 0, 36, 701, 283) (0, 0, 5, 702, 283))) (cond (Nat.blt a 289) (cond (Nat.blt a 288) (0, 0, 5, 703, 283) (2, 7, 0, 0, 0)) (cond (Nat.blt a 290) (0, 0, 36, 700, 288) (0, 0, 36, 701, 288))))) (cond (Nat.blt a 297) (cond (Nat.blt a 294) (cond (Nat.blt a 292) (0, 0, 5, 702, 288) (cond (Nat.blt a 293) (0, 0, 5, 703, 288) (2, 7, 0, 0, 0))) (cond (Nat.blt a 295) (0, 0, 36, 700, 293) (cond (Nat.blt a 296) (0, 0, 36, 701, 293) (0, 0, 5, 702, 293)))) (cond (Nat.blt a 300) (cond (Nat.blt a 298) (0, 0, 5, 703, 293) (cond (Nat.blt a 299) (2, 7, 0, 0, 0) (0, 0, 36, 700, 298))) (cond (Nat.blt a 302) (cond (Nat.blt a 301) (0, 0, 36, 701, 298) (0, 0, 5, 702, 298)) (cond (Nat.blt a 303) (0, 0, 5, 703, 298) (2, 7, 0, 0, 0)))))))) (cond (Nat.blt a 355) (cond (Nat.blt a 329) (cond (Nat.blt a 316) (cond (Nat.blt a 310) (cond (Nat.blt a 307) (cond (Nat.blt a 305) (0, 0, 36, 700, 303) (cond (Nat.blt a 306) (0, 0, 36, 701, 303) (0, 0, 5, 702, 303))) (cond (Nat.blt a 308) (0, 0, 5, 703, 303) (cond (Nat.blt a 309) (2, 7, 0, 0, 0) (0, 0, 36, 700, 308)))) (cond (Nat.blt a 313) (cond (Nat.blt a 311) (0, 0, 36, 701, 308) (cond (Nat.blt a 312) (0, 0, 5, 702, 308) (0, 0, 5, 703, 308))) (cond (Nat.blt a 314) (2, 7, 0, 0, 0) (cond (Nat.blt a 315) (0, 0, 36, 700, 313) (0, 0, 36, 701, 313))))) (cond (Nat.blt a 322) (cond (Nat.blt a 319) (cond (Nat.blt a 317) (0, 0, 5, 702, 313) (cond (Nat.blt a 318) (0, 0, 5, 703, 313) (2, 8, 0, 0, 0))) (cond (Nat.blt a 320) (2, 4, 0, 0, 0) (cond (Nat.blt a 321) (0, 0, 5, 406, 319) (0, 0, 20, 407, 319)))) (cond (Nat.blt a 325) (cond (Nat.blt a 323) (0, 0, 20, 408, 319) (cond (Nat.blt a 324) (2, 3, 0, 0, 0) (0, 0, 900, 300, 323))) (cond (Nat.blt a 327) (cond (Nat.blt a 326) (0, 0, 144, 410, 319) (2, 7, 0, 0, 0)) (cond (Nat.blt a 328) (0, 0, 36, 700, 326) (0, 0, 36, 701, 326)))))) (cond (Nat.blt a 342) (cond (Nat.blt a 335) (cond (Nat.blt a 332) (cond (Nat.blt a 330) (0, 0, 5, 702, 326) (cond (Nat.blt a 331) (0, 0, 5, 703, 326) (1, 3, 10, 332, 5))) (cond (Nat.blt a 333) (2, 7, 0, 0, 0) (cond (Nat.blt a 334) (0, 0, 36, 700, 332) (0, 0, 36, 701, 332)))) (cond (Nat.blt a 338) (cond (Nat.blt a 336) (0, 0, 5, 702, 332) (cond (Nat.blt a 337) (0, 0, 5, 703, 332) (2, 7, 0, 0, 0))) (cond (Nat.blt a 340) (cond (Nat.blt a 339) (0, 0, 36, 700, 337) (0, 0, 36, 701, 337)) (cond (Nat.blt a 341) (0, 0, 5, 702, 337) (0, 0, 5, 703, 337))))) (cond (Nat.blt a 348) (cond (Nat.blt a 345) (cond (Nat.blt a 343) (2, 7, 0, 0, 0) (cond (Nat.blt a 344) (0, 0, 36, 700, 342) (0, 0, 36, 701, 342))) (cond (Nat.blt a 346) (0, 0, 5, 702, 342) (cond (Nat.blt a 347) (0, 0, 5, 703, 342) (2, 7, 0, 0, 0)))) (cond (Nat.blt a 351) (cond (Nat.blt a 349) (0, 0, 36, 700, 347) (cond (Nat.blt a 350) (0, 0, 36, 701, 347) (0, 0, 5, 702, 347))) (cond (Nat.blt a 353) (cond (Nat.blt a 352) (0, 0, 5, 703, 347) (2, 7, 0, 0, 0)) (cond (Nat.blt a 354) (0, 0, 36, 700, 352) (0, 0, 36, 701, 352))))))) (cond (Nat.blt a 380) (cond (Nat.blt a 367) (cond (Nat.blt a 361) (cond (Nat.blt a 358) (cond (Nat.blt a 356) (0, 0, 5, 702, 352) (cond (Nat.blt a 357) (0, 0, 5, 703, 352) (2, 7, 0, 0, 0))) (cond (Nat.blt a 359) (0, 0, 36, 700, 357) (cond (Nat.blt a 360) (0, 0, 36, 701, 357) (0, 0, 5, 702, 357)))) (cond (Nat.blt a 364) (cond (Nat.blt a 362) (0, 0, 5, 703, 357) (cond (Nat.blt a 363) (2, 7, 0, 0, 0) (0, 0, 36, 700, 362))) (cond (Nat.blt a 365) (0, 0, 36, 701, 362) (cond (Nat.blt a 366) (0, 0, 5, 702, 362) (0, 0, 5, 703, 362))))) (cond (Nat.blt a 373) (cond (Nat.blt a 370) (cond (Nat.blt a 368) (2, 7, 0, 0, 0) (cond (Nat.blt a 369) (0, 0, 36, 700, 367) (0, 0, 36, 701, 367))) (cond (Nat.blt a 371) (0, 0, 5, 702, 367) (cond (Nat.blt a 372) (0, 0, 5, 703, 367) (2, 7, 0, 0, 0)))) (cond (Nat.blt a 376) (cond (Nat.blt a 374) (0, 0, 36, 700, 372) (cond (Nat.blt a 375) (0, 0, 36, 701, 372) (0, 0, 5, 702, 372))) (cond (Nat.blt a 378) (cond (Nat.blt a 377) (0, 0, 5, 703, 372) (2, 7, 0, 0, 0)) (cond (Nat.blt a 379) (0, 0, 36, 700, 377) (0, 0, 36, 701, 377)))))) (cond (Nat.blt a 393) (cond (Nat.blt a 386) (cond (Nat.blt a 383) (cond (Nat.blt a 381) (0, 0, 5, 702, 377) (cond (Nat.blt a 382) (0, 0, 5, 703, 377) (2, 12, 0, 0, 0))) (cond (Nat.blt a 384) (0, 0, 1900, 1200, 382) (cond (Nat.blt a 385) (0, 0, 1900, 1201, 382) (0, 0, 5700, 1202, 382)))) (cond (Nat.blt a 389) (cond (Nat.blt a 387) (0, 2, 3, 1203, 382) (cond (Nat.blt a 388) (0, 0, 900, 1205, 382) (0, 0, 64, 1217, 382))) (cond (Nat.blt a 391) (cond (Nat.blt a 390) (0, 2, 36, 1218, 382) (0, 0, 36, 1219, 382)) (cond (Nat.blt a 392) (0, 0, 36, 1220, 382) (0, 0, 36, 1221, 382))))) (cond (Nat.blt a 399) (cond (Nat.blt a 396) (cond (Nat.blt a 394) (0, 0, 85, 1222, 382) (cond (Nat.blt a 395) (0, 0, 36, 1224, 382) (0, 1, 36, 1225, 382))) (cond (Nat.blt a 397) (0, 0, 36, 1226, 382) (cond (Nat.blt a 398) (0, 0, 1332, 1227, 382) (0, 0, 4, 1228, 382)))) (cond (Nat.blt a 402) (cond (Nat.blt a 400) (0, 0, 4, 1229, 382) (cond (Nat.blt a 401) (0, 1, 1116, 1235, 382) (0, 1, 1116, 1236, 382))) (cond (Nat.blt a 404) (cond (Nat.blt a 403) (0, 0, 4, 1237, 382) (0, 0, 4, 1238, 382)) (cond (Nat.blt a 405) (0, 1, 160, 1239, 382) (0, 1, 1, 1300, 405)))))))))) (9, 0, 0, 0, 0)
/-- a thing of a kind stands at a place -/
def ob (ci a : Nat) : Prop := sh a = (2, ci, 0, 0, 0)
def offT : List (Nat × Nat) := [(1, 1), (2, 2), (3, 3), (200, 1), (201, 2), (300, 1), (406, 1), (407, 2), (408, 3), (410, 6), (601, 8), (602, 9), (603, 10), (609, 11), (700, 1), (701, 2), (702, 3), (703, 4), (802, 13), (900, 1), (901, 2), (902, 3), (903, 4), (1000, 1), (1001, 2), (1002, 3), (1003, 4), (1005, 5), (1007, 6), (1100, 1), (1105, 66), (1107, 72), (1108, 73), (1109, 74), (1200, 1), (1201, 2), (1202, 3), (1203, 4), (1205, 5), (1217, 6), (1218, 7), (1219, 8), (1220, 9), (1221, 10), (1222, 11), (1224, 12), (1225, 13), (1226, 14), (1227, 15), (1228, 16), (1229, 17), (1235, 18), (1236, 19), (1237, 20), (1238, 21), (1239, 22), (1300, 0), (1301, 0)]
def off (t : Nat) : Nat := (cond (Nat.blt t 1100) (cond (Nat.blt t 700) (cond (Nat.blt t 407) (cond (Nat.blt t 200) (cond (Nat.blt t 2) 1 (cond (Nat.blt t 3) 2 3)) (cond (Nat.blt t 300) (cond (Nat.blt t 201) 1 2) (cond (Nat.blt t 406) 1 1))) (cond (Nat.blt t 601) (cond (Nat.blt t 408) 2 (cond (Nat.blt t 410) 3 6)) (cond (Nat.blt t 603) (cond (Nat.blt t 602) 8 9) (cond (Nat.blt t 609) 10 11)))) (cond (Nat.blt t 902) (cond (Nat.blt t 703) (cond (Nat.blt t 701) 1 (cond (Nat.blt t 702) 2 3)) (cond (Nat.blt t 900) (cond (Nat.blt t 802) 4 13) (cond (Nat.blt t 901) 1 2))) (cond (Nat.blt t 1002) (cond (Nat.blt t 1000) (cond (Nat.blt t 903) 3 4) (cond (Nat.blt t 1001) 1 2)) (cond (Nat.blt t 1005) (cond (Nat.blt t 1003) 3 4) (cond (Nat.blt t 1007) 5 6))))) (cond (Nat.blt t 1221) (cond (Nat.blt t 1202) (cond (Nat.blt t 1108) (cond (Nat.blt t 1105) 1 (cond (Nat.blt t 1107) 66 72)) (cond (Nat.blt t 1200) (cond (Nat.blt t 1109) 73 74) (cond (Nat.blt t 1201) 1 2))) (cond (Nat.blt t 1217) (cond (Nat.blt t 1203) 3 (cond (Nat.blt t 1205) 4 5)) (cond (Nat.blt t 1219) (cond (Nat.blt t 1218) 6 7) (cond (Nat.blt t 1220) 8 9)))) (cond (Nat.blt t 1229) (cond (Nat.blt t 1225) (cond (Nat.blt t 1222) 10 (cond (Nat.blt t 1224) 11 12)) (cond (Nat.blt t 1227) (cond (Nat.blt t 1226) 13 14) (cond (Nat.blt t 1228) 15 16))) (cond (Nat.blt t 1238) (cond (Nat.blt t 1236) (cond (Nat.blt t 1235) 17 18) (cond (Nat.blt t 1237) 19 20)) (cond (Nat.blt t 1300) (cond (Nat.blt t 1239) 21 22) (cond (Nat.blt t 1301) 0 0))))))
/-- where the array of a field lies -/
def A (t o : Nat) : Nat := o + off t
def FD (ci : Nat) : List (Nat × Nat) := match ci with
  | 0 => [(1, 0), (2, 1), (2, 2), (2, 3), (0, 4)]
  | 1 => [(2, 1), (2, 8), (0, 102)]
  | 2 => [(2, 1), (2, 2)]
  | 3 => [(2, 1), (0, 301)]
  | 4 => [(0, 400), (0, 401), (0, 402), (0, 403), (0, 404), (0, 405), (2, 1), (2, 2), (2, 3), (2, 4), (2, 6), (1, 411), (1, 412), (1, 413)]
  | 5 => [(0, 500), (0, 501), (2, 1), (2, 2), (2, 9), (3, 505), (0, 506), (0, 507), (0, 508), (0, 509), (0, 510)]
  | 6 => [(2, 1), (2, 8), (2, 9), (2, 10), (0, 604), (0, 605), (0, 606), (0, 607), (0, 608), (2, 11), (0, 610), (0, 611)]
  | 7 => [(2, 1), (2, 2), (2, 3), (2, 4), (0, 704), (0, 705), (0, 706)]
  | 8 => [(2, 1), (2, 8), (2, 13), (0, 803), (0, 804), (0, 805)]
  | 9 => [(2, 1), (2, 2), (2, 3), (2, 4), (2, 5), (0, 905), (0, 906), (0, 907)]
  | 10 => [(2, 1), (2, 2), (2, 3), (2, 4), (1, 1004), (2, 5), (0, 1006), (2, 6)]
  | 11 => [(2, 1), (0, 1101), (0, 1102), (0, 1103), (2, 2), (2, 66), (2, 67), (2, 72), (2, 73), (2, 74), (2, 75), (2, 141), (2, 144), (2, 151), (2, 155), (2, 167), (2, 179)]
  | _ => [(2, 1), (2, 2), (2, 3), (2, 4), (0, 1204), (2, 5), (0, 1206), (0, 1207), (0, 1208), (0, 1209), (0, 1210), (0, 1211), (0, 1212), (0, 1213), (0, 1214), (0, 1215), (0, 1216), (2, 6), (2, 7), (2, 8), (2, 9), (2, 10), (2, 11), (0, 1223), (2, 12), (2, 13), (2, 14), (2, 15), (2, 16), (2, 17), (0, 1230), (0, 1231), (0, 1232), (0, 1233), (0, 1234), (2, 18), (2, 19), (2, 20), (2, 21), (2, 22)]
def i32 (z : Int) : Int32 := Int32.ofInt z
def i64 (z : Int) : Int64 := Int64.ofInt z
/-- what the cells hold: by field, owner, place -/
abbrev St : Type := Nat → Nat → Int → Int
def upA (σ : St) (t o : Nat) (f : Int → Int) : St := fun t' o' => if t' = t ∧ o' = o then f else σ t' o'
def fu (f : Int → Int) (z v : Int) : Int → Int := fun z' => if z' = z then v else f z'
def fv (σ : St) (a : Nat) (f : Nat × Nat) : Value := match f.1 with
  | 0 => .int (i32 (σ f.2 a 0))
  | 1 => .long (i64 (σ f.2 a 0))
  | 2 => .ref (a + f.2)
  | _ => .ref (σ f.2 a 0).toNat
def ce (σ : St) (a : Nat) (s : Sh) : Option vmC := match s.1 with
  | 0 => (match s.2.1 with
    | 1 => some (.inl (1, s.2.2.1, .inr (.inl fun i => i64 (σ s.2.2.2.1 s.2.2.2.2 i))))
    | ty => some (.inl (ty, s.2.2.1, .inl fun i => i32 (σ s.2.2.2.1 s.2.2.2.2 i))))
  | 1 => some (.inl (s.2.1, s.2.2.1, .inr (.inr (.inr (.inr fun i => if i < s.2.2.1 then some (s.2.2.2.1 + s.2.2.2.2 * i) else none)))))
  | 2 => some (.inr (s.2.1, (FD s.2.1).map (fv σ a)))
  | _ => none
/-- cells, slots, no throw yet, the script's length, the script -/
abbrev Tt : Type := Nat × Nat × Bool × Nat × (Nat → Int)
def xt (T : Tt) (k : Nat) : Option vmC :=
  if k < 2000000 then (if (k - 1000000) / 2 < vmTxs.length then (if k % 2 = 0 then some (.inr (20, [.ref (k + 1), .int 0])) else some (.inl (5, (vmByt ((k - 1000000) / 2)).length, .inl fun j => (vmByt ((k - 1000000) / 2)).getD j 0))) else none)
  else if k = 2000000 then some (.inl (0, T.2.2.2.1, .inl fun j => i32 (T.2.2.2.2 j))) else none
/-- the heap of a store -/
def E (T : Tt) (σ : St) : vmH := (T.1, T.2.1, T.2.2.1, fun a => if a < 406 then ce σ a (sh a) else if a < 1000000 then none else xt T a)
/-- a throw's mark -/
def thr (T : Tt) : Tt := (T.1 + 1, T.2.1 + 6, false, T.2.2.2)
theorem upA_s {σ : St} {t o : Nat} {f : Int → Int} : upA σ t o f t o = f := by unfold upA; rw [if_pos ⟨rfl, rfl⟩]
theorem upA_t {σ : St} {t o t' o' : Nat} {f : Int → Int} (h : t' ≠ t) : upA σ t o f t' o' = σ t' o' := by unfold upA; rw [if_neg (fun z => h z.1)]
theorem upA_o {σ : St} {t o t' o' : Nat} {f : Int → Int} (h : o' ≠ o) : upA σ t o f t' o' = σ t' o' := by unfold upA; rw [if_neg (fun z => h z.2)]
theorem upA_upA {σ : St} {t o : Nat} {f g : Int → Int} : upA (upA σ t o f) t o g = upA σ t o g := by
  funext t' o'
  unfold upA
  by_cases h : t' = t ∧ o' = o
  · rw [if_pos h, if_pos h]
  · rw [if_neg h, if_neg h, if_neg h]
theorem upA_self {σ : St} {t o : Nat} : upA σ t o (σ t o) = σ := by
  funext t' o'
  unfold upA
  by_cases h : t' = t ∧ o' = o
  · rw [if_pos h, h.1, h.2]
  · rw [if_neg h]
theorem upA_comm {σ : St} {t o t' o' : Nat} {f g : Int → Int} (h : t ≠ t' ∨ o ≠ o') : upA (upA σ t o f) t' o' g = upA (upA σ t' o' g) t o f := by
  funext a b
  unfold upA
  by_cases h1 : a = t ∧ b = o <;> by_cases h2 : a = t' ∧ b = o'
  · exfalso; obtain ⟨rfl, rfl⟩ := h1; obtain ⟨rfl, rfl⟩ := h2; rcases h with h | h <;> exact h rfl
  · rw [if_neg h2, if_pos h1, if_pos h1]
  · rw [if_pos h2, if_neg h1, if_pos h2]
  · rw [if_neg h2, if_neg h1, if_neg h1, if_neg h2]
theorem fu_s {f : Int → Int} {z v : Int} : fu f z v z = v := by unfold fu; rw [if_pos rfl]
theorem fu_n {f : Int → Int} {z v w : Int} (h : w ≠ z) : fu f z v w = f w := by unfold fu; rw [if_neg h]
theorem i32_toInt (x : Int32) : i32 x.toInt = x := Int32.ofInt_toInt x
theorem i64_toInt (x : Int64) : i64 x.toInt = x := Int64.ofInt_toInt x
theorem sh_lt {a : Nat} (h : (sh a).1 ≠ 9) : a < 406 := by
  by_cases hc : a < 406
  · exact hc
  · exfalso
    apply h
    have hb : Nat.blt a 406 = false := by
      rw [← Bool.not_eq_true, Nat.blt_eq]
      exact hc
    unfold sh
    rw [hb]
    rfl
def shq (a b : Sh) : Bool := Nat.beq a.1 b.1 && (Nat.beq a.2.1 b.2.1 && (Nat.beq a.2.2.1 b.2.2.1 && (Nat.beq a.2.2.2.1 b.2.2.2.1 && Nat.beq a.2.2.2.2 b.2.2.2.2)))
theorem shq_eq {a b : Sh} (h : shq a b = true) : a = b := by
  obtain ⟨a1, a2, a3, a4, a5⟩ := a
  obtain ⟨b1, b2, b3, b4, b5⟩ := b
  simp only [shq, Bool.and_eq_true, Nat.beq_eq] at h
  obtain ⟨rfl, rfl, rfl, rfl, rfl⟩ := h
  rfl
theorem shq_rf (a : Sh) : shq a a = true := by
  obtain ⟨a1, a2, a3, a4, a5⟩ := a
  simp [shq]
theorem sh_all {ci t : Nat} {X : Nat → Sh} (h : (List.range 406).all (fun o => !shq (sh o) (2, ci, 0, 0, 0) || shq (sh (A t o)) (X o)) = true) : ∀ o, ob ci o → sh (A t o) = X o := by
  intro o ho
  have ho' : sh o = (2, ci, 0, 0, 0) := ho
  have := List.all_eq_true.mp h o (List.mem_range.mpr (sh_lt (by rw [ho']; show (2 : Nat) ≠ 9; decide)))
  rw [ho', shq_rf] at this
  exact shq_eq (by simpa using this)
theorem sh_u1 : ∀ a, a < 406 → (sh a).1 = 0 → A (sh a).2.2.2.1 (sh a).2.2.2.2 = a := by decide +kernel
theorem sh_u2 : ∀ a, a < 406 → (sh a).1 = 0 → (sh a).2.2.2.1 ∈ offT.map (fun q => q.1) := by decide +kernel
theorem sh_u3 : ∀ ci, ci < 13 → ∀ f ∈ FD ci, ∀ t ∈ offT.map (fun q => q.1), f.1 = 2 ∨ f.2 ≠ t := by decide +kernel
theorem sh_u4 : ∀ a, a < 406 → (sh a).1 = 2 → (sh a).2.1 < 13 := by decide +kernel
theorem sh_u7 : ∀ a, a < 406 → (sh a).2.2.1 < 6000 := by decide +kernel
theorem sh_u5 : (List.range 13).all (fun ci => (List.range (FD ci).length).all fun i => (List.range (FD ci).length).all fun j => Nat.beq i j || (Nat.beq ((FD ci).getD i (2, 0)).1 2 || (Nat.beq ((FD ci).getD j (2, 0)).1 2 || !Nat.beq ((FD ci).getD i (2, 0)).2 ((FD ci).getD j (2, 0)).2))) = true := by decide +kernel
theorem sh_u6 {ci i j : Nat} (hc : ci < 13) (hi : i < (FD ci).length) (hj : j < (FD ci).length) (hne : i ≠ j) : ((FD ci).getD i (2, 0)).1 = 2 ∨ ((FD ci).getD j (2, 0)).1 = 2 ∨ ((FD ci).getD i (2, 0)).2 ≠ ((FD ci).getD j (2, 0)).2 := by
  have := List.all_eq_true.mp (List.all_eq_true.mp (List.all_eq_true.mp sh_u5 ci (List.mem_range.mpr hc)) i (List.mem_range.mpr hi)) j (List.mem_range.mpr hj)
  simp only [Bool.or_eq_true, Nat.beq_eq, Bool.not_eq_true', ← Bool.not_eq_true] at this
  rcases this with h | h | h | h
  · exact absurd h hne
  · exact Or.inl h
  · exact Or.inr (Or.inl h)
  · exact Or.inr (Or.inr h)
theorem fv_up {σ : St} {t o a : Nat} {f : Int → Int} {g : Nat × Nat} (h : g.1 = 2 ∨ g.2 ≠ t ∨ a ≠ o) : fv (upA σ t o f) a g = fv σ a g := by
  unfold fv
  rcases h with h | h
  · rw [h]; rfl
  · have : upA σ t o f g.2 a = σ g.2 a := by
      rcases h with h | h
      · exact upA_t h
      · exact upA_o h
    rw [this]
theorem ce_up {σ : St} {t o b : Nat} {f : Int → Int} {s : Sh} (h1 : s.1 = 0 → s.2.2.2.1 ≠ t ∨ s.2.2.2.2 ≠ o) (h2 : s.1 = 2 → ∀ g ∈ FD s.2.1, g.1 = 2 ∨ g.2 ≠ t ∨ b ≠ o) : ce (upA σ t o f) b s = ce σ b s := by
  obtain ⟨k, a1, a2, a3, a4⟩ := s
  dsimp only at h1 h2
  unfold ce
  dsimp only
  split
  · have : upA σ t o f a3 a4 = σ a3 a4 := by
      rcases h1 rfl with h | h
      · exact upA_t h
      · exact upA_o h
    rw [this]
  · rfl
  · rw [List.map_congr_left (fun g hg => fv_up (h2 rfl g hg))]
  · rfl
theorem E_at {T : Tt} {σ : St} {a : Nat} {s : Sh} (h : sh a = s) (hs : s.1 ≠ 9) : (E T σ).2.2.2 a = ce σ a s := by
  have : a < 406 := sh_lt (by rw [h]; exact hs)
  show (if a < 406 then ce σ a (sh a) else _) = _
  rw [if_pos this, h]
theorem E_upd {T : Tt} {σ : St} {a t o : Nat} {f : Int → Int} {c : vmC} (ha : a < 406) (hc : ce (upA σ t o f) a (sh a) = some c) (hn : ∀ b, b < 406 → b ≠ a → ce (upA σ t o f) b (sh b) = ce σ b (sh b)) : vmSet (E T σ) a c = E T (upA σ t o f) := by
  unfold vmSet E
  dsimp only
  congr 1
  congr 1
  congr 1
  funext b
  unfold vmUp
  by_cases hb : b = a
  · subst hb
    rw [if_pos rfl, if_pos ha, hc]
  · rw [if_neg hb]
    dsimp only
    by_cases hb2 : b < 406
    · rw [if_pos hb2, if_pos hb2, hn b hb2 hb]
    · rw [if_neg hb2, if_neg hb2]
theorem E_setA {T : Tt} {σ : St} {t o : Nat} {f : Int → Int} {c : vmC} {ty n : Nat} (hs : sh (A t o) = (0, ty, n, t, o)) (hc : ce (upA σ t o f) (A t o) (0, ty, n, t, o) = some c) : vmSet (E T σ) (A t o) c = E T (upA σ t o f) := by
  have ha : A t o < 406 := sh_lt (by rw [hs]; show (0 : Nat) ≠ 9; decide)
  have ht : t ∈ offT.map (fun q => q.1) := by have := sh_u2 _ ha (by rw [hs]); rwa [hs] at this
  refine E_upd ha (by rw [hs]; exact hc) fun b hb hne => ce_up (fun h0 => ?_) (fun h2 g hg => ?_)
  · have := sh_u1 b hb h0
    by_cases h1 : (sh b).2.2.2.1 = t
    · by_cases h3 : (sh b).2.2.2.2 = o
      · rw [h1, h3] at this; exact absurd this.symm hne
      · exact Or.inr h3
    · exact Or.inl h1
  · rcases sh_u3 _ (sh_u4 b hb h2) g hg t ht with h | h
    · exact Or.inl h
    · exact Or.inr (Or.inl h)
theorem E_setF {T : Tt} {σ : St} {a ci c tag k : Nat} {v : Int} {w : Value} (hs : ob ci a) (hf : (FD ci)[c]? = some (k, tag)) (hk : k ≠ 2) (hw : fv (upA σ tag a fun _ => v) a (k, tag) = w) : vmSet (E T σ) a (.inr (ci, ((FD ci).map (fv σ a)).set c w)) = E T (upA σ tag a fun _ => v) := by
  have hs' : sh a = (2, ci, 0, 0, 0) := hs
  have ha : a < 406 := sh_lt (by rw [hs']; show (2 : Nat) ≠ 9; decide)
  have hci : ci < 13 := by have := sh_u4 a ha (by rw [hs']); rwa [hs'] at this
  have hcl : c < (FD ci).length := by
    rcases Nat.lt_or_ge c (FD ci).length with h | h
    · exact h
    · rw [List.getElem?_eq_none h] at hf; cases hf
  have hge : (FD ci)[c] = (k, tag) := by rw [List.getElem?_eq_getElem hcl] at hf; exact Option.some.inj hf
  refine E_upd ha ?_ fun b hb hne => ce_up (fun h0 => ?_) (fun h2 g hg => Or.inr (Or.inr hne))
  · rw [hs']
    show some (Sum.inr (ci, (FD ci).map (fv (upA σ tag a fun _ => v) a))) = _
    have hl : (FD ci).map (fv (upA σ tag a fun _ => v) a) = ((FD ci).map (fv σ a)).set c w := by
      apply List.ext_getElem
      · simp
      · intro i h1 h2
        have hi : i < (FD ci).length := by simpa using h1
        rw [List.getElem_map, List.getElem_set]
        by_cases hic : c = i
        · subst hic
          rw [if_pos rfl, hge, hw]
        · rw [if_neg hic, List.getElem_map]
          apply fv_up
          rcases sh_u6 hci hi hcl (fun z => hic z.symm) with h | h | h
          · rw [List.getD_eq_getElem?_getD, List.getElem?_eq_getElem hi] at h; exact Or.inl h
          · rw [List.getD_eq_getElem?_getD, hf] at h; exact absurd h hk
          · rw [List.getD_eq_getElem?_getD, List.getElem?_eq_getElem hi, List.getD_eq_getElem?_getD, hf] at h; exact Or.inr (Or.inl h)
    rw [hl]
  · by_cases h1 : (sh b).2.2.2.1 = tag
    · exfalso
      have hm := sh_u2 b hb h0
      rcases sh_u3 ci hci _ (List.mem_of_getElem? hf) _ hm with h | h
      · exact hk h
      · exact h h1.symm
    · exact Or.inl h1
theorem ok_1 : ∀ o, ob 0 o → sh (A 1 o) = (0, 0, 144, 1, o) := sh_all (by decide +kernel)
theorem ok_2 : ∀ o, ob 0 o → sh (A 2 o) = (0, 0, 72, 2, o) := sh_all (by decide +kernel)
theorem ok_3 : ∀ o, ob 0 o → sh (A 3 o) = (0, 0, 72, 3, o) := sh_all (by decide +kernel)
theorem ok_200 : ∀ o, ob 2 o → sh (A 200 o) = (0, 0, 64, 200, o) := sh_all (by decide +kernel)
theorem ok_201 : ∀ o, ob 2 o → sh (A 201 o) = (0, 0, 6, 201, o) := sh_all (by decide +kernel)
theorem ok_300 : ∀ o, ob 3 o → sh (A 300 o) = (0, 0, 900, 300, o) := sh_all (by decide +kernel)
theorem ok_406 : ∀ o, ob 4 o → sh (A 406 o) = (0, 0, 5, 406, o) := sh_all (by decide +kernel)
theorem ok_407 : ∀ o, ob 4 o → sh (A 407 o) = (0, 0, 20, 407, o) := sh_all (by decide +kernel)
theorem ok_408 : ∀ o, ob 4 o → sh (A 408 o) = (0, 0, 20, 408, o) := sh_all (by decide +kernel)
theorem ok_410 : ∀ o, ob 4 o → sh (A 410 o) = (0, 0, 144, 410, o) := sh_all (by decide +kernel)
theorem ok_601 : ∀ o, ob 6 o → sh (A 601 o) = (0, 0, 20, 601, o) := sh_all (by decide +kernel)
theorem ok_602 : ∀ o, ob 6 o → sh (A 602 o) = (0, 0, 4, 602, o) := sh_all (by decide +kernel)
theorem ok_603 : ∀ o, ob 6 o → sh (A 603 o) = (0, 0, 4, 603, o) := sh_all (by decide +kernel)
theorem ok_609 : ∀ o, ob 6 o → sh (A 609 o) = (0, 0, 4, 609, o) := sh_all (by decide +kernel)
theorem ok_700 : ∀ o, ob 7 o → sh (A 700 o) = (0, 0, 36, 700, o) := sh_all (by decide +kernel)
theorem ok_701 : ∀ o, ob 7 o → sh (A 701 o) = (0, 0, 36, 701, o) := sh_all (by decide +kernel)
theorem ok_702 : ∀ o, ob 7 o → sh (A 702 o) = (0, 0, 5, 702, o) := sh_all (by decide +kernel)
theorem ok_703 : ∀ o, ob 7 o → sh (A 703 o) = (0, 0, 5, 703, o) := sh_all (by decide +kernel)
theorem ok_900 : ∀ o, ob 9 o → sh (A 900 o) = (0, 1, 31, 900, o) := sh_all (by decide +kernel)
theorem ok_901 : ∀ o, ob 9 o → sh (A 901 o) = (0, 1, 31, 901, o) := sh_all (by decide +kernel)
theorem ok_902 : ∀ o, ob 9 o → sh (A 902 o) = (0, 1, 31, 902, o) := sh_all (by decide +kernel)
theorem ok_903 : ∀ o, ob 9 o → sh (A 903 o) = (0, 1, 1116, 903, o) := sh_all (by decide +kernel)
theorem ok_1000 : ∀ o, ob 10 o → sh (A 1000 o) = (0, 0, 36, 1000, o) := sh_all (by decide +kernel)
theorem ok_1001 : ∀ o, ob 10 o → sh (A 1001 o) = (0, 0, 36, 1001, o) := sh_all (by decide +kernel)
theorem ok_1002 : ∀ o, ob 10 o → sh (A 1002 o) = (0, 0, 36, 1002, o) := sh_all (by decide +kernel)
theorem ok_1003 : ∀ o, ob 10 o → sh (A 1003 o) = (0, 0, 37, 1003, o) := sh_all (by decide +kernel)
theorem ok_1005 : ∀ o, ob 10 o → sh (A 1005 o) = (0, 0, 36, 1005, o) := sh_all (by decide +kernel)
theorem ok_1007 : ∀ o, ob 10 o → sh (A 1007 o) = (0, 1, 36, 1007, o) := sh_all (by decide +kernel)
theorem ok_1100 : ∀ o, ob 11 o → sh (A 1100 o) = (0, 0, 900, 1100, o) := sh_all (by decide +kernel)
theorem ok_1107 : ∀ o, ob 11 o → sh (A 1107 o) = (0, 1, 160, 1107, o) := sh_all (by decide +kernel)
theorem ok_1108 : ∀ o, ob 11 o → sh (A 1108 o) = (0, 0, 4, 1108, o) := sh_all (by decide +kernel)
theorem ok_1109 : ∀ o, ob 11 o → sh (A 1109 o) = (0, 0, 4, 1109, o) := sh_all (by decide +kernel)
theorem ok_1200 : ∀ o, ob 12 o → sh (A 1200 o) = (0, 0, 1900, 1200, o) := sh_all (by decide +kernel)
theorem ok_1201 : ∀ o, ob 12 o → sh (A 1201 o) = (0, 0, 1900, 1201, o) := sh_all (by decide +kernel)
theorem ok_1202 : ∀ o, ob 12 o → sh (A 1202 o) = (0, 0, 5700, 1202, o) := sh_all (by decide +kernel)
theorem ok_1203 : ∀ o, ob 12 o → sh (A 1203 o) = (0, 2, 3, 1203, o) := sh_all (by decide +kernel)
theorem ok_1205 : ∀ o, ob 12 o → sh (A 1205 o) = (0, 0, 900, 1205, o) := sh_all (by decide +kernel)
theorem ok_1217 : ∀ o, ob 12 o → sh (A 1217 o) = (0, 0, 64, 1217, o) := sh_all (by decide +kernel)
theorem ok_1218 : ∀ o, ob 12 o → sh (A 1218 o) = (0, 2, 36, 1218, o) := sh_all (by decide +kernel)
theorem ok_1219 : ∀ o, ob 12 o → sh (A 1219 o) = (0, 0, 36, 1219, o) := sh_all (by decide +kernel)
theorem ok_1220 : ∀ o, ob 12 o → sh (A 1220 o) = (0, 0, 36, 1220, o) := sh_all (by decide +kernel)
theorem ok_1221 : ∀ o, ob 12 o → sh (A 1221 o) = (0, 0, 36, 1221, o) := sh_all (by decide +kernel)
theorem ok_1222 : ∀ o, ob 12 o → sh (A 1222 o) = (0, 0, 85, 1222, o) := sh_all (by decide +kernel)
theorem ok_1224 : ∀ o, ob 12 o → sh (A 1224 o) = (0, 0, 36, 1224, o) := sh_all (by decide +kernel)
theorem ok_1225 : ∀ o, ob 12 o → sh (A 1225 o) = (0, 1, 36, 1225, o) := sh_all (by decide +kernel)
theorem ok_1226 : ∀ o, ob 12 o → sh (A 1226 o) = (0, 0, 36, 1226, o) := sh_all (by decide +kernel)
theorem ok_1227 : ∀ o, ob 12 o → sh (A 1227 o) = (0, 0, 1332, 1227, o) := sh_all (by decide +kernel)
theorem ok_1228 : ∀ o, ob 12 o → sh (A 1228 o) = (0, 0, 4, 1228, o) := sh_all (by decide +kernel)
theorem ok_1229 : ∀ o, ob 12 o → sh (A 1229 o) = (0, 0, 4, 1229, o) := sh_all (by decide +kernel)
theorem ok_1235 : ∀ o, ob 12 o → sh (A 1235 o) = (0, 1, 1116, 1235, o) := sh_all (by decide +kernel)
theorem ok_1236 : ∀ o, ob 12 o → sh (A 1236 o) = (0, 1, 1116, 1236, o) := sh_all (by decide +kernel)
theorem ok_1237 : ∀ o, ob 12 o → sh (A 1237 o) = (0, 0, 4, 1237, o) := sh_all (by decide +kernel)
theorem ok_1238 : ∀ o, ob 12 o → sh (A 1238 o) = (0, 0, 4, 1238, o) := sh_all (by decide +kernel)
theorem ok_1239 : ∀ o, ob 12 o → sh (A 1239 o) = (0, 1, 160, 1239, o) := sh_all (by decide +kernel)
theorem ok_802 : ∀ o, ob 8 o → sh (A 802 o) = (1, 3, 10, o + 14, 5) := sh_all (by decide +kernel)
theorem ok_1105 : ∀ o, ob 11 o → sh (A 1105 o) = (1, 4, 3, o + 190, 64) := sh_all (by decide +kernel)
