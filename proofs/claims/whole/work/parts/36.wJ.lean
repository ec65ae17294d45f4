/-! ===== rows of the JDK (by program) ===== -/
-- J13_bitCount_95d88: 307
theorem n307 (d : Nat) (k : Int) (a0 : Int64) (h : vmH) (Q : vmO → vmH → Prop) (hk : 4 ≤ k) : Ca d k 307 [.long a0] h Q = Wp d M_J13_bitCount_95d88 0 [.long a0, vmJ] [] h Q := ca_in rfl (fun z => absurd hk (Int.not_le.mpr z)) (Nat.le_of_ble_eq_true rfl) rfl
theorem w307_0 : P_ll0 M_J13_bitCount_95d88 0 1 0 := o_ll0 rfl
theorem w307_1 : P_ll0 M_J13_bitCount_95d88 1 2 0 := o_ll0 rfl
theorem w307_2 : P_ic M_J13_bitCount_95d88 2 3 0 (1) := o_ic rfl
theorem w307_3 : P_lu M_J13_bitCount_95d88 3 4 0 := o_lu rfl
theorem w307_4 : P_lc M_J13_bitCount_95d88 4 7 0 (6148914691236517205) := o_lc rfl
theorem w307_7 : P_land M_J13_bitCount_95d88 7 8 0 := o_land rfl
theorem w307_8 : P_lsub M_J13_bitCount_95d88 8 9 0 := o_lsub rfl
theorem w307_9 : P_ls0 M_J13_bitCount_95d88 9 10 0 := o_ls0 rfl
theorem w307_10 : P_ll0 M_J13_bitCount_95d88 10 11 0 := o_ll0 rfl
theorem w307_11 : P_lc M_J13_bitCount_95d88 11 14 0 (3689348814741910323) := o_lc rfl
theorem w307_14 : P_land M_J13_bitCount_95d88 14 15 0 := o_land rfl
theorem w307_15 : P_ll0 M_J13_bitCount_95d88 15 16 0 := o_ll0 rfl
theorem w307_16 : P_ic M_J13_bitCount_95d88 16 17 0 (2) := o_ic rfl
theorem w307_17 : P_lu M_J13_bitCount_95d88 17 18 0 := o_lu rfl
theorem w307_18 : P_lc M_J13_bitCount_95d88 18 21 0 (3689348814741910323) := o_lc rfl
theorem w307_21 : P_land M_J13_bitCount_95d88 21 22 0 := o_land rfl
theorem w307_22 : P_ladd M_J13_bitCount_95d88 22 23 0 := o_ladd rfl
theorem w307_23 : P_ls0 M_J13_bitCount_95d88 23 24 0 := o_ls0 rfl
theorem w307_24 : P_ll0 M_J13_bitCount_95d88 24 25 0 := o_ll0 rfl
theorem w307_25 : P_ll0 M_J13_bitCount_95d88 25 26 0 := o_ll0 rfl
theorem w307_26 : P_ic M_J13_bitCount_95d88 26 27 0 (4) := o_ic rfl
theorem w307_27 : P_lu M_J13_bitCount_95d88 27 28 0 := o_lu rfl
theorem w307_28 : P_ladd M_J13_bitCount_95d88 28 29 0 := o_ladd rfl
theorem w307_29 : P_lc M_J13_bitCount_95d88 29 32 0 (1085102592571150095) := o_lc rfl
theorem w307_32 : P_land M_J13_bitCount_95d88 32 33 0 := o_land rfl
theorem w307_33 : P_ls0 M_J13_bitCount_95d88 33 34 0 := o_ls0 rfl
theorem w307_34 : P_ll0 M_J13_bitCount_95d88 34 35 0 := o_ll0 rfl
theorem w307_35 : P_ll0 M_J13_bitCount_95d88 35 36 0 := o_ll0 rfl
theorem w307_36 : P_ic M_J13_bitCount_95d88 36 38 0 (8) := o_ic rfl
theorem w307_38 : P_lu M_J13_bitCount_95d88 38 39 0 := o_lu rfl
theorem w307_39 : P_ladd M_J13_bitCount_95d88 39 40 0 := o_ladd rfl
theorem w307_40 : P_ls0 M_J13_bitCount_95d88 40 41 0 := o_ls0 rfl
theorem w307_41 : P_ll0 M_J13_bitCount_95d88 41 42 0 := o_ll0 rfl
theorem w307_42 : P_ll0 M_J13_bitCount_95d88 42 43 0 := o_ll0 rfl
theorem w307_43 : P_ic M_J13_bitCount_95d88 43 45 0 (16) := o_ic rfl
theorem w307_45 : P_lu M_J13_bitCount_95d88 45 46 0 := o_lu rfl
theorem w307_46 : P_ladd M_J13_bitCount_95d88 46 47 0 := o_ladd rfl
theorem w307_47 : P_ls0 M_J13_bitCount_95d88 47 48 0 := o_ls0 rfl
theorem w307_48 : P_ll0 M_J13_bitCount_95d88 48 49 0 := o_ll0 rfl
theorem w307_49 : P_ll0 M_J13_bitCount_95d88 49 50 0 := o_ll0 rfl
theorem w307_50 : P_ic M_J13_bitCount_95d88 50 52 0 (32) := o_ic rfl
theorem w307_52 : P_lu M_J13_bitCount_95d88 52 53 0 := o_lu rfl
theorem w307_53 : P_ladd M_J13_bitCount_95d88 53 54 0 := o_ladd rfl
theorem w307_54 : P_ls0 M_J13_bitCount_95d88 54 55 0 := o_ls0 rfl
theorem w307_55 : P_ll0 M_J13_bitCount_95d88 55 56 0 := o_ll0 rfl
theorem w307_56 : P_l2i M_J13_bitCount_95d88 56 57 0 := o_l2i rfl
theorem w307_57 : P_ic M_J13_bitCount_95d88 57 59 0 (127) := o_ic rfl
theorem w307_59 : P_an M_J13_bitCount_95d88 59 60 0 := o_an rfl
theorem w307_60 : P_ri M_J13_bitCount_95d88 60 := o_ri rfl rfl
-- J0_length_8abf5: 308
theorem n308 (d : Nat) (k : Int) (r : Nat)  (T : Tt) (σ : St) (Q : vmO → vmH → Prop) (hr : ob 20 r) : Ca d k 308 [.ref r] (E T σ) Q = Wp d M_J0_length_8abf5 0 [.ref r] [] (E T σ) Q := ca_in rfl (fun _ => recv_ok rfl hr) (Nat.le_of_ble_eq_true rfl) rfl
theorem w308_0 : P_rl0 M_J0_length_8abf5 0 1 0 := o_rl0 rfl
theorem w308_5 : P_rl0 M_J0_length_8abf5 5 6 0 := o_rl0 rfl
theorem w308_6 : P_ca1 M_J0_length_8abf5 6 9 1 312 := o_ca1 rfl
theorem w308_9 : P_sr M_J0_length_8abf5 9 10 0 := o_sr rfl
theorem w308_10 : P_ri M_J0_length_8abf5 10 := o_ri rfl rfl
-- J0_charAt_5068e: 309
theorem n309 (d : Nat) (k : Int) (r : Nat) (a0 : Int) (T : Tt) (σ : St) (Q : vmO → vmH → Prop) (hr : ob 20 r) : Ca d k 309 [.ref r, .int (i32 a0)] (E T σ) Q = Wp d M_J0_charAt_5068e 0 [.ref r, .int (i32 a0)] [] (E T σ) Q := ca_in rfl (fun _ => recv_ok rfl hr) (Nat.le_of_ble_eq_true rfl) rfl
theorem w309_0 : P_rl0 M_J0_charAt_5068e 0 1 0 := o_rl0 rfl
theorem w309_1 : P_ca1 M_J0_charAt_5068e 1 4 1 313 := o_ca1 rfl
theorem w309_4 : P_zeq M_J0_charAt_5068e 4 7 16 := o_zeq rfl
theorem w309_7 : P_rl0 M_J0_charAt_5068e 7 8 0 := o_rl0 rfl
theorem w309_11 : P_il1 M_J0_charAt_5068e 11 12 0 := o_il1 rfl
theorem w309_12 : P_ca2 M_J0_charAt_5068e 12 15 4 315 := o_ca2 rfl
theorem w309_15 : P_rh M_J0_charAt_5068e 15 := o_rc2 rfl rfl
theorem w309_16 : P_rl0 M_J0_charAt_5068e 16 17 0 := o_rl0 rfl
theorem w309_20 : P_il1 M_J0_charAt_5068e 20 21 0 := o_il1 rfl
-- J0_indexOf_0f7a4: 310
theorem n310 (d : Nat) (k : Int) (r : Nat) (a0 : Int) (T : Tt) (σ : St) (Q : vmO → vmH → Prop) (hr : ob 20 r) : Ca d k 310 [.ref r, .int (i32 a0)] (E T σ) Q = Wp d M_J0_indexOf_0f7a4 0 [.ref r, .int (i32 a0)] [] (E T σ) Q := ca_in rfl (fun _ => recv_ok rfl hr) (Nat.le_of_ble_eq_true rfl) rfl
theorem w310_0 : P_rl0 M_J0_indexOf_0f7a4 0 1 0 := o_rl0 rfl
theorem w310_1 : P_il1 M_J0_indexOf_0f7a4 1 2 0 := o_il1 rfl
theorem w310_2 : P_ic M_J0_indexOf_0f7a4 2 3 0 (0) := o_ic rfl
theorem w310_3 : P_ca3 M_J0_indexOf_0f7a4 3 6 1 311 := o_ca3 rfl
theorem w310_6 : P_ri M_J0_indexOf_0f7a4 6 := o_ri rfl rfl
-- J0_indexOf_7cf53: 311
theorem n311 (d : Nat) (k : Int) (r : Nat) (a0 : Int) (a1 : Int) (T : Tt) (σ : St) (Q : vmO → vmH → Prop) (hr : ob 20 r) : Ca d k 311 [.ref r, .int (i32 a0), .int (i32 a1)] (E T σ) Q = Wp d M_J0_indexOf_7cf53 0 [.ref r, .int (i32 a0), .int (i32 a1)] [] (E T σ) Q := ca_in rfl (fun _ => recv_ok rfl hr) (Nat.le_of_ble_eq_true rfl) rfl
theorem w311_0 : P_rl0 M_J0_indexOf_7cf53 0 1 0 := o_rl0 rfl
theorem w311_1 : P_ca1 M_J0_indexOf_7cf53 1 4 1 313 := o_ca1 rfl
theorem w311_4 : P_zeq M_J0_indexOf_7cf53 4 7 23 := o_zeq rfl
theorem w311_7 : P_rl0 M_J0_indexOf_7cf53 7 8 0 := o_rl0 rfl
theorem w311_11 : P_il1 M_J0_indexOf_7cf53 11 12 0 := o_il1 rfl
theorem w311_12 : P_il2 M_J0_indexOf_7cf53 12 13 0 := o_il2 rfl
theorem w311_13 : P_rl0 M_J0_indexOf_7cf53 13 14 0 := o_rl0 rfl
theorem w311_14 : P_ca1 M_J0_indexOf_7cf53 14 17 1 308 := o_ca1 rfl
theorem w311_17 : P_ca4 M_J0_indexOf_7cf53 17 20 4 317 := o_ca4 rfl
theorem w311_20 : P_go M_J0_indexOf_7cf53 20 0 36 := o_go rfl
theorem w311_23 : P_rl0 M_J0_indexOf_7cf53 23 24 0 := o_rl0 rfl
theorem w311_27 : P_il1 M_J0_indexOf_7cf53 27 28 0 := o_il1 rfl
theorem w311_28 : P_il2 M_J0_indexOf_7cf53 28 29 0 := o_il2 rfl
theorem w311_29 : P_rl0 M_J0_indexOf_7cf53 29 30 0 := o_rl0 rfl
theorem w311_30 : P_ca1 M_J0_indexOf_7cf53 30 33 1 308 := o_ca1 rfl
theorem w311_36 : P_ri M_J0_indexOf_7cf53 36 := o_ri rfl rfl
-- J0_coder_7d493: 312
theorem n312 (d : Nat) (k : Int) (r : Nat)  (T : Tt) (σ : St) (Q : vmO → vmH → Prop) (hr : ob 20 r) : Ca d k 312 [.ref r] (E T σ) Q = Wp d M_J0_coder_7d493 0 [.ref r] [] (E T σ) Q := ca_in rfl (fun _ => recv_ok rfl hr) (Nat.le_of_ble_eq_true rfl) rfl
theorem w312_0 : P_ic M_J0_coder_7d493 0 3 0 (1) := o_ic rfl
theorem w312_3 : P_zeq M_J0_coder_7d493 3 6 13 := o_zeq rfl
theorem w312_6 : P_rl0 M_J0_coder_7d493 6 7 0 := o_rl0 rfl
theorem w312_10 : P_go M_J0_coder_7d493 10 0 14 := o_go rfl
theorem w312_13 : P_ic M_J0_coder_7d493 13 14 0 (1) := o_ic rfl
-- J0_isLatin1_aae02: 313
theorem n313 (d : Nat) (k : Int) (r : Nat)  (T : Tt) (σ : St) (Q : vmO → vmH → Prop) (hr : ob 20 r) : Ca d k 313 [.ref r] (E T σ) Q = Wp d M_J0_isLatin1_aae02 0 [.ref r] [] (E T σ) Q := ca_in rfl (fun _ => recv_ok rfl hr) (Nat.le_of_ble_eq_true rfl) rfl
theorem w313_0 : P_ic M_J0_isLatin1_aae02 0 3 0 (1) := o_ic rfl
theorem w313_3 : P_zeq M_J0_isLatin1_aae02 3 6 17 := o_zeq rfl
theorem w313_6 : P_rl0 M_J0_isLatin1_aae02 6 7 0 := o_rl0 rfl
theorem w313_10 : P_zne M_J0_isLatin1_aae02 10 13 17 := o_zne rfl
theorem w313_13 : P_ic M_J0_isLatin1_aae02 13 14 0 (1) := o_ic rfl
theorem w313_14 : P_go M_J0_isLatin1_aae02 14 0 18 := o_go rfl
theorem w313_17 : P_ic M_J0_isLatin1_aae02 17 18 0 (0) := o_ic rfl
theorem w313_18 : P_rz M_J0_isLatin1_aae02 18 := o_rz rfl rfl
-- J0_checkIndex_df160: 314
theorem n314 (d : Nat) (k : Int) (a0 : Int) (a1 : Int) (h : vmH) (Q : vmO → vmH → Prop) (hk : 4 ≤ k) : Ca d k 314 [.int (i32 a0), .int (i32 a1)] h Q = Wp d M_J0_checkIndex_df160 0 [.int (i32 a0), .int (i32 a1)] [] h Q := ca_in rfl (fun z => absurd hk (Int.not_le.mpr z)) (Nat.le_of_ble_eq_true rfl) rfl
theorem w314_0 : P_il0 M_J0_checkIndex_df160 0 1 0 := o_il0 rfl
theorem w314_1 : P_il1 M_J0_checkIndex_df160 1 2 0 := o_il1 rfl
theorem w314_2 : P_rc M_J0_checkIndex_df160 2 5 0 (3000000) := o_rc rfl
theorem w314_5 : P_ca3 M_J0_checkIndex_df160 5 8 4 321 := o_ca3 rfl
theorem w314_8 : P_pop M_J0_checkIndex_df160 8 9 0 := o_pop rfl
theorem w314_9 : P_rv M_J0_checkIndex_df160 9 := o_rv rfl rfl
-- J1_charAt_3b067: 315
theorem n315 (d : Nat) (k : Int) (a0 : Nat) (a1 : Int) (h : vmH) (Q : vmO → vmH → Prop) (hk : 4 ≤ k) : Ca d k 315 [.ref a0, .int (i32 a1)] h Q = Wp d M_J1_charAt_3b067 0 [.ref a0, .int (i32 a1)] [] h Q := ca_in rfl (fun z => absurd hk (Int.not_le.mpr z)) (Nat.le_of_ble_eq_true rfl) rfl
theorem w315_0 : P_il1 M_J1_charAt_3b067 0 1 0 := o_il1 rfl
theorem w315_1 : P_rl0 M_J1_charAt_3b067 1 2 0 := o_rl0 rfl
theorem w315_3 : P_ca2 M_J1_charAt_3b067 3 6 4 314 := o_ca2 rfl
theorem w315_6 : P_rl0 M_J1_charAt_3b067 6 7 0 := o_rl0 rfl
theorem w315_7 : P_il1 M_J1_charAt_3b067 7 8 0 := o_il1 rfl
theorem w315_9 : P_ic M_J1_charAt_3b067 9 12 0 (255) := o_ic rfl
theorem w315_12 : P_an M_J1_charAt_3b067 12 13 0 := o_an rfl
theorem w315_13 : P_i2c M_J1_charAt_3b067 13 14 0 := o_i2c rfl
theorem w315_14 : P_rh M_J1_charAt_3b067 14 := o_rc2 rfl rfl
-- J1_canEncode_9a6ad: 316
theorem n316 (d : Nat) (k : Int) (a0 : Int) (h : vmH) (Q : vmO → vmH → Prop) (hk : 4 ≤ k) : Ca d k 316 [.int (i32 a0)] h Q = Wp d M_J1_canEncode_9a6ad 0 [.int (i32 a0)] [] h Q := ca_in rfl (fun z => absurd hk (Int.not_le.mpr z)) (Nat.le_of_ble_eq_true rfl) rfl
theorem w316_0 : P_il0 M_J1_canEncode_9a6ad 0 1 0 := o_il0 rfl
theorem w316_1 : P_zlt M_J1_canEncode_9a6ad 1 4 15 := o_zlt rfl
theorem w316_4 : P_il0 M_J1_canEncode_9a6ad 4 5 0 := o_il0 rfl
theorem w316_5 : P_ic M_J1_canEncode_9a6ad 5 8 0 (255) := o_ic rfl
theorem w316_8 : P_cgt M_J1_canEncode_9a6ad 8 11 15 := o_cgt rfl
theorem w316_11 : P_ic M_J1_canEncode_9a6ad 11 12 0 (1) := o_ic rfl
theorem w316_12 : P_go M_J1_canEncode_9a6ad 12 0 16 := o_go rfl
theorem w316_15 : P_ic M_J1_canEncode_9a6ad 15 16 0 (0) := o_ic rfl
theorem w316_16 : P_rz M_J1_canEncode_9a6ad 16 := o_rz rfl rfl
-- J1_indexOf_4cfef: 317
theorem n317 (d : Nat) (k : Int) (a0 : Nat) (a1 : Int) (a2 : Int) (a3 : Int) (h : vmH) (Q : vmO → vmH → Prop) (hk : 4 ≤ k) : Ca d k 317 [.ref a0, .int (i32 a1), .int (i32 a2), .int (i32 a3)] h Q = Wp d M_J1_indexOf_4cfef 0 [.ref a0, .int (i32 a1), .int (i32 a2), .int (i32 a3)] [] h Q := ca_in rfl (fun z => absurd hk (Int.not_le.mpr z)) (Nat.le_of_ble_eq_true rfl) rfl
theorem w317_0 : P_il1 M_J1_indexOf_4cfef 0 1 0 := o_il1 rfl
theorem w317_1 : P_ca1 M_J1_indexOf_4cfef 1 4 4 316 := o_ca1 rfl
theorem w317_4 : P_zne M_J1_indexOf_4cfef 4 7 9 := o_zne rfl
theorem w317_7 : P_ic M_J1_indexOf_4cfef 7 8 0 (-1) := o_ic rfl
theorem w317_8 : P_ri M_J1_indexOf_4cfef 8 := o_ri rfl rfl
theorem w317_9 : P_il2 M_J1_indexOf_4cfef 9 10 0 := o_il2 rfl
theorem w317_10 : P_ic M_J1_indexOf_4cfef 10 11 0 (0) := o_ic rfl
theorem w317_11 : P_mx M_J1_indexOf_4cfef 11 14 := o_mx rfl
theorem w317_14 : P_is2 M_J1_indexOf_4cfef 14 15 0 := o_is2 rfl
theorem w317_15 : P_il3 M_J1_indexOf_4cfef 15 16 0 := o_il3 rfl
theorem w317_16 : P_rl0 M_J1_indexOf_4cfef 16 17 0 := o_rl0 rfl
theorem w317_18 : P_mn M_J1_indexOf_4cfef 18 21 := o_mn rfl
theorem w317_21 : P_is3 M_J1_indexOf_4cfef 21 22 0 := o_is3 rfl
theorem w317_22 : P_il2 M_J1_indexOf_4cfef 22 23 0 := o_il2 rfl
theorem w317_23 : P_il3 M_J1_indexOf_4cfef 23 24 0 := o_il3 rfl
theorem w317_24 : P_clt M_J1_indexOf_4cfef 24 27 29 := o_clt rfl
theorem w317_27 : P_ic M_J1_indexOf_4cfef 27 28 0 (-1) := o_ic rfl
theorem w317_28 : P_ri M_J1_indexOf_4cfef 28 := o_ri rfl rfl
theorem w317_29 : P_rl0 M_J1_indexOf_4cfef 29 30 0 := o_rl0 rfl
theorem w317_30 : P_il1 M_J1_indexOf_4cfef 30 31 0 := o_il1 rfl
theorem w317_31 : P_il2 M_J1_indexOf_4cfef 31 32 0 := o_il2 rfl
theorem w317_32 : P_il3 M_J1_indexOf_4cfef 32 33 0 := o_il3 rfl
theorem w317_33 : P_ca4 M_J1_indexOf_4cfef 33 36 4 318 := o_ca4 rfl
theorem w317_36 : P_ri M_J1_indexOf_4cfef 36 := o_ri rfl rfl
-- J1_indexOfChar_4cfef: 318
theorem n318 (d : Nat) (k : Int) (a0 : Nat) (a1 : Int) (a2 : Int) (a3 : Int) (h : vmH) (Q : vmO → vmH → Prop) (hk : 4 ≤ k) : Ca d k 318 [.ref a0, .int (i32 a1), .int (i32 a2), .int (i32 a3)] h Q = Wp d M_J1_indexOfChar_4cfef 0 [.ref a0, .int (i32 a1), .int (i32 a2), .int (i32 a3), vmJ, vmJ] [] h Q := ca_in rfl (fun z => absurd hk (Int.not_le.mpr z)) (Nat.le_of_ble_eq_true rfl) rfl
theorem w318_0 : P_il1 M_J1_indexOfChar_4cfef 0 1 0 := o_il1 rfl
theorem w318_1 : P_i2b M_J1_indexOfChar_4cfef 1 2 0 := o_i2b rfl
theorem w318_2 : P_is4 M_J1_indexOfChar_4cfef 2 4 0 := o_is4 rfl
theorem w318_4 : P_il2 M_J1_indexOfChar_4cfef 4 5 0 := o_il2 rfl
theorem w318_5 : P_is5 M_J1_indexOfChar_4cfef 5 7 0 := o_is5 rfl
theorem w318_7 : P_il5 M_J1_indexOfChar_4cfef 7 9 0 := o_il5 rfl
theorem w318_9 : P_il3 M_J1_indexOfChar_4cfef 9 10 0 := o_il3 rfl
theorem w318_10 : P_cge M_J1_indexOfChar_4cfef 10 13 31 := o_cge rfl
theorem w318_13 : P_rl0 M_J1_indexOfChar_4cfef 13 14 0 := o_rl0 rfl
theorem w318_14 : P_il5 M_J1_indexOfChar_4cfef 14 16 0 := o_il5 rfl
theorem w318_17 : P_il4 M_J1_indexOfChar_4cfef 17 19 0 := o_il4 rfl
theorem w318_19 : P_cne M_J1_indexOfChar_4cfef 19 22 25 := o_cne rfl
theorem w318_22 : P_il5 M_J1_indexOfChar_4cfef 22 24 0 := o_il5 rfl
theorem w318_24 : P_ri M_J1_indexOfChar_4cfef 24 := o_ri rfl rfl
theorem w318_25 : P_inc5 M_J1_indexOfChar_4cfef 25 28 0 (1) := o_inc5 rfl
theorem w318_28 : P_go M_J1_indexOfChar_4cfef 28 0 7 := o_go rfl
theorem w318_31 : P_ic M_J1_indexOfChar_4cfef 31 32 0 (-1) := o_ic rfl
theorem w318_32 : P_ri M_J1_indexOfChar_4cfef 32 := o_ri rfl rfl
-- J7_fill_d0a16: 319
theorem n319 (d : Nat) (k : Int) (a0 : Nat) (a1 : Int64) (h : vmH) (Q : vmO → vmH → Prop) (hk : 4 ≤ k) : Ca d k 319 [.ref a0, .long a1] h Q = Wp d M_J7_fill_d0a16 0 [.ref a0, .long a1, vmJ, vmJ, vmJ] [] h Q := ca_in rfl (fun z => absurd hk (Int.not_le.mpr z)) (Nat.le_of_ble_eq_true rfl) rfl
theorem w319_0 : P_ic M_J7_fill_d0a16 0 1 0 (0) := o_ic rfl
theorem w319_1 : P_is3 M_J7_fill_d0a16 1 2 0 := o_is3 rfl
theorem w319_2 : P_rl0 M_J7_fill_d0a16 2 3 0 := o_rl0 rfl
theorem w319_4 : P_is4 M_J7_fill_d0a16 4 6 0 := o_is4 rfl
theorem w319_6 : P_il3 M_J7_fill_d0a16 6 7 0 := o_il3 rfl
theorem w319_7 : P_il4 M_J7_fill_d0a16 7 9 0 := o_il4 rfl
theorem w319_9 : P_cge M_J7_fill_d0a16 9 12 22 := o_cge rfl
theorem w319_12 : P_rl0 M_J7_fill_d0a16 12 13 0 := o_rl0 rfl
theorem w319_13 : P_il3 M_J7_fill_d0a16 13 14 0 := o_il3 rfl
theorem w319_14 : P_ll1 M_J7_fill_d0a16 14 15 0 := o_ll1 rfl
theorem w319_16 : P_inc3 M_J7_fill_d0a16 16 19 0 (1) := o_inc3 rfl
theorem w319_19 : P_go M_J7_fill_d0a16 19 0 6 := o_go rfl
theorem w319_22 : P_rv M_J7_fill_d0a16 22 := o_rv rfl rfl
-- J7_fill_53178: 320
theorem n320 (d : Nat) (k : Int) (a0 : Nat) (a1 : Int) (h : vmH) (Q : vmO → vmH → Prop) (hk : 4 ≤ k) : Ca d k 320 [.ref a0, .int (i32 a1)] h Q = Wp d M_J7_fill_53178 0 [.ref a0, .int (i32 a1), vmJ, vmJ] [] h Q := ca_in rfl (fun z => absurd hk (Int.not_le.mpr z)) (Nat.le_of_ble_eq_true rfl) rfl
theorem w320_0 : P_ic M_J7_fill_53178 0 1 0 (0) := o_ic rfl
theorem w320_1 : P_is2 M_J7_fill_53178 1 2 0 := o_is2 rfl
theorem w320_2 : P_rl0 M_J7_fill_53178 2 3 0 := o_rl0 rfl
theorem w320_4 : P_is3 M_J7_fill_53178 4 5 0 := o_is3 rfl
theorem w320_5 : P_il2 M_J7_fill_53178 5 6 0 := o_il2 rfl
theorem w320_6 : P_il3 M_J7_fill_53178 6 7 0 := o_il3 rfl
theorem w320_7 : P_cge M_J7_fill_53178 7 10 20 := o_cge rfl
theorem w320_10 : P_rl0 M_J7_fill_53178 10 11 0 := o_rl0 rfl
theorem w320_11 : P_il2 M_J7_fill_53178 11 12 0 := o_il2 rfl
theorem w320_12 : P_il1 M_J7_fill_53178 12 13 0 := o_il1 rfl
theorem w320_14 : P_inc2 M_J7_fill_53178 14 17 0 (1) := o_inc2 rfl
theorem w320_17 : P_go M_J7_fill_53178 17 0 5 := o_go rfl
theorem w320_20 : P_rv M_J7_fill_53178 20 := o_rv rfl rfl
-- J3_checkIndex_8e157: 321
theorem n321 (d : Nat) (k : Int) (a0 : Int) (a1 : Int) (a2 : Nat) (h : vmH) (Q : vmO → vmH → Prop) (hk : 4 ≤ k) : Ca d k 321 [.int (i32 a0), .int (i32 a1), .ref a2] h Q = Wp d M_J3_checkIndex_8e157 0 [.int (i32 a0), .int (i32 a1), .ref a2] [] h Q := ca_in rfl (fun z => absurd hk (Int.not_le.mpr z)) (Nat.le_of_ble_eq_true rfl) rfl
theorem w321_0 : P_il0 M_J3_checkIndex_8e157 0 1 0 := o_il0 rfl
theorem w321_1 : P_zlt M_J3_checkIndex_8e157 1 4 9 := o_zlt rfl
theorem w321_4 : P_il0 M_J3_checkIndex_8e157 4 5 0 := o_il0 rfl
theorem w321_5 : P_il1 M_J3_checkIndex_8e157 5 6 0 := o_il1 rfl
theorem w321_6 : P_clt M_J3_checkIndex_8e157 6 9 16 := o_clt rfl
theorem w321_9 : P_rl2 M_J3_checkIndex_8e157 9 10 0 := o_rl2 rfl
theorem w321_10 : P_il0 M_J3_checkIndex_8e157 10 11 0 := o_il0 rfl
theorem w321_11 : P_il1 M_J3_checkIndex_8e157 11 12 0 := o_il1 rfl
theorem w321_16 : P_il0 M_J3_checkIndex_8e157 16 17 0 := o_il0 rfl
theorem w321_17 : P_ri M_J3_checkIndex_8e157 17 := o_ri rfl rfl
