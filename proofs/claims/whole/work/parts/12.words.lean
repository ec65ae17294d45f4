/-! ===== words ===== -/
theorem vmTB_in {p : Nat} {w : Cond} (h : vmLk p = some w) (g : goodWord w = true) : w ∈ vmTB := List.mem_filter.mpr ⟨vmLk_in h, g⟩
def vmLayC (C : String) (T : u_T) (ps : List Nat) (k : Nat) : Bool := match ps[k]? with
  | some p => decide (vmLk p = some (u_lay C T k)) && goodWord (u_lay C T k)
  | none => false
theorem vmLay {C : String} {T : u_T} {N : Nat} (ps : List Nat) (h : (List.range N).all (vmLayC C T ps) = true) : ∀ w ∈ u_ws C T N, w ∈ vmTB := by
  intro w hw
  obtain ⟨k, hk, rfl⟩ := List.mem_map.mp hw
  have h1 := List.all_eq_true.mp h k hk
  unfold vmLayC at h1
  split at h1
  · rename_i p hp
    simp only [Bool.and_eq_true, decide_eq_true_eq] at h1
    exact vmTB_in h1.1 h1.2
  · cases h1
theorem vmLay_0 : ∀ w ∈ u_ws RX0 TX0 5, w ∈ vmTB := vmLay [2080, 2082, 2084, 2086, 2088] (by decide +kernel)
theorem vmLay_1 : ∀ w ∈ u_ws RX1 TX1 3, w ∈ vmTB := vmLay [2190, 2192, 2194] (by decide +kernel)
theorem vmLay_2 : ∀ w ∈ u_ws RX2 TX2 2, w ∈ vmTB := vmLay [2027, 2029] (by decide +kernel)
theorem vmLay_3 : ∀ w ∈ u_ws RX3 TX3 2, w ∈ vmTB := vmLay [1062, 1064] (by decide +kernel)
theorem vmLay_4 : ∀ w ∈ u_ws RX4 TX4 14, w ∈ vmTB := vmLay [1104, 1106, 1108, 1110, 1112, 1114, 1116, 1118, 1120, 1122, 1124, 1126, 1128, 1130] (by decide +kernel)
theorem vmLay_5 : ∀ w ∈ u_ws RX5 TX5 11, w ∈ vmTB := vmLay [1235, 1237, 1239, 2001, 2003, 2005, 2007, 2009, 2011, 2013, 2015] (by decide +kernel)
theorem vmLay_6 : ∀ w ∈ u_ws RX6 TX6 12, w ∈ vmTB := vmLay [2151, 2153, 2155, 2157, 2159, 2161, 2163, 2165, 2167, 2169, 2171, 2173] (by decide +kernel)
theorem vmLay_7 : ∀ w ∈ u_ws RX7 TX7 7, w ∈ vmTB := vmLay [1170, 1172, 1174, 1176, 1178, 1180, 1182] (by decide +kernel)
theorem vmLay_8 : ∀ w ∈ u_ws RX8 TX8 6, w ∈ vmTB := vmLay [1197, 1199, 1201, 1203, 1205, 1207] (by decide +kernel)
theorem vmLay_9 : ∀ w ∈ u_ws RX9 TX9 8, w ∈ vmTB := vmLay [2108, 2110, 2112, 2114, 2116, 2118, 2120, 2122] (by decide +kernel)
theorem vmLay_10 : ∀ w ∈ u_ws RX10 TX10 8, w ∈ vmTB := vmLay [2052, 2054, 2056, 2058, 2060, 2062, 2064, 2066] (by decide +kernel)
theorem vmLay_11 : ∀ w ∈ u_ws RX11 TX11 17, w ∈ vmTB := vmLay [2217, 2219, 2221, 2223, 2225, 2227, 2229, 2231, 2233, 2235, 2237, 2239, 3001, 3003, 3005, 3007, 3009] (by decide +kernel)
theorem vmLay_12 : ∀ w ∈ u_ws RX12 TX12 40, w ∈ vmTB := vmLay [7195, 7197, 7199, 7201, 7203, 7205, 7207, 7209, 7211, 7213, 7215, 7217, 7219, 7221, 7223, 7225, 7227, 7229, 7231, 7233, 7235, 7237, 7239, 8001, 8003, 8005, 8007, 8009, 8011, 8013, 8015, 8017, 8019, 8021, 8023, 8025, 8027, 8029, 8031, 8033] (by decide +kernel)
theorem vmNwA_0 : Cond.instantiable RX0 5 ∈ vmTB := vmTB_in (p := 2070) (by decide +kernel) (by decide +kernel)
theorem vmNwB_0 : Cond.initialized RX0 ∈ vmTB := vmTB_in (p := 1009) (by decide +kernel) (by decide +kernel)
theorem vmNwA_1 : Cond.instantiable RX1 3 ∈ vmTB := vmTB_in (p := 2177) (by decide +kernel) (by decide +kernel)
theorem vmNwB_1 : Cond.initialized RX1 ∈ vmTB := vmTB_in (p := 1012) (by decide +kernel) (by decide +kernel)
theorem vmNwA_2 : Cond.instantiable RX2 2 ∈ vmTB := vmTB_in (p := 2020) (by decide +kernel) (by decide +kernel)
theorem vmNwB_2 : Cond.initialized RX2 ∈ vmTB := vmTB_in (p := 1007) (by decide +kernel) (by decide +kernel)
theorem vmNwA_3 : Cond.instantiable RX3 2 ∈ vmTB := vmTB_in (p := 1051) (by decide +kernel) (by decide +kernel)
theorem vmNwB_3 : Cond.initialized RX3 ∈ vmTB := vmTB_in (p := 1004) (by decide +kernel) (by decide +kernel)
theorem vmNwA_4 : Cond.instantiable RX4 14 ∈ vmTB := vmTB_in (p := 1045) (by decide +kernel) (by decide +kernel)
theorem vmNwB_4 : Cond.initialized RX4 ∈ vmTB := vmTB_in (p := 1003) (by decide +kernel) (by decide +kernel)
theorem vmNwA_5 : Cond.instantiable RX5 11 ∈ vmTB := vmTB_in (p := 1214) (by decide +kernel) (by decide +kernel)
theorem vmNwB_5 : Cond.initialized RX5 ∈ vmTB := vmTB_in (p := 1006) (by decide +kernel) (by decide +kernel)
theorem vmNwA_6 : Cond.instantiable RX6 12 ∈ vmTB := vmTB_in (p := 2126) (by decide +kernel) (by decide +kernel)
theorem vmNwB_6 : Cond.initialized RX6 ∈ vmTB := vmTB_in (p := 1011) (by decide +kernel) (by decide +kernel)
theorem vmNwA_7 : Cond.instantiable RX7 7 ∈ vmTB := vmTB_in (p := 1134) (by decide +kernel) (by decide +kernel)
theorem vmNwB_7 : Cond.initialized RX7 ∈ vmTB := vmTB_in (p := 1005) (by decide +kernel) (by decide +kernel)
theorem vmNwA_8 : Cond.instantiable RX8 6 ∈ vmTB := vmTB_in (p := 1039) (by decide +kernel) (by decide +kernel)
theorem vmNwB_8 : Cond.initialized RX8 ∈ vmTB := vmTB_in (p := 1002) (by decide +kernel) (by decide +kernel)
theorem vmNwA_9 : Cond.instantiable RX9 8 ∈ vmTB := vmTB_in (p := 2092) (by decide +kernel) (by decide +kernel)
theorem vmNwB_9 : Cond.initialized RX9 ∈ vmTB := vmTB_in (p := 1010) (by decide +kernel) (by decide +kernel)
theorem vmNwA_10 : Cond.instantiable RX10 8 ∈ vmTB := vmTB_in (p := 2033) (by decide +kernel) (by decide +kernel)
theorem vmNwB_10 : Cond.initialized RX10 ∈ vmTB := vmTB_in (p := 1008) (by decide +kernel) (by decide +kernel)
theorem vmNwA_11 : Cond.instantiable RX11 17 ∈ vmTB := vmTB_in (p := 1031) (by decide +kernel) (by decide +kernel)
theorem vmNwB_11 : Cond.initialized RX11 ∈ vmTB := vmTB_in (p := 1001) (by decide +kernel) (by decide +kernel)
theorem vmNwA_12 : Cond.instantiable RX12 40 ∈ vmTB := vmTB_in (p := 7150) (by decide +kernel) (by decide +kernel)
theorem vmNwB_12 : Cond.initialized RX12 ∈ vmTB := vmTB_in (p := 1014) (by decide +kernel) (by decide +kernel)
/-- what the tables say of an own kind -/
theorem vmKindOk {b : Nat} (hb : b < 13) : ∃ (C : String) (T : u_T) (N : Nat), vwCl[b]? = some (C, T, N) ∧ vmNm b = C ∧ vmN b = N ∧ (∀ k, vmF b k = T k) ∧ (∀ w ∈ u_ws C T N, w ∈ vmTB) ∧ (∀ k, k < N → parseFieldDescriptor (T k).2.2.1 = some (vmTy b k)) ∧ (∀ a, a < N → ∀ b, b < N → a ≠ b → (T a).2.1 ≠ (T b).2.1) ∧ Cond.instantiable C N ∈ vmTB ∧ Cond.initialized C ∈ vmTB := by
  match b, hb with
  | 0, _ => exact ⟨RX0, TX0, 5, rfl, rfl, rfl, fun _ => rfl, vmLay_0, tyX0_ok, nmX0, vmNwA_0, vmNwB_0⟩
  | 1, _ => exact ⟨RX1, TX1, 3, rfl, rfl, rfl, fun _ => rfl, vmLay_1, tyX1_ok, nmX1, vmNwA_1, vmNwB_1⟩
  | 2, _ => exact ⟨RX2, TX2, 2, rfl, rfl, rfl, fun _ => rfl, vmLay_2, tyX2_ok, nmX2, vmNwA_2, vmNwB_2⟩
  | 3, _ => exact ⟨RX3, TX3, 2, rfl, rfl, rfl, fun _ => rfl, vmLay_3, tyX3_ok, nmX3, vmNwA_3, vmNwB_3⟩
  | 4, _ => exact ⟨RX4, TX4, 14, rfl, rfl, rfl, fun _ => rfl, vmLay_4, tyX4_ok, nmX4, vmNwA_4, vmNwB_4⟩
  | 5, _ => exact ⟨RX5, TX5, 11, rfl, rfl, rfl, fun _ => rfl, vmLay_5, tyX5_ok, nmX5, vmNwA_5, vmNwB_5⟩
  | 6, _ => exact ⟨RX6, TX6, 12, rfl, rfl, rfl, fun _ => rfl, vmLay_6, tyX6_ok, nmX6, vmNwA_6, vmNwB_6⟩
  | 7, _ => exact ⟨RX7, TX7, 7, rfl, rfl, rfl, fun _ => rfl, vmLay_7, tyX7_ok, nmX7, vmNwA_7, vmNwB_7⟩
  | 8, _ => exact ⟨RX8, TX8, 6, rfl, rfl, rfl, fun _ => rfl, vmLay_8, tyX8_ok, nmX8, vmNwA_8, vmNwB_8⟩
  | 9, _ => exact ⟨RX9, TX9, 8, rfl, rfl, rfl, fun _ => rfl, vmLay_9, tyX9_ok, nmX9, vmNwA_9, vmNwB_9⟩
  | 10, _ => exact ⟨RX10, TX10, 8, rfl, rfl, rfl, fun _ => rfl, vmLay_10, tyX10_ok, nmX10, vmNwA_10, vmNwB_10⟩
  | 11, _ => exact ⟨RX11, TX11, 17, rfl, rfl, rfl, fun _ => rfl, vmLay_11, tyX11_ok, nmX11, vmNwA_11, vmNwB_11⟩
  | 12, _ => exact ⟨RX12, TX12, 40, rfl, rfl, rfl, fun _ => rfl, vmLay_12, tyX12_ok, nmX12, vmNwA_12, vmNwB_12⟩
  | n + 13, h => exact absurd h (by omega)
theorem vwO1 : Cond.instanceMethod objectInit ∈ vmTB := vmTB_in (p := 1036) (by decide +kernel) (by decide +kernel)
theorem vwO2 : Cond.code objectInit ⟨#[0xb1]⟩ 1 none ∈ vmTB := vmTB_in (p := 1037) (by decide +kernel) (by decide +kernel)
theorem vwA1 : Cond.native arraycopyName ∈ vmTB := vmTB_in (p := 4192) (by decide +kernel) (by decide +kernel)
theorem vwA2 : Cond.static arraycopyName ∈ vmTB := vmTB_in (p := 4191) (by decide +kernel) (by decide +kernel)
theorem vwA3 : Cond.initialized "java/lang/System" ∈ vmTB := vmTB_in (p := 1025) (by decide +kernel) (by decide +kernel)
theorem vwM01 : Cond.static Lib.Math.max.name ∈ vmTB := vmTB_in (p := 3196) (by decide +kernel) (by decide +kernel)
theorem vwM02 : Cond.code Lib.Math.max.name Lib.Math.max.code 2 (some .int) ∈ vmTB := vmTB_in (p := 3197) (by decide +kernel) (by decide +kernel)
theorem vwM11 : Cond.static Lib.Math.min.name ∈ vmTB := vmTB_in (p := 3142) (by decide +kernel) (by decide +kernel)
theorem vwM12 : Cond.code Lib.Math.min.name Lib.Math.min.code 2 (some .int) ∈ vmTB := vmTB_in (p := 3143) (by decide +kernel) (by decide +kernel)
theorem vwM21 : Cond.static Lib.MathLoose.max_long.x ∈ vmTB := vmTB_in (p := 5023) (by decide +kernel) (by decide +kernel)
theorem vwM22 : Cond.code Lib.MathLoose.max_long.x Lib.MathLoose.max_long.code 4 (some .long) ∈ vmTB := vmTB_in (p := 5024) (by decide +kernel) (by decide +kernel)
theorem vwM31 : Cond.static Lib.MathLoose.min_long.x ∈ vmTB := vmTB_in (p := 5020) (by decide +kernel) (by decide +kernel)
theorem vwM32 : Cond.code Lib.MathLoose.min_long.x Lib.MathLoose.min_long.code 4 (some .long) ∈ vmTB := vmTB_in (p := 5021) (by decide +kernel) (by decide +kernel)
theorem vwM41 : Cond.static (vmMath 4) ∈ vmTB := vmTB_in (p := 5185) (by decide +kernel) (by decide +kernel)
theorem vwM42 : Cond.code (vmMath 4) cJ9_floorMod_7cf53 3 (some .int) ∈ vmTB := vmTB_in (p := 5186) (by decide +kernel) (by decide +kernel)
theorem vwM5 : Cond.initialized "java/lang/Math" ∈ vmTB := vmTB_in (p := 1019) (by decide +kernel) (by decide +kernel)
theorem vwR_int : Cond.arrayClass .int ∈ vmTB := vmTB_in (p := 1067) (by decide +kernel) (by decide +kernel)
theorem vwR_long : Cond.arrayClass .long ∈ vmTB := vmTB_in (p := 2018) (by decide +kernel) (by decide +kernel)
theorem vwR_boolean : Cond.arrayClass .boolean ∈ vmTB := vmTB_in (p := 8036) (by decide +kernel) (by decide +kernel)
theorem vwV_S : Cond.arrayOver (.object "HedgePark$Scene") ∈ lw_tbl := vmLk_in (p := 1185) (by decide +kernel)
theorem vwV_T : Cond.arrayOver (.object "HedgePark$Story") ∈ lw_tbl := vmLk_in (p := 1210) (by decide +kernel)
