/-! ===== the law's cases (by program), 1 ===== -/
theorem k14_997 {d n : Nat} {i B : Int} {t1 t2 : Nat} {t3 : Bool} {S : Nat → Int} {σ : St} {Q : vmO → vmH → Prop} {l5 l6 l7 : Value} (hI : Inv B σ) (hB : B < 790000000) (h9 : 999 ≤ B) (i0 : 0 ≤ i) (i6 : i + 6 ≤ n) (nn : (n : Int) ≤ 3072) (hS : ∀ j : Nat, j < n → -2147483648 ≤ S j ∧ S j < 2147483648) (next : ∀ u1 u2 u3 ρ l5 l6 l7, u1 ≤ t1 + 1 → u2 ≤ t2 + 6 → Inv (B + 300000) ρ → Wp (d + 41) M_L_law 3253 [.ref 2000000, .ref 0, .ref 382, .ref 405, .int (i32 i), l5, l6, l7] [] (E (u1, u2, u3, n, S) ρ) Q) : Wp (d + 41) M_L_law 997 [.ref 2000000, .ref 0, .ref 382, .ref 405, .int (i32 i), l5, l6, l7] [] (E (t1, t2, t3, n, S) σ) Q := by
  have h1 : i + 1 < (n : Int) := by omega
  have h2 : i + 2 < (n : Int) := by omega
  have hn : (n : Int) < 2147483648 := by omega
  have r1 := hS (i + 1).toNat (by omega)
  have r2 := hS (i + 2).toNat (by omega)
  simp (disch := (first | assumption | omega | exact Nat.le_of_ble_eq_true rfl | rfl)) only [w363_997, w363_998, w363_999, w363_1001, w363_1002, w363_1003, w363_1004, w363_1005, w363_1007, w363_1008, w363_1009, w363_1010, w363_1011, Ko_n, Ko_v, vX_i, vX_r, vX_l, vX_j, reduceIte]
  refine l332 hI hB rfl r2.1 r2.2 fun kk T' τ hm hT => ?_
  obtain ⟨ta, tb, tc, rfl, hta, htb⟩ := tt hT
  have kb := dM_b hm
  simp (disch := (first | assumption | omega | exact Nat.le_of_ble_eq_true rfl | rfl)) only [w363_1014, w363_1016, w363_1017, w363_1018, w363_1020, w363_1021, w363_1022, w363_1023, w363_1024, w363_1026, w363_1027, w363_1028, w363_1029, Ko_n, Ko_v, vX_i, vX_r, vX_l, vX_j, reduceIte]
  refine r257 hI hB rfl r2.1 r2.2 hm fun b ρ hr => ?_
  obtain ⟨q1, q2, q3⟩ := hr
  have hb1 := Int32.le_toInt (i32 b)
  have hb2 := Int32.toInt_lt (i32 b)
  rw [← i32_toInt (i32 b)]
  generalize (i32 b).toInt = u at hb1 hb2 q3 ⊢
  simp (disch := (first | assumption | omega | exact Nat.le_of_ble_eq_true rfl | rfl)) only [w363_1032, w363_1034, w363_1035, Ko_n, Ko_v, vX_i, vX_r, vX_l, vX_j, reduceIte]
  rw [c174, q2]
  by_cases e : kk = 0
  · have q4 := q3 e
    simp (disch := (first | assumption | omega | exact Nat.le_of_ble_eq_true rfl | rfl)) only [w363_1038, w363_1040, w363_1043, w363_1044, w363_1045, w363_1047, w363_1050, w363_1051, w363_1052, w363_1053, w363_1055, w363_1056, w363_1060, w363_1061, w363_1062, Ko_n, Ko_v, vX_i, vX_r, vX_l, vX_j, reduceIte, e, q4, eq_self, not_true, if_true, if_false]
    exact next _ _ _ _ _ _ _ hta htb q1
  · simp (disch := (first | assumption | omega | exact Nat.le_of_ble_eq_true rfl | rfl)) only [w363_1038, w363_1040, w363_1043, w363_1044, w363_1045, w363_1047, w363_1050, w363_1051, w363_1052, w363_1053, w363_1055, w363_1056, w363_1060, w363_1061, w363_1062, Ko_n, Ko_v, vX_i, vX_r, vX_l, vX_j, reduceIte, e, eq_self, not_false_eq_true, if_true, if_false]
    exact next _ _ _ _ _ _ _ hta htb q1
theorem k15_1065 {d n : Nat} {i B : Int} {t1 t2 : Nat} {t3 : Bool} {S : Nat → Int} {σ : St} {Q : vmO → vmH → Prop} {l5 l6 l7 : Value} (hI : Inv B σ) (hB : B < 790000000) (h9 : 999 ≤ B) (i0 : 0 ≤ i) (i6 : i + 6 ≤ n) (nn : (n : Int) ≤ 3072) (hS : ∀ j : Nat, j < n → -2147483648 ≤ S j ∧ S j < 2147483648) (next : ∀ u1 u2 u3 ρ l5 l6 l7, u1 ≤ t1 + 1 → u2 ≤ t2 + 6 → Inv (B + 300000) ρ → Wp (d + 41) M_L_law 3253 [.ref 2000000, .ref 0, .ref 382, .ref 405, .int (i32 i), l5, l6, l7] [] (E (u1, u2, u3, n, S) ρ) Q) : Wp (d + 41) M_L_law 1065 [.ref 2000000, .ref 0, .ref 382, .ref 405, .int (i32 i), l5, l6, l7] [] (E (t1, t2, t3, n, S) σ) Q := by
  have h1 : i + 1 < (n : Int) := by omega
  have h2 : i + 2 < (n : Int) := by omega
  have hn : (n : Int) < 2147483648 := by omega
  have r1 := hS (i + 1).toNat (by omega)
  have r2 := hS (i + 2).toNat (by omega)
  simp (disch := (first | assumption | omega | exact Nat.le_of_ble_eq_true rfl | rfl)) only [w363_1065, w363_1066, w363_1067, w363_1069, w363_1070, w363_1071, w363_1072, w363_1073, w363_1075, w363_1076, w363_1077, w363_1078, w363_1079, Ko_n, Ko_v, vX_i, vX_r, vX_l, vX_j, reduceIte]
  refine l333 hI hB rfl r1.1 r1.2 r2.1 r2.2 fun kk T' τ hm hT => ?_
  obtain ⟨ta, tb, tc, rfl, hta, htb⟩ := tt hT
  have kb := qM_b hm
  simp (disch := (first | assumption | omega | exact Nat.le_of_ble_eq_true rfl | rfl)) only [w363_1082, w363_1084, w363_1085, w363_1086, w363_1088, w363_1089, w363_1090, w363_1091, w363_1092, w363_1094, w363_1095, w363_1096, w363_1097, Ko_n, Ko_v, vX_i, vX_r, vX_l, vX_j, reduceIte]
  refine r258 hI hB rfl r1.1 r1.2 r2.1 r2.2 hm fun b ρ hr => ?_
  obtain ⟨q1, q2, q3⟩ := hr
  have hb1 := Int32.le_toInt (i32 b)
  have hb2 := Int32.toInt_lt (i32 b)
  rw [← i32_toInt (i32 b)]
  generalize (i32 b).toInt = u at hb1 hb2 q3 ⊢
  simp (disch := (first | assumption | omega | exact Nat.le_of_ble_eq_true rfl | rfl)) only [w363_1100, w363_1102, w363_1103, Ko_n, Ko_v, vX_i, vX_r, vX_l, vX_j, reduceIte]
  rw [c174, q2]
  by_cases e : kk = 0
  · have q4 := q3 e
    simp (disch := (first | assumption | omega | exact Nat.le_of_ble_eq_true rfl | rfl)) only [w363_1106, w363_1108, w363_1111, w363_1112, w363_1113, w363_1115, w363_1118, w363_1119, w363_1120, w363_1121, w363_1123, w363_1124, w363_1128, w363_1129, w363_1130, Ko_n, Ko_v, vX_i, vX_r, vX_l, vX_j, reduceIte, e, q4, eq_self, not_true, if_true, if_false]
    exact next _ _ _ _ _ _ _ hta htb q1
  · simp (disch := (first | assumption | omega | exact Nat.le_of_ble_eq_true rfl | rfl)) only [w363_1106, w363_1108, w363_1111, w363_1112, w363_1113, w363_1115, w363_1118, w363_1119, w363_1120, w363_1121, w363_1123, w363_1124, w363_1128, w363_1129, w363_1130, Ko_n, Ko_v, vX_i, vX_r, vX_l, vX_j, reduceIte, e, eq_self, not_false_eq_true, if_true, if_false]
    exact next _ _ _ _ _ _ _ hta htb q1
theorem k16_1133 {d n : Nat} {i B : Int} {t1 t2 : Nat} {t3 : Bool} {S : Nat → Int} {σ : St} {Q : vmO → vmH → Prop} {l5 l6 l7 : Value} (hI : Inv B σ) (hB : B < 790000000) (h9 : 999 ≤ B) (i0 : 0 ≤ i) (i6 : i + 6 ≤ n) (nn : (n : Int) ≤ 3072) (hS : ∀ j : Nat, j < n → -2147483648 ≤ S j ∧ S j < 2147483648) (next : ∀ u1 u2 u3 ρ l5 l6 l7, u1 ≤ t1 + 1 → u2 ≤ t2 + 6 → Inv (B + 300000) ρ → Wp (d + 41) M_L_law 3253 [.ref 2000000, .ref 0, .ref 382, .ref 405, .int (i32 i), l5, l6, l7] [] (E (u1, u2, u3, n, S) ρ) Q) : Wp (d + 41) M_L_law 1133 [.ref 2000000, .ref 0, .ref 382, .ref 405, .int (i32 i), l5, l6, l7] [] (E (t1, t2, t3, n, S) σ) Q := by
  have h1 : i + 1 < (n : Int) := by omega
  have h2 : i + 2 < (n : Int) := by omega
  have h3 : i + 3 < (n : Int) := by omega
  have hn : (n : Int) < 2147483648 := by omega
  have r1 := hS (i + 1).toNat (by omega)
  have r2 := hS (i + 2).toNat (by omega)
  have r3 := hS (i + 3).toNat (by omega)
  simp (disch := (first | assumption | omega | exact Nat.le_of_ble_eq_true rfl | rfl)) only [w363_1133, w363_1134, w363_1135, w363_1137, w363_1138, w363_1139, w363_1140, w363_1141, w363_1143, w363_1144, w363_1145, w363_1146, w363_1147, w363_1149, w363_1150, w363_1151, w363_1152, w363_1153, Ko_n, Ko_v, vX_i, vX_r, vX_l, vX_j, reduceIte]
  refine l334 hI hB rfl r1.1 r1.2 r2.1 r2.2 r3.1 r3.2 fun kk T' τ hm hT => ?_
  obtain ⟨ta, tb, tc, rfl, hta, htb⟩ := tt hT
  have kb := qM_b hm
  simp (disch := (first | assumption | omega | exact Nat.le_of_ble_eq_true rfl | rfl)) only [w363_1156, w363_1158, w363_1159, w363_1160, w363_1162, w363_1163, w363_1164, w363_1165, w363_1166, w363_1168, w363_1169, w363_1170, w363_1171, w363_1172, w363_1174, w363_1175, w363_1176, w363_1177, Ko_n, Ko_v, vX_i, vX_r, vX_l, vX_j, reduceIte]
  refine r260 hI hB rfl r1.1 r1.2 r2.1 r2.2 r3.1 r3.2 hm fun b ρ hr => ?_
  obtain ⟨q1, q2, q3⟩ := hr
  have hb1 := Int32.le_toInt (i32 b)
  have hb2 := Int32.toInt_lt (i32 b)
  rw [← i32_toInt (i32 b)]
  generalize (i32 b).toInt = u at hb1 hb2 q3 ⊢
  simp (disch := (first | assumption | omega | exact Nat.le_of_ble_eq_true rfl | rfl)) only [w363_1180, w363_1182, w363_1183, Ko_n, Ko_v, vX_i, vX_r, vX_l, vX_j, reduceIte]
  rw [c174, q2]
  by_cases e : kk = 0
  · have q4 := q3 e
    simp (disch := (first | assumption | omega | exact Nat.le_of_ble_eq_true rfl | rfl)) only [w363_1186, w363_1188, w363_1191, w363_1192, w363_1193, w363_1195, w363_1198, w363_1199, w363_1200, w363_1201, w363_1203, w363_1204, w363_1208, w363_1209, w363_1210, Ko_n, Ko_v, vX_i, vX_r, vX_l, vX_j, reduceIte, e, q4, eq_self, not_true, if_true, if_false]
    exact next _ _ _ _ _ _ _ hta htb q1
  · simp (disch := (first | assumption | omega | exact Nat.le_of_ble_eq_true rfl | rfl)) only [w363_1186, w363_1188, w363_1191, w363_1192, w363_1193, w363_1195, w363_1198, w363_1199, w363_1200, w363_1201, w363_1203, w363_1204, w363_1208, w363_1209, w363_1210, Ko_n, Ko_v, vX_i, vX_r, vX_l, vX_j, reduceIte, e, eq_self, not_false_eq_true, if_true, if_false]
    exact next _ _ _ _ _ _ _ hta htb q1
theorem k17_1213 {d n : Nat} {i B : Int} {t1 t2 : Nat} {t3 : Bool} {S : Nat → Int} {σ : St} {Q : vmO → vmH → Prop} {l5 l6 l7 : Value} (hI : Inv B σ) (hB : B < 790000000) (h9 : 999 ≤ B) (i0 : 0 ≤ i) (i6 : i + 6 ≤ n) (nn : (n : Int) ≤ 3072) (hS : ∀ j : Nat, j < n → -2147483648 ≤ S j ∧ S j < 2147483648) (next : ∀ u1 u2 u3 ρ l5 l6 l7, u1 ≤ t1 + 1 → u2 ≤ t2 + 6 → Inv (B + 300000) ρ → Wp (d + 41) M_L_law 3253 [.ref 2000000, .ref 0, .ref 382, .ref 405, .int (i32 i), l5, l6, l7] [] (E (u1, u2, u3, n, S) ρ) Q) : Wp (d + 41) M_L_law 1213 [.ref 2000000, .ref 0, .ref 382, .ref 405, .int (i32 i), l5, l6, l7] [] (E (t1, t2, t3, n, S) σ) Q := by
  have h1 : i + 1 < (n : Int) := by omega
  have h2 : i + 2 < (n : Int) := by omega
  have hn : (n : Int) < 2147483648 := by omega
  have r1 := hS (i + 1).toNat (by omega)
  have r2 := hS (i + 2).toNat (by omega)
  simp (disch := (first | assumption | omega | exact Nat.le_of_ble_eq_true rfl | rfl)) only [w363_1213, w363_1214, w363_1215, w363_1217, w363_1218, w363_1219, w363_1220, w363_1221, w363_1223, w363_1224, w363_1225, w363_1226, w363_1227, Ko_n, Ko_v, vX_i, vX_r, vX_l, vX_j, reduceIte]
  refine l335 hI hB rfl r1.1 r1.2 r2.1 r2.2 fun kk T' τ hm hT => ?_
  obtain ⟨ta, tb, tc, rfl, hta, htb⟩ := tt hT
  have kb := qM_b hm
  simp (disch := (first | assumption | omega | exact Nat.le_of_ble_eq_true rfl | rfl)) only [w363_1230, w363_1232, w363_1233, w363_1234, w363_1236, w363_1237, w363_1238, w363_1239, w363_1240, w363_1242, w363_1243, w363_1244, w363_1245, Ko_n, Ko_v, vX_i, vX_r, vX_l, vX_j, reduceIte]
  refine r261 hI hB rfl r1.1 r1.2 r2.1 r2.2 hm fun b ρ hr => ?_
  obtain ⟨q1, q2, q3⟩ := hr
  simp (disch := (first | assumption | omega | exact Nat.le_of_ble_eq_true rfl | rfl)) only [w363_1248, w363_1250, w363_1251, Ko_n, Ko_v, vX_i, vX_r, vX_l, vX_j, reduceIte]
  rw [c174, q2]
  by_cases e : kk = 0
  · have q4 := q3 e
    simp (disch := (first | assumption | omega | exact Nat.le_of_ble_eq_true rfl | rfl)) only [w363_1254, w363_1256, w363_1259, w363_1260, w363_1261, w363_1263, w363_1266, w363_1267, w363_1268, w363_1269, w363_1271, w363_1275, w363_1276, w363_1277, Ko_n, Ko_v, vX_i, vX_r, vX_l, vX_j, reduceIte, e, q4, eq_self, not_true, if_true, if_false]
    exact next _ _ _ _ _ _ _ hta htb q1
  · simp (disch := (first | assumption | omega | exact Nat.le_of_ble_eq_true rfl | rfl)) only [w363_1254, w363_1256, w363_1259, w363_1260, w363_1261, w363_1263, w363_1266, w363_1267, w363_1268, w363_1269, w363_1271, w363_1275, w363_1276, w363_1277, Ko_n, Ko_v, vX_i, vX_r, vX_l, vX_j, reduceIte, e, eq_self, not_false_eq_true, if_true, if_false]
    exact next _ _ _ _ _ _ _ hta htb q1
theorem k18_1280 {d n : Nat} {i B : Int} {t1 t2 : Nat} {t3 : Bool} {S : Nat → Int} {σ : St} {Q : vmO → vmH → Prop} {l5 l6 l7 : Value} (hI : Inv B σ) (hB : B < 790000000) (h9 : 999 ≤ B) (i0 : 0 ≤ i) (i6 : i + 6 ≤ n) (nn : (n : Int) ≤ 3072) (hS : ∀ j : Nat, j < n → -2147483648 ≤ S j ∧ S j < 2147483648) (next : ∀ u1 u2 u3 ρ l5 l6 l7, u1 ≤ t1 + 1 → u2 ≤ t2 + 6 → Inv (B + 300000) ρ → Wp (d + 41) M_L_law 3253 [.ref 2000000, .ref 0, .ref 382, .ref 405, .int (i32 i), l5, l6, l7] [] (E (u1, u2, u3, n, S) ρ) Q) : Wp (d + 41) M_L_law 1280 [.ref 2000000, .ref 0, .ref 382, .ref 405, .int (i32 i), l5, l6, l7] [] (E (t1, t2, t3, n, S) σ) Q := by
  have h1 : i + 1 < (n : Int) := by omega
  have h2 : i + 2 < (n : Int) := by omega
  have h3 : i + 3 < (n : Int) := by omega
  have hn : (n : Int) < 2147483648 := by omega
  have r1 := hS (i + 1).toNat (by omega)
  have r2 := hS (i + 2).toNat (by omega)
  have r3 := hS (i + 3).toNat (by omega)
  simp (disch := (first | assumption | omega | exact Nat.le_of_ble_eq_true rfl | rfl)) only [w363_1280, w363_1281, w363_1282, w363_1284, w363_1285, w363_1286, w363_1287, w363_1288, w363_1290, w363_1291, w363_1292, w363_1293, w363_1294, w363_1296, w363_1297, w363_1298, w363_1299, w363_1300, Ko_n, Ko_v, vX_i, vX_r, vX_l, vX_j, reduceIte]
  refine l336 hI hB rfl r1.1 r1.2 r2.1 r2.2 r3.1 r3.2 fun kk T' τ hm hT => ?_
  obtain ⟨ta, tb, tc, rfl, hta, htb⟩ := tt hT
  have kb := qM_b hm
  simp (disch := (first | assumption | omega | exact Nat.le_of_ble_eq_true rfl | rfl)) only [w363_1303, w363_1305, w363_1306, w363_1307, w363_1309, w363_1310, w363_1311, w363_1312, w363_1313, w363_1315, w363_1316, w363_1317, w363_1318, w363_1319, w363_1321, w363_1322, w363_1323, w363_1324, Ko_n, Ko_v, vX_i, vX_r, vX_l, vX_j, reduceIte]
  refine r265 hI hB rfl r1.1 r1.2 r2.1 r2.2 r3.1 r3.2 hm fun b ρ hr => ?_
  obtain ⟨q1, q2, q3⟩ := hr
  have hb1 := Int32.le_toInt (i32 b)
  have hb2 := Int32.toInt_lt (i32 b)
  rw [← i32_toInt (i32 b)]
  generalize (i32 b).toInt = u at hb1 hb2 q3 ⊢
  simp (disch := (first | assumption | omega | exact Nat.le_of_ble_eq_true rfl | rfl)) only [w363_1327, w363_1329, w363_1330, Ko_n, Ko_v, vX_i, vX_r, vX_l, vX_j, reduceIte]
  rw [c174, q2]
  by_cases e : kk = 0
  · have q4 := q3 e
    simp (disch := (first | assumption | omega | exact Nat.le_of_ble_eq_true rfl | rfl)) only [w363_1333, w363_1335, w363_1338, w363_1339, w363_1340, w363_1342, w363_1345, w363_1346, w363_1347, w363_1348, w363_1350, w363_1351, w363_1355, w363_1356, w363_1357, Ko_n, Ko_v, vX_i, vX_r, vX_l, vX_j, reduceIte, e, q4, eq_self, not_true, if_true, if_false]
    exact next _ _ _ _ _ _ _ hta htb q1
  · simp (disch := (first | assumption | omega | exact Nat.le_of_ble_eq_true rfl | rfl)) only [w363_1333, w363_1335, w363_1338, w363_1339, w363_1340, w363_1342, w363_1345, w363_1346, w363_1347, w363_1348, w363_1350, w363_1351, w363_1355, w363_1356, w363_1357, Ko_n, Ko_v, vX_i, vX_r, vX_l, vX_j, reduceIte, e, eq_self, not_false_eq_true, if_true, if_false]
    exact next _ _ _ _ _ _ _ hta htb q1
theorem k19_1360 {d n : Nat} {i B : Int} {t1 t2 : Nat} {t3 : Bool} {S : Nat → Int} {σ : St} {Q : vmO → vmH → Prop} {l5 l6 l7 : Value} (hI : Inv B σ) (hB : B < 790000000) (h9 : 999 ≤ B) (i0 : 0 ≤ i) (i6 : i + 6 ≤ n) (nn : (n : Int) ≤ 3072) (hS : ∀ j : Nat, j < n → -2147483648 ≤ S j ∧ S j < 2147483648) (next : ∀ u1 u2 u3 ρ l5 l6 l7, u1 ≤ t1 + 1 → u2 ≤ t2 + 6 → Inv (B + 300000) ρ → Wp (d + 41) M_L_law 3253 [.ref 2000000, .ref 0, .ref 382, .ref 405, .int (i32 i), l5, l6, l7] [] (E (u1, u2, u3, n, S) ρ) Q) : Wp (d + 41) M_L_law 1360 [.ref 2000000, .ref 0, .ref 382, .ref 405, .int (i32 i), l5, l6, l7] [] (E (t1, t2, t3, n, S) σ) Q := by
  have h1 : i + 1 < (n : Int) := by omega
  have h2 : i + 2 < (n : Int) := by omega
  have h3 : i + 3 < (n : Int) := by omega
  have hn : (n : Int) < 2147483648 := by omega
  have r1 := hS (i + 1).toNat (by omega)
  have r2 := hS (i + 2).toNat (by omega)
  have r3 := hS (i + 3).toNat (by omega)
  simp (disch := (first | assumption | omega | exact Nat.le_of_ble_eq_true rfl | rfl)) only [w363_1360, w363_1361, w363_1362, w363_1364, w363_1365, w363_1366, w363_1367, w363_1368, w363_1370, w363_1371, w363_1372, w363_1373, w363_1374, w363_1376, w363_1377, w363_1378, w363_1379, w363_1380, Ko_n, Ko_v, vX_i, vX_r, vX_l, vX_j, reduceIte]
  refine l337 hI hB rfl r1.1 r1.2 r2.1 r2.2 r3.1 r3.2 fun kk T' τ hm hT => ?_
  obtain ⟨ta, tb, tc, rfl, hta, htb⟩ := tt hT
  have kb := qM_b hm
  simp (disch := (first | assumption | omega | exact Nat.le_of_ble_eq_true rfl | rfl)) only [w363_1383, w363_1385, w363_1386, w363_1387, w363_1389, w363_1390, w363_1391, w363_1392, w363_1393, w363_1395, w363_1396, w363_1397, w363_1398, w363_1399, w363_1401, w363_1402, w363_1403, w363_1404, Ko_n, Ko_v, vX_i, vX_r, vX_l, vX_j, reduceIte]
  refine r266 hI hB rfl r1.1 r1.2 r2.1 r2.2 r3.1 r3.2 hm fun b ρ hr => ?_
  obtain ⟨q1, q2, q3⟩ := hr
  have hb1 := Int32.le_toInt (i32 b)
  have hb2 := Int32.toInt_lt (i32 b)
  rw [← i32_toInt (i32 b)]
  generalize (i32 b).toInt = u at hb1 hb2 q3 ⊢
  simp (disch := (first | assumption | omega | exact Nat.le_of_ble_eq_true rfl | rfl)) only [w363_1407, w363_1409, w363_1410, Ko_n, Ko_v, vX_i, vX_r, vX_l, vX_j, reduceIte]
  rw [c174, q2]
  by_cases e : kk = 0
  · have q4 := q3 e
    simp (disch := (first | assumption | omega | exact Nat.le_of_ble_eq_true rfl | rfl)) only [w363_1413, w363_1415, w363_1418, w363_1419, w363_1420, w363_1422, w363_1425, w363_1426, w363_1427, w363_1428, w363_1430, w363_1431, w363_1435, w363_1436, w363_1437, Ko_n, Ko_v, vX_i, vX_r, vX_l, vX_j, reduceIte, e, q4, eq_self, not_true, if_true, if_false]
    exact next _ _ _ _ _ _ _ hta htb q1
  · simp (disch := (first | assumption | omega | exact Nat.le_of_ble_eq_true rfl | rfl)) only [w363_1413, w363_1415, w363_1418, w363_1419, w363_1420, w363_1422, w363_1425, w363_1426, w363_1427, w363_1428, w363_1430, w363_1431, w363_1435, w363_1436, w363_1437, Ko_n, Ko_v, vX_i, vX_r, vX_l, vX_j, reduceIte, e, eq_self, not_false_eq_true, if_true, if_false]
    exact next _ _ _ _ _ _ _ hta htb q1
theorem k20_1440 {d n : Nat} {i B : Int} {t1 t2 : Nat} {t3 : Bool} {S : Nat → Int} {σ : St} {Q : vmO → vmH → Prop} {l5 l6 l7 : Value} (hI : Inv B σ) (hB : B < 790000000) (h9 : 999 ≤ B) (i0 : 0 ≤ i) (i6 : i + 6 ≤ n) (nn : (n : Int) ≤ 3072) (hS : ∀ j : Nat, j < n → -2147483648 ≤ S j ∧ S j < 2147483648) (next : ∀ u1 u2 u3 ρ l5 l6 l7, u1 ≤ t1 + 1 → u2 ≤ t2 + 6 → Inv (B + 300000) ρ → Wp (d + 41) M_L_law 3253 [.ref 2000000, .ref 0, .ref 382, .ref 405, .int (i32 i), l5, l6, l7] [] (E (u1, u2, u3, n, S) ρ) Q) : Wp (d + 41) M_L_law 1440 [.ref 2000000, .ref 0, .ref 382, .ref 405, .int (i32 i), l5, l6, l7] [] (E (t1, t2, t3, n, S) σ) Q := by
  have h1 : i + 1 < (n : Int) := by omega
  have h2 : i + 2 < (n : Int) := by omega
  have h3 : i + 3 < (n : Int) := by omega
  have hn : (n : Int) < 2147483648 := by omega
  have r1 := hS (i + 1).toNat (by omega)
  have r2 := hS (i + 2).toNat (by omega)
  have r3 := hS (i + 3).toNat (by omega)
  simp (disch := (first | assumption | omega | exact Nat.le_of_ble_eq_true rfl | rfl)) only [w363_1440, w363_1441, w363_1442, w363_1444, w363_1445, w363_1446, w363_1447, w363_1448, w363_1450, w363_1451, w363_1452, w363_1453, w363_1454, w363_1456, w363_1457, w363_1458, w363_1459, w363_1460, Ko_n, Ko_v, vX_i, vX_r, vX_l, vX_j, reduceIte]
  refine l338 hI hB rfl r1.1 r1.2 r2.1 r2.2 r3.1 r3.2 fun kk T' τ hm hT => ?_
  obtain ⟨ta, tb, tc, rfl, hta, htb⟩ := tt hT
  have kb := qM_b hm
  simp (disch := (first | assumption | omega | exact Nat.le_of_ble_eq_true rfl | rfl)) only [w363_1463, w363_1465, w363_1466, w363_1467, w363_1469, w363_1470, w363_1471, w363_1472, w363_1473, w363_1475, w363_1476, w363_1477, w363_1478, w363_1479, w363_1481, w363_1482, w363_1483, w363_1484, Ko_n, Ko_v, vX_i, vX_r, vX_l, vX_j, reduceIte]
  refine r268 hI hB rfl r1.1 r1.2 r2.1 r2.2 r3.1 r3.2 hm fun b ρ hr => ?_
  obtain ⟨q1, q2, q3⟩ := hr
  have hb1 := Int32.le_toInt (i32 b)
  have hb2 := Int32.toInt_lt (i32 b)
  rw [← i32_toInt (i32 b)]
  generalize (i32 b).toInt = u at hb1 hb2 q3 ⊢
  simp (disch := (first | assumption | omega | exact Nat.le_of_ble_eq_true rfl | rfl)) only [w363_1487, w363_1489, w363_1490, Ko_n, Ko_v, vX_i, vX_r, vX_l, vX_j, reduceIte]
  rw [c174, q2]
  by_cases e : kk = 0
  · have q4 := q3 e
    simp (disch := (first | assumption | omega | exact Nat.le_of_ble_eq_true rfl | rfl)) only [w363_1493, w363_1495, w363_1498, w363_1499, w363_1500, w363_1502, w363_1505, w363_1506, w363_1507, w363_1508, w363_1510, w363_1511, w363_1515, w363_1516, w363_1517, Ko_n, Ko_v, vX_i, vX_r, vX_l, vX_j, reduceIte, e, q4, eq_self, not_true, if_true, if_false]
    exact next _ _ _ _ _ _ _ hta htb q1
  · simp (disch := (first | assumption | omega | exact Nat.le_of_ble_eq_true rfl | rfl)) only [w363_1493, w363_1495, w363_1498, w363_1499, w363_1500, w363_1502, w363_1505, w363_1506, w363_1507, w363_1508, w363_1510, w363_1511, w363_1515, w363_1516, w363_1517, Ko_n, Ko_v, vX_i, vX_r, vX_l, vX_j, reduceIte, e, eq_self, not_false_eq_true, if_true, if_false]
    exact next _ _ _ _ _ _ _ hta htb q1
theorem k21_1520 {d n : Nat} {i B : Int} {t1 t2 : Nat} {t3 : Bool} {S : Nat → Int} {σ : St} {Q : vmO → vmH → Prop} {l5 l6 l7 : Value} (hI : Inv B σ) (hB : B < 790000000) (h9 : 999 ≤ B) (i0 : 0 ≤ i) (i6 : i + 6 ≤ n) (nn : (n : Int) ≤ 3072) (hS : ∀ j : Nat, j < n → -2147483648 ≤ S j ∧ S j < 2147483648) (next : ∀ u1 u2 u3 ρ l5 l6 l7, u1 ≤ t1 + 1 → u2 ≤ t2 + 6 → Inv (B + 300000) ρ → Wp (d + 41) M_L_law 3253 [.ref 2000000, .ref 0, .ref 382, .ref 405, .int (i32 i), l5, l6, l7] [] (E (u1, u2, u3, n, S) ρ) Q) : Wp (d + 41) M_L_law 1520 [.ref 2000000, .ref 0, .ref 382, .ref 405, .int (i32 i), l5, l6, l7] [] (E (t1, t2, t3, n, S) σ) Q := by
  have h1 : i + 1 < (n : Int) := by omega
  have h2 : i + 2 < (n : Int) := by omega
  have h3 : i + 3 < (n : Int) := by omega
  have h4 : i + 4 < (n : Int) := by omega
  have hn : (n : Int) < 2147483648 := by omega
  have r1 := hS (i + 1).toNat (by omega)
  have r2 := hS (i + 2).toNat (by omega)
  have r3 := hS (i + 3).toNat (by omega)
  have r4 := hS (i + 4).toNat (by omega)
  simp (disch := (first | assumption | omega | exact Nat.le_of_ble_eq_true rfl | rfl)) only [w363_1520, w363_1521, w363_1522, w363_1524, w363_1525, w363_1526, w363_1527, w363_1528, w363_1530, w363_1531, w363_1532, w363_1533, w363_1534, w363_1536, w363_1537, w363_1538, w363_1539, w363_1540, w363_1542, w363_1543, w363_1544, w363_1545, w363_1546, Ko_n, Ko_v, vX_i, vX_r, vX_l, vX_j, reduceIte]
  refine l339 hI hB rfl r1.1 r1.2 r2.1 r2.2 r3.1 r3.2 r4.1 r4.2 fun kk T' τ hm hT => ?_
  obtain ⟨ta, tb, tc, rfl, hta, htb⟩ := tt hT
  have kb := qM_b hm
  simp (disch := (first | assumption | omega | exact Nat.le_of_ble_eq_true rfl | rfl)) only [w363_1549, w363_1551, w363_1552, w363_1553, w363_1555, w363_1556, w363_1557, w363_1558, w363_1559, w363_1561, w363_1562, w363_1563, w363_1564, w363_1565, w363_1567, w363_1568, w363_1569, w363_1570, w363_1571, w363_1573, w363_1574, w363_1575, w363_1576, Ko_n, Ko_v, vX_i, vX_r, vX_l, vX_j, reduceIte]
  refine r269 hI hB rfl r1.1 r1.2 r2.1 r2.2 r3.1 r3.2 r4.1 r4.2 hm fun b ρ hr => ?_
  obtain ⟨q1, q2, q3⟩ := hr
  have hb1 := Int32.le_toInt (i32 b)
  have hb2 := Int32.toInt_lt (i32 b)
  rw [← i32_toInt (i32 b)]
  generalize (i32 b).toInt = u at hb1 hb2 q3 ⊢
  simp (disch := (first | assumption | omega | exact Nat.le_of_ble_eq_true rfl | rfl)) only [w363_1579, w363_1581, w363_1582, Ko_n, Ko_v, vX_i, vX_r, vX_l, vX_j, reduceIte]
  rw [c174, q2]
  by_cases e : kk = 0
  · have q4 := q3 e
    simp (disch := (first | assumption | omega | exact Nat.le_of_ble_eq_true rfl | rfl)) only [w363_1585, w363_1587, w363_1590, w363_1591, w363_1592, w363_1594, w363_1597, w363_1598, w363_1599, w363_1600, w363_1602, w363_1603, w363_1607, w363_1608, w363_1609, Ko_n, Ko_v, vX_i, vX_r, vX_l, vX_j, reduceIte, e, q4, eq_self, not_true, if_true, if_false]
    exact next _ _ _ _ _ _ _ hta htb q1
  · simp (disch := (first | assumption | omega | exact Nat.le_of_ble_eq_true rfl | rfl)) only [w363_1585, w363_1587, w363_1590, w363_1591, w363_1592, w363_1594, w363_1597, w363_1598, w363_1599, w363_1600, w363_1602, w363_1603, w363_1607, w363_1608, w363_1609, Ko_n, Ko_v, vX_i, vX_r, vX_l, vX_j, reduceIte, e, eq_self, not_false_eq_true, if_true, if_false]
    exact next _ _ _ _ _ _ _ hta htb q1
theorem k22_1612 {d n : Nat} {i B : Int} {t1 t2 : Nat} {t3 : Bool} {S : Nat → Int} {σ : St} {Q : vmO → vmH → Prop} {l5 l6 l7 : Value} (hI : Inv B σ) (hB : B < 790000000) (h9 : 999 ≤ B) (i0 : 0 ≤ i) (i6 : i + 6 ≤ n) (nn : (n : Int) ≤ 3072) (hS : ∀ j : Nat, j < n → -2147483648 ≤ S j ∧ S j < 2147483648) (next : ∀ u1 u2 u3 ρ l5 l6 l7, u1 ≤ t1 + 1 → u2 ≤ t2 + 6 → Inv (B + 300000) ρ → Wp (d + 41) M_L_law 3253 [.ref 2000000, .ref 0, .ref 382, .ref 405, .int (i32 i), l5, l6, l7] [] (E (u1, u2, u3, n, S) ρ) Q) : Wp (d + 41) M_L_law 1612 [.ref 2000000, .ref 0, .ref 382, .ref 405, .int (i32 i), l5, l6, l7] [] (E (t1, t2, t3, n, S) σ) Q := by
  have h1 : i + 1 < (n : Int) := by omega
  have h2 : i + 2 < (n : Int) := by omega
  have hn : (n : Int) < 2147483648 := by omega
  have r1 := hS (i + 1).toNat (by omega)
  have r2 := hS (i + 2).toNat (by omega)
  simp (disch := (first | assumption | omega | exact Nat.le_of_ble_eq_true rfl | rfl)) only [w363_1612, w363_1613, w363_1614, w363_1616, w363_1617, w363_1618, w363_1619, w363_1620, w363_1622, w363_1623, w363_1624, w363_1625, w363_1626, Ko_n, Ko_v, vX_i, vX_r, vX_l, vX_j, reduceIte]
  refine l340 hI hB rfl r1.1 r1.2 r2.1 r2.2 fun kk T' τ hm hT => ?_
  obtain ⟨ta, tb, tc, rfl, hta, htb⟩ := tt hT
  have kb := qM_b hm
  simp (disch := (first | assumption | omega | exact Nat.le_of_ble_eq_true rfl | rfl)) only [w363_1629, w363_1631, w363_1632, w363_1633, w363_1635, w363_1636, w363_1637, w363_1638, w363_1639, w363_1641, w363_1642, w363_1643, w363_1644, Ko_n, Ko_v, vX_i, vX_r, vX_l, vX_j, reduceIte]
  refine r270 hI hB rfl r1.1 r1.2 r2.1 r2.2 hm fun b ρ hr => ?_
  obtain ⟨q1, q2, q3⟩ := hr
  simp (disch := (first | assumption | omega | exact Nat.le_of_ble_eq_true rfl | rfl)) only [w363_1647, w363_1649, w363_1650, Ko_n, Ko_v, vX_i, vX_r, vX_l, vX_j, reduceIte]
  rw [c174, q2]
  by_cases e : kk = 0
  · have q4 := q3 e
    simp (disch := (first | assumption | omega | exact Nat.le_of_ble_eq_true rfl | rfl)) only [w363_1653, w363_1655, w363_1658, w363_1659, w363_1660, w363_1662, w363_1665, w363_1666, w363_1667, w363_1668, w363_1670, w363_1674, w363_1675, w363_1676, Ko_n, Ko_v, vX_i, vX_r, vX_l, vX_j, reduceIte, e, q4, eq_self, not_true, if_true, if_false]
    exact next _ _ _ _ _ _ _ hta htb q1
  · simp (disch := (first | assumption | omega | exact Nat.le_of_ble_eq_true rfl | rfl)) only [w363_1653, w363_1655, w363_1658, w363_1659, w363_1660, w363_1662, w363_1665, w363_1666, w363_1667, w363_1668, w363_1670, w363_1674, w363_1675, w363_1676, Ko_n, Ko_v, vX_i, vX_r, vX_l, vX_j, reduceIte, e, eq_self, not_false_eq_true, if_true, if_false]
    exact next _ _ _ _ _ _ _ hta htb q1
theorem k23_1679 {d n : Nat} {i B : Int} {t1 t2 : Nat} {t3 : Bool} {S : Nat → Int} {σ : St} {Q : vmO → vmH → Prop} {l5 l6 l7 : Value} (hI : Inv B σ) (hB : B < 790000000) (h9 : 999 ≤ B) (i0 : 0 ≤ i) (i6 : i + 6 ≤ n) (nn : (n : Int) ≤ 3072) (hS : ∀ j : Nat, j < n → -2147483648 ≤ S j ∧ S j < 2147483648) (next : ∀ u1 u2 u3 ρ l5 l6 l7, u1 ≤ t1 + 1 → u2 ≤ t2 + 6 → Inv (B + 300000) ρ → Wp (d + 41) M_L_law 3253 [.ref 2000000, .ref 0, .ref 382, .ref 405, .int (i32 i), l5, l6, l7] [] (E (u1, u2, u3, n, S) ρ) Q) : Wp (d + 41) M_L_law 1679 [.ref 2000000, .ref 0, .ref 382, .ref 405, .int (i32 i), l5, l6, l7] [] (E (t1, t2, t3, n, S) σ) Q := by
  have h1 : i + 1 < (n : Int) := by omega
  have hn : (n : Int) < 2147483648 := by omega
  have r1 := hS (i + 1).toNat (by omega)
  simp (disch := (first | assumption | omega | exact Nat.le_of_ble_eq_true rfl | rfl)) only [w363_1679, w363_1680, w363_1681, w363_1683, w363_1684, w363_1685, w363_1686, w363_1687, Ko_n, Ko_v, vX_i, vX_r, vX_l, vX_j, reduceIte]
  refine l341 hI hB rfl r1.1 r1.2 fun kk T' τ hm hT => ?_
  obtain ⟨ta, tb, tc, rfl, hta, htb⟩ := tt hT
  have kb := qM_b hm
  simp (disch := (first | assumption | omega | exact Nat.le_of_ble_eq_true rfl | rfl)) only [w363_1690, w363_1692, w363_1693, w363_1694, w363_1696, w363_1697, w363_1698, w363_1699, Ko_n, Ko_v, vX_i, vX_r, vX_l, vX_j, reduceIte]
  refine r271 hI hB rfl r1.1 r1.2 hm fun b ρ hr => ?_
  obtain ⟨q1, q2, q3⟩ := hr
  have hb1 := Int32.le_toInt (i32 b)
  have hb2 := Int32.toInt_lt (i32 b)
  rw [← i32_toInt (i32 b)]
  generalize (i32 b).toInt = u at hb1 hb2 q3 ⊢
  simp (disch := (first | assumption | omega | exact Nat.le_of_ble_eq_true rfl | rfl)) only [w363_1702, w363_1704, w363_1705, Ko_n, Ko_v, vX_i, vX_r, vX_l, vX_j, reduceIte]
  rw [c174, q2]
  by_cases e : kk = 0
  · have q4 := q3 e
    simp (disch := (first | assumption | omega | exact Nat.le_of_ble_eq_true rfl | rfl)) only [w363_1708, w363_1710, w363_1713, w363_1714, w363_1715, w363_1717, w363_1720, w363_1721, w363_1722, w363_1723, w363_1725, w363_1726, w363_1730, w363_1731, w363_1732, Ko_n, Ko_v, vX_i, vX_r, vX_l, vX_j, reduceIte, e, q4, eq_self, not_true, if_true, if_false]
    exact next _ _ _ _ _ _ _ hta htb q1
  · simp (disch := (first | assumption | omega | exact Nat.le_of_ble_eq_true rfl | rfl)) only [w363_1708, w363_1710, w363_1713, w363_1714, w363_1715, w363_1717, w363_1720, w363_1721, w363_1722, w363_1723, w363_1725, w363_1726, w363_1730, w363_1731, w363_1732, Ko_n, Ko_v, vX_i, vX_r, vX_l, vX_j, reduceIte, e, eq_self, not_false_eq_true, if_true, if_false]
    exact next _ _ _ _ _ _ _ hta htb q1
