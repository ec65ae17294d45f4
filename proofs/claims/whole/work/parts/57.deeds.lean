/-! ===== Deeds ===== -/
theorem ob_de : ob 1 179 := (rfl : sh 179 = (2, 1, 0, 0, 0))
theorem ob_dw : ob 10 180 := (rfl : sh 180 = (2, 10, 0, 0, 0))
theorem ob_dg : ob 2 187 := (rfl : sh 187 = (2, 2, 0, 0, 0))
theorem c9 {d : Nat} {k w z : Int} {h : vmH} {Q : vmO → vmH → Prop} (hk : 4 ≤ k) : Ca d k 9 [.int (i32 w), .int (i32 z)] h Q = Q (.inl (some (.int (i32 (100 * w + z))))) h := by
  rw [n9 _ _ _ _ _ _ hk]
  simp (disch := (first | assumption | omega | exact Nat.le_of_ble_eq_true rfl | rfl)) only [w9_0, w9_2, w9_3, w9_4, w9_5, w9_6, Ko_n, Ko_v, vX_i, vX_r, vX_l, vX_j, reduceIte]
/-- why a told deed can't be (0: it can) -/
def why (σ : St) (p s : Nat) (W H : Int) (v : Int) : Int := if v = -1 then 0 else if v < 0 ∨ 2400 ≤ v then 1 else if ¬ v % 100 < W * H then 1 else if v / 100 < σ 404 p 0 then (if flI W H (opB (σ 700 s) (W * H)) (σ 702 s (v / 100)) 36 (v % 100) then 0 else 2) else if v / 100 = 10 then (if hgB (σ 700 s) (v % 100) then 0 else 2) else if 20 < v / 100 then (if σ 700 s (v % 100) = 0 ∧ wa (σ 702 s) (v % 100) (σ 404 p 0).toNat = 0 then 0 else 2) else 1
theorem c10 {d : Nat} {k W H v : Int} {p s : Nat} {T : Tt} {σ : St} {Q : vmO → vmH → Prop} (hp : ob 4 p) (hs : ob 7 s) (hge : geo σ p W H) (h : whOk W H) (hkd : kdOk (σ 700 s)) (v0 : -9223372036854775808 ≤ v) (v1 : v < 9223372036854775808) (w0 : 0 ≤ σ 404 p 0) (w1 : σ 404 p 0 ≤ 5) (hat : ∀ w : Nat, (w : Int) < σ 404 p 0 → 0 ≤ σ 702 s w ∧ σ 702 s w < 36) : Ca (d + 3) k 10 [.ref 179, .ref p, .ref s, .long (i64 v)] (E T σ) Q = Q (.inl (some (.int (i32 (why σ p s W H v))))) (E T σ) := by
  have hp3 := ob_lt hp
  have hs3 := ob_lt hs
  have hd := ob_de
  have hm36 := wh_mul0 h
  have g1 := hge.1
  have g2 := hge.2.1
  rw [n10 _ _ _ _ _ _ _ _ _ hd]
  unfold why
  by_cases a1 : v = -1
  · simp (disch := (first | assumption | omega | exact Nat.le_of_ble_eq_true rfl | rfl)) only [w10_0, w10_1, w10_4, w10_8, w10_9, w10_10, w10_11, w10_12, w10_16, w10_17, w10_20, w10_24, w10_25, w10_26, w10_27, w10_28, w10_30, w10_32, w10_34, w10_35, w10_37, w10_39, w10_41, w10_42, w10_44, w10_46, w10_47, w10_50, w10_53, w10_54, w10_55, w10_57, w10_58, w10_61, w10_64, w10_65, w10_66, w10_69, w10_72, w10_74, w10_75, w10_76, w10_79, w10_81, w10_82, w10_84, w10_87, w10_89, w10_92, w10_95, w10_96, w10_99, w10_100, w10_101, w10_103, w10_105, w10_108, w10_109, w10_111, w10_114, w10_117, w10_118, w10_121, w10_122, w10_123, w10_125, w10_127, w10_130, w10_131, w10_132, w10_135, w10_137, w10_140, w10_143, w10_144, w10_147, w10_148, w10_149, w10_150, Ko_n, Ko_v, vX_i, vX_r, vX_l, vX_j, reduceIte, i64_eq, a1, not_true, Int.reduceNeg, Int.reduceEq]
  by_cases a2 : v < 0
  · simp (disch := (first | assumption | omega | exact Nat.le_of_ble_eq_true rfl | rfl)) only [w10_0, w10_1, w10_4, w10_8, w10_9, w10_10, w10_11, w10_12, w10_16, w10_17, w10_20, w10_24, w10_25, w10_26, w10_27, w10_28, w10_30, w10_32, w10_34, w10_35, w10_37, w10_39, w10_41, w10_42, w10_44, w10_46, w10_47, w10_50, w10_53, w10_54, w10_55, w10_57, w10_58, w10_61, w10_64, w10_65, w10_66, w10_69, w10_72, w10_74, w10_75, w10_76, w10_79, w10_81, w10_82, w10_84, w10_87, w10_89, w10_92, w10_95, w10_96, w10_99, w10_100, w10_101, w10_103, w10_105, w10_108, w10_109, w10_111, w10_114, w10_117, w10_118, w10_121, w10_122, w10_123, w10_125, w10_127, w10_130, w10_131, w10_132, w10_135, w10_137, w10_140, w10_143, w10_144, w10_147, w10_148, w10_149, w10_150, Ko_n, Ko_v, vX_i, vX_r, vX_l, vX_j, reduceIte, i64_eq, i64_lt, a1, a2, not_false_eq_true, true_or]
  by_cases a3 : 2400 ≤ v
  · simp (disch := (first | assumption | omega | exact Nat.le_of_ble_eq_true rfl | rfl)) only [w10_0, w10_1, w10_4, w10_8, w10_9, w10_10, w10_11, w10_12, w10_16, w10_17, w10_20, w10_24, w10_25, w10_26, w10_27, w10_28, w10_30, w10_32, w10_34, w10_35, w10_37, w10_39, w10_41, w10_42, w10_44, w10_46, w10_47, w10_50, w10_53, w10_54, w10_55, w10_57, w10_58, w10_61, w10_64, w10_65, w10_66, w10_69, w10_72, w10_74, w10_75, w10_76, w10_79, w10_81, w10_82, w10_84, w10_87, w10_89, w10_92, w10_95, w10_96, w10_99, w10_100, w10_101, w10_103, w10_105, w10_108, w10_109, w10_111, w10_114, w10_117, w10_118, w10_121, w10_122, w10_123, w10_125, w10_127, w10_130, w10_131, w10_132, w10_135, w10_137, w10_140, w10_143, w10_144, w10_147, w10_148, w10_149, w10_150, Ko_n, Ko_v, vX_i, vX_r, vX_l, vX_j, reduceIte, i64_eq, i64_lt, a1, a2, not_false_eq_true, show ¬ v < 2400 by omega, a3, or_true]
  have hr := Int.emod_nonneg v (show (100 : Int) ≠ 0 by omega)
  have hr1 := Int.emod_lt_of_pos v (show (0 : Int) < 100 by omega)
  have hq : 0 ≤ v / 100 ∧ v / 100 < 24 := by omega
  rw [if_neg a1, if_neg (by omega)]
  by_cases a4 : v % 100 < W * H
  · rw [if_neg (fun z => z a4)]
    have hw2 : wh2 W H := by
      rcases h with ⟨rfl, rfl⟩ | h
      · omega
      · exact h
    by_cases a5 : v / 100 < σ 404 p 0
    · have hz := hat (v / 100).toNat (by omega)
      rw [show (((v / 100).toNat : Nat) : Int) = v / 100 by omega] at hz
      rw [if_pos a5]
      have ho : ∀ k, 0 ≤ k → k < 64 → opB (σ 700 s) (W * H) k = true → k < W * H := fun k _ _ hk => (of_decide_eq_true hk).2.1
      simp (disch := (first | assumption | omega | exact Nat.le_of_ble_eq_true rfl | rfl)) only [w10_0, w10_1, w10_4, w10_8, w10_9, w10_10, w10_11, w10_12, w10_16, w10_17, w10_20, w10_24, w10_25, w10_26, w10_27, w10_28, w10_30, w10_32, w10_34, w10_35, w10_37, w10_39, w10_41, w10_42, w10_44, w10_46, w10_47, w10_50, w10_53, w10_54, w10_55, w10_57, w10_58, w10_61, w10_64, w10_65, w10_66, w10_69, w10_72, w10_74, w10_75, w10_76, w10_79, w10_81, w10_82, w10_84, w10_87, w10_89, w10_92, w10_95, w10_96, w10_99, w10_100, w10_101, w10_103, w10_105, w10_108, w10_109, w10_111, w10_114, w10_117, w10_118, w10_121, w10_122, w10_123, w10_125, w10_127, w10_130, w10_131, w10_132, w10_135, w10_137, w10_140, w10_143, w10_144, w10_147, w10_148, w10_149, w10_150, Ko_n, Ko_v, vX_i, vX_r, vX_l, vX_j, reduceIte, i64_eq, i64_lt, i64_i, a1, a2, not_false_eq_true, show v < 2400 by omega, c26, g1, g2, a4, show ¬ σ 404 p 0 ≤ v / 100 by omega, c76]
      rw [c33 hp hge hw2 hz.1 hz.2 ho]
      simp (disch := (first | assumption | omega | exact Nat.le_of_ble_eq_true rfl | rfl)) only [w10_0, w10_1, w10_4, w10_8, w10_9, w10_10, w10_11, w10_12, w10_16, w10_17, w10_20, w10_24, w10_25, w10_26, w10_27, w10_28, w10_30, w10_32, w10_34, w10_35, w10_37, w10_39, w10_41, w10_42, w10_44, w10_46, w10_47, w10_50, w10_53, w10_54, w10_55, w10_57, w10_58, w10_61, w10_64, w10_65, w10_66, w10_69, w10_72, w10_74, w10_75, w10_76, w10_79, w10_81, w10_82, w10_84, w10_87, w10_89, w10_92, w10_95, w10_96, w10_99, w10_100, w10_101, w10_103, w10_105, w10_108, w10_109, w10_111, w10_114, w10_117, w10_118, w10_121, w10_122, w10_123, w10_125, w10_127, w10_130, w10_131, w10_132, w10_135, w10_137, w10_140, w10_143, w10_144, w10_147, w10_148, w10_149, w10_150, Ko_n, Ko_v, vX_i, vX_r, vX_l, vX_j, reduceIte]
      rw [c172 (by omega) hr (by omega)]
      cases flI W H (opB (σ 700 s) (W * H)) (σ 702 s (v / 100)) 36 (v % 100) <;> simp (disch := (first | assumption | omega | exact Nat.le_of_ble_eq_true rfl | rfl)) only [w10_0, w10_1, w10_4, w10_8, w10_9, w10_10, w10_11, w10_12, w10_16, w10_17, w10_20, w10_24, w10_25, w10_26, w10_27, w10_28, w10_30, w10_32, w10_34, w10_35, w10_37, w10_39, w10_41, w10_42, w10_44, w10_46, w10_47, w10_50, w10_53, w10_54, w10_55, w10_57, w10_58, w10_61, w10_64, w10_65, w10_66, w10_69, w10_72, w10_74, w10_75, w10_76, w10_79, w10_81, w10_82, w10_84, w10_87, w10_89, w10_92, w10_95, w10_96, w10_99, w10_100, w10_101, w10_103, w10_105, w10_108, w10_109, w10_111, w10_114, w10_117, w10_118, w10_121, w10_122, w10_123, w10_125, w10_127, w10_130, w10_131, w10_132, w10_135, w10_137, w10_140, w10_143, w10_144, w10_147, w10_148, w10_149, w10_150, Ko_n, Ko_v, vX_i, vX_r, vX_l, vX_j, reduceIte, Int.reduceEq, Bool.false_eq_true]
    · rw [if_neg a5]
      by_cases a6 : v / 100 = 10
      · rw [if_pos a6]
        simp (disch := (first | assumption | omega | exact Nat.le_of_ble_eq_true rfl | rfl)) only [w10_0, w10_1, w10_4, w10_8, w10_9, w10_10, w10_11, w10_12, w10_16, w10_17, w10_20, w10_24, w10_25, w10_26, w10_27, w10_28, w10_30, w10_32, w10_34, w10_35, w10_37, w10_39, w10_41, w10_42, w10_44, w10_46, w10_47, w10_50, w10_53, w10_54, w10_55, w10_57, w10_58, w10_61, w10_64, w10_65, w10_66, w10_69, w10_72, w10_74, w10_75, w10_76, w10_79, w10_81, w10_82, w10_84, w10_87, w10_89, w10_92, w10_95, w10_96, w10_99, w10_100, w10_101, w10_103, w10_105, w10_108, w10_109, w10_111, w10_114, w10_117, w10_118, w10_121, w10_122, w10_123, w10_125, w10_127, w10_130, w10_131, w10_132, w10_135, w10_137, w10_140, w10_143, w10_144, w10_147, w10_148, w10_149, w10_150, Ko_n, Ko_v, vX_i, vX_r, vX_l, vX_j, reduceIte, i64_eq, i64_lt, i64_i, a1, a2, not_false_eq_true, show v < 2400 by omega, c26, g1, g2, a4, show σ 404 p 0 ≤ v / 100 by omega, a6, not_true]
        simp only [show σ 404 p 0 ≤ 10 by omega, if_true]
        rw [c74 hs hkd hr (by omega)]
        cases hgB (σ 700 s) (v % 100) <;> simp (disch := (first | assumption | omega | exact Nat.le_of_ble_eq_true rfl | rfl)) only [w10_0, w10_1, w10_4, w10_8, w10_9, w10_10, w10_11, w10_12, w10_16, w10_17, w10_20, w10_24, w10_25, w10_26, w10_27, w10_28, w10_30, w10_32, w10_34, w10_35, w10_37, w10_39, w10_41, w10_42, w10_44, w10_46, w10_47, w10_50, w10_53, w10_54, w10_55, w10_57, w10_58, w10_61, w10_64, w10_65, w10_66, w10_69, w10_72, w10_74, w10_75, w10_76, w10_79, w10_81, w10_82, w10_84, w10_87, w10_89, w10_92, w10_95, w10_96, w10_99, w10_100, w10_101, w10_103, w10_105, w10_108, w10_109, w10_111, w10_114, w10_117, w10_118, w10_121, w10_122, w10_123, w10_125, w10_127, w10_130, w10_131, w10_132, w10_135, w10_137, w10_140, w10_143, w10_144, w10_147, w10_148, w10_149, w10_150, Ko_n, Ko_v, vX_i, vX_r, vX_l, vX_j, reduceIte, Int.reduceEq, Bool.false_eq_true]
      · rw [if_neg a6]
        by_cases a7 : 20 < v / 100
        · rw [if_pos a7]
          simp (disch := (first | assumption | omega | exact Nat.le_of_ble_eq_true rfl | rfl)) only [w10_0, w10_1, w10_4, w10_8, w10_9, w10_10, w10_11, w10_12, w10_16, w10_17, w10_20, w10_24, w10_25, w10_26, w10_27, w10_28, w10_30, w10_32, w10_34, w10_35, w10_37, w10_39, w10_41, w10_42, w10_44, w10_46, w10_47, w10_50, w10_53, w10_54, w10_55, w10_57, w10_58, w10_61, w10_64, w10_65, w10_66, w10_69, w10_72, w10_74, w10_75, w10_76, w10_79, w10_81, w10_82, w10_84, w10_87, w10_89, w10_92, w10_95, w10_96, w10_99, w10_100, w10_101, w10_103, w10_105, w10_108, w10_109, w10_111, w10_114, w10_117, w10_118, w10_121, w10_122, w10_123, w10_125, w10_127, w10_130, w10_131, w10_132, w10_135, w10_137, w10_140, w10_143, w10_144, w10_147, w10_148, w10_149, w10_150, Ko_n, Ko_v, vX_i, vX_r, vX_l, vX_j, reduceIte, i64_eq, i64_lt, i64_i, a1, a2, not_false_eq_true, show v < 2400 by omega, c26, g1, g2, a4, show σ 404 p 0 ≤ v / 100 by omega, a6, not_true, show ¬ v / 100 ≤ 20 by omega]
          rw [show i32 (σ 404 p 0) = i32 (((σ 404 p 0).toNat : Nat) : Int) by rw [show (((σ 404 p 0).toNat : Nat) : Int) = σ 404 p 0 by omega]]
          rw [c78 hs hkd (by omega) hr (by omega) (fun w hw => hat w (by omega))]
          by_cases a8 : σ 700 s (v % 100) = 0 ∧ wa (σ 702 s) (v % 100) (σ 404 p 0).toNat = 0
          · rw [if_pos a8, if_pos a8]
            simp (disch := (first | assumption | omega | exact Nat.le_of_ble_eq_true rfl | rfl)) only [w10_0, w10_1, w10_4, w10_8, w10_9, w10_10, w10_11, w10_12, w10_16, w10_17, w10_20, w10_24, w10_25, w10_26, w10_27, w10_28, w10_30, w10_32, w10_34, w10_35, w10_37, w10_39, w10_41, w10_42, w10_44, w10_46, w10_47, w10_50, w10_53, w10_54, w10_55, w10_57, w10_58, w10_61, w10_64, w10_65, w10_66, w10_69, w10_72, w10_74, w10_75, w10_76, w10_79, w10_81, w10_82, w10_84, w10_87, w10_89, w10_92, w10_95, w10_96, w10_99, w10_100, w10_101, w10_103, w10_105, w10_108, w10_109, w10_111, w10_114, w10_117, w10_118, w10_121, w10_122, w10_123, w10_125, w10_127, w10_130, w10_131, w10_132, w10_135, w10_137, w10_140, w10_143, w10_144, w10_147, w10_148, w10_149, w10_150, Ko_n, Ko_v, vX_i, vX_r, vX_l, vX_j, reduceIte, Int.reduceEq]
          · rw [if_neg a8, if_neg a8]
            simp (disch := (first | assumption | omega | exact Nat.le_of_ble_eq_true rfl | rfl)) only [w10_0, w10_1, w10_4, w10_8, w10_9, w10_10, w10_11, w10_12, w10_16, w10_17, w10_20, w10_24, w10_25, w10_26, w10_27, w10_28, w10_30, w10_32, w10_34, w10_35, w10_37, w10_39, w10_41, w10_42, w10_44, w10_46, w10_47, w10_50, w10_53, w10_54, w10_55, w10_57, w10_58, w10_61, w10_64, w10_65, w10_66, w10_69, w10_72, w10_74, w10_75, w10_76, w10_79, w10_81, w10_82, w10_84, w10_87, w10_89, w10_92, w10_95, w10_96, w10_99, w10_100, w10_101, w10_103, w10_105, w10_108, w10_109, w10_111, w10_114, w10_117, w10_118, w10_121, w10_122, w10_123, w10_125, w10_127, w10_130, w10_131, w10_132, w10_135, w10_137, w10_140, w10_143, w10_144, w10_147, w10_148, w10_149, w10_150, Ko_n, Ko_v, vX_i, vX_r, vX_l, vX_j, reduceIte, Int.reduceEq]
        · rw [if_neg a7]
          simp (disch := (first | assumption | omega | exact Nat.le_of_ble_eq_true rfl | rfl)) only [w10_0, w10_1, w10_4, w10_8, w10_9, w10_10, w10_11, w10_12, w10_16, w10_17, w10_20, w10_24, w10_25, w10_26, w10_27, w10_28, w10_30, w10_32, w10_34, w10_35, w10_37, w10_39, w10_41, w10_42, w10_44, w10_46, w10_47, w10_50, w10_53, w10_54, w10_55, w10_57, w10_58, w10_61, w10_64, w10_65, w10_66, w10_69, w10_72, w10_74, w10_75, w10_76, w10_79, w10_81, w10_82, w10_84, w10_87, w10_89, w10_92, w10_95, w10_96, w10_99, w10_100, w10_101, w10_103, w10_105, w10_108, w10_109, w10_111, w10_114, w10_117, w10_118, w10_121, w10_122, w10_123, w10_125, w10_127, w10_130, w10_131, w10_132, w10_135, w10_137, w10_140, w10_143, w10_144, w10_147, w10_148, w10_149, w10_150, Ko_n, Ko_v, vX_i, vX_r, vX_l, vX_j, reduceIte, i64_eq, i64_lt, i64_i, a1, a2, not_false_eq_true, show v < 2400 by omega, c26, g1, g2, a4, show σ 404 p 0 ≤ v / 100 by omega, a6, not_true, show v / 100 ≤ 20 by omega]
  · rw [if_pos a4]
    simp (disch := (first | assumption | omega | exact Nat.le_of_ble_eq_true rfl | rfl)) only [w10_0, w10_1, w10_4, w10_8, w10_9, w10_10, w10_11, w10_12, w10_16, w10_17, w10_20, w10_24, w10_25, w10_26, w10_27, w10_28, w10_30, w10_32, w10_34, w10_35, w10_37, w10_39, w10_41, w10_42, w10_44, w10_46, w10_47, w10_50, w10_53, w10_54, w10_55, w10_57, w10_58, w10_61, w10_64, w10_65, w10_66, w10_69, w10_72, w10_74, w10_75, w10_76, w10_79, w10_81, w10_82, w10_84, w10_87, w10_89, w10_92, w10_95, w10_96, w10_99, w10_100, w10_101, w10_103, w10_105, w10_108, w10_109, w10_111, w10_114, w10_117, w10_118, w10_121, w10_122, w10_123, w10_125, w10_127, w10_130, w10_131, w10_132, w10_135, w10_137, w10_140, w10_143, w10_144, w10_147, w10_148, w10_149, w10_150, Ko_n, Ko_v, vX_i, vX_r, vX_l, vX_j, reduceIte, i64_eq, i64_lt, i64_i, a1, a2, not_false_eq_true, show v < 2400 by omega, c26, g1, g2, a4]
/-- the store behind a walk -/
def gtS (σ : St) (p s : Nat) (W H w z : Int) (N : Nat) : St := upA (upA (upA (wyD (upA σ 1000 180 (cp (prc σ p s (frB (σ 405 p 0) w)) (σ 1000 180) (W * H))) 180 (spr W H (cp (prc σ p s (frB (σ 405 p 0) w)) (σ 1000 180) (W * H)) (σ 702 s w) N (σ 1001 180) (σ 1005 180))) 704 s fun _ => σ 704 s 0 + (spr W H (cp (prc σ p s (frB (σ 405 p 0) w)) (σ 1000 180) (W * H)) (σ 702 s w) N (σ 1001 180) (σ 1005 180)).1 z) 703 s (fu (σ 703 s) w (σ 703 s w + (spr W H (cp (prc σ p s (frB (σ 405 p 0) w)) (σ 1000 180) (W * H)) (σ 702 s w) N (σ 1001 180) (σ 1005 180)).1 z))) 702 s (fu (σ 702 s) w z)
theorem c12 {d : Nat} {k W H w z : Int} {p s N : Nat} {T : Tt} {σ : St} {Q : vmO → vmH → Prop} (hp : ob 4 p) (hs : ob 7 s) (hP : plK σ p W H) (hS : scK σ s) (hN : (N : Int) = W * H) (w0 : 0 ≤ w) (w1 : w < 5) (a0 : 0 ≤ σ 702 s w) (a1 : σ 702 s w < W * H) (z0 : 0 ≤ z) (z1 : z < W * H) :
    Ca (d + 5) k 12 [.ref 179, .ref p, .ref s, .int (i32 w), .int (i32 z)] (E T σ) Q = Q (.inl (some (.int (i32 ((spr W H (cp (prc σ p s (frB (σ 405 p 0) w)) (σ 1000 180) (W * H)) (σ 702 s w) N (σ 1001 180) (σ 1005 180)).1 z))))) (E T (gtS σ p s W H w z N)) := by
  have hp3 := ob_lt hp
  have hs3 := ob_lt hs
  have hd := ob_de
  have hw := ob_dw
  obtain ⟨hg, h, m0, m1, u0, u1⟩ := hP
  obtain ⟨hf, htk, n0, n1⟩ := hS
  have hm := wh_mul h
  rw [n12 _ _ _ _ _ _ _ _ _ _ hd]
  simp (disch := (first | assumption | omega | exact Nat.le_of_ble_eq_true rfl | rfl)) only [w12_0, w12_1, w12_4, w12_5, w12_6, w12_7, w12_8, w12_11, w12_14, w12_15, w12_18, w12_19, w12_20, w12_23, w12_24, w12_25, w12_28, w12_29, w12_32, w12_35, w12_37, w12_38, w12_40, w12_41, w12_42, w12_45, w12_47, w12_48, w12_51, w12_52, w12_55, w12_56, w12_57, w12_58, w12_60, w12_61, w12_62, w12_63, w12_66, w12_67, w12_69, w12_70, w12_72, Ko_n, Ko_v, vX_i, vX_r, vX_l, vX_j, reduceIte, c27]
  rw [c95 (N := W * H) hw hp hs hf htk m0 m1 n0 (by omega) (by rw [hg.1, hg.2.1]) (by omega) (by omega)]
  simp (disch := (first | assumption | omega | exact Nat.le_of_ble_eq_true rfl | rfl)) only [w12_0, w12_1, w12_4, w12_5, w12_6, w12_7, w12_8, w12_11, w12_14, w12_15, w12_18, w12_19, w12_20, w12_23, w12_24, w12_25, w12_28, w12_29, w12_32, w12_35, w12_37, w12_38, w12_40, w12_41, w12_42, w12_45, w12_47, w12_48, w12_51, w12_52, w12_55, w12_56, w12_57, w12_58, w12_60, w12_61, w12_62, w12_63, w12_66, w12_67, w12_69, w12_70, w12_72, Ko_n, Ko_v, vX_i, vX_r, vX_l, vX_j, reduceIte, upA_t]
  rw [c98 (σ := upA σ 1000 180 (cp (cst (σ 700 s) (σ 701 s) (wiB (σ 403 p 0) (σ 705 s 0)) (frB (σ 405 p 0) w)) (σ 1000 180) (W * H))) hw hp (geo_t hg (upA_t (by omega)) (upA_t (by omega)) (upA_t (by omega)) (upA_t (by omega)) (upA_t (by omega)) (upA_t (by omega))) h hN (by rw [upA_s]; exact cst_cs (by omega) hf htk) a0 a1, upA_s, upA_t (by omega), upA_t (by omega)]
  unfold wyD
  simp (disch := (first | assumption | omega | exact Nat.le_of_ble_eq_true rfl | rfl)) only [w12_0, w12_1, w12_4, w12_5, w12_6, w12_7, w12_8, w12_11, w12_14, w12_15, w12_18, w12_19, w12_20, w12_23, w12_24, w12_25, w12_28, w12_29, w12_32, w12_35, w12_37, w12_38, w12_40, w12_41, w12_42, w12_45, w12_47, w12_48, w12_51, w12_52, w12_55, w12_56, w12_57, w12_58, w12_60, w12_61, w12_62, w12_63, w12_66, w12_67, w12_69, w12_70, w12_72, Ko_n, Ko_v, vX_i, vX_r, vX_l, vX_j, reduceIte, wy1, wyt, upA_t]
  rfl
/-! draws -/
def lcg (s : Int) : Int := 1103515245 * s + 12345
theorem us_16 (u : Int) : 0 ≤ us u 16 ∧ us u 16 < 65536 := by
  unfold us
  have h1 : ((i32 16).toUInt32 &&& Int32.toUInt32 31) = 16 := by decide
  rw [h1]
  have h2 : ((i32 u).toUInt32 >>> (16 : UInt32)).toNat < 65536 := by
    rw [UInt32.toNat_shiftRight]
    have := (i32 u).toUInt32.toNat_lt
    rw [show (16 : UInt32).toNat % 32 = 16 from rfl, Nat.shiftRight_eq_div_pow]
    have h3 : (i32 u).toUInt32.toNat < 4294967296 := this
    show (i32 u).toUInt32.toNat / 65536 < 65536
    omega
  generalize (i32 u).toUInt32 >>> (16 : UInt32) = y at h2
  show 0 ≤ y.toBitVec.toInt ∧ y.toBitVec.toInt < 65536
  have h4 : y.toBitVec.toNat < 65536 := h2
  rw [BitVec.toInt_eq_toNat_cond, if_pos (by show 2 * y.toBitVec.toNat < 4294967296; omega)]
  omega
theorem c13 {d : Nat} {k m : Int} {T : Tt} {σ : St} {Q : vmO → vmH → Prop} (m0 : 0 < m) (m1 : m < 2147483648) : Ca d k 13 [.ref 179, .int (i32 m)] (E T σ) Q = Q (.inl (some (.int (i32 (us (lcg (σ 102 179 0)) 16 % m))))) (E T (upA σ 102 179 fun _ => lcg (σ 102 179 0))) := by
  have hd := ob_de
  have hu := us_16 (1103515245 * σ 102 179 0 + 12345)
  rw [n13 _ _ _ _ _ _ _ hd]
  simp (disch := (first | assumption | omega | exact Nat.le_of_ble_eq_true rfl | rfl)) only [w13_0, w13_1, w13_3, w13_4, w13_7, w13_8, w13_11, w13_12, w13_15, w13_16, w13_19, w13_20, w13_23, w13_25, w13_26, w13_27, w13_28, w13_31, w13_32, Ko_n, Ko_v, vX_i, vX_r, vX_l, vX_j, reduceIte, upA_s, show ¬ m ≤ 0 by omega, hu.1, Int.lt_trans hu.2 (show (65536 : Int) < 2147483648 by omega)]
  rfl
/-- the deed that is drawn, and the seed behind it -/
def dwD (nw N s : Int) : Int × Int := if us (lcg s) 16 % 4 = 0 then (-1, lcg s) else if us (lcg s) 16 % 4 = 1 then (if nw = 0 then (-2, lcg s) else (100 * (us (lcg (lcg s)) 16 % nw) + us (lcg (lcg (lcg s))) 16 % N, lcg (lcg (lcg s)))) else if us (lcg s) 16 % 4 = 2 then (1000 + us (lcg (lcg s)) 16 % N, lcg (lcg s)) else (2000 + 100 * (1 + us (lcg (lcg (lcg s))) 16 % 3) + us (lcg (lcg s)) 16 % N, lcg (lcg (lcg s)))
theorem c14 {d : Nat} {k N : Int} {p : Nat} {T : Tt} {σ : St} {Q : vmO → vmH → Prop} (hp : ob 4 p) (hN : σ 401 p 0 * σ 402 p 0 = N) (N0 : 0 < N) (N1 : N ≤ 36) (w0 : 0 ≤ σ 404 p 0) (w1 : σ 404 p 0 ≤ 5) : Ca (d + 1) k 14 [.ref 179, .ref p] (E T σ) Q = Q (.inl (some (.long (i64 (dwD (σ 404 p 0) N (σ 102 179 0)).1)))) (E T (upA σ 102 179 fun _ => (dwD (σ 404 p 0) N (σ 102 179 0)).2)) := by
  have hp3 := ob_lt hp
  have hd := ob_de
  have e0 := Int.emod_nonneg (us (lcg (σ 102 179 0)) 16) (show (4 : Int) ≠ 0 by omega)
  have e1 := Int.emod_lt_of_pos (us (lcg (σ 102 179 0)) 16) (show (0 : Int) < 4 by omega)
  have f0 := fun u => Int.emod_nonneg u (show N ≠ 0 by omega)
  have f1 := fun u => Int.emod_lt_of_pos u N0
  have q0 := fun u => Int.emod_nonneg u (show (3 : Int) ≠ 0 by omega)
  have q1 := fun u => Int.emod_lt_of_pos u (show (0 : Int) < 3 by omega)
  rw [n14 _ _ _ _ _ _ _ hd]
  unfold dwD
  simp (disch := (first | assumption | omega | exact Nat.le_of_ble_eq_true rfl | rfl)) only [w14_0, w14_1, w14_2, w14_5, w14_32, w14_35, w14_36, w14_37, w14_40, w14_43, w14_46, w14_47, w14_48, w14_49, w14_52, w14_55, w14_56, w14_57, w14_58, w14_59, w14_62, w14_65, w14_68, w14_69, w14_70, w14_73, w14_74, w14_75, w14_78, w14_81, w14_82, w14_83, w14_84, w14_85, w14_86, w14_89, w14_92, w14_93, w14_96, w14_98, w14_99, w14_100, w14_101, w14_104, w14_105, w14_106, w14_107, w14_108, w14_109, w14_110, Ko_n, Ko_v, vX_i, vX_r, vX_l, vX_j, reduceIte]
  rw [c13 (by omega) (by omega)]
  generalize hm : us (lcg (σ 102 179 0)) 16 % 4 = m at *
  have hc : m = 0 ∨ m = 1 ∨ m = 2 ∨ m = 3 := by omega
  rcases hc with rfl | rfl | rfl | rfl
  · simp (disch := (first | assumption | omega | exact Nat.le_of_ble_eq_true rfl | rfl)) only [w14_0, w14_1, w14_2, w14_5, w14_32, w14_35, w14_36, w14_37, w14_40, w14_43, w14_46, w14_47, w14_48, w14_49, w14_52, w14_55, w14_56, w14_57, w14_58, w14_59, w14_62, w14_65, w14_68, w14_69, w14_70, w14_73, w14_74, w14_75, w14_78, w14_81, w14_82, w14_83, w14_84, w14_85, w14_86, w14_89, w14_92, w14_93, w14_96, w14_98, w14_99, w14_100, w14_101, w14_104, w14_105, w14_106, w14_107, w14_108, w14_109, w14_110, Ko_n, Ko_v, vX_i, vX_r, vX_l, vX_j, reduceIte, vmSwitch, Int.reduceEq]
  · by_cases hw : σ 404 p 0 = 0
    · simp (disch := (first | assumption | omega | exact Nat.le_of_ble_eq_true rfl | rfl)) only [w14_0, w14_1, w14_2, w14_5, w14_32, w14_35, w14_36, w14_37, w14_40, w14_43, w14_46, w14_47, w14_48, w14_49, w14_52, w14_55, w14_56, w14_57, w14_58, w14_59, w14_62, w14_65, w14_68, w14_69, w14_70, w14_73, w14_74, w14_75, w14_78, w14_81, w14_82, w14_83, w14_84, w14_85, w14_86, w14_89, w14_92, w14_93, w14_96, w14_98, w14_99, w14_100, w14_101, w14_104, w14_105, w14_106, w14_107, w14_108, w14_109, w14_110, Ko_n, Ko_v, vX_i, vX_r, vX_l, vX_j, reduceIte, vmSwitch, Int.reduceEq, upA_t, hw, not_true]
    · have r0 := fun u => Int.emod_nonneg u hw
      have r1 := fun u => Int.emod_lt_of_pos u (show 0 < σ 404 p 0 by omega)
      have a := r0 (us (lcg (lcg (σ 102 179 0))) 16)
      have b := r1 (us (lcg (lcg (σ 102 179 0))) 16)
      have c := f0 (us (lcg (lcg (lcg (σ 102 179 0)))) 16)
      have e := f1 (us (lcg (lcg (lcg (σ 102 179 0)))) 16)
      simp (disch := (first | assumption | omega | exact Nat.le_of_ble_eq_true rfl | rfl)) only [w14_0, w14_1, w14_2, w14_5, w14_32, w14_35, w14_36, w14_37, w14_40, w14_43, w14_46, w14_47, w14_48, w14_49, w14_52, w14_55, w14_56, w14_57, w14_58, w14_59, w14_62, w14_65, w14_68, w14_69, w14_70, w14_73, w14_74, w14_75, w14_78, w14_81, w14_82, w14_83, w14_84, w14_85, w14_86, w14_89, w14_92, w14_93, w14_96, w14_98, w14_99, w14_100, w14_101, w14_104, w14_105, w14_106, w14_107, w14_108, w14_109, w14_110, Ko_n, Ko_v, vX_i, vX_r, vX_l, vX_j, reduceIte, vmSwitch, Int.reduceEq, upA_t, hw, not_false_eq_true]
      rw [c13 (by omega) (by omega)]
      simp (disch := (first | assumption | omega | exact Nat.le_of_ble_eq_true rfl | rfl)) only [w14_0, w14_1, w14_2, w14_5, w14_32, w14_35, w14_36, w14_37, w14_40, w14_43, w14_46, w14_47, w14_48, w14_49, w14_52, w14_55, w14_56, w14_57, w14_58, w14_59, w14_62, w14_65, w14_68, w14_69, w14_70, w14_73, w14_74, w14_75, w14_78, w14_81, w14_82, w14_83, w14_84, w14_85, w14_86, w14_89, w14_92, w14_93, w14_96, w14_98, w14_99, w14_100, w14_101, w14_104, w14_105, w14_106, w14_107, w14_108, w14_109, w14_110, Ko_n, Ko_v, vX_i, vX_r, vX_l, vX_j, reduceIte, upA_t, upA_s, c26, hN]
      rw [c13 N0 (by omega)]
      simp (disch := (first | assumption | omega | exact Nat.le_of_ble_eq_true rfl | rfl)) only [w14_0, w14_1, w14_2, w14_5, w14_32, w14_35, w14_36, w14_37, w14_40, w14_43, w14_46, w14_47, w14_48, w14_49, w14_52, w14_55, w14_56, w14_57, w14_58, w14_59, w14_62, w14_65, w14_68, w14_69, w14_70, w14_73, w14_74, w14_75, w14_78, w14_81, w14_82, w14_83, w14_84, w14_85, w14_86, w14_89, w14_92, w14_93, w14_96, w14_98, w14_99, w14_100, w14_101, w14_104, w14_105, w14_106, w14_107, w14_108, w14_109, w14_110, Ko_n, Ko_v, vX_i, vX_r, vX_l, vX_j, reduceIte, upA_s, upA_upA, c9]
  · have c := f0 (us (lcg (lcg (σ 102 179 0))) 16)
    have e := f1 (us (lcg (lcg (σ 102 179 0))) 16)
    simp (disch := (first | assumption | omega | exact Nat.le_of_ble_eq_true rfl | rfl)) only [w14_0, w14_1, w14_2, w14_5, w14_32, w14_35, w14_36, w14_37, w14_40, w14_43, w14_46, w14_47, w14_48, w14_49, w14_52, w14_55, w14_56, w14_57, w14_58, w14_59, w14_62, w14_65, w14_68, w14_69, w14_70, w14_73, w14_74, w14_75, w14_78, w14_81, w14_82, w14_83, w14_84, w14_85, w14_86, w14_89, w14_92, w14_93, w14_96, w14_98, w14_99, w14_100, w14_101, w14_104, w14_105, w14_106, w14_107, w14_108, w14_109, w14_110, Ko_n, Ko_v, vX_i, vX_r, vX_l, vX_j, reduceIte, vmSwitch, Int.reduceEq, upA_t, c26, hN]
    rw [c13 N0 (by omega)]
    simp (disch := (first | assumption | omega | exact Nat.le_of_ble_eq_true rfl | rfl)) only [w14_0, w14_1, w14_2, w14_5, w14_32, w14_35, w14_36, w14_37, w14_40, w14_43, w14_46, w14_47, w14_48, w14_49, w14_52, w14_55, w14_56, w14_57, w14_58, w14_59, w14_62, w14_65, w14_68, w14_69, w14_70, w14_73, w14_74, w14_75, w14_78, w14_81, w14_82, w14_83, w14_84, w14_85, w14_86, w14_89, w14_92, w14_93, w14_96, w14_98, w14_99, w14_100, w14_101, w14_104, w14_105, w14_106, w14_107, w14_108, w14_109, w14_110, Ko_n, Ko_v, vX_i, vX_r, vX_l, vX_j, reduceIte, upA_s, upA_upA]
  · have c := f0 (us (lcg (lcg (σ 102 179 0))) 16)
    have e := f1 (us (lcg (lcg (σ 102 179 0))) 16)
    have c3 := q0 (us (lcg (lcg (lcg (σ 102 179 0)))) 16)
    have e3 := q1 (us (lcg (lcg (lcg (σ 102 179 0)))) 16)
    simp (disch := (first | assumption | omega | exact Nat.le_of_ble_eq_true rfl | rfl)) only [w14_0, w14_1, w14_2, w14_5, w14_32, w14_35, w14_36, w14_37, w14_40, w14_43, w14_46, w14_47, w14_48, w14_49, w14_52, w14_55, w14_56, w14_57, w14_58, w14_59, w14_62, w14_65, w14_68, w14_69, w14_70, w14_73, w14_74, w14_75, w14_78, w14_81, w14_82, w14_83, w14_84, w14_85, w14_86, w14_89, w14_92, w14_93, w14_96, w14_98, w14_99, w14_100, w14_101, w14_104, w14_105, w14_106, w14_107, w14_108, w14_109, w14_110, Ko_n, Ko_v, vX_i, vX_r, vX_l, vX_j, reduceIte, vmSwitch, Int.reduceEq, upA_t, c26, hN]
    rw [c13 N0 (by omega)]
    simp (disch := (first | assumption | omega | exact Nat.le_of_ble_eq_true rfl | rfl)) only [w14_0, w14_1, w14_2, w14_5, w14_32, w14_35, w14_36, w14_37, w14_40, w14_43, w14_46, w14_47, w14_48, w14_49, w14_52, w14_55, w14_56, w14_57, w14_58, w14_59, w14_62, w14_65, w14_68, w14_69, w14_70, w14_73, w14_74, w14_75, w14_78, w14_81, w14_82, w14_83, w14_84, w14_85, w14_86, w14_89, w14_92, w14_93, w14_96, w14_98, w14_99, w14_100, w14_101, w14_104, w14_105, w14_106, w14_107, w14_108, w14_109, w14_110, Ko_n, Ko_v, vX_i, vX_r, vX_l, vX_j, reduceIte, upA_s, upA_upA]
    rw [c13 (by omega) (by omega)]
    simp (disch := (first | assumption | omega | exact Nat.le_of_ble_eq_true rfl | rfl)) only [w14_0, w14_1, w14_2, w14_5, w14_32, w14_35, w14_36, w14_37, w14_40, w14_43, w14_46, w14_47, w14_48, w14_49, w14_52, w14_55, w14_56, w14_57, w14_58, w14_59, w14_62, w14_65, w14_68, w14_69, w14_70, w14_73, w14_74, w14_75, w14_78, w14_81, w14_82, w14_83, w14_84, w14_85, w14_86, w14_89, w14_92, w14_93, w14_96, w14_98, w14_99, w14_100, w14_101, w14_104, w14_105, w14_106, w14_107, w14_108, w14_109, w14_110, Ko_n, Ko_v, vX_i, vX_r, vX_l, vX_j, reduceIte, upA_s, upA_upA]
