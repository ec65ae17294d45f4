/-! ===== the reference: told deeds, walk, clip, plant, nights, undo ===== -/
theorem i64_div {u v : Int} (a0 : 0 ≤ u) (a1 : u < 9223372036854775808) (b0 : 0 < v) (b1 : v < 9223372036854775808) : i64 u / i64 v = i64 (u / v) := by
  apply Int64.toInt_inj.1
  have h1 : u / v ≤ u := Int.ediv_le_self v a0
  have h2 : 0 ≤ u / v := Int.ediv_nonneg a0 (by omega)
  rw [Int64.toInt_div, i64_i (by omega) a1, i64_i (by omega) b1, i64_i (by omega) (by omega), Int.tdiv_eq_ediv_of_nonneg a0]
  have := i64_i (u := u / v) (by omega) (by omega)
  rw [← this]
  unfold i64
  rw [Int64.toInt_ofInt]
  simp
theorem i64_rem {u v : Int} (a0 : 0 ≤ u) (a1 : u < 9223372036854775808) (b0 : 0 < v) (b1 : v < 9223372036854775808) : i64 u % i64 v = i64 (u % v) := by
  apply Int64.toInt_inj.1
  have h1 : u % v < v := Int.emod_lt_of_pos u b0
  have h2 : 0 ≤ u % v := Int.emod_nonneg u (by omega)
  rw [Int64.toInt_mod, i64_i (by omega) a1, i64_i (by omega) b1, i64_i (by omega) (by omega), Int.tmod_eq_emod_of_nonneg a0]
theorem i64_n100 : ¬ i64 100 = 0 := by decide
theorem c252 {d : Nat} {k v B : Int} {K : Int → Int} {T : Tt} {σ : St} {Q : vmO → vmH → Prop} (hK : σ 1200 382 = K) (hv : kV K B) (hB : B < 900000000) (v0 : -9223372036854775808 ≤ v) (v1 : v < 9223372036854775808) (hQ : ∀ τ, fq σ τ → τ 1200 382 = K → Q (.inl (some (.int (i32 (whyK K v))))) (E T τ)) : Ca (d + 7) k 252 [.ref 382, .long (i64 v)] (E T σ) Q := by
  have h0 := ob_md
  have hm := wh_mul0 hv.1.1
  have h3 := hv.1.2.1
  have q0 := hQ σ fq_r hK
  have hn100 := i64_n100
  rw [n252 _ _ _ _ _ _ _ h0]
  have e1 := i64_eq (u := v) (v := -1) v0 v1 (by omega) (by omega)
  by_cases a : v = -1
  · have hw : whyK K v = 0 := by unfold whyK; rw [if_pos a]
    rw [hw] at q0
    simp (disch := (first | assumption | omega | exact Nat.le_of_ble_eq_true rfl | rfl)) only [w252_0, w252_1, w252_4, w252_8, w252_9, w252_10, w252_11, w252_14, w252_15, w252_16, w252_17, w252_18, w252_19, w252_22, w252_25, w252_28, w252_29, w252_30, w252_31, w252_34, w252_37, w252_38, w252_39, w252_40, w252_43, w252_47, w252_48, w252_49, w252_52, w252_53, w252_56, w252_59, w252_60, w252_63, w252_64, w252_65, w252_66, w252_68, w252_69, w252_70, w252_73, w252_74, w252_77, w252_78, w252_81, w252_82, w252_83, w252_84, w252_87, w252_90, w252_93, w252_96, w252_97, w252_98, w252_101, w252_104, w252_105, w252_108, w252_109, w252_110, w252_111, w252_114, w252_118, w252_119, w252_122, w252_123, w252_124, w252_127, w252_130, w252_131, w252_134, w252_135, Ko_n, Ko_v, vX_i, vX_r, vX_l, vX_j, reduceIte, e1, a, not_true]
    exact q0
  · by_cases b : v < 0 ∨ 2400 ≤ v
    · have hw : whyK K v = 1 := by unfold whyK; rw [if_neg a, if_pos b]
      rw [hw] at q0
      simp (disch := (first | assumption | omega | exact Nat.le_of_ble_eq_true rfl | rfl)) only [w252_0, w252_1, w252_4, w252_8, w252_9, w252_10, w252_11, w252_14, w252_15, w252_16, w252_17, w252_18, w252_19, w252_22, w252_25, w252_28, w252_29, w252_30, w252_31, w252_34, w252_37, w252_38, w252_39, w252_40, w252_43, w252_47, w252_48, w252_49, w252_52, w252_53, w252_56, w252_59, w252_60, w252_63, w252_64, w252_65, w252_66, w252_68, w252_69, w252_70, w252_73, w252_74, w252_77, w252_78, w252_81, w252_82, w252_83, w252_84, w252_87, w252_90, w252_93, w252_96, w252_97, w252_98, w252_101, w252_104, w252_105, w252_108, w252_109, w252_110, w252_111, w252_114, w252_118, w252_119, w252_122, w252_123, w252_124, w252_127, w252_130, w252_131, w252_134, w252_135, Ko_n, Ko_v, vX_i, vX_r, vX_l, vX_j, reduceIte, e1, a, not_false_eq_true]
      rw [c176 (by omega) v0 v1 (by omega) (by omega) (by omega) (by omega), if_neg (by omega)]
      simp (disch := (first | assumption | omega | exact Nat.le_of_ble_eq_true rfl | rfl)) only [w252_0, w252_1, w252_4, w252_8, w252_9, w252_10, w252_11, w252_14, w252_15, w252_16, w252_17, w252_18, w252_19, w252_22, w252_25, w252_28, w252_29, w252_30, w252_31, w252_34, w252_37, w252_38, w252_39, w252_40, w252_43, w252_47, w252_48, w252_49, w252_52, w252_53, w252_56, w252_59, w252_60, w252_63, w252_64, w252_65, w252_66, w252_68, w252_69, w252_70, w252_73, w252_74, w252_77, w252_78, w252_81, w252_82, w252_83, w252_84, w252_87, w252_90, w252_93, w252_96, w252_97, w252_98, w252_101, w252_104, w252_105, w252_108, w252_109, w252_110, w252_111, w252_114, w252_118, w252_119, w252_122, w252_123, w252_124, w252_127, w252_130, w252_131, w252_134, w252_135, Ko_n, Ko_v, vX_i, vX_r, vX_l, vX_j, reduceIte]
      exact q0
    · have r1 := Int.emod_nonneg v (show (100 : Int) ≠ 0 by omega)
      have r2 := Int.emod_lt_of_pos v (show (0 : Int) < 100 by omega)
      have r3 : 0 ≤ v / 100 := by omega
      have er := i64_rem (u := v) (v := 100) (by omega) (by omega) (by omega) (by omega)
      have ei := i64_i (u := v % 100) (by omega) (by omega)
      simp (disch := (first | assumption | omega | exact Nat.le_of_ble_eq_true rfl | rfl)) only [w252_0, w252_1, w252_4, w252_8, w252_9, w252_10, w252_11, w252_14, w252_15, w252_16, w252_17, w252_18, w252_19, w252_22, w252_25, w252_28, w252_29, w252_30, w252_31, w252_34, w252_37, w252_38, w252_39, w252_40, w252_43, w252_47, w252_48, w252_49, w252_52, w252_53, w252_56, w252_59, w252_60, w252_63, w252_64, w252_65, w252_66, w252_68, w252_69, w252_70, w252_73, w252_74, w252_77, w252_78, w252_81, w252_82, w252_83, w252_84, w252_87, w252_90, w252_93, w252_96, w252_97, w252_98, w252_101, w252_104, w252_105, w252_108, w252_109, w252_110, w252_111, w252_114, w252_118, w252_119, w252_122, w252_123, w252_124, w252_127, w252_130, w252_131, w252_134, w252_135, Ko_n, Ko_v, vX_i, vX_r, vX_l, vX_j, reduceIte, e1, a, not_false_eq_true, er, ei]
      rw [c176 (by omega) v0 v1 (by omega) (by omega) (by omega) (by omega), if_pos (by omega)]
      simp (disch := (first | assumption | omega | exact Nat.le_of_ble_eq_true rfl | rfl)) only [w252_0, w252_1, w252_4, w252_8, w252_9, w252_10, w252_11, w252_14, w252_15, w252_16, w252_17, w252_18, w252_19, w252_22, w252_25, w252_28, w252_29, w252_30, w252_31, w252_34, w252_37, w252_38, w252_39, w252_40, w252_43, w252_47, w252_48, w252_49, w252_52, w252_53, w252_56, w252_59, w252_60, w252_63, w252_64, w252_65, w252_66, w252_68, w252_69, w252_70, w252_73, w252_74, w252_77, w252_78, w252_81, w252_82, w252_83, w252_84, w252_87, w252_90, w252_93, w252_96, w252_97, w252_98, w252_101, w252_104, w252_105, w252_108, w252_109, w252_110, w252_111, w252_114, w252_118, w252_119, w252_122, w252_123, w252_124, w252_127, w252_130, w252_131, w252_134, w252_135, Ko_n, Ko_v, vX_i, vX_r, vX_l, vX_j, reduceIte, Int.reduceEq]
      rw [c214 hK hv (by omega) (by omega)]
      by_cases c : 0 ≤ v % 100 ∧ v % 100 < K 1 * K 2
      · rw [if_pos c]
        have e5 := i64_le (u := 500) (v := v) (by omega) (by omega) v0 v1
        have e21 := i64_le (u := 2100) (v := v) (by omega) (by omega) v0 v1
        have ed := i64_div (u := v) (v := 100) (by omega) (by omega) (by omega) (by omega)
        have ev := i64_i v0 v1
        by_cases s5 : 500 ≤ v
        · by_cases s10 : 1000 ≤ v ∧ v ≤ 1099
          · have hw : whyK K v = if hgB (kdK K 7) (v % 100) then 0 else 2 := by
              unfold whyK
              rw [if_neg a, if_neg b, if_neg (by omega), if_neg (by omega), if_pos (by omega)]
            rw [hw] at q0
            simp (disch := (first | assumption | omega | exact Nat.le_of_ble_eq_true rfl | rfl)) only [w252_0, w252_1, w252_4, w252_8, w252_9, w252_10, w252_11, w252_14, w252_15, w252_16, w252_17, w252_18, w252_19, w252_22, w252_25, w252_28, w252_29, w252_30, w252_31, w252_34, w252_37, w252_38, w252_39, w252_40, w252_43, w252_47, w252_48, w252_49, w252_52, w252_53, w252_56, w252_59, w252_60, w252_63, w252_64, w252_65, w252_66, w252_68, w252_69, w252_70, w252_73, w252_74, w252_77, w252_78, w252_81, w252_82, w252_83, w252_84, w252_87, w252_90, w252_93, w252_96, w252_97, w252_98, w252_101, w252_104, w252_105, w252_108, w252_109, w252_110, w252_111, w252_114, w252_118, w252_119, w252_122, w252_123, w252_124, w252_127, w252_130, w252_131, w252_134, w252_135, Ko_n, Ko_v, vX_i, vX_r, vX_l, vX_j, reduceIte, Int.reduceEq, not_false_eq_true, e5, s5]
            rw [c176 (by omega) v0 v1 (by omega) (by omega) (by omega) (by omega), if_pos s10]
            simp (disch := (first | assumption | omega | exact Nat.le_of_ble_eq_true rfl | rfl)) only [w252_0, w252_1, w252_4, w252_8, w252_9, w252_10, w252_11, w252_14, w252_15, w252_16, w252_17, w252_18, w252_19, w252_22, w252_25, w252_28, w252_29, w252_30, w252_31, w252_34, w252_37, w252_38, w252_39, w252_40, w252_43, w252_47, w252_48, w252_49, w252_52, w252_53, w252_56, w252_59, w252_60, w252_63, w252_64, w252_65, w252_66, w252_68, w252_69, w252_70, w252_73, w252_74, w252_77, w252_78, w252_81, w252_82, w252_83, w252_84, w252_87, w252_90, w252_93, w252_96, w252_97, w252_98, w252_101, w252_104, w252_105, w252_108, w252_109, w252_110, w252_111, w252_114, w252_118, w252_119, w252_122, w252_123, w252_124, w252_127, w252_130, w252_131, w252_134, w252_135, Ko_n, Ko_v, vX_i, vX_r, vX_l, vX_j, reduceIte, Int.reduceEq]
            rw [c213 hK hv.2.1 (by omega) (by omega)]
            cases g : hgB (kdK K 7) (v % 100) with
            | true =>
              rw [g] at q0
              simp (disch := (first | assumption | omega | exact Nat.le_of_ble_eq_true rfl | rfl)) only [w252_0, w252_1, w252_4, w252_8, w252_9, w252_10, w252_11, w252_14, w252_15, w252_16, w252_17, w252_18, w252_19, w252_22, w252_25, w252_28, w252_29, w252_30, w252_31, w252_34, w252_37, w252_38, w252_39, w252_40, w252_43, w252_47, w252_48, w252_49, w252_52, w252_53, w252_56, w252_59, w252_60, w252_63, w252_64, w252_65, w252_66, w252_68, w252_69, w252_70, w252_73, w252_74, w252_77, w252_78, w252_81, w252_82, w252_83, w252_84, w252_87, w252_90, w252_93, w252_96, w252_97, w252_98, w252_101, w252_104, w252_105, w252_108, w252_109, w252_110, w252_111, w252_114, w252_118, w252_119, w252_122, w252_123, w252_124, w252_127, w252_130, w252_131, w252_134, w252_135, Ko_n, Ko_v, vX_i, vX_r, vX_l, vX_j, reduceIte, Int.reduceEq]
              exact q0
            | false =>
              rw [g] at q0
              simp (disch := (first | assumption | omega | exact Nat.le_of_ble_eq_true rfl | rfl)) only [w252_0, w252_1, w252_4, w252_8, w252_9, w252_10, w252_11, w252_14, w252_15, w252_16, w252_17, w252_18, w252_19, w252_22, w252_25, w252_28, w252_29, w252_30, w252_31, w252_34, w252_37, w252_38, w252_39, w252_40, w252_43, w252_47, w252_48, w252_49, w252_52, w252_53, w252_56, w252_59, w252_60, w252_63, w252_64, w252_65, w252_66, w252_68, w252_69, w252_70, w252_73, w252_74, w252_77, w252_78, w252_81, w252_82, w252_83, w252_84, w252_87, w252_90, w252_93, w252_96, w252_97, w252_98, w252_101, w252_104, w252_105, w252_108, w252_109, w252_110, w252_111, w252_114, w252_118, w252_119, w252_122, w252_123, w252_124, w252_127, w252_130, w252_131, w252_134, w252_135, Ko_n, Ko_v, vX_i, vX_r, vX_l, vX_j, reduceIte, Bool.false_eq_true]
              exact q0
          · simp (disch := (first | assumption | omega | exact Nat.le_of_ble_eq_true rfl | rfl)) only [w252_0, w252_1, w252_4, w252_8, w252_9, w252_10, w252_11, w252_14, w252_15, w252_16, w252_17, w252_18, w252_19, w252_22, w252_25, w252_28, w252_29, w252_30, w252_31, w252_34, w252_37, w252_38, w252_39, w252_40, w252_43, w252_47, w252_48, w252_49, w252_52, w252_53, w252_56, w252_59, w252_60, w252_63, w252_64, w252_65, w252_66, w252_68, w252_69, w252_70, w252_73, w252_74, w252_77, w252_78, w252_81, w252_82, w252_83, w252_84, w252_87, w252_90, w252_93, w252_96, w252_97, w252_98, w252_101, w252_104, w252_105, w252_108, w252_109, w252_110, w252_111, w252_114, w252_118, w252_119, w252_122, w252_123, w252_124, w252_127, w252_130, w252_131, w252_134, w252_135, Ko_n, Ko_v, vX_i, vX_r, vX_l, vX_j, reduceIte, Int.reduceEq, not_false_eq_true, e5, s5]
            rw [c176 (by omega) v0 v1 (by omega) (by omega) (by omega) (by omega), if_neg s10]
            by_cases s21 : 2100 ≤ v
            · have hw : whyK K v = if K (7 + v % 100) = 0 ∧ waK K (v % 100) = 0 then 0 else 2 := by
                unfold whyK
                rw [if_neg a, if_neg b, if_neg (by omega), if_neg (by omega), if_neg (by omega), if_pos (by omega)]
              rw [hw] at q0
              simp (disch := (first | assumption | omega | exact Nat.le_of_ble_eq_true rfl | rfl)) only [w252_0, w252_1, w252_4, w252_8, w252_9, w252_10, w252_11, w252_14, w252_15, w252_16, w252_17, w252_18, w252_19, w252_22, w252_25, w252_28, w252_29, w252_30, w252_31, w252_34, w252_37, w252_38, w252_39, w252_40, w252_43, w252_47, w252_48, w252_49, w252_52, w252_53, w252_56, w252_59, w252_60, w252_63, w252_64, w252_65, w252_66, w252_68, w252_69, w252_70, w252_73, w252_74, w252_77, w252_78, w252_81, w252_82, w252_83, w252_84, w252_87, w252_90, w252_93, w252_96, w252_97, w252_98, w252_101, w252_104, w252_105, w252_108, w252_109, w252_110, w252_111, w252_114, w252_118, w252_119, w252_122, w252_123, w252_124, w252_127, w252_130, w252_131, w252_134, w252_135, Ko_n, Ko_v, vX_i, vX_r, vX_l, vX_j, reduceIte, e21, s21]
              rw [c246 hK hv (by omega) (by omega)]
              by_cases g : K (7 + v % 100) = 0 ∧ waK K (v % 100) = 0
              · rw [if_pos g] at q0 ⊢
                simp (disch := (first | assumption | omega | exact Nat.le_of_ble_eq_true rfl | rfl)) only [w252_0, w252_1, w252_4, w252_8, w252_9, w252_10, w252_11, w252_14, w252_15, w252_16, w252_17, w252_18, w252_19, w252_22, w252_25, w252_28, w252_29, w252_30, w252_31, w252_34, w252_37, w252_38, w252_39, w252_40, w252_43, w252_47, w252_48, w252_49, w252_52, w252_53, w252_56, w252_59, w252_60, w252_63, w252_64, w252_65, w252_66, w252_68, w252_69, w252_70, w252_73, w252_74, w252_77, w252_78, w252_81, w252_82, w252_83, w252_84, w252_87, w252_90, w252_93, w252_96, w252_97, w252_98, w252_101, w252_104, w252_105, w252_108, w252_109, w252_110, w252_111, w252_114, w252_118, w252_119, w252_122, w252_123, w252_124, w252_127, w252_130, w252_131, w252_134, w252_135, Ko_n, Ko_v, vX_i, vX_r, vX_l, vX_j, reduceIte, Int.reduceEq]
                exact q0
              · rw [if_neg g] at q0 ⊢
                simp (disch := (first | assumption | omega | exact Nat.le_of_ble_eq_true rfl | rfl)) only [w252_0, w252_1, w252_4, w252_8, w252_9, w252_10, w252_11, w252_14, w252_15, w252_16, w252_17, w252_18, w252_19, w252_22, w252_25, w252_28, w252_29, w252_30, w252_31, w252_34, w252_37, w252_38, w252_39, w252_40, w252_43, w252_47, w252_48, w252_49, w252_52, w252_53, w252_56, w252_59, w252_60, w252_63, w252_64, w252_65, w252_66, w252_68, w252_69, w252_70, w252_73, w252_74, w252_77, w252_78, w252_81, w252_82, w252_83, w252_84, w252_87, w252_90, w252_93, w252_96, w252_97, w252_98, w252_101, w252_104, w252_105, w252_108, w252_109, w252_110, w252_111, w252_114, w252_118, w252_119, w252_122, w252_123, w252_124, w252_127, w252_130, w252_131, w252_134, w252_135, Ko_n, Ko_v, vX_i, vX_r, vX_l, vX_j, reduceIte]
                exact q0
            · have hw : whyK K v = 1 := by
                unfold whyK
                rw [if_neg a, if_neg b, if_neg (by omega), if_neg (by omega), if_neg (by omega), if_neg (by omega)]
              rw [hw] at q0
              simp (disch := (first | assumption | omega | exact Nat.le_of_ble_eq_true rfl | rfl)) only [w252_0, w252_1, w252_4, w252_8, w252_9, w252_10, w252_11, w252_14, w252_15, w252_16, w252_17, w252_18, w252_19, w252_22, w252_25, w252_28, w252_29, w252_30, w252_31, w252_34, w252_37, w252_38, w252_39, w252_40, w252_43, w252_47, w252_48, w252_49, w252_52, w252_53, w252_56, w252_59, w252_60, w252_63, w252_64, w252_65, w252_66, w252_68, w252_69, w252_70, w252_73, w252_74, w252_77, w252_78, w252_81, w252_82, w252_83, w252_84, w252_87, w252_90, w252_93, w252_96, w252_97, w252_98, w252_101, w252_104, w252_105, w252_108, w252_109, w252_110, w252_111, w252_114, w252_118, w252_119, w252_122, w252_123, w252_124, w252_127, w252_130, w252_131, w252_134, w252_135, Ko_n, Ko_v, vX_i, vX_r, vX_l, vX_j, reduceIte, e21, s21]
              exact q0
        · simp (disch := (first | assumption | omega | exact Nat.le_of_ble_eq_true rfl | rfl)) only [w252_0, w252_1, w252_4, w252_8, w252_9, w252_10, w252_11, w252_14, w252_15, w252_16, w252_17, w252_18, w252_19, w252_22, w252_25, w252_28, w252_29, w252_30, w252_31, w252_34, w252_37, w252_38, w252_39, w252_40, w252_43, w252_47, w252_48, w252_49, w252_52, w252_53, w252_56, w252_59, w252_60, w252_63, w252_64, w252_65, w252_66, w252_68, w252_69, w252_70, w252_73, w252_74, w252_77, w252_78, w252_81, w252_82, w252_83, w252_84, w252_87, w252_90, w252_93, w252_96, w252_97, w252_98, w252_101, w252_104, w252_105, w252_108, w252_109, w252_110, w252_111, w252_114, w252_118, w252_119, w252_122, w252_123, w252_124, w252_127, w252_130, w252_131, w252_134, w252_135, Ko_n, Ko_v, vX_i, vX_r, vX_l, vX_j, reduceIte, Int.reduceEq, not_false_eq_true, e5, s5, ed]
          rw [c215 hK hv (by omega) (by omega)]
          by_cases w : v / 100 < K 3
          · have hw : whyK K v = if dK K (v / 100) (v % 100) < far then 0 else 2 := by
              unfold whyK
              rw [if_neg a, if_neg b, if_neg (by omega), if_pos w]
            rw [if_pos ⟨r3, w⟩]
            rw [hw] at hQ
            simp (disch := (first | assumption | omega | exact Nat.le_of_ble_eq_true rfl | rfl)) only [w252_0, w252_1, w252_4, w252_8, w252_9, w252_10, w252_11, w252_14, w252_15, w252_16, w252_17, w252_18, w252_19, w252_22, w252_25, w252_28, w252_29, w252_30, w252_31, w252_34, w252_37, w252_38, w252_39, w252_40, w252_43, w252_47, w252_48, w252_49, w252_52, w252_53, w252_56, w252_59, w252_60, w252_63, w252_64, w252_65, w252_66, w252_68, w252_69, w252_70, w252_73, w252_74, w252_77, w252_78, w252_81, w252_82, w252_83, w252_84, w252_87, w252_90, w252_93, w252_96, w252_97, w252_98, w252_101, w252_104, w252_105, w252_108, w252_109, w252_110, w252_111, w252_114, w252_118, w252_119, w252_122, w252_123, w252_124, w252_127, w252_130, w252_131, w252_134, w252_135, Ko_n, Ko_v, vX_i, vX_r, vX_l, vX_j, reduceIte, Int.reduceEq, not_false_eq_true, ev]
            refine c236 hK hv hB r3 w c.1 c.2 fun τ h1 h2 _ => ?_
            have q := hQ τ h1 h2
            have hb := dK_b hv r3 w c.1 c.2
            have hfar : far = 1000000000 := rfl
            unfold orN
            by_cases g : dK K (v / 100) (v % 100) < far
            · rw [if_pos g] at q ⊢
              simp (disch := (first | assumption | omega | exact Nat.le_of_ble_eq_true rfl | rfl)) only [w252_0, w252_1, w252_4, w252_8, w252_9, w252_10, w252_11, w252_14, w252_15, w252_16, w252_17, w252_18, w252_19, w252_22, w252_25, w252_28, w252_29, w252_30, w252_31, w252_34, w252_37, w252_38, w252_39, w252_40, w252_43, w252_47, w252_48, w252_49, w252_52, w252_53, w252_56, w252_59, w252_60, w252_63, w252_64, w252_65, w252_66, w252_68, w252_69, w252_70, w252_73, w252_74, w252_77, w252_78, w252_81, w252_82, w252_83, w252_84, w252_87, w252_90, w252_93, w252_96, w252_97, w252_98, w252_101, w252_104, w252_105, w252_108, w252_109, w252_110, w252_111, w252_114, w252_118, w252_119, w252_122, w252_123, w252_124, w252_127, w252_130, w252_131, w252_134, w252_135, Ko_n, Ko_v, vX_i, vX_r, vX_l, vX_j, reduceIte, show ¬ dK K (v / 100) (v % 100) = -1 by omega, not_false_eq_true]
              exact q
            · rw [if_neg g] at q ⊢
              simp (disch := (first | assumption | omega | exact Nat.le_of_ble_eq_true rfl | rfl)) only [w252_0, w252_1, w252_4, w252_8, w252_9, w252_10, w252_11, w252_14, w252_15, w252_16, w252_17, w252_18, w252_19, w252_22, w252_25, w252_28, w252_29, w252_30, w252_31, w252_34, w252_37, w252_38, w252_39, w252_40, w252_43, w252_47, w252_48, w252_49, w252_52, w252_53, w252_56, w252_59, w252_60, w252_63, w252_64, w252_65, w252_66, w252_68, w252_69, w252_70, w252_73, w252_74, w252_77, w252_78, w252_81, w252_82, w252_83, w252_84, w252_87, w252_90, w252_93, w252_96, w252_97, w252_98, w252_101, w252_104, w252_105, w252_108, w252_109, w252_110, w252_111, w252_114, w252_118, w252_119, w252_122, w252_123, w252_124, w252_127, w252_130, w252_131, w252_134, w252_135, Ko_n, Ko_v, vX_i, vX_r, vX_l, vX_j, reduceIte, not_true]
              exact q
          · have hw : whyK K v = 1 := by
              unfold whyK
              rw [if_neg a, if_neg b, if_neg (by omega), if_neg w, if_neg (by omega), if_neg (by omega)]
            rw [if_neg (fun x => w x.2)]
            rw [hw] at q0
            simp (disch := (first | assumption | omega | exact Nat.le_of_ble_eq_true rfl | rfl)) only [w252_0, w252_1, w252_4, w252_8, w252_9, w252_10, w252_11, w252_14, w252_15, w252_16, w252_17, w252_18, w252_19, w252_22, w252_25, w252_28, w252_29, w252_30, w252_31, w252_34, w252_37, w252_38, w252_39, w252_40, w252_43, w252_47, w252_48, w252_49, w252_52, w252_53, w252_56, w252_59, w252_60, w252_63, w252_64, w252_65, w252_66, w252_68, w252_69, w252_70, w252_73, w252_74, w252_77, w252_78, w252_81, w252_82, w252_83, w252_84, w252_87, w252_90, w252_93, w252_96, w252_97, w252_98, w252_101, w252_104, w252_105, w252_108, w252_109, w252_110, w252_111, w252_114, w252_118, w252_119, w252_122, w252_123, w252_124, w252_127, w252_130, w252_131, w252_134, w252_135, Ko_n, Ko_v, vX_i, vX_r, vX_l, vX_j, reduceIte, not_true]
            exact q0
      · have hw : whyK K v = 1 := by unfold whyK; rw [if_neg a, if_neg b, if_pos (by omega)]
        rw [if_neg c]
        rw [hw] at q0
        simp (disch := (first | assumption | omega | exact Nat.le_of_ble_eq_true rfl | rfl)) only [w252_0, w252_1, w252_4, w252_8, w252_9, w252_10, w252_11, w252_14, w252_15, w252_16, w252_17, w252_18, w252_19, w252_22, w252_25, w252_28, w252_29, w252_30, w252_31, w252_34, w252_37, w252_38, w252_39, w252_40, w252_43, w252_47, w252_48, w252_49, w252_52, w252_53, w252_56, w252_59, w252_60, w252_63, w252_64, w252_65, w252_66, w252_68, w252_69, w252_70, w252_73, w252_74, w252_77, w252_78, w252_81, w252_82, w252_83, w252_84, w252_87, w252_90, w252_93, w252_96, w252_97, w252_98, w252_101, w252_104, w252_105, w252_108, w252_109, w252_110, w252_111, w252_114, w252_118, w252_119, w252_122, w252_123, w252_124, w252_127, w252_130, w252_131, w252_134, w252_135, Ko_n, Ko_v, vX_i, vX_r, vX_l, vX_j, reduceIte, not_true]
        exact q0
theorem c253 {d : Nat} {k v B : Int} {K : Int → Int} {T : Tt} {σ : St} {Q : vmO → vmH → Prop} (hK : σ 1200 382 = K) (hv : kV K B) (hB : B < 900000000) (hl : lwV K) (hr : rwK K) (hw : whyK K v = 0) (hQ : ∀ τ, fq σ τ → τ 1200 382 = doK K v → Q (.inl none) (E T τ)) : Ca (d + 7) k 253 [.ref 382, .int (i32 v)] (E T σ) Q := by
  have h0 := ob_md
  have hm := wh_mul0 hv.1.1
  have h3 := hv.1.2.1
  rw [n253 _ _ _ _ _ _ _ h0]
  rcases whyK_0 hw h3.2 with a | ⟨c, a⟩
  · subst a
    have e : doK K (-1) = ngK K := by unfold doK; rw [if_pos rfl]
    rw [e] at hQ
    simp (disch := (first | assumption | omega | exact Nat.le_of_ble_eq_true rfl | rfl)) only [w253_0, w253_1, w253_2, w253_5, w253_6, w253_9, w253_10, w253_13, w253_14, w253_17, w253_20, w253_21, w253_22, w253_24, w253_25, w253_26, w253_28, w253_29, w253_30, w253_31, w253_33, w253_34, w253_35, w253_37, w253_38, w253_41, w253_44, w253_47, w253_48, w253_51, w253_54, w253_55, w253_56, w253_58, w253_59, w253_60, w253_63, w253_64, w253_67, w253_68, w253_69, w253_71, w253_72, w253_73, w253_75, w253_76, w253_78, w253_79, w253_82, Ko_n, Ko_v, vX_i, vX_r, vX_l, vX_j, reduceIte, not_true]
    refine c225 hK hv hB hl hr fun S G => ?_
    simp (disch := (first | assumption | omega | exact Nat.le_of_ble_eq_true rfl | rfl)) only [w253_0, w253_1, w253_2, w253_5, w253_6, w253_9, w253_10, w253_13, w253_14, w253_17, w253_20, w253_21, w253_22, w253_24, w253_25, w253_26, w253_28, w253_29, w253_30, w253_31, w253_33, w253_34, w253_35, w253_37, w253_38, w253_41, w253_44, w253_47, w253_48, w253_51, w253_54, w253_55, w253_56, w253_58, w253_59, w253_60, w253_63, w253_64, w253_67, w253_68, w253_69, w253_71, w253_72, w253_73, w253_75, w253_76, w253_78, w253_79, w253_82, Ko_n, Ko_v, vX_i, vX_r, vX_l, vX_j, reduceIte]
    exact hQ _ (fq_u (fq_u (fq_u fq_r (by omega)) (by omega)) (by omega)) upA_s
  · rcases a with a | a | a
    · obtain ⟨a1, a2, a3, a4, a5⟩ := a
      have e : doK K v = goK K (v / 100) (v % 100) (dK K (v / 100) (v % 100)) := by unfold doK; rw [if_neg (by omega), if_pos a2]
      have eo : orN (dK K (v / 100) (v % 100)) = dK K (v / 100) (v % 100) := by unfold orN; rw [if_pos a5]
      rw [e] at hQ
      simp (disch := (first | assumption | omega | exact Nat.le_of_ble_eq_true rfl | rfl)) only [w253_0, w253_1, w253_2, w253_5, w253_6, w253_9, w253_10, w253_13, w253_14, w253_17, w253_20, w253_21, w253_22, w253_24, w253_25, w253_26, w253_28, w253_29, w253_30, w253_31, w253_33, w253_34, w253_35, w253_37, w253_38, w253_41, w253_44, w253_47, w253_48, w253_51, w253_54, w253_55, w253_56, w253_58, w253_59, w253_60, w253_63, w253_64, w253_67, w253_68, w253_69, w253_71, w253_72, w253_73, w253_75, w253_76, w253_78, w253_79, w253_82, Ko_n, Ko_v, vX_i, vX_r, vX_l, vX_j, reduceIte, show ¬ v = -1 by omega, not_false_eq_true, show ¬ (1000 : Int) ≤ v by omega]
      refine c236 hK hv hB a3 a4 c.1 c.2 fun τ h1 h2 _ => ?_
      rw [eo]
      simp (disch := (first | assumption | omega | exact Nat.le_of_ble_eq_true rfl | rfl)) only [w253_0, w253_1, w253_2, w253_5, w253_6, w253_9, w253_10, w253_13, w253_14, w253_17, w253_20, w253_21, w253_22, w253_24, w253_25, w253_26, w253_28, w253_29, w253_30, w253_31, w253_33, w253_34, w253_35, w253_37, w253_38, w253_41, w253_44, w253_47, w253_48, w253_51, w253_54, w253_55, w253_56, w253_58, w253_59, w253_60, w253_63, w253_64, w253_67, w253_68, w253_69, w253_71, w253_72, w253_73, w253_75, w253_76, w253_78, w253_79, w253_82, Ko_n, Ko_v, vX_i, vX_r, vX_l, vX_j, reduceIte]
      rw [c241 h2 a3 (by omega)]
      simp (disch := (first | assumption | omega | exact Nat.le_of_ble_eq_true rfl | rfl)) only [w253_0, w253_1, w253_2, w253_5, w253_6, w253_9, w253_10, w253_13, w253_14, w253_17, w253_20, w253_21, w253_22, w253_24, w253_25, w253_26, w253_28, w253_29, w253_30, w253_31, w253_33, w253_34, w253_35, w253_37, w253_38, w253_41, w253_44, w253_47, w253_48, w253_51, w253_54, w253_55, w253_56, w253_58, w253_59, w253_60, w253_63, w253_64, w253_67, w253_68, w253_69, w253_71, w253_72, w253_73, w253_75, w253_76, w253_78, w253_79, w253_82, Ko_n, Ko_v, vX_i, vX_r, vX_l, vX_j, reduceIte]
      exact hQ _ (fq_u h1 (by omega)) upA_s
    · have e : doK K v = clK K (v % 100) (min 1 (K (43 + v % 100))) := by unfold doK; rw [if_neg (by omega), if_neg (by omega), if_pos (by omega)]
      rw [e] at hQ
      simp (disch := (first | assumption | omega | exact Nat.le_of_ble_eq_true rfl | rfl)) only [w253_0, w253_1, w253_2, w253_5, w253_6, w253_9, w253_10, w253_13, w253_14, w253_17, w253_20, w253_21, w253_22, w253_24, w253_25, w253_26, w253_28, w253_29, w253_30, w253_31, w253_33, w253_34, w253_35, w253_37, w253_38, w253_41, w253_44, w253_47, w253_48, w253_51, w253_54, w253_55, w253_56, w253_58, w253_59, w253_60, w253_63, w253_64, w253_67, w253_68, w253_69, w253_71, w253_72, w253_73, w253_75, w253_76, w253_78, w253_79, w253_82, Ko_n, Ko_v, vX_i, vX_r, vX_l, vX_j, reduceIte, show ¬ v = -1 by omega, not_false_eq_true, show (1000 : Int) ≤ v by omega, show ¬ (2000 : Int) ≤ v by omega]
      rw [c242 hK hv.2.1 (by omega) (by omega) (by omega) (by omega)]
      simp (disch := (first | assumption | omega | exact Nat.le_of_ble_eq_true rfl | rfl)) only [w253_0, w253_1, w253_2, w253_5, w253_6, w253_9, w253_10, w253_13, w253_14, w253_17, w253_20, w253_21, w253_22, w253_24, w253_25, w253_26, w253_28, w253_29, w253_30, w253_31, w253_33, w253_34, w253_35, w253_37, w253_38, w253_41, w253_44, w253_47, w253_48, w253_51, w253_54, w253_55, w253_56, w253_58, w253_59, w253_60, w253_63, w253_64, w253_67, w253_68, w253_69, w253_71, w253_72, w253_73, w253_75, w253_76, w253_78, w253_79, w253_82, Ko_n, Ko_v, vX_i, vX_r, vX_l, vX_j, reduceIte]
      exact hQ _ (fq_u fq_r (by omega)) upA_s
    · have e : doK K v = ptK2 K (v % 100) (v / 100 % 10) := by unfold doK; rw [if_neg (by omega), if_neg (by omega), if_neg (by omega)]
      rw [e] at hQ
      simp (disch := (first | assumption | omega | exact Nat.le_of_ble_eq_true rfl | rfl)) only [w253_0, w253_1, w253_2, w253_5, w253_6, w253_9, w253_10, w253_13, w253_14, w253_17, w253_20, w253_21, w253_22, w253_24, w253_25, w253_26, w253_28, w253_29, w253_30, w253_31, w253_33, w253_34, w253_35, w253_37, w253_38, w253_41, w253_44, w253_47, w253_48, w253_51, w253_54, w253_55, w253_56, w253_58, w253_59, w253_60, w253_63, w253_64, w253_67, w253_68, w253_69, w253_71, w253_72, w253_73, w253_75, w253_76, w253_78, w253_79, w253_82, Ko_n, Ko_v, vX_i, vX_r, vX_l, vX_j, reduceIte, show ¬ v = -1 by omega, not_false_eq_true, show (1000 : Int) ≤ v by omega, show (2000 : Int) ≤ v by omega]
      rw [c243 hK (by omega) (by omega)]
      simp (disch := (first | assumption | omega | exact Nat.le_of_ble_eq_true rfl | rfl)) only [w253_0, w253_1, w253_2, w253_5, w253_6, w253_9, w253_10, w253_13, w253_14, w253_17, w253_20, w253_21, w253_22, w253_24, w253_25, w253_26, w253_28, w253_29, w253_30, w253_31, w253_33, w253_34, w253_35, w253_37, w253_38, w253_41, w253_44, w253_47, w253_48, w253_51, w253_54, w253_55, w253_56, w253_58, w253_59, w253_60, w253_63, w253_64, w253_67, w253_68, w253_69, w253_71, w253_72, w253_73, w253_75, w253_76, w253_78, w253_79, w253_82, Ko_n, Ko_v, vX_i, vX_r, vX_l, vX_j, reduceIte]
      exact hQ _ (fq_u fq_r (by omega)) upA_s
/-- thrown too may have changed -/
def fT (σ τ : St) : Prop := ∀ t o, (t < 1200 ∨ (1200 < t ∧ t < 1204) ∨ (1204 < t ∧ t < 1217) ∨ 1236 < t) → τ t o = σ t o
theorem fT_r {σ : St} : fT σ σ := fun _ _ _ => rfl
theorem fT_t {σ τ ρ : St} (h1 : fT σ τ) (h2 : fT τ ρ) : fT σ ρ := fun t o h => (h2 t o h).trans (h1 t o h)
theorem fq_T {σ τ : St} (h : fq σ τ) : fT σ τ := fun t o ht => h t o (by omega)
theorem fT_u {σ τ : St} {t o : Nat} {f : Int → Int} (h : fT σ τ) (ht : t = 1200 ∨ t = 1204 ∨ (1217 ≤ t ∧ t ≤ 1236)) : fT σ (upA τ t o f) := fun t' o' h' => by rw [upA_t (by omega)]; exact h t' o' h'
theorem fT_q {σ τ : St} {v : Int} (h : fq (upA σ 1204 382 fun _ => v) τ) : fT σ τ ∧ τ 1204 382 0 = v := ⟨fT_t (fT_u fT_r (by omega)) (fq_T h), by rw [h 1204 382 (by omega), upA_s]⟩
theorem c244 {d : Nat} {k w z B : Int} {K : Int → Int} {T : Tt} {σ : St} {Q : vmO → vmH → Prop} (hK : σ 1200 382 = K) (hv : kV K B) (hB : B < 900000000) (x0 : -2147483648 ≤ w) (x1 : w < 2147483648) (y0 : -2147483648 ≤ z) (y1 : z < 2147483648)
    (hQ1 : ¬ wzI K w z → ∀ τ, fT σ τ → τ 1200 382 = K → τ 1204 382 0 = 1 → Q (.inl (some (.int (i32 0)))) (E T τ))
    (hQ2 : wzI K w z → ¬ dK K w z < far → ∀ τ, fT σ τ → τ 1200 382 = K → τ 1204 382 0 = 0 → Q (.inl (some (.int (i32 (-1))))) (E T τ))
    (hQ3 : wzI K w z → dK K w z < far → ∀ τ, fT σ τ → τ 1200 382 = goK (kpK K) w z (dK K w z) → τ 1204 382 0 = 0 → Q (.inl (some (.int (i32 (dK K w z))))) (E T τ)) : Ca (d + 7) k 244 [.ref 382, .int (i32 w), .int (i32 z)] (E T σ) Q := by
  have h0 := ob_md
  rw [n244 _ _ _ _ _ _ _ _ h0]
  simp (disch := (first | assumption | omega | exact Nat.le_of_ble_eq_true rfl | rfl)) only [w244_0, w244_1, w244_2, w244_3, w244_6, w244_9, w244_10, w244_11, w244_12, w244_13, w244_14, w244_17, w244_18, w244_19, w244_20, w244_23, w244_24, w244_25, w244_26, w244_29, w244_30, w244_31, w244_32, w244_33, w244_36, w244_37, Ko_n, Ko_v, vX_i, vX_r, vX_l, vX_j, reduceIte]
  refine c237 hK hv x0 x1 y0 y1 (fun hi => ?_) (fun hi => ?_)
  · have hK1 : (upA σ 1204 382 fun _ => 0) 1200 382 = K := by rw [upA_t (by omega)]; exact hK
    simp (disch := (first | assumption | omega | exact Nat.le_of_ble_eq_true rfl | rfl)) only [w244_0, w244_1, w244_2, w244_3, w244_6, w244_9, w244_10, w244_11, w244_12, w244_13, w244_14, w244_17, w244_18, w244_19, w244_20, w244_23, w244_24, w244_25, w244_26, w244_29, w244_30, w244_31, w244_32, w244_33, w244_36, w244_37, Ko_n, Ko_v, vX_i, vX_r, vX_l, vX_j, reduceIte]
    refine c236 hK1 hv hB hi.1.1 hi.1.2 hi.2.1 hi.2.2 fun τ h1 h2 _ => ?_
    have fr := fT_q h1
    have hb := dK_b hv hi.1.1 hi.1.2 hi.2.1 hi.2.2
    have hfar : far = 1000000000 := rfl
    have h5 := (kV_w hv hi.1.1 hi.1.2).2.1
    unfold orN
    by_cases g : dK K w z < far
    · rw [if_pos g]
      simp (disch := (first | assumption | omega | exact Nat.le_of_ble_eq_true rfl | rfl)) only [w244_0, w244_1, w244_2, w244_3, w244_6, w244_9, w244_10, w244_11, w244_12, w244_13, w244_14, w244_17, w244_18, w244_19, w244_20, w244_23, w244_24, w244_25, w244_26, w244_29, w244_30, w244_31, w244_32, w244_33, w244_36, w244_37, Ko_n, Ko_v, vX_i, vX_r, vX_l, vX_j, reduceIte, show ¬ dK K w z = -1 by omega, not_false_eq_true]
      rw [c238 h2 hv]
      simp (disch := (first | assumption | omega | exact Nat.le_of_ble_eq_true rfl | rfl)) only [w244_0, w244_1, w244_2, w244_3, w244_6, w244_9, w244_10, w244_11, w244_12, w244_13, w244_14, w244_17, w244_18, w244_19, w244_20, w244_23, w244_24, w244_25, w244_26, w244_29, w244_30, w244_31, w244_32, w244_33, w244_36, w244_37, Ko_n, Ko_v, vX_i, vX_r, vX_l, vX_j, reduceIte]
      rw [c241 upA_s hi.1.1 h5]
      simp (disch := (first | assumption | omega | exact Nat.le_of_ble_eq_true rfl | rfl)) only [w244_0, w244_1, w244_2, w244_3, w244_6, w244_9, w244_10, w244_11, w244_12, w244_13, w244_14, w244_17, w244_18, w244_19, w244_20, w244_23, w244_24, w244_25, w244_26, w244_29, w244_30, w244_31, w244_32, w244_33, w244_36, w244_37, Ko_n, Ko_v, vX_i, vX_r, vX_l, vX_j, reduceIte]
      exact hQ3 hi g _ (fT_u (fT_u fr.1 (by omega)) (by omega)) upA_s (by rw [upA_t (by omega), upA_t (by omega)]; exact fr.2)
    · rw [if_neg g]
      simp (disch := (first | assumption | omega | exact Nat.le_of_ble_eq_true rfl | rfl)) only [w244_0, w244_1, w244_2, w244_3, w244_6, w244_9, w244_10, w244_11, w244_12, w244_13, w244_14, w244_17, w244_18, w244_19, w244_20, w244_23, w244_24, w244_25, w244_26, w244_29, w244_30, w244_31, w244_32, w244_33, w244_36, w244_37, Ko_n, Ko_v, vX_i, vX_r, vX_l, vX_j, reduceIte, not_true]
      exact hQ2 hi g τ fr.1 h2 fr.2
  · simp (disch := (first | assumption | omega | exact Nat.le_of_ble_eq_true rfl | rfl)) only [w244_0, w244_1, w244_2, w244_3, w244_6, w244_9, w244_10, w244_11, w244_12, w244_13, w244_14, w244_17, w244_18, w244_19, w244_20, w244_23, w244_24, w244_25, w244_26, w244_29, w244_30, w244_31, w244_32, w244_33, w244_36, w244_37, Ko_n, Ko_v, vX_i, vX_r, vX_l, vX_j, reduceIte, Int.reduceEq]
    exact hQ1 hi _ (fT_u fT_r (by omega)) (by rw [upA_t (by omega)]; exact hK) (by rw [upA_s])
theorem c245 {d : Nat} {k z n B : Int} {K : Int → Int} {T : Tt} {σ : St} {Q : vmO → vmH → Prop} (hK : σ 1200 382 = K) (hv : kV K B) (x0 : -2147483648 ≤ z) (x1 : z < 2147483648) (y0 : -2147483648 ≤ n) (y1 : n < 2147483648)
    (hQ1 : ∀ u, ((¬ (0 ≤ z ∧ z < K 1 * K 2) ∧ u = 1) ∨ ((0 ≤ z ∧ z < K 1 * K 2) ∧ hgB (kdK K 7) z = false ∧ u = 2) ∨ ((0 ≤ z ∧ z < K 1 * K 2) ∧ hgB (kdK K 7) z = true ∧ ¬ (1 ≤ n ∧ n ≤ 60) ∧ u = 3)) → ∀ τ, fT σ τ → τ 1200 382 = K → τ 1204 382 0 = u → Q (.inl (some (.int (i32 0)))) (E T τ))
    (hQ2 : 0 ≤ z → z < K 1 * K 2 → hgB (kdK K 7) z = true → 1 ≤ n → n ≤ 60 → ∀ τ, fT σ τ → τ 1200 382 = clK (kpK K) z (min n (K (43 + z))) → τ 1204 382 0 = 0 → Q (.inl (some (.int (i32 (K (43 + z) - min n (K (43 + z))))))) (E T τ)) : Ca (d + 3) k 245 [.ref 382, .int (i32 z), .int (i32 n)] (E T σ) Q := by
  have h0 := ob_md
  have hm := wh_mul0 hv.1.1
  have h6 := hv.1.2.2.2.2.1
  rw [n245 _ _ _ _ _ _ _ _ h0]
  simp (disch := (first | assumption | omega | exact Nat.le_of_ble_eq_true rfl | rfl)) only [w245_0, w245_1, w245_2, w245_3, w245_4, w245_7, w245_10, w245_11, w245_14, w245_15, w245_16, w245_19, w245_22, w245_23, w245_26, w245_27, w245_28, w245_29, w245_32, w245_35, w245_38, w245_39, w245_42, w245_43, w245_46, w245_47, w245_50, w245_53, w245_54, w245_55, w245_56, w245_59, w245_60, w245_61, w245_62, w245_65, Ko_n, Ko_v, vX_i, vX_r, vX_l, vX_j, reduceIte]
  rw [c214 hK hv (by omega) (by omega)]
  by_cases a : 0 ≤ z ∧ z < K 1 * K 2
  · rw [if_pos a]
    simp (disch := (first | assumption | omega | exact Nat.le_of_ble_eq_true rfl | rfl)) only [w245_0, w245_1, w245_2, w245_3, w245_4, w245_7, w245_10, w245_11, w245_14, w245_15, w245_16, w245_19, w245_22, w245_23, w245_26, w245_27, w245_28, w245_29, w245_32, w245_35, w245_38, w245_39, w245_42, w245_43, w245_46, w245_47, w245_50, w245_53, w245_54, w245_55, w245_56, w245_59, w245_60, w245_61, w245_62, w245_65, Ko_n, Ko_v, vX_i, vX_r, vX_l, vX_j, reduceIte, Int.reduceEq, not_false_eq_true]
    rw [c213 hK hv.2.1 a.1 (by omega)]
    cases g : hgB (kdK K 7) z with
    | false =>
      simp (disch := (first | assumption | omega | exact Nat.le_of_ble_eq_true rfl | rfl)) only [w245_0, w245_1, w245_2, w245_3, w245_4, w245_7, w245_10, w245_11, w245_14, w245_15, w245_16, w245_19, w245_22, w245_23, w245_26, w245_27, w245_28, w245_29, w245_32, w245_35, w245_38, w245_39, w245_42, w245_43, w245_46, w245_47, w245_50, w245_53, w245_54, w245_55, w245_56, w245_59, w245_60, w245_61, w245_62, w245_65, Ko_n, Ko_v, vX_i, vX_r, vX_l, vX_j, reduceIte, Bool.false_eq_true, not_true, upA_s, show ¬ (2 : Int) ≤ 0 by omega]
      exact hQ1 2 (Or.inr (Or.inl ⟨a, g, rfl⟩)) _ (fT_u fT_r (by omega)) (by rw [upA_t (by omega)]; exact hK) (by rw [upA_s])
    | true =>
      simp (disch := (first | assumption | omega | exact Nat.le_of_ble_eq_true rfl | rfl)) only [w245_0, w245_1, w245_2, w245_3, w245_4, w245_7, w245_10, w245_11, w245_14, w245_15, w245_16, w245_19, w245_22, w245_23, w245_26, w245_27, w245_28, w245_29, w245_32, w245_35, w245_38, w245_39, w245_42, w245_43, w245_46, w245_47, w245_50, w245_53, w245_54, w245_55, w245_56, w245_59, w245_60, w245_61, w245_62, w245_65, Ko_n, Ko_v, vX_i, vX_r, vX_l, vX_j, reduceIte, Int.reduceEq, not_false_eq_true]
      rw [c176 (by omega) (by omega) (by omega) (by omega) (by omega) (by omega) (by omega)]
      by_cases b : 1 ≤ n ∧ n ≤ 60
      · rw [if_pos b]
        have hk1 : (upA σ 1204 382 fun _ => 0) 1200 382 = K := by rw [upA_t (by omega)]; exact hK
        simp (disch := (first | assumption | omega | exact Nat.le_of_ble_eq_true rfl | rfl)) only [w245_0, w245_1, w245_2, w245_3, w245_4, w245_7, w245_10, w245_11, w245_14, w245_15, w245_16, w245_19, w245_22, w245_23, w245_26, w245_27, w245_28, w245_29, w245_32, w245_35, w245_38, w245_39, w245_42, w245_43, w245_46, w245_47, w245_50, w245_53, w245_54, w245_55, w245_56, w245_59, w245_60, w245_61, w245_62, w245_65, Ko_n, Ko_v, vX_i, vX_r, vX_l, vX_j, reduceIte, Int.reduceEq, upA_s, Int.le_refl]
        rw [c238 hk1 hv]
        simp (disch := (first | assumption | omega | exact Nat.le_of_ble_eq_true rfl | rfl)) only [w245_0, w245_1, w245_2, w245_3, w245_4, w245_7, w245_10, w245_11, w245_14, w245_15, w245_16, w245_19, w245_22, w245_23, w245_26, w245_27, w245_28, w245_29, w245_32, w245_35, w245_38, w245_39, w245_42, w245_43, w245_46, w245_47, w245_50, w245_53, w245_54, w245_55, w245_56, w245_59, w245_60, w245_61, w245_62, w245_65, Ko_n, Ko_v, vX_i, vX_r, vX_l, vX_j, reduceIte]
        have e43 : kpK K (43 + z) = K (43 + z) := kpK_lo h6.1 h6.2 _ (by omega)
        have hvk := (kpK_V hv).2.1
        rw [c242 upA_s hvk a.1 (by omega) (by omega) b.2, e43]
        simp (disch := (first | assumption | omega | exact Nat.le_of_ble_eq_true rfl | rfl)) only [w245_0, w245_1, w245_2, w245_3, w245_4, w245_7, w245_10, w245_11, w245_14, w245_15, w245_16, w245_19, w245_22, w245_23, w245_26, w245_27, w245_28, w245_29, w245_32, w245_35, w245_38, w245_39, w245_42, w245_43, w245_46, w245_47, w245_50, w245_53, w245_54, w245_55, w245_56, w245_59, w245_60, w245_61, w245_62, w245_65, Ko_n, Ko_v, vX_i, vX_r, vX_l, vX_j, reduceIte]
        exact hQ2 a.1 a.2 g b.1 b.2 _ (fT_u (fT_u (fT_u fT_r (by omega)) (by omega)) (by omega)) upA_s (by rw [upA_t (by omega), upA_t (by omega), upA_s])
      · rw [if_neg b]
        simp (disch := (first | assumption | omega | exact Nat.le_of_ble_eq_true rfl | rfl)) only [w245_0, w245_1, w245_2, w245_3, w245_4, w245_7, w245_10, w245_11, w245_14, w245_15, w245_16, w245_19, w245_22, w245_23, w245_26, w245_27, w245_28, w245_29, w245_32, w245_35, w245_38, w245_39, w245_42, w245_43, w245_46, w245_47, w245_50, w245_53, w245_54, w245_55, w245_56, w245_59, w245_60, w245_61, w245_62, w245_65, Ko_n, Ko_v, vX_i, vX_r, vX_l, vX_j, reduceIte, upA_s, show ¬ (3 : Int) ≤ 0 by omega]
        exact hQ1 3 (Or.inr (Or.inr ⟨a, g, b, rfl⟩)) _ (fT_u fT_r (by omega)) (by rw [upA_t (by omega)]; exact hK) (by rw [upA_s])
  · rw [if_neg a]
    simp (disch := (first | assumption | omega | exact Nat.le_of_ble_eq_true rfl | rfl)) only [w245_0, w245_1, w245_2, w245_3, w245_4, w245_7, w245_10, w245_11, w245_14, w245_15, w245_16, w245_19, w245_22, w245_23, w245_26, w245_27, w245_28, w245_29, w245_32, w245_35, w245_38, w245_39, w245_42, w245_43, w245_46, w245_47, w245_50, w245_53, w245_54, w245_55, w245_56, w245_59, w245_60, w245_61, w245_62, w245_65, Ko_n, Ko_v, vX_i, vX_r, vX_l, vX_j, reduceIte, not_true, upA_s, show ¬ (1 : Int) ≤ 0 by omega]
    exact hQ1 1 (Or.inl ⟨a, rfl⟩) _ (fT_u fT_r (by omega)) (by rw [upA_t (by omega)]; exact hK) (by rw [upA_s])
theorem c248 {d : Nat} {k z n B : Int} {K : Int → Int} {T : Tt} {σ : St} {Q : vmO → vmH → Prop} (hK : σ 1200 382 = K) (hv : kV K B) (x0 : -2147483648 ≤ z) (x1 : z < 2147483648) (y0 : -2147483648 ≤ n) (y1 : n < 2147483648)
    (hQ1 : ∀ u, ((¬ (0 ≤ z ∧ z < K 1 * K 2) ∧ u = 1) ∨ ((0 ≤ z ∧ z < K 1 * K 2) ∧ ¬ (1 ≤ n ∧ n ≤ 3) ∧ u = 2) ∨ ((0 ≤ z ∧ z < K 1 * K 2) ∧ (1 ≤ n ∧ n ≤ 3) ∧ ¬ (K (7 + z) = 0 ∧ waK K z = 0) ∧ u = 3)) → ∀ τ, fT σ τ → τ 1200 382 = K → τ 1204 382 0 = u → Q (.inl (some (.int (i32 0)))) (E T τ))
    (hQ2 : 0 ≤ z → z < K 1 * K 2 → 1 ≤ n → n ≤ 3 → K (7 + z) = 0 → waK K z = 0 → ∀ τ, fT σ τ → τ 1200 382 = ptK2 (kpK K) z n → τ 1204 382 0 = 0 → Q (.inl (some (.int (i32 (cnt (hgB (kdK (ptK2 (kpK K) z n) 7)) 64))))) (E T τ)) : Ca (d + 3) k 248 [.ref 382, .int (i32 z), .int (i32 n)] (E T σ) Q := by
  have h0 := ob_md
  have hm := wh_mul0 hv.1.1
  have h6 := hv.1.2.2.2.2.1
  rw [n248 _ _ _ _ _ _ _ _ h0]
  simp (disch := (first | assumption | omega | exact Nat.le_of_ble_eq_true rfl | rfl)) only [w248_0, w248_1, w248_2, w248_3, w248_4, w248_7, w248_10, w248_11, w248_14, w248_15, w248_16, w248_17, w248_20, w248_23, w248_26, w248_27, w248_30, w248_31, w248_32, w248_35, w248_38, w248_39, w248_42, w248_43, w248_46, w248_47, w248_50, w248_53, w248_54, w248_55, w248_56, w248_59, w248_60, w248_61, w248_62, w248_65, w248_66, w248_69, Ko_n, Ko_v, vX_i, vX_r, vX_l, vX_j, reduceIte]
  rw [c214 hK hv (by omega) (by omega)]
  by_cases a : 0 ≤ z ∧ z < K 1 * K 2
  · rw [if_pos a]
    simp (disch := (first | assumption | omega | exact Nat.le_of_ble_eq_true rfl | rfl)) only [w248_0, w248_1, w248_2, w248_3, w248_4, w248_7, w248_10, w248_11, w248_14, w248_15, w248_16, w248_17, w248_20, w248_23, w248_26, w248_27, w248_30, w248_31, w248_32, w248_35, w248_38, w248_39, w248_42, w248_43, w248_46, w248_47, w248_50, w248_53, w248_54, w248_55, w248_56, w248_59, w248_60, w248_61, w248_62, w248_65, w248_66, w248_69, Ko_n, Ko_v, vX_i, vX_r, vX_l, vX_j, reduceIte, Int.reduceEq, not_false_eq_true]
    rw [c176 (by omega) (by omega) (by omega) (by omega) (by omega) (by omega) (by omega)]
    by_cases b : 1 ≤ n ∧ n ≤ 3
    · rw [if_pos b]
      simp (disch := (first | assumption | omega | exact Nat.le_of_ble_eq_true rfl | rfl)) only [w248_0, w248_1, w248_2, w248_3, w248_4, w248_7, w248_10, w248_11, w248_14, w248_15, w248_16, w248_17, w248_20, w248_23, w248_26, w248_27, w248_30, w248_31, w248_32, w248_35, w248_38, w248_39, w248_42, w248_43, w248_46, w248_47, w248_50, w248_53, w248_54, w248_55, w248_56, w248_59, w248_60, w248_61, w248_62, w248_65, w248_66, w248_69, Ko_n, Ko_v, vX_i, vX_r, vX_l, vX_j, reduceIte, Int.reduceEq, not_false_eq_true]
      rw [c246 hK hv a.1 (by omega)]
      by_cases g : K (7 + z) = 0 ∧ waK K z = 0
      · rw [if_pos g]
        have hk1 : (upA σ 1204 382 fun _ => 0) 1200 382 = K := by rw [upA_t (by omega)]; exact hK
        simp (disch := (first | assumption | omega | exact Nat.le_of_ble_eq_true rfl | rfl)) only [w248_0, w248_1, w248_2, w248_3, w248_4, w248_7, w248_10, w248_11, w248_14, w248_15, w248_16, w248_17, w248_20, w248_23, w248_26, w248_27, w248_30, w248_31, w248_32, w248_35, w248_38, w248_39, w248_42, w248_43, w248_46, w248_47, w248_50, w248_53, w248_54, w248_55, w248_56, w248_59, w248_60, w248_61, w248_62, w248_65, w248_66, w248_69, Ko_n, Ko_v, vX_i, vX_r, vX_l, vX_j, reduceIte, Int.reduceEq, upA_s, Int.le_refl]
        rw [c238 hk1 hv]
        simp (disch := (first | assumption | omega | exact Nat.le_of_ble_eq_true rfl | rfl)) only [w248_0, w248_1, w248_2, w248_3, w248_4, w248_7, w248_10, w248_11, w248_14, w248_15, w248_16, w248_17, w248_20, w248_23, w248_26, w248_27, w248_30, w248_31, w248_32, w248_35, w248_38, w248_39, w248_42, w248_43, w248_46, w248_47, w248_50, w248_53, w248_54, w248_55, w248_56, w248_59, w248_60, w248_61, w248_62, w248_65, w248_66, w248_69, Ko_n, Ko_v, vX_i, vX_r, vX_l, vX_j, reduceIte]
        rw [c243 upA_s a.1 (by omega)]
        have vk := kpK_V hv
        have lo := kpK_lo (K := K) h6.1 h6.2
        have v2 : kV (ptK2 (kpK K) z n) B := kV_act vk (Int.le_refl _) (ptK2_st a.1 (by omega)) (ptK2_V vk.1 a.1 (by rw [lo 1 (by omega), lo 2 (by omega)]; exact a.2) b.1 b.2 vk.2.1)
        simp (disch := (first | assumption | omega | exact Nat.le_of_ble_eq_true rfl | rfl)) only [w248_0, w248_1, w248_2, w248_3, w248_4, w248_7, w248_10, w248_11, w248_14, w248_15, w248_16, w248_17, w248_20, w248_23, w248_26, w248_27, w248_30, w248_31, w248_32, w248_35, w248_38, w248_39, w248_42, w248_43, w248_46, w248_47, w248_50, w248_53, w248_54, w248_55, w248_56, w248_59, w248_60, w248_61, w248_62, w248_65, w248_66, w248_69, Ko_n, Ko_v, vX_i, vX_r, vX_l, vX_j, reduceIte]
        rw [c247 (K := ptK2 (kpK K) z n) upA_s v2]
        simp (disch := (first | assumption | omega | exact Nat.le_of_ble_eq_true rfl | rfl)) only [w248_0, w248_1, w248_2, w248_3, w248_4, w248_7, w248_10, w248_11, w248_14, w248_15, w248_16, w248_17, w248_20, w248_23, w248_26, w248_27, w248_30, w248_31, w248_32, w248_35, w248_38, w248_39, w248_42, w248_43, w248_46, w248_47, w248_50, w248_53, w248_54, w248_55, w248_56, w248_59, w248_60, w248_61, w248_62, w248_65, w248_66, w248_69, Ko_n, Ko_v, vX_i, vX_r, vX_l, vX_j, reduceIte]
        exact hQ2 a.1 a.2 b.1 b.2 g.1 g.2 _ (fT_u (fT_u (fT_u fT_r (by omega)) (by omega)) (by omega)) upA_s (by rw [upA_t (by omega), upA_t (by omega), upA_s])
      · rw [if_neg g]
        simp (disch := (first | assumption | omega | exact Nat.le_of_ble_eq_true rfl | rfl)) only [w248_0, w248_1, w248_2, w248_3, w248_4, w248_7, w248_10, w248_11, w248_14, w248_15, w248_16, w248_17, w248_20, w248_23, w248_26, w248_27, w248_30, w248_31, w248_32, w248_35, w248_38, w248_39, w248_42, w248_43, w248_46, w248_47, w248_50, w248_53, w248_54, w248_55, w248_56, w248_59, w248_60, w248_61, w248_62, w248_65, w248_66, w248_69, Ko_n, Ko_v, vX_i, vX_r, vX_l, vX_j, reduceIte, upA_s, show ¬ (3 : Int) ≤ 0 by omega]
        exact hQ1 3 (Or.inr (Or.inr ⟨a, b, g, rfl⟩)) _ (fT_u fT_r (by omega)) (by rw [upA_t (by omega)]; exact hK) (by rw [upA_s])
    · rw [if_neg b]
      simp (disch := (first | assumption | omega | exact Nat.le_of_ble_eq_true rfl | rfl)) only [w248_0, w248_1, w248_2, w248_3, w248_4, w248_7, w248_10, w248_11, w248_14, w248_15, w248_16, w248_17, w248_20, w248_23, w248_26, w248_27, w248_30, w248_31, w248_32, w248_35, w248_38, w248_39, w248_42, w248_43, w248_46, w248_47, w248_50, w248_53, w248_54, w248_55, w248_56, w248_59, w248_60, w248_61, w248_62, w248_65, w248_66, w248_69, Ko_n, Ko_v, vX_i, vX_r, vX_l, vX_j, reduceIte, not_true, upA_s, show ¬ (2 : Int) ≤ 0 by omega]
      exact hQ1 2 (Or.inr (Or.inl ⟨a, b, rfl⟩)) _ (fT_u fT_r (by omega)) (by rw [upA_t (by omega)]; exact hK) (by rw [upA_s])
  · rw [if_neg a]
    simp (disch := (first | assumption | omega | exact Nat.le_of_ble_eq_true rfl | rfl)) only [w248_0, w248_1, w248_2, w248_3, w248_4, w248_7, w248_10, w248_11, w248_14, w248_15, w248_16, w248_17, w248_20, w248_23, w248_26, w248_27, w248_30, w248_31, w248_32, w248_35, w248_38, w248_39, w248_42, w248_43, w248_46, w248_47, w248_50, w248_53, w248_54, w248_55, w248_56, w248_59, w248_60, w248_61, w248_62, w248_65, w248_66, w248_69, Ko_n, Ko_v, vX_i, vX_r, vX_l, vX_j, reduceIte, not_true, upA_s, show ¬ (1 : Int) ≤ 0 by omega]
    exact hQ1 1 (Or.inl ⟨a, rfl⟩) _ (fT_u fT_r (by omega)) (by rw [upA_t (by omega)]; exact hK) (by rw [upA_s])
