/-! ===== the reference: whether a hedge grows ===== -/
def nrI (W H : Int) (g : Int → Bool) (z : Int) : Nat → Int
  | 0 => 0
  | n + 1 => nrI W H g z n + if nrE W H g z (rdD n) then 1 else 0
theorem nrI_in {W H : Int} {g : Int → Bool} {z : Int} : ∀ n : Nat, 0 ≤ nrI W H g z n ∧ nrI W H g z n ≤ n
  | 0 => by simp [nrI]
  | n + 1 => by
    have := nrI_in (W := W) (H := H) (g := g) (z := z) n
    simp only [nrI]
    split <;> omega
theorem nrI_4 {W H z : Int} {g : Int → Bool} (h : wh2 W H) (z0 : 0 ≤ z) (z1 : z < W * H) : nrI W H g z 4 = cnt (fun k => nbB W H (fun i => decide (i = z)) k && g k) 64 := by
  rw [nr_cnt h z0 z1]
  show 0 + (if nrE W H g z 1 then 1 else 0) + (if nrE W H g z 2 then 1 else 0) + (if nrE W H g z 0 then 1 else 0) + (if nrE W H g z 3 then 1 else 0) = _
  omega
theorem c220 {d : Nat} {k z B : Int} {K : Int → Int} {T : Tt} {σ : St} {Q : vmO → vmH → Prop} (hK : σ 1200 382 = K) (hv : scV K 7 B) (h : wh2 (K 1) (K 2)) (z0 : 0 ≤ z) (z1 : z < K 1 * K 2) : Ca (d + 2) k 220 [.ref 382, .int (i32 z)] (E T σ) Q = Q (.inl (some (.int (i32 (nrI (K 1) (K 2) (hgB (kdK K 7)) z 4))))) (E T σ) := by
  have h0 := ob_md
  have hm := wh_mul h
  rw [n220 _ _ _ _ _ _ _ h0]
  have loop : ∀ (m n : Nat), n + m = 4 → Wp (d + 2) M_X12_near 4 [.ref 382, .int (i32 z), .int (i32 (nrI (K 1) (K 2) (hgB (kdK K 7)) z n)), .int (i32 n)] [] (E T σ) Q = Q (.inl (some (.int (i32 (nrI (K 1) (K 2) (hgB (kdK K 7)) z 4))))) (E T σ) := by
    intro m
    induction m with
    | zero =>
      intro n hn
      have hn : n = 4 := by omega
      subst hn
      rw [w220_4]
      simp (disch := (first | assumption | omega | exact Nat.le_of_ble_eq_true rfl | rfl)) only [w220_0, w220_1, w220_2, w220_3, w220_5, w220_6, w220_9, w220_10, w220_11, w220_12, w220_13, w220_16, w220_17, w220_20, w220_21, w220_22, w220_23, w220_24, w220_27, w220_30, w220_33, w220_34, w220_37, w220_38, w220_39, w220_40, w220_43, w220_46, w220_47, Ko_n, Ko_v, vX_i, vX_r, vX_l, vX_j, reduceIte, show (4 : Int) ≤ ((4 : Nat) : Int) by omega]
    | succ m ih =>
      intro n hn
      have ih' := ih (n + 1) (by omega)
      rw [show nrI (K 1) (K 2) (hgB (kdK K 7)) z (n + 1) = nrI (K 1) (K 2) (hgB (kdK K 7)) z n + if nrE (K 1) (K 2) (hgB (kdK K 7)) z (rdD n) then 1 else 0 from rfl] at ih'
      have hb := bsC_in (e := (n : Int)) h z0 z1
      rw [w220_4]
      simp (disch := (first | assumption | omega | exact Nat.le_of_ble_eq_true rfl | rfl)) only [w220_0, w220_1, w220_2, w220_3, w220_5, w220_6, w220_9, w220_10, w220_11, w220_12, w220_13, w220_16, w220_17, w220_20, w220_21, w220_22, w220_23, w220_24, w220_27, w220_30, w220_33, w220_34, w220_37, w220_38, w220_39, w220_40, w220_43, w220_46, w220_47, Ko_n, Ko_v, vX_i, vX_r, vX_l, vX_j, reduceIte, show ¬ (4 : Int) ≤ (n : Int) by omega]
      rw [c219 hK h z0 z1 (by omega) (by omega)]
      unfold nrE at ih'
      rw [show nbC (K 1) (K 2) z (rdD (n : Int)) = bsC (K 1) (K 2) z n from rfl] at ih'
      by_cases e : bsC (K 1) (K 2) z n = -1
      · rw [e] at ih'
        rw [show (decide ((-1 : Int) ≠ -1) && hgB (kdK K 7) (-1)) = false from rfl, if_neg Bool.false_ne_true] at ih'
        simp (disch := (first | assumption | omega | exact Nat.le_of_ble_eq_true rfl | rfl)) only [w220_0, w220_1, w220_2, w220_3, w220_5, w220_6, w220_9, w220_10, w220_11, w220_12, w220_13, w220_16, w220_17, w220_20, w220_21, w220_22, w220_23, w220_24, w220_27, w220_30, w220_33, w220_34, w220_37, w220_38, w220_39, w220_40, w220_43, w220_46, w220_47, Ko_n, Ko_v, vX_i, vX_r, vX_l, vX_j, reduceIte, e]
        exact ih'
      · rw [decide_eq_true e, Bool.true_and] at ih'
        simp (disch := (first | assumption | omega | exact Nat.le_of_ble_eq_true rfl | rfl)) only [w220_0, w220_1, w220_2, w220_3, w220_5, w220_6, w220_9, w220_10, w220_11, w220_12, w220_13, w220_16, w220_17, w220_20, w220_21, w220_22, w220_23, w220_24, w220_27, w220_30, w220_33, w220_34, w220_37, w220_38, w220_39, w220_40, w220_43, w220_46, w220_47, Ko_n, Ko_v, vX_i, vX_r, vX_l, vX_j, reduceIte, e]
        rw [c219 hK h z0 z1 (by omega) (by omega)]
        simp (disch := (first | assumption | omega | exact Nat.le_of_ble_eq_true rfl | rfl)) only [w220_0, w220_1, w220_2, w220_3, w220_5, w220_6, w220_9, w220_10, w220_11, w220_12, w220_13, w220_16, w220_17, w220_20, w220_21, w220_22, w220_23, w220_24, w220_27, w220_30, w220_33, w220_34, w220_37, w220_38, w220_39, w220_40, w220_43, w220_46, w220_47, Ko_n, Ko_v, vX_i, vX_r, vX_l, vX_j, reduceIte]
        rw [c213 hK hv (by omega) (by omega)]
        cases e2 : hgB (kdK K 7) (bsC (K 1) (K 2) z n) with
        | true =>
          rw [e2, if_pos rfl] at ih'
          simp (disch := (first | assumption | omega | exact Nat.le_of_ble_eq_true rfl | rfl)) only [w220_0, w220_1, w220_2, w220_3, w220_5, w220_6, w220_9, w220_10, w220_11, w220_12, w220_13, w220_16, w220_17, w220_20, w220_21, w220_22, w220_23, w220_24, w220_27, w220_30, w220_33, w220_34, w220_37, w220_38, w220_39, w220_40, w220_43, w220_46, w220_47, Ko_n, Ko_v, vX_i, vX_r, vX_l, vX_j, reduceIte, Int.reduceEq]
          exact ih'
        | false =>
          rw [e2, if_neg Bool.false_ne_true] at ih'
          simp (disch := (first | assumption | omega | exact Nat.le_of_ble_eq_true rfl | rfl)) only [w220_0, w220_1, w220_2, w220_3, w220_5, w220_6, w220_9, w220_10, w220_11, w220_12, w220_13, w220_16, w220_17, w220_20, w220_21, w220_22, w220_23, w220_24, w220_27, w220_30, w220_33, w220_34, w220_37, w220_38, w220_39, w220_40, w220_43, w220_46, w220_47, Ko_n, Ko_v, vX_i, vX_r, vX_l, vX_j, reduceIte, Bool.false_eq_true]
          exact ih'
  simp (disch := (first | assumption | omega | exact Nat.le_of_ble_eq_true rfl | rfl)) only [w220_0, w220_1, w220_2, w220_3, w220_5, w220_6, w220_9, w220_10, w220_11, w220_12, w220_13, w220_16, w220_17, w220_20, w220_21, w220_22, w220_23, w220_24, w220_27, w220_30, w220_33, w220_34, w220_37, w220_38, w220_39, w220_40, w220_43, w220_46, w220_47, Ko_n, Ko_v, vX_i, vX_r, vX_l, vX_j, reduceIte]
  exact loop 4 0 (by omega)
theorem c221 {d : Nat} {k v : Int} {h : vmH} {Q : vmO → vmH → Prop} (hk : 4 ≤ k) (v0 : -1000000000000 ≤ v) (v1 : v ≤ 1000000000000) : Ca d k 221 [.long (i64 v)] h Q = Q (.inl (some (.int (i32 (clm v))))) h := by
  rw [n221 _ _ _ _ _ hk]
  simp (disch := (first | assumption | omega | exact Nat.le_of_ble_eq_true rfl | rfl)) only [w221_0, w221_3, w221_6, w221_7, w221_10, w221_13, w221_14, Ko_n, Ko_v, vX_i, vX_r, vX_l, vX_j, reduceIte, i64_min, i64_max, i64_i]
  rfl
theorem c222 {d : Nat} {k u a b : Int} {h : vmH} {Q : vmO → vmH → Prop} (hk : 4 ≤ k) (u0 : 10 ≤ u) (u1 : u ≤ 17) (ha : rgV a) (hb : rgV b) (ht : 16 ≤ u → z01 a ∧ z01 b) : Ca (d + 1) k 222 [.int (i32 u), .long (i64 a), .long (i64 b)] h Q = Q (.inl (some (.int (i32 (jn (cdU u) a b))))) h := by
  have hm := mul_b ha.1 ha.2 hb.1 hb.2
  have q := an_01
  obtain ⟨a0, a1⟩ := ha
  obtain ⟨b0, b1⟩ := hb
  rw [n222 _ _ _ _ _ _ _ hk]
  have hc : u = 10 ∨ u = 11 ∨ u = 12 ∨ u = 13 ∨ u = 14 ∨ u = 15 ∨ u = 16 ∨ u = 17 := by omega
  rcases hc with rfl | rfl | rfl | rfl | rfl | rfl | rfl | rfl
  · simp (disch := (first | assumption | omega | exact Nat.le_of_ble_eq_true rfl | rfl)) only [w222_0, w222_1, w222_44, w222_45, w222_46, w222_47, w222_50, w222_51, w222_52, w222_53, w222_54, w222_57, w222_58, w222_59, w222_60, w222_61, w222_64, w222_65, w222_66, w222_67, w222_71, w222_72, w222_75, w222_76, w222_77, w222_78, w222_79, w222_83, w222_84, w222_87, w222_88, w222_89, w222_90, w222_91, w222_95, w222_96, w222_99, w222_100, w222_101, w222_102, w222_103, w222_104, w222_105, w222_109, w222_110, w222_113, w222_114, w222_115, w222_116, w222_117, w222_118, w222_119, w222_123, w222_124, w222_127, w222_128, Ko_n, Ko_v, vX_i, vX_r, vX_l, vX_j, reduceIte, vmSwitch, i64_add, Int.reduceEq]
    rw [c221 (by omega) (by omega) (by omega)]
    simp (disch := (first | assumption | omega | exact Nat.le_of_ble_eq_true rfl | rfl)) only [w222_0, w222_1, w222_44, w222_45, w222_46, w222_47, w222_50, w222_51, w222_52, w222_53, w222_54, w222_57, w222_58, w222_59, w222_60, w222_61, w222_64, w222_65, w222_66, w222_67, w222_71, w222_72, w222_75, w222_76, w222_77, w222_78, w222_79, w222_83, w222_84, w222_87, w222_88, w222_89, w222_90, w222_91, w222_95, w222_96, w222_99, w222_100, w222_101, w222_102, w222_103, w222_104, w222_105, w222_109, w222_110, w222_113, w222_114, w222_115, w222_116, w222_117, w222_118, w222_119, w222_123, w222_124, w222_127, w222_128, Ko_n, Ko_v, vX_i, vX_r, vX_l, vX_j, reduceIte]
    rfl
  · simp (disch := (first | assumption | omega | exact Nat.le_of_ble_eq_true rfl | rfl)) only [w222_0, w222_1, w222_44, w222_45, w222_46, w222_47, w222_50, w222_51, w222_52, w222_53, w222_54, w222_57, w222_58, w222_59, w222_60, w222_61, w222_64, w222_65, w222_66, w222_67, w222_71, w222_72, w222_75, w222_76, w222_77, w222_78, w222_79, w222_83, w222_84, w222_87, w222_88, w222_89, w222_90, w222_91, w222_95, w222_96, w222_99, w222_100, w222_101, w222_102, w222_103, w222_104, w222_105, w222_109, w222_110, w222_113, w222_114, w222_115, w222_116, w222_117, w222_118, w222_119, w222_123, w222_124, w222_127, w222_128, Ko_n, Ko_v, vX_i, vX_r, vX_l, vX_j, reduceIte, vmSwitch, i64_sub, Int.reduceEq]
    rw [c221 (by omega) (by omega) (by omega)]
    simp (disch := (first | assumption | omega | exact Nat.le_of_ble_eq_true rfl | rfl)) only [w222_0, w222_1, w222_44, w222_45, w222_46, w222_47, w222_50, w222_51, w222_52, w222_53, w222_54, w222_57, w222_58, w222_59, w222_60, w222_61, w222_64, w222_65, w222_66, w222_67, w222_71, w222_72, w222_75, w222_76, w222_77, w222_78, w222_79, w222_83, w222_84, w222_87, w222_88, w222_89, w222_90, w222_91, w222_95, w222_96, w222_99, w222_100, w222_101, w222_102, w222_103, w222_104, w222_105, w222_109, w222_110, w222_113, w222_114, w222_115, w222_116, w222_117, w222_118, w222_119, w222_123, w222_124, w222_127, w222_128, Ko_n, Ko_v, vX_i, vX_r, vX_l, vX_j, reduceIte]
    rfl
  · simp (disch := (first | assumption | omega | exact Nat.le_of_ble_eq_true rfl | rfl)) only [w222_0, w222_1, w222_44, w222_45, w222_46, w222_47, w222_50, w222_51, w222_52, w222_53, w222_54, w222_57, w222_58, w222_59, w222_60, w222_61, w222_64, w222_65, w222_66, w222_67, w222_71, w222_72, w222_75, w222_76, w222_77, w222_78, w222_79, w222_83, w222_84, w222_87, w222_88, w222_89, w222_90, w222_91, w222_95, w222_96, w222_99, w222_100, w222_101, w222_102, w222_103, w222_104, w222_105, w222_109, w222_110, w222_113, w222_114, w222_115, w222_116, w222_117, w222_118, w222_119, w222_123, w222_124, w222_127, w222_128, Ko_n, Ko_v, vX_i, vX_r, vX_l, vX_j, reduceIte, vmSwitch, i64_mul, Int.reduceEq]
    rw [c221 (by omega) (by omega) (by omega)]
    simp (disch := (first | assumption | omega | exact Nat.le_of_ble_eq_true rfl | rfl)) only [w222_0, w222_1, w222_44, w222_45, w222_46, w222_47, w222_50, w222_51, w222_52, w222_53, w222_54, w222_57, w222_58, w222_59, w222_60, w222_61, w222_64, w222_65, w222_66, w222_67, w222_71, w222_72, w222_75, w222_76, w222_77, w222_78, w222_79, w222_83, w222_84, w222_87, w222_88, w222_89, w222_90, w222_91, w222_95, w222_96, w222_99, w222_100, w222_101, w222_102, w222_103, w222_104, w222_105, w222_109, w222_110, w222_113, w222_114, w222_115, w222_116, w222_117, w222_118, w222_119, w222_123, w222_124, w222_127, w222_128, Ko_n, Ko_v, vX_i, vX_r, vX_l, vX_j, reduceIte]
    rfl
  · have e : jn (cdU 13) a b = if a = b then 1 else 0 := rfl
    rw [e]
    have ee := i64_eq (u := a) (v := b) (by omega) (by omega) (by omega) (by omega)
    by_cases x : a = b
    · simp (disch := (first | assumption | omega | exact Nat.le_of_ble_eq_true rfl | rfl)) only [w222_0, w222_1, w222_44, w222_45, w222_46, w222_47, w222_50, w222_51, w222_52, w222_53, w222_54, w222_57, w222_58, w222_59, w222_60, w222_61, w222_64, w222_65, w222_66, w222_67, w222_71, w222_72, w222_75, w222_76, w222_77, w222_78, w222_79, w222_83, w222_84, w222_87, w222_88, w222_89, w222_90, w222_91, w222_95, w222_96, w222_99, w222_100, w222_101, w222_102, w222_103, w222_104, w222_105, w222_109, w222_110, w222_113, w222_114, w222_115, w222_116, w222_117, w222_118, w222_119, w222_123, w222_124, w222_127, w222_128, Ko_n, Ko_v, vX_i, vX_r, vX_l, vX_j, reduceIte, vmSwitch, Int.reduceEq, ee, x, not_true]
    · simp (disch := (first | assumption | omega | exact Nat.le_of_ble_eq_true rfl | rfl)) only [w222_0, w222_1, w222_44, w222_45, w222_46, w222_47, w222_50, w222_51, w222_52, w222_53, w222_54, w222_57, w222_58, w222_59, w222_60, w222_61, w222_64, w222_65, w222_66, w222_67, w222_71, w222_72, w222_75, w222_76, w222_77, w222_78, w222_79, w222_83, w222_84, w222_87, w222_88, w222_89, w222_90, w222_91, w222_95, w222_96, w222_99, w222_100, w222_101, w222_102, w222_103, w222_104, w222_105, w222_109, w222_110, w222_113, w222_114, w222_115, w222_116, w222_117, w222_118, w222_119, w222_123, w222_124, w222_127, w222_128, Ko_n, Ko_v, vX_i, vX_r, vX_l, vX_j, reduceIte, vmSwitch, Int.reduceEq, ee, x, not_false_eq_true]
  · have e : jn (cdU 14) a b = if a < b then 1 else 0 := rfl
    rw [e]
    have ee := i64_le (u := b) (v := a) (by omega) (by omega) (by omega) (by omega)
    by_cases x : a < b
    · simp (disch := (first | assumption | omega | exact Nat.le_of_ble_eq_true rfl | rfl)) only [w222_0, w222_1, w222_44, w222_45, w222_46, w222_47, w222_50, w222_51, w222_52, w222_53, w222_54, w222_57, w222_58, w222_59, w222_60, w222_61, w222_64, w222_65, w222_66, w222_67, w222_71, w222_72, w222_75, w222_76, w222_77, w222_78, w222_79, w222_83, w222_84, w222_87, w222_88, w222_89, w222_90, w222_91, w222_95, w222_96, w222_99, w222_100, w222_101, w222_102, w222_103, w222_104, w222_105, w222_109, w222_110, w222_113, w222_114, w222_115, w222_116, w222_117, w222_118, w222_119, w222_123, w222_124, w222_127, w222_128, Ko_n, Ko_v, vX_i, vX_r, vX_l, vX_j, reduceIte, vmSwitch, Int.reduceEq, ee, x, show ¬ b ≤ a by omega]
    · simp (disch := (first | assumption | omega | exact Nat.le_of_ble_eq_true rfl | rfl)) only [w222_0, w222_1, w222_44, w222_45, w222_46, w222_47, w222_50, w222_51, w222_52, w222_53, w222_54, w222_57, w222_58, w222_59, w222_60, w222_61, w222_64, w222_65, w222_66, w222_67, w222_71, w222_72, w222_75, w222_76, w222_77, w222_78, w222_79, w222_83, w222_84, w222_87, w222_88, w222_89, w222_90, w222_91, w222_95, w222_96, w222_99, w222_100, w222_101, w222_102, w222_103, w222_104, w222_105, w222_109, w222_110, w222_113, w222_114, w222_115, w222_116, w222_117, w222_118, w222_119, w222_123, w222_124, w222_127, w222_128, Ko_n, Ko_v, vX_i, vX_r, vX_l, vX_j, reduceIte, vmSwitch, Int.reduceEq, ee, x, show b ≤ a by omega]
  · have e : jn (cdU 15) a b = if b < a then 1 else 0 := rfl
    rw [e]
    have ee := i64_le (u := a) (v := b) (by omega) (by omega) (by omega) (by omega)
    by_cases x : b < a
    · simp (disch := (first | assumption | omega | exact Nat.le_of_ble_eq_true rfl | rfl)) only [w222_0, w222_1, w222_44, w222_45, w222_46, w222_47, w222_50, w222_51, w222_52, w222_53, w222_54, w222_57, w222_58, w222_59, w222_60, w222_61, w222_64, w222_65, w222_66, w222_67, w222_71, w222_72, w222_75, w222_76, w222_77, w222_78, w222_79, w222_83, w222_84, w222_87, w222_88, w222_89, w222_90, w222_91, w222_95, w222_96, w222_99, w222_100, w222_101, w222_102, w222_103, w222_104, w222_105, w222_109, w222_110, w222_113, w222_114, w222_115, w222_116, w222_117, w222_118, w222_119, w222_123, w222_124, w222_127, w222_128, Ko_n, Ko_v, vX_i, vX_r, vX_l, vX_j, reduceIte, vmSwitch, Int.reduceEq, ee, x, show ¬ a ≤ b by omega]
    · simp (disch := (first | assumption | omega | exact Nat.le_of_ble_eq_true rfl | rfl)) only [w222_0, w222_1, w222_44, w222_45, w222_46, w222_47, w222_50, w222_51, w222_52, w222_53, w222_54, w222_57, w222_58, w222_59, w222_60, w222_61, w222_64, w222_65, w222_66, w222_67, w222_71, w222_72, w222_75, w222_76, w222_77, w222_78, w222_79, w222_83, w222_84, w222_87, w222_88, w222_89, w222_90, w222_91, w222_95, w222_96, w222_99, w222_100, w222_101, w222_102, w222_103, w222_104, w222_105, w222_109, w222_110, w222_113, w222_114, w222_115, w222_116, w222_117, w222_118, w222_119, w222_123, w222_124, w222_127, w222_128, Ko_n, Ko_v, vX_i, vX_r, vX_l, vX_j, reduceIte, vmSwitch, Int.reduceEq, ee, x, show a ≤ b by omega]
  · have e : jn (cdU 16) a b = an a b := rfl
    rw [e]
    have ee := i64_le (u := a + b) (v := 1) (by omega) (by omega) (by omega) (by omega)
    obtain ⟨ha, hb⟩ := ht (by omega)
    rcases ha with rfl | rfl <;> rcases hb with rfl | rfl
    · rw [q.1]; simp (disch := (first | assumption | omega | exact Nat.le_of_ble_eq_true rfl | rfl)) only [w222_0, w222_1, w222_44, w222_45, w222_46, w222_47, w222_50, w222_51, w222_52, w222_53, w222_54, w222_57, w222_58, w222_59, w222_60, w222_61, w222_64, w222_65, w222_66, w222_67, w222_71, w222_72, w222_75, w222_76, w222_77, w222_78, w222_79, w222_83, w222_84, w222_87, w222_88, w222_89, w222_90, w222_91, w222_95, w222_96, w222_99, w222_100, w222_101, w222_102, w222_103, w222_104, w222_105, w222_109, w222_110, w222_113, w222_114, w222_115, w222_116, w222_117, w222_118, w222_119, w222_123, w222_124, w222_127, w222_128, Ko_n, Ko_v, vX_i, vX_r, vX_l, vX_j, reduceIte, vmSwitch, Int.reduceEq, i64_add, ee, show (0 : Int) + 0 ≤ 1 by omega]
    · rw [q.2.1]; simp (disch := (first | assumption | omega | exact Nat.le_of_ble_eq_true rfl | rfl)) only [w222_0, w222_1, w222_44, w222_45, w222_46, w222_47, w222_50, w222_51, w222_52, w222_53, w222_54, w222_57, w222_58, w222_59, w222_60, w222_61, w222_64, w222_65, w222_66, w222_67, w222_71, w222_72, w222_75, w222_76, w222_77, w222_78, w222_79, w222_83, w222_84, w222_87, w222_88, w222_89, w222_90, w222_91, w222_95, w222_96, w222_99, w222_100, w222_101, w222_102, w222_103, w222_104, w222_105, w222_109, w222_110, w222_113, w222_114, w222_115, w222_116, w222_117, w222_118, w222_119, w222_123, w222_124, w222_127, w222_128, Ko_n, Ko_v, vX_i, vX_r, vX_l, vX_j, reduceIte, vmSwitch, Int.reduceEq, i64_add, ee, show (0 : Int) + 1 ≤ 1 by omega]
    · rw [q.2.2.1]; simp (disch := (first | assumption | omega | exact Nat.le_of_ble_eq_true rfl | rfl)) only [w222_0, w222_1, w222_44, w222_45, w222_46, w222_47, w222_50, w222_51, w222_52, w222_53, w222_54, w222_57, w222_58, w222_59, w222_60, w222_61, w222_64, w222_65, w222_66, w222_67, w222_71, w222_72, w222_75, w222_76, w222_77, w222_78, w222_79, w222_83, w222_84, w222_87, w222_88, w222_89, w222_90, w222_91, w222_95, w222_96, w222_99, w222_100, w222_101, w222_102, w222_103, w222_104, w222_105, w222_109, w222_110, w222_113, w222_114, w222_115, w222_116, w222_117, w222_118, w222_119, w222_123, w222_124, w222_127, w222_128, Ko_n, Ko_v, vX_i, vX_r, vX_l, vX_j, reduceIte, vmSwitch, Int.reduceEq, i64_add, ee, show (1 : Int) + 0 ≤ 1 by omega]
    · rw [q.2.2.2.1]; simp (disch := (first | assumption | omega | exact Nat.le_of_ble_eq_true rfl | rfl)) only [w222_0, w222_1, w222_44, w222_45, w222_46, w222_47, w222_50, w222_51, w222_52, w222_53, w222_54, w222_57, w222_58, w222_59, w222_60, w222_61, w222_64, w222_65, w222_66, w222_67, w222_71, w222_72, w222_75, w222_76, w222_77, w222_78, w222_79, w222_83, w222_84, w222_87, w222_88, w222_89, w222_90, w222_91, w222_95, w222_96, w222_99, w222_100, w222_101, w222_102, w222_103, w222_104, w222_105, w222_109, w222_110, w222_113, w222_114, w222_115, w222_116, w222_117, w222_118, w222_119, w222_123, w222_124, w222_127, w222_128, Ko_n, Ko_v, vX_i, vX_r, vX_l, vX_j, reduceIte, vmSwitch, Int.reduceEq, i64_add, ee, show ¬ (1 : Int) + 1 ≤ 1 by omega]
  · have e : jn (cdU 17) a b = oo a b := rfl
    rw [e]
    have ee := i64_le (u := a + b) (v := 0) (by omega) (by omega) (by omega) (by omega)
    obtain ⟨ha, hb⟩ := ht (by omega)
    rcases ha with rfl | rfl <;> rcases hb with rfl | rfl
    · rw [q.2.2.2.2.1]; simp (disch := (first | assumption | omega | exact Nat.le_of_ble_eq_true rfl | rfl)) only [w222_0, w222_1, w222_44, w222_45, w222_46, w222_47, w222_50, w222_51, w222_52, w222_53, w222_54, w222_57, w222_58, w222_59, w222_60, w222_61, w222_64, w222_65, w222_66, w222_67, w222_71, w222_72, w222_75, w222_76, w222_77, w222_78, w222_79, w222_83, w222_84, w222_87, w222_88, w222_89, w222_90, w222_91, w222_95, w222_96, w222_99, w222_100, w222_101, w222_102, w222_103, w222_104, w222_105, w222_109, w222_110, w222_113, w222_114, w222_115, w222_116, w222_117, w222_118, w222_119, w222_123, w222_124, w222_127, w222_128, Ko_n, Ko_v, vX_i, vX_r, vX_l, vX_j, reduceIte, vmSwitch, Int.reduceEq, i64_add, ee, show (0 : Int) + 0 ≤ 0 by omega]
    · rw [q.2.2.2.2.2.1]; simp (disch := (first | assumption | omega | exact Nat.le_of_ble_eq_true rfl | rfl)) only [w222_0, w222_1, w222_44, w222_45, w222_46, w222_47, w222_50, w222_51, w222_52, w222_53, w222_54, w222_57, w222_58, w222_59, w222_60, w222_61, w222_64, w222_65, w222_66, w222_67, w222_71, w222_72, w222_75, w222_76, w222_77, w222_78, w222_79, w222_83, w222_84, w222_87, w222_88, w222_89, w222_90, w222_91, w222_95, w222_96, w222_99, w222_100, w222_101, w222_102, w222_103, w222_104, w222_105, w222_109, w222_110, w222_113, w222_114, w222_115, w222_116, w222_117, w222_118, w222_119, w222_123, w222_124, w222_127, w222_128, Ko_n, Ko_v, vX_i, vX_r, vX_l, vX_j, reduceIte, vmSwitch, Int.reduceEq, i64_add, ee, show ¬ (0 : Int) + 1 ≤ 0 by omega]
    · rw [q.2.2.2.2.2.2.1]; simp (disch := (first | assumption | omega | exact Nat.le_of_ble_eq_true rfl | rfl)) only [w222_0, w222_1, w222_44, w222_45, w222_46, w222_47, w222_50, w222_51, w222_52, w222_53, w222_54, w222_57, w222_58, w222_59, w222_60, w222_61, w222_64, w222_65, w222_66, w222_67, w222_71, w222_72, w222_75, w222_76, w222_77, w222_78, w222_79, w222_83, w222_84, w222_87, w222_88, w222_89, w222_90, w222_91, w222_95, w222_96, w222_99, w222_100, w222_101, w222_102, w222_103, w222_104, w222_105, w222_109, w222_110, w222_113, w222_114, w222_115, w222_116, w222_117, w222_118, w222_119, w222_123, w222_124, w222_127, w222_128, Ko_n, Ko_v, vX_i, vX_r, vX_l, vX_j, reduceIte, vmSwitch, Int.reduceEq, i64_add, ee, show ¬ (1 : Int) + 0 ≤ 0 by omega]
    · rw [q.2.2.2.2.2.2.2]; simp (disch := (first | assumption | omega | exact Nat.le_of_ble_eq_true rfl | rfl)) only [w222_0, w222_1, w222_44, w222_45, w222_46, w222_47, w222_50, w222_51, w222_52, w222_53, w222_54, w222_57, w222_58, w222_59, w222_60, w222_61, w222_64, w222_65, w222_66, w222_67, w222_71, w222_72, w222_75, w222_76, w222_77, w222_78, w222_79, w222_83, w222_84, w222_87, w222_88, w222_89, w222_90, w222_91, w222_95, w222_96, w222_99, w222_100, w222_101, w222_102, w222_103, w222_104, w222_105, w222_109, w222_110, w222_113, w222_114, w222_115, w222_116, w222_117, w222_118, w222_119, w222_123, w222_124, w222_127, w222_128, Ko_n, Ko_v, vX_i, vX_r, vX_l, vX_j, reduceIte, vmSwitch, Int.reduceEq, i64_add, ee, show ¬ (1 : Int) + 1 ≤ 0 by omega]
/-- what the law is told of a hedge -/
def fcK (K : Int → Int) (z : Int) : Int → Int := fct (K 1) (K 2) (kdK K 7) (tkK K 7) (K 90) z
theorem fcK_ok {K : Int → Int} {B z : Int} (hv : scV K 7 B) (h : wh2 (K 1) (K 2)) (z0 : 0 ≤ z) (z1 : z < K 1 * K 2) : fcOk (fcK K z) := by
  have hm := wh_mul h
  obtain ⟨h1, h2, h3, h4⟩ := h
  have b1 := Int.emod_nonneg z (show K 1 ≠ 0 by omega)
  have b2 := Int.emod_lt_of_pos z (show 0 < K 1 by omega)
  have b3 : 0 ≤ z / K 1 := Int.ediv_nonneg (by omega) (by omega)
  have b4 := Int.ediv_le_self (K 1) z0
  have hc := kV_c hv z0 (by omega)
  have c4 := cnt_in (p := fun k => nbB (K 1) (K 2) (fun i => decide (i = z)) k && hgB (kdK K 7) k) 64
  intro j j0 j1
  have hj : j = 0 ∨ j = 1 ∨ j = 2 ∨ j = 3 ∨ j = 4 ∨ j = 5 := by omega
  rcases hj with rfl | rfl | rfl | rfl | rfl | rfl
  · show 0 ≤ z % K 1 ∧ z % K 1 ≤ 1000; omega
  · show 0 ≤ z / K 1 ∧ z / K 1 ≤ 1000; omega
  · show 0 ≤ K (7 + z) ∧ K (7 + z) ≤ 1000; omega
  · show 0 ≤ K (7 + 36 + z) ∧ K (7 + 36 + z) ≤ 1000
    rw [show (7 : Int) + 36 + z = 43 + z by omega]; omega
  · exact ⟨c4.1, by have := c4.2; show cnt _ 64 ≤ 1000; omega⟩
  · show 0 ≤ K 90 % 1000 ∧ K 90 % 1000 ≤ 1000; omega
theorem c223 {d : Nat} {k w z B : Int} {K : Int → Int} {T : Tt} {σ : St} {Q : vmO → vmH → Prop} (hK : σ 1200 382 = K) (hv : scV K 7 B) (hB : B < 900000000) (h : wh2 (K 1) (K 2)) (w0 : 0 ≤ w) (w1 : w ≤ 5) (z0 : 0 ≤ z) (z1 : z < K 1 * K 2) : Ca (d + 3) k 223 [.ref 382, .int (i32 w), .int (i32 z)] (E T σ) Q = Q (.inl (some (.int (i32 (fcK K z w))))) (E T σ) := by
  have h0 := ob_md
  have hm := wh_mul h
  have hn1 : 0 ≤ K 90 ∧ K 90 ≤ B := hv.2.2.2.1
  have hw := h
  obtain ⟨h1, h2, h3, h4⟩ := h
  rw [n223 _ _ _ _ _ _ _ _ h0]
  have hj : w = 0 ∨ w = 1 ∨ w = 2 ∨ w = 3 ∨ w = 4 ∨ w = 5 := by omega
  rcases hj with rfl | rfl | rfl | rfl | rfl | rfl
  · simp (disch := (first | assumption | omega | exact Nat.le_of_ble_eq_true rfl | rfl)) only [w223_0, w223_1, w223_36, w223_37, w223_38, w223_41, w223_42, w223_43, w223_44, w223_45, w223_46, w223_47, w223_50, w223_51, w223_52, w223_53, w223_54, w223_55, w223_56, w223_59, w223_60, w223_61, w223_62, w223_65, w223_66, w223_67, w223_68, w223_71, w223_72, w223_73, w223_76, w223_78, w223_79, w223_82, w223_83, Ko_n, Ko_v, vX_i, vX_r, vX_l, vX_j, reduceIte, vmSwitch, Int.reduceEq, hK]
    rfl
  · simp (disch := (first | assumption | omega | exact Nat.le_of_ble_eq_true rfl | rfl)) only [w223_0, w223_1, w223_36, w223_37, w223_38, w223_41, w223_42, w223_43, w223_44, w223_45, w223_46, w223_47, w223_50, w223_51, w223_52, w223_53, w223_54, w223_55, w223_56, w223_59, w223_60, w223_61, w223_62, w223_65, w223_66, w223_67, w223_68, w223_71, w223_72, w223_73, w223_76, w223_78, w223_79, w223_82, w223_83, Ko_n, Ko_v, vX_i, vX_r, vX_l, vX_j, reduceIte, vmSwitch, Int.reduceEq, hK]
    rfl
  · simp (disch := (first | assumption | omega | exact Nat.le_of_ble_eq_true rfl | rfl)) only [w223_0, w223_1, w223_36, w223_37, w223_38, w223_41, w223_42, w223_43, w223_44, w223_45, w223_46, w223_47, w223_50, w223_51, w223_52, w223_53, w223_54, w223_55, w223_56, w223_59, w223_60, w223_61, w223_62, w223_65, w223_66, w223_67, w223_68, w223_71, w223_72, w223_73, w223_76, w223_78, w223_79, w223_82, w223_83, Ko_n, Ko_v, vX_i, vX_r, vX_l, vX_j, reduceIte, vmSwitch, Int.reduceEq]
    rw [c211 hK z0 (by omega)]
    simp (disch := (first | assumption | omega | exact Nat.le_of_ble_eq_true rfl | rfl)) only [w223_0, w223_1, w223_36, w223_37, w223_38, w223_41, w223_42, w223_43, w223_44, w223_45, w223_46, w223_47, w223_50, w223_51, w223_52, w223_53, w223_54, w223_55, w223_56, w223_59, w223_60, w223_61, w223_62, w223_65, w223_66, w223_67, w223_68, w223_71, w223_72, w223_73, w223_76, w223_78, w223_79, w223_82, w223_83, Ko_n, Ko_v, vX_i, vX_r, vX_l, vX_j, reduceIte]
    rfl
  · simp (disch := (first | assumption | omega | exact Nat.le_of_ble_eq_true rfl | rfl)) only [w223_0, w223_1, w223_36, w223_37, w223_38, w223_41, w223_42, w223_43, w223_44, w223_45, w223_46, w223_47, w223_50, w223_51, w223_52, w223_53, w223_54, w223_55, w223_56, w223_59, w223_60, w223_61, w223_62, w223_65, w223_66, w223_67, w223_68, w223_71, w223_72, w223_73, w223_76, w223_78, w223_79, w223_82, w223_83, Ko_n, Ko_v, vX_i, vX_r, vX_l, vX_j, reduceIte, vmSwitch, Int.reduceEq]
    rw [c212 hK z0 (by omega)]
    simp (disch := (first | assumption | omega | exact Nat.le_of_ble_eq_true rfl | rfl)) only [w223_0, w223_1, w223_36, w223_37, w223_38, w223_41, w223_42, w223_43, w223_44, w223_45, w223_46, w223_47, w223_50, w223_51, w223_52, w223_53, w223_54, w223_55, w223_56, w223_59, w223_60, w223_61, w223_62, w223_65, w223_66, w223_67, w223_68, w223_71, w223_72, w223_73, w223_76, w223_78, w223_79, w223_82, w223_83, Ko_n, Ko_v, vX_i, vX_r, vX_l, vX_j, reduceIte]
    show _ = Q (.inl (some (.int (i32 (K (7 + 36 + z)))))) (E T σ)
    rw [show (7 : Int) + 36 + z = 43 + z by omega]
  · simp (disch := (first | assumption | omega | exact Nat.le_of_ble_eq_true rfl | rfl)) only [w223_0, w223_1, w223_36, w223_37, w223_38, w223_41, w223_42, w223_43, w223_44, w223_45, w223_46, w223_47, w223_50, w223_51, w223_52, w223_53, w223_54, w223_55, w223_56, w223_59, w223_60, w223_61, w223_62, w223_65, w223_66, w223_67, w223_68, w223_71, w223_72, w223_73, w223_76, w223_78, w223_79, w223_82, w223_83, Ko_n, Ko_v, vX_i, vX_r, vX_l, vX_j, reduceIte, vmSwitch, Int.reduceEq]
    rw [c220 hK hv hw z0 z1, nrI_4 hw z0 z1]
    simp (disch := (first | assumption | omega | exact Nat.le_of_ble_eq_true rfl | rfl)) only [w223_0, w223_1, w223_36, w223_37, w223_38, w223_41, w223_42, w223_43, w223_44, w223_45, w223_46, w223_47, w223_50, w223_51, w223_52, w223_53, w223_54, w223_55, w223_56, w223_59, w223_60, w223_61, w223_62, w223_65, w223_66, w223_67, w223_68, w223_71, w223_72, w223_73, w223_76, w223_78, w223_79, w223_82, w223_83, Ko_n, Ko_v, vX_i, vX_r, vX_l, vX_j, reduceIte]
    rfl
  · simp (disch := (first | assumption | omega | exact Nat.le_of_ble_eq_true rfl | rfl)) only [w223_0, w223_1, w223_36, w223_37, w223_38, w223_41, w223_42, w223_43, w223_44, w223_45, w223_46, w223_47, w223_50, w223_51, w223_52, w223_53, w223_54, w223_55, w223_56, w223_59, w223_60, w223_61, w223_62, w223_65, w223_66, w223_67, w223_68, w223_71, w223_72, w223_73, w223_76, w223_78, w223_79, w223_82, w223_83, Ko_n, Ko_v, vX_i, vX_r, vX_l, vX_j, reduceIte, vmSwitch, Int.reduceEq, hK]
    rfl
theorem c224 {d : Nat} {k z B : Int} {K : Int → Int} {T : Tt} {σ : St} {Q : vmO → vmH → Prop} (hK : σ 1200 382 = K) (hv : kV K B) (hB : B < 900000000) (hl : lwV K) (hr : rwK K) (h : wh2 (K 1) (K 2)) (z0 : 0 ≤ z) (z1 : z < K 1 * K 2) (hQ : ∀ S, Q (.inl (some (.int (i32 (if grK K z then 1 else 0))))) (E T (upA σ 1217 382 S))) : Ca (d + 4) k 224 [.ref 382, .int (i32 z)] (E T σ) Q := by
  have h0 := ob_md
  have hm := wh_mul h
  have hc := kV_c hv.2.1 z0 (by omega)
  have h5 := hv.1.2.2.2.1
  have hfc := fcK_ok hv.2.1 h z0 z1
  have hQ0 := hQ (σ 1217 382)
  rw [upA_self] at hQ0
  have hgr : grK K z = (hgB (kdK K 7) z && (decide (K (43 + z) < 60) && (decide ((K 5).toNat ≠ 0) && decide (lwR (fcK K z) (cdK K) (K 5).toNat = [1])))) := by
    show (hgB (kdK K 7) z && (decide (K (7 + 36 + z) < 60) && _)) = _
    rw [show (7 : Int) + 36 + z = 43 + z by omega]
    rfl
  rw [n224 _ _ _ _ _ _ _ h0]
  simp (disch := (first | assumption | omega | exact Nat.le_of_ble_eq_true rfl | rfl)) only [w224_0, w224_1, w224_2, w224_5, w224_8, w224_9, w224_10, w224_13, w224_15, w224_18, w224_19, w224_20, w224_21, w224_22, w224_23, w224_25, w224_26, w224_29, w224_30, w224_31, w224_34, w224_35, w224_38, w224_41, w224_42, w224_43, w224_44, w224_46, w224_48, w224_50, w224_53, w224_54, w224_57, w224_58, w224_60, w224_63, w224_66, w224_68, w224_71, w224_72, w224_75, w224_76, w224_78, w224_80, w224_81, w224_82, w224_85, w224_86, w224_89, w224_92, w224_94, w224_96, w224_99, w224_100, w224_103, w224_104, w224_105, w224_106, w224_107, w224_108, w224_111, w224_112, w224_113, w224_114, w224_115, w224_116, w224_117, w224_120, w224_123, w224_124, w224_127, w224_128, w224_129, w224_130, w224_132, w224_133, w224_136, w224_137, w224_138, w224_139, w224_140, w224_141, w224_142, w224_145, w224_146, w224_147, w224_148, w224_151, w224_152, w224_155, w224_158, w224_159, w224_162, w224_163, w224_166, w224_167, w224_168, w224_169, w224_172, w224_173, w224_176, w224_177, Ko_n, Ko_v, vX_i, vX_r, vX_l, vX_j, reduceIte]
  rw [c213 hK hv.2.1 z0 (by omega)]
  cases e1 : hgB (kdK K 7) z with
  | false =>
    rw [hgr, e1, Bool.false_and] at hQ0
    simp (disch := (first | assumption | omega | exact Nat.le_of_ble_eq_true rfl | rfl)) only [w224_0, w224_1, w224_2, w224_5, w224_8, w224_9, w224_10, w224_13, w224_15, w224_18, w224_19, w224_20, w224_21, w224_22, w224_23, w224_25, w224_26, w224_29, w224_30, w224_31, w224_34, w224_35, w224_38, w224_41, w224_42, w224_43, w224_44, w224_46, w224_48, w224_50, w224_53, w224_54, w224_57, w224_58, w224_60, w224_63, w224_66, w224_68, w224_71, w224_72, w224_75, w224_76, w224_78, w224_80, w224_81, w224_82, w224_85, w224_86, w224_89, w224_92, w224_94, w224_96, w224_99, w224_100, w224_103, w224_104, w224_105, w224_106, w224_107, w224_108, w224_111, w224_112, w224_113, w224_114, w224_115, w224_116, w224_117, w224_120, w224_123, w224_124, w224_127, w224_128, w224_129, w224_130, w224_132, w224_133, w224_136, w224_137, w224_138, w224_139, w224_140, w224_141, w224_142, w224_145, w224_146, w224_147, w224_148, w224_151, w224_152, w224_155, w224_158, w224_159, w224_162, w224_163, w224_166, w224_167, w224_168, w224_169, w224_172, w224_173, w224_176, w224_177, Ko_n, Ko_v, vX_i, vX_r, vX_l, vX_j, reduceIte, Bool.false_eq_true]
    exact hQ0
  | true =>
    rw [e1, Bool.true_and] at hgr
    simp (disch := (first | assumption | omega | exact Nat.le_of_ble_eq_true rfl | rfl)) only [w224_0, w224_1, w224_2, w224_5, w224_8, w224_9, w224_10, w224_13, w224_15, w224_18, w224_19, w224_20, w224_21, w224_22, w224_23, w224_25, w224_26, w224_29, w224_30, w224_31, w224_34, w224_35, w224_38, w224_41, w224_42, w224_43, w224_44, w224_46, w224_48, w224_50, w224_53, w224_54, w224_57, w224_58, w224_60, w224_63, w224_66, w224_68, w224_71, w224_72, w224_75, w224_76, w224_78, w224_80, w224_81, w224_82, w224_85, w224_86, w224_89, w224_92, w224_94, w224_96, w224_99, w224_100, w224_103, w224_104, w224_105, w224_106, w224_107, w224_108, w224_111, w224_112, w224_113, w224_114, w224_115, w224_116, w224_117, w224_120, w224_123, w224_124, w224_127, w224_128, w224_129, w224_130, w224_132, w224_133, w224_136, w224_137, w224_138, w224_139, w224_140, w224_141, w224_142, w224_145, w224_146, w224_147, w224_148, w224_151, w224_152, w224_155, w224_158, w224_159, w224_162, w224_163, w224_166, w224_167, w224_168, w224_169, w224_172, w224_173, w224_176, w224_177, Ko_n, Ko_v, vX_i, vX_r, vX_l, vX_j, reduceIte, Int.reduceEq]
    rw [c212 hK z0 (by omega)]
    by_cases e2 : K (43 + z) = 60
    · rw [hgr, decide_eq_false (by omega : ¬ K (43 + z) < 60), Bool.false_and] at hQ0
      simp (disch := (first | assumption | omega | exact Nat.le_of_ble_eq_true rfl | rfl)) only [w224_0, w224_1, w224_2, w224_5, w224_8, w224_9, w224_10, w224_13, w224_15, w224_18, w224_19, w224_20, w224_21, w224_22, w224_23, w224_25, w224_26, w224_29, w224_30, w224_31, w224_34, w224_35, w224_38, w224_41, w224_42, w224_43, w224_44, w224_46, w224_48, w224_50, w224_53, w224_54, w224_57, w224_58, w224_60, w224_63, w224_66, w224_68, w224_71, w224_72, w224_75, w224_76, w224_78, w224_80, w224_81, w224_82, w224_85, w224_86, w224_89, w224_92, w224_94, w224_96, w224_99, w224_100, w224_103, w224_104, w224_105, w224_106, w224_107, w224_108, w224_111, w224_112, w224_113, w224_114, w224_115, w224_116, w224_117, w224_120, w224_123, w224_124, w224_127, w224_128, w224_129, w224_130, w224_132, w224_133, w224_136, w224_137, w224_138, w224_139, w224_140, w224_141, w224_142, w224_145, w224_146, w224_147, w224_148, w224_151, w224_152, w224_155, w224_158, w224_159, w224_162, w224_163, w224_166, w224_167, w224_168, w224_169, w224_172, w224_173, w224_176, w224_177, Ko_n, Ko_v, vX_i, vX_r, vX_l, vX_j, reduceIte, e2, not_true]
      exact hQ0
    · rw [decide_eq_true (by omega : K (43 + z) < 60), Bool.true_and] at hgr
      simp (disch := (first | assumption | omega | exact Nat.le_of_ble_eq_true rfl | rfl)) only [w224_0, w224_1, w224_2, w224_5, w224_8, w224_9, w224_10, w224_13, w224_15, w224_18, w224_19, w224_20, w224_21, w224_22, w224_23, w224_25, w224_26, w224_29, w224_30, w224_31, w224_34, w224_35, w224_38, w224_41, w224_42, w224_43, w224_44, w224_46, w224_48, w224_50, w224_53, w224_54, w224_57, w224_58, w224_60, w224_63, w224_66, w224_68, w224_71, w224_72, w224_75, w224_76, w224_78, w224_80, w224_81, w224_82, w224_85, w224_86, w224_89, w224_92, w224_94, w224_96, w224_99, w224_100, w224_103, w224_104, w224_105, w224_106, w224_107, w224_108, w224_111, w224_112, w224_113, w224_114, w224_115, w224_116, w224_117, w224_120, w224_123, w224_124, w224_127, w224_128, w224_129, w224_130, w224_132, w224_133, w224_136, w224_137, w224_138, w224_139, w224_140, w224_141, w224_142, w224_145, w224_146, w224_147, w224_148, w224_151, w224_152, w224_155, w224_158, w224_159, w224_162, w224_163, w224_166, w224_167, w224_168, w224_169, w224_172, w224_173, w224_176, w224_177, Ko_n, Ko_v, vX_i, vX_r, vX_l, vX_j, reduceIte, e2, not_false_eq_true]
      have loop : ∀ (m i : Nat) (S : Int → Int) (l4 : Value), (i : Int) + m = K 5 → onS S (lwR (fcK K z) (cdK K) i) → Wp (d + 4) M_X12_grows 24 [.ref 382, .int (i32 z), .int (i32 (lwR (fcK K z) (cdK K) i).length), .int (i32 i), l4] [] (E T (upA σ 1217 382 S)) Q := by
        intro m
        induction m with
        | zero =>
          intro i S l4 hi hS
          have hi5 : (i : Int) = K 5 := by omega
          have hq := hQ S
          rw [hgr] at hq
          rw [w224_24]
          by_cases e5 : K 5 = 0
          · have hi0 : i = 0 := by omega
            subst hi0
            rw [e5] at hq
            simp (disch := (first | assumption | omega | exact Nat.le_of_ble_eq_true rfl | rfl)) only [w224_0, w224_1, w224_2, w224_5, w224_8, w224_9, w224_10, w224_13, w224_15, w224_18, w224_19, w224_20, w224_21, w224_22, w224_23, w224_25, w224_26, w224_29, w224_30, w224_31, w224_34, w224_35, w224_38, w224_41, w224_42, w224_43, w224_44, w224_46, w224_48, w224_50, w224_53, w224_54, w224_57, w224_58, w224_60, w224_63, w224_66, w224_68, w224_71, w224_72, w224_75, w224_76, w224_78, w224_80, w224_81, w224_82, w224_85, w224_86, w224_89, w224_92, w224_94, w224_96, w224_99, w224_100, w224_103, w224_104, w224_105, w224_106, w224_107, w224_108, w224_111, w224_112, w224_113, w224_114, w224_115, w224_116, w224_117, w224_120, w224_123, w224_124, w224_127, w224_128, w224_129, w224_130, w224_132, w224_133, w224_136, w224_137, w224_138, w224_139, w224_140, w224_141, w224_142, w224_145, w224_146, w224_147, w224_148, w224_151, w224_152, w224_155, w224_158, w224_159, w224_162, w224_163, w224_166, w224_167, w224_168, w224_169, w224_172, w224_173, w224_176, w224_177, Ko_n, Ko_v, vX_i, vX_r, vX_l, vX_j, reduceIte, upA_t, hK, e5, show (0 : Int) ≤ ((0 : Nat) : Int) by omega, show ((lwR (fcK K z) (cdK K) 0).length : Int) ≤ 0 from Int.le_refl _, show ((lwR (fcK K z) (cdK K) 0).length : Int) = 0 from rfl, Int.le_refl]
            exact hq
          · obtain ⟨⟨v, g1, g2, g4⟩, g3⟩ := hl (fcK K z) hfc e5
            rw [sgR_0] at g1
            rw [show (K 5).toNat = i by omega] at g1 hq
            rw [g1] at hS hq ⊢
            have hS0 : S 0 = v := hS.1
            rw [decide_eq_true (by omega : i ≠ 0), Bool.true_and] at hq
            simp (disch := (first | assumption | omega | exact Nat.le_of_ble_eq_true rfl | rfl)) only [w224_0, w224_1, w224_2, w224_5, w224_8, w224_9, w224_10, w224_13, w224_15, w224_18, w224_19, w224_20, w224_21, w224_22, w224_23, w224_25, w224_26, w224_29, w224_30, w224_31, w224_34, w224_35, w224_38, w224_41, w224_42, w224_43, w224_44, w224_46, w224_48, w224_50, w224_53, w224_54, w224_57, w224_58, w224_60, w224_63, w224_66, w224_68, w224_71, w224_72, w224_75, w224_76, w224_78, w224_80, w224_81, w224_82, w224_85, w224_86, w224_89, w224_92, w224_94, w224_96, w224_99, w224_100, w224_103, w224_104, w224_105, w224_106, w224_107, w224_108, w224_111, w224_112, w224_113, w224_114, w224_115, w224_116, w224_117, w224_120, w224_123, w224_124, w224_127, w224_128, w224_129, w224_130, w224_132, w224_133, w224_136, w224_137, w224_138, w224_139, w224_140, w224_141, w224_142, w224_145, w224_146, w224_147, w224_148, w224_151, w224_152, w224_155, w224_158, w224_159, w224_162, w224_163, w224_166, w224_167, w224_168, w224_169, w224_172, w224_173, w224_176, w224_177, Ko_n, Ko_v, vX_i, vX_r, vX_l, vX_j, reduceIte, upA_t, upA_s, hK, hi5, Int.le_refl, List.length_cons, List.length_nil, Nat.zero_add, show ¬ (((1 : Nat) : Int)) ≤ 0 by omega, hS0]
            obtain ⟨g20, g21⟩ := g2
            by_cases e6 : v = 1
            · rw [e6, decide_eq_true rfl] at hq
              simp (disch := (first | assumption | omega | exact Nat.le_of_ble_eq_true rfl | rfl)) only [w224_0, w224_1, w224_2, w224_5, w224_8, w224_9, w224_10, w224_13, w224_15, w224_18, w224_19, w224_20, w224_21, w224_22, w224_23, w224_25, w224_26, w224_29, w224_30, w224_31, w224_34, w224_35, w224_38, w224_41, w224_42, w224_43, w224_44, w224_46, w224_48, w224_50, w224_53, w224_54, w224_57, w224_58, w224_60, w224_63, w224_66, w224_68, w224_71, w224_72, w224_75, w224_76, w224_78, w224_80, w224_81, w224_82, w224_85, w224_86, w224_89, w224_92, w224_94, w224_96, w224_99, w224_100, w224_103, w224_104, w224_105, w224_106, w224_107, w224_108, w224_111, w224_112, w224_113, w224_114, w224_115, w224_116, w224_117, w224_120, w224_123, w224_124, w224_127, w224_128, w224_129, w224_130, w224_132, w224_133, w224_136, w224_137, w224_138, w224_139, w224_140, w224_141, w224_142, w224_145, w224_146, w224_147, w224_148, w224_151, w224_152, w224_155, w224_158, w224_159, w224_162, w224_163, w224_166, w224_167, w224_168, w224_169, w224_172, w224_173, w224_176, w224_177, Ko_n, Ko_v, vX_i, vX_r, vX_l, vX_j, reduceIte, e6, not_true]
              exact hq
            · rw [decide_eq_false (by simpa using e6)] at hq
              simp (disch := (first | assumption | omega | exact Nat.le_of_ble_eq_true rfl | rfl)) only [w224_0, w224_1, w224_2, w224_5, w224_8, w224_9, w224_10, w224_13, w224_15, w224_18, w224_19, w224_20, w224_21, w224_22, w224_23, w224_25, w224_26, w224_29, w224_30, w224_31, w224_34, w224_35, w224_38, w224_41, w224_42, w224_43, w224_44, w224_46, w224_48, w224_50, w224_53, w224_54, w224_57, w224_58, w224_60, w224_63, w224_66, w224_68, w224_71, w224_72, w224_75, w224_76, w224_78, w224_80, w224_81, w224_82, w224_85, w224_86, w224_89, w224_92, w224_94, w224_96, w224_99, w224_100, w224_103, w224_104, w224_105, w224_106, w224_107, w224_108, w224_111, w224_112, w224_113, w224_114, w224_115, w224_116, w224_117, w224_120, w224_123, w224_124, w224_127, w224_128, w224_129, w224_130, w224_132, w224_133, w224_136, w224_137, w224_138, w224_139, w224_140, w224_141, w224_142, w224_145, w224_146, w224_147, w224_148, w224_151, w224_152, w224_155, w224_158, w224_159, w224_162, w224_163, w224_166, w224_167, w224_168, w224_169, w224_172, w224_173, w224_176, w224_177, Ko_n, Ko_v, vX_i, vX_r, vX_l, vX_j, reduceIte, e6, not_false_eq_true]
              exact hq
        | succ m ih =>
          intro i S l4 hi hS
          have e5 : K 5 ≠ 0 := by omega
          have st := (hl (fcK K z) hfc e5).2 i (by omega)
          rw [sgR_0, Nat.zero_add] at st
          obtain ⟨c1, c2, c3, c4, c5⟩ := st
          simp only [List.length_nil] at c4
          have rv := hr i (by omega) (by omega)
          have ih' := fun S l4 => ih (i + 1) S l4 (by omega)
          rw [show lwR (fcK K z) (cdK K) (i + 1) = lwS (fcK K z) (cdK K i) (lwR (fcK K z) (cdK K) i) from rfl] at ih'
          have hcd : cdK K i = cdU (K (988 + i)) := rfl
          rw [hcd] at ih' c1 c2 c3
          generalize hL : lwR (fcK K z) (cdK K) i = L at *
          generalize hu : K (988 + (i : Int)) = u at *
          rw [w224_24]
          rcases rv with rv | rv | rv
          · have hcu : cdU u = if u = 18 then 1006 else u + 997 := by unfold cdU; rw [if_neg (by omega), if_neg (by omega)]
            by_cases e18 : u = 18
            · rw [hcu, if_pos e18] at ih' c2
              obtain ⟨v, r, hLr, hv01⟩ := c2 rfl
              subst hLr
              obtain ⟨hs1, hs2⟩ := hS
              simp only [List.length_cons] at c4
              have hvv := c5 v List.mem_cons_self
              have e1 : lwS (fcK K z) 1006 (v :: r) = (1 - v) :: r := rfl
              rw [e1] at ih'
              have := ih' (fu S r.length (1 - v)) (.int (i32 18)) ⟨fu_s, onS_fu _ hs2 (Int.le_refl _)⟩
              simp only [List.length_cons] at this ⊢
              simp (disch := (first | assumption | omega | exact Nat.le_of_ble_eq_true rfl | rfl)) only [w224_0, w224_1, w224_2, w224_5, w224_8, w224_9, w224_10, w224_13, w224_15, w224_18, w224_19, w224_20, w224_21, w224_22, w224_23, w224_25, w224_26, w224_29, w224_30, w224_31, w224_34, w224_35, w224_38, w224_41, w224_42, w224_43, w224_44, w224_46, w224_48, w224_50, w224_53, w224_54, w224_57, w224_58, w224_60, w224_63, w224_66, w224_68, w224_71, w224_72, w224_75, w224_76, w224_78, w224_80, w224_81, w224_82, w224_85, w224_86, w224_89, w224_92, w224_94, w224_96, w224_99, w224_100, w224_103, w224_104, w224_105, w224_106, w224_107, w224_108, w224_111, w224_112, w224_113, w224_114, w224_115, w224_116, w224_117, w224_120, w224_123, w224_124, w224_127, w224_128, w224_129, w224_130, w224_132, w224_133, w224_136, w224_137, w224_138, w224_139, w224_140, w224_141, w224_142, w224_145, w224_146, w224_147, w224_148, w224_151, w224_152, w224_155, w224_158, w224_159, w224_162, w224_163, w224_166, w224_167, w224_168, w224_169, w224_172, w224_173, w224_176, w224_177, Ko_n, Ko_v, vX_i, vX_r, vX_l, vX_j, reduceIte, upA_t, upA_s, hK, show ¬ K 5 ≤ (i : Int) by omega, hu, e18, show (18 : Int) < 100 by omega, not_true, show ((r.length + 1 : Nat) : Int) - 1 = r.length by omega, hs1, upA_upA]
              exact this
            · rw [hcu, if_neg e18] at ih' c3
              obtain ⟨y, x, r, hLr, ht⟩ := c3 (by omega)
              subst hLr
              obtain ⟨hs1, hs2, hs3⟩ := hS
              simp only [List.length_cons] at c4 hs1
              have hy := c5 y List.mem_cons_self
              have hx := c5 x (List.mem_cons_of_mem _ List.mem_cons_self)
              have hxr := hx
              have hyr := hy
              obtain ⟨x0, x1⟩ := hx
              obtain ⟨y0, y1⟩ := hy
              have e1 : lwS (fcK K z) (u + 997) (y :: x :: r) = jn (u + 997) x y :: r := by unfold lwS; rw [if_neg (by omega), if_neg (by omega)]
              rw [e1] at ih'
              have := ih' (fu S r.length (jn (u + 997) x y)) (.int (i32 u)) ⟨fu_s, onS_fu _ hs3 (Int.le_refl _)⟩
              simp only [List.length_cons] at this ⊢
              simp (disch := (first | assumption | omega | exact Nat.le_of_ble_eq_true rfl | rfl)) only [w224_0, w224_1, w224_2, w224_5, w224_8, w224_9, w224_10, w224_13, w224_15, w224_18, w224_19, w224_20, w224_21, w224_22, w224_23, w224_25, w224_26, w224_29, w224_30, w224_31, w224_34, w224_35, w224_38, w224_41, w224_42, w224_43, w224_44, w224_46, w224_48, w224_50, w224_53, w224_54, w224_57, w224_58, w224_60, w224_63, w224_66, w224_68, w224_71, w224_72, w224_75, w224_76, w224_78, w224_80, w224_81, w224_82, w224_85, w224_86, w224_89, w224_92, w224_94, w224_96, w224_99, w224_100, w224_103, w224_104, w224_105, w224_106, w224_107, w224_108, w224_111, w224_112, w224_113, w224_114, w224_115, w224_116, w224_117, w224_120, w224_123, w224_124, w224_127, w224_128, w224_129, w224_130, w224_132, w224_133, w224_136, w224_137, w224_138, w224_139, w224_140, w224_141, w224_142, w224_145, w224_146, w224_147, w224_148, w224_151, w224_152, w224_155, w224_158, w224_159, w224_162, w224_163, w224_166, w224_167, w224_168, w224_169, w224_172, w224_173, w224_176, w224_177, Ko_n, Ko_v, vX_i, vX_r, vX_l, vX_j, reduceIte, upA_t, upA_s, hK, show ¬ K 5 ≤ (i : Int) by omega, hu, show u < 100 by omega, e18, not_false_eq_true, show ((r.length + 1 + 1 : Nat) : Int) + -1 = ((r.length + 1 : Nat) : Int) by omega, show ((r.length + 1 : Nat) : Int) - 1 = r.length by omega, hs1, hs2]
              rw [c222 (by omega) (by omega) (by omega) hxr hyr (fun z => ht (by omega)), hcu, if_neg e18]
              simp (disch := (first | assumption | omega | exact Nat.le_of_ble_eq_true rfl | rfl)) only [w224_0, w224_1, w224_2, w224_5, w224_8, w224_9, w224_10, w224_13, w224_15, w224_18, w224_19, w224_20, w224_21, w224_22, w224_23, w224_25, w224_26, w224_29, w224_30, w224_31, w224_34, w224_35, w224_38, w224_41, w224_42, w224_43, w224_44, w224_46, w224_48, w224_50, w224_53, w224_54, w224_57, w224_58, w224_60, w224_63, w224_66, w224_68, w224_71, w224_72, w224_75, w224_76, w224_78, w224_80, w224_81, w224_82, w224_85, w224_86, w224_89, w224_92, w224_94, w224_96, w224_99, w224_100, w224_103, w224_104, w224_105, w224_106, w224_107, w224_108, w224_111, w224_112, w224_113, w224_114, w224_115, w224_116, w224_117, w224_120, w224_123, w224_124, w224_127, w224_128, w224_129, w224_130, w224_132, w224_133, w224_136, w224_137, w224_138, w224_139, w224_140, w224_141, w224_142, w224_145, w224_146, w224_147, w224_148, w224_151, w224_152, w224_155, w224_158, w224_159, w224_162, w224_163, w224_166, w224_167, w224_168, w224_169, w224_172, w224_173, w224_176, w224_177, Ko_n, Ko_v, vX_i, vX_r, vX_l, vX_j, reduceIte, upA_s, upA_upA, show ((r.length + 1 : Nat) : Int) - 1 = r.length by omega]
              exact this
          · have hcu : cdU u = u + 900 := by unfold cdU; rw [if_neg (by omega), if_pos (by omega)]
            rw [hcu] at ih'
            have e1 : lwS (fcK K z) (u + 900) L = fcK K z (u - 100) :: L := by
              unfold lwS
              rw [if_pos (by omega), if_neg (by omega), show u + 900 - 1000 = u - 100 by omega]
            rw [e1] at ih'
            have := ih' (fu S L.length (fcK K z (u - 100))) (.int (i32 u)) ⟨fu_s, onS_fu _ hS (Int.le_refl _)⟩
            simp only [List.length_cons] at this
            simp (disch := (first | assumption | omega | exact Nat.le_of_ble_eq_true rfl | rfl)) only [w224_0, w224_1, w224_2, w224_5, w224_8, w224_9, w224_10, w224_13, w224_15, w224_18, w224_19, w224_20, w224_21, w224_22, w224_23, w224_25, w224_26, w224_29, w224_30, w224_31, w224_34, w224_35, w224_38, w224_41, w224_42, w224_43, w224_44, w224_46, w224_48, w224_50, w224_53, w224_54, w224_57, w224_58, w224_60, w224_63, w224_66, w224_68, w224_71, w224_72, w224_75, w224_76, w224_78, w224_80, w224_81, w224_82, w224_85, w224_86, w224_89, w224_92, w224_94, w224_96, w224_99, w224_100, w224_103, w224_104, w224_105, w224_106, w224_107, w224_108, w224_111, w224_112, w224_113, w224_114, w224_115, w224_116, w224_117, w224_120, w224_123, w224_124, w224_127, w224_128, w224_129, w224_130, w224_132, w224_133, w224_136, w224_137, w224_138, w224_139, w224_140, w224_141, w224_142, w224_145, w224_146, w224_147, w224_148, w224_151, w224_152, w224_155, w224_158, w224_159, w224_162, w224_163, w224_166, w224_167, w224_168, w224_169, w224_172, w224_173, w224_176, w224_177, Ko_n, Ko_v, vX_i, vX_r, vX_l, vX_j, reduceIte, upA_t, upA_s, hK, show ¬ K 5 ≤ (i : Int) by omega, hu, show ¬ u < 100 by omega, show u < 1000 by omega]
            rw [c223 (by rw [upA_t (by omega)]; exact hK) hv.2.1 hB h (by omega) (by omega) z0 z1]
            simp (disch := (first | assumption | omega | exact Nat.le_of_ble_eq_true rfl | rfl)) only [w224_0, w224_1, w224_2, w224_5, w224_8, w224_9, w224_10, w224_13, w224_15, w224_18, w224_19, w224_20, w224_21, w224_22, w224_23, w224_25, w224_26, w224_29, w224_30, w224_31, w224_34, w224_35, w224_38, w224_41, w224_42, w224_43, w224_44, w224_46, w224_48, w224_50, w224_53, w224_54, w224_57, w224_58, w224_60, w224_63, w224_66, w224_68, w224_71, w224_72, w224_75, w224_76, w224_78, w224_80, w224_81, w224_82, w224_85, w224_86, w224_89, w224_92, w224_94, w224_96, w224_99, w224_100, w224_103, w224_104, w224_105, w224_106, w224_107, w224_108, w224_111, w224_112, w224_113, w224_114, w224_115, w224_116, w224_117, w224_120, w224_123, w224_124, w224_127, w224_128, w224_129, w224_130, w224_132, w224_133, w224_136, w224_137, w224_138, w224_139, w224_140, w224_141, w224_142, w224_145, w224_146, w224_147, w224_148, w224_151, w224_152, w224_155, w224_158, w224_159, w224_162, w224_163, w224_166, w224_167, w224_168, w224_169, w224_172, w224_173, w224_176, w224_177, Ko_n, Ko_v, vX_i, vX_r, vX_l, vX_j, reduceIte, upA_s, upA_upA]
            exact this
          · have hcu : cdU u = u - 1000 := by unfold cdU; rw [if_pos (by omega)]
            rw [hcu] at ih'
            have e1 : lwS (fcK K z) (u - 1000) L = (u - 1000) :: L := by
              unfold lwS
              rw [if_pos (by omega), if_pos (by omega)]
            rw [e1] at ih'
            have := ih' (fu S L.length (u - 1000)) (.int (i32 u)) ⟨fu_s, onS_fu _ hS (Int.le_refl _)⟩
            simp only [List.length_cons] at this
            simp (disch := (first | assumption | omega | exact Nat.le_of_ble_eq_true rfl | rfl)) only [w224_0, w224_1, w224_2, w224_5, w224_8, w224_9, w224_10, w224_13, w224_15, w224_18, w224_19, w224_20, w224_21, w224_22, w224_23, w224_25, w224_26, w224_29, w224_30, w224_31, w224_34, w224_35, w224_38, w224_41, w224_42, w224_43, w224_44, w224_46, w224_48, w224_50, w224_53, w224_54, w224_57, w224_58, w224_60, w224_63, w224_66, w224_68, w224_71, w224_72, w224_75, w224_76, w224_78, w224_80, w224_81, w224_82, w224_85, w224_86, w224_89, w224_92, w224_94, w224_96, w224_99, w224_100, w224_103, w224_104, w224_105, w224_106, w224_107, w224_108, w224_111, w224_112, w224_113, w224_114, w224_115, w224_116, w224_117, w224_120, w224_123, w224_124, w224_127, w224_128, w224_129, w224_130, w224_132, w224_133, w224_136, w224_137, w224_138, w224_139, w224_140, w224_141, w224_142, w224_145, w224_146, w224_147, w224_148, w224_151, w224_152, w224_155, w224_158, w224_159, w224_162, w224_163, w224_166, w224_167, w224_168, w224_169, w224_172, w224_173, w224_176, w224_177, Ko_n, Ko_v, vX_i, vX_r, vX_l, vX_j, reduceIte, upA_t, upA_s, hK, show ¬ K 5 ≤ (i : Int) by omega, hu, show ¬ u < 100 by omega, show ¬ u < 1000 by omega, upA_upA]
            exact this
      have := loop (K 5).toNat 0 (σ 1217 382) vmJ (by omega) trivial
      rw [upA_self] at this
      exact this
