/-! ===== the reference: deeds ===== -/
theorem fuK_i {K : Int → Int} {σ : St} (h : σ 1200 382 = K) : upA σ 1200 382 K = σ := by rw [← h, upA_self]
/-- what is kept: rows move down -/
def shK1 (K : Int → Int) (n : Int) : Int → Int := fun j => if 138 ≤ j ∧ j < n then K (j + 85) else K j
theorem shK1_s {K : Int → Int} {n : Int} (n0 : 138 ≤ n) : fu (shK1 K n) n (shK1 K n (n + 85)) = shK1 K (n + 1) := by
  funext j
  have e0 : shK1 K n (n + 85) = K (n + 85) := by unfold shK1; rw [if_neg (by omega)]
  rw [e0]
  by_cases e : j = n
  · rw [e, fu_s]; unfold shK1; rw [if_pos (by omega)]
  · rw [fu_n e]
    unfold shK1
    by_cases h : 138 ≤ j ∧ j < n
    · rw [if_pos h, if_pos (by omega)]
    · rw [if_neg h, if_neg (by omega)]
/-- a row is copied -/
def cpK1 (K : Int → Int) (a b n : Int) : Int → Int := fun j => if a ≤ j ∧ j < a + n then K (j - a + b) else K j
theorem cpK1_0 {K : Int → Int} {a b : Int} : cpK1 K a b 0 = K := by
  funext j
  unfold cpK1
  rw [if_neg (by omega)]
theorem cpK1_s {K : Int → Int} {a b n : Int} (n0 : 0 ≤ n) (hd : b + n < a ∨ a + n ≤ b) : fu (cpK1 K a b n) (a + n) (cpK1 K a b n (b + n)) = cpK1 K a b (n + 1) := by
  funext j
  have e0 : cpK1 K a b n (b + n) = K (b + n) := by unfold cpK1; rw [if_neg (by omega)]
  rw [e0]
  by_cases e : j = a + n
  · rw [e, fu_s]; unfold cpK1; rw [if_pos (by omega), show a + n - a + b = b + n by omega]
  · rw [fu_n e]
    unfold cpK1
    by_cases h : a ≤ j ∧ j < a + n
    · rw [if_pos h, if_pos (by omega)]
    · rw [if_neg h, if_neg (by omega)]
theorem L238 {d : Nat} {K : Int → Int} {T : Tt} {σ : St} {Q : vmO → vmH → Prop} {l1 : Value} (h0 : 0 ≤ K 6) (h1 : K 6 ≤ 9) : Wp d M_X12_keeps 55 [.ref 382, l1] [] (E T (upA σ 1200 382 K)) Q = Q (.inl none) (E T (upA σ 1200 382 (fu (cpK1 K (138 + 85 * K 6) 7 85) 6 (K 6 + 1)))) := by
  have hm := ob_md
  have loop : ∀ (m n : Nat), n + m = 85 → Wp d M_X12_keeps 57 [.ref 382, .int (i32 n)] [] (E T (upA σ 1200 382 (cpK1 K (138 + 85 * K 6) 7 n))) Q = Q (.inl none) (E T (upA σ 1200 382 (fu (cpK1 K (138 + 85 * K 6) 7 85) 6 (K 6 + 1)))) := by
    intro m
    induction m with
    | zero =>
      intro n hn
      have hn : n = 85 := by omega
      subst hn
      have e6 : cpK1 K (138 + 85 * K 6) 7 85 6 = K 6 := by unfold cpK1; rw [if_neg (by omega)]
      rw [w238_57]
      simp (disch := (first | assumption | omega | exact Nat.le_of_ble_eq_true rfl | rfl)) only [w238_0, w238_1, w238_4, w238_6, w238_7, w238_9, w238_12, w238_15, w238_17, w238_20, w238_23, w238_24, w238_27, w238_28, w238_29, w238_32, w238_33, w238_35, w238_36, w238_37, w238_38, w238_41, w238_44, w238_45, w238_48, w238_50, w238_51, w238_52, w238_53, w238_54, w238_55, w238_56, w238_58, w238_60, w238_63, w238_64, w238_67, w238_70, w238_72, w238_73, w238_76, w238_78, w238_79, w238_80, w238_81, w238_82, w238_83, w238_84, w238_87, w238_89, w238_90, w238_91, w238_92, w238_93, w238_96, w238_99, w238_100, w238_103, w238_105, w238_106, w238_107, w238_108, w238_109, w238_110, Ko_n, Ko_v, vX_i, vX_r, vX_l, vX_j, reduceIte, show ((85 : Nat) : Int) = 85 from rfl, Int.le_refl, upA_s, upA_upA, e6]
    | succ m ih =>
      intro n hn
      have ih' := ih (n + 1) (by omega)
      have e6 : cpK1 K (138 + 85 * K 6) 7 n 6 = K 6 := by unfold cpK1; rw [if_neg (by omega)]
      rw [show ((n + 1 : Nat) : Int) = (n : Int) + 1 by omega, ← cpK1_s (by omega) (by omega)] at ih'
      rw [w238_57]
      simp (disch := (first | assumption | omega | exact Nat.le_of_ble_eq_true rfl | rfl)) only [w238_0, w238_1, w238_4, w238_6, w238_7, w238_9, w238_12, w238_15, w238_17, w238_20, w238_23, w238_24, w238_27, w238_28, w238_29, w238_32, w238_33, w238_35, w238_36, w238_37, w238_38, w238_41, w238_44, w238_45, w238_48, w238_50, w238_51, w238_52, w238_53, w238_54, w238_55, w238_56, w238_58, w238_60, w238_63, w238_64, w238_67, w238_70, w238_72, w238_73, w238_76, w238_78, w238_79, w238_80, w238_81, w238_82, w238_83, w238_84, w238_87, w238_89, w238_90, w238_91, w238_92, w238_93, w238_96, w238_99, w238_100, w238_103, w238_105, w238_106, w238_107, w238_108, w238_109, w238_110, Ko_n, Ko_v, vX_i, vX_r, vX_l, vX_j, reduceIte, show ¬ (85 : Int) ≤ (n : Int) by omega, upA_s, upA_upA, e6]
      exact ih'
  have l := loop 85 0 (by omega)
  rw [show ((0 : Nat) : Int) = 0 from rfl, cpK1_0] at l
  simp (disch := (first | assumption | omega | exact Nat.le_of_ble_eq_true rfl | rfl)) only [w238_0, w238_1, w238_4, w238_6, w238_7, w238_9, w238_12, w238_15, w238_17, w238_20, w238_23, w238_24, w238_27, w238_28, w238_29, w238_32, w238_33, w238_35, w238_36, w238_37, w238_38, w238_41, w238_44, w238_45, w238_48, w238_50, w238_51, w238_52, w238_53, w238_54, w238_55, w238_56, w238_58, w238_60, w238_63, w238_64, w238_67, w238_70, w238_72, w238_73, w238_76, w238_78, w238_79, w238_80, w238_81, w238_82, w238_83, w238_84, w238_87, w238_89, w238_90, w238_91, w238_92, w238_93, w238_96, w238_99, w238_100, w238_103, w238_105, w238_106, w238_107, w238_108, w238_109, w238_110, Ko_n, Ko_v, vX_i, vX_r, vX_l, vX_j, reduceIte]
  exact l
theorem c238 {d : Nat} {k B : Int} {K : Int → Int} {T : Tt} {σ : St} {Q : vmO → vmH → Prop} (hK : σ 1200 382 = K) (hv : kV K B) : Ca d k 238 [.ref 382] (E T σ) Q = Q (.inl none) (E T (upA σ 1200 382 (kpK K))) := by
  have hm := ob_md
  have h6 := hv.1.2.2.2.2.1
  rw [n238 _ _ _ _ _ _ hm]
  by_cases e : K 6 = 10
  · have loop : ∀ (m n : Nat), n + m = 765 → Wp d M_X12_keeps 16 [.ref 382, .int (i32 (138 + n))] [] (E T (upA σ 1200 382 (shK1 K (138 + n)))) Q = Wp d M_X12_keeps 44 [.ref 382, .int (i32 903)] [] (E T (upA σ 1200 382 (shK1 K 903))) Q := by
      intro m
      induction m with
      | zero =>
        intro n hn
        have hn : n = 765 := by omega
        subst hn
        rw [show (138 : Int) + ((765 : Nat) : Int) = 903 from rfl, w238_16]
        simp (disch := (first | assumption | omega | exact Nat.le_of_ble_eq_true rfl | rfl)) only [w238_17, w238_20, w238_23, w238_24, w238_27, w238_28, w238_29, w238_32, w238_33, w238_35, w238_36, w238_37, w238_38, w238_41, Ko_n, Ko_v, vX_i, vX_r, vX_l, vX_j, reduceIte, Int.le_refl]
      | succ m ih =>
        intro n hn
        have ih' := ih (n + 1) (by omega)
        rw [show (138 : Int) + ((n + 1 : Nat) : Int) = 138 + (n : Int) + 1 by omega, ← shK1_s (by omega)] at ih'
        rw [w238_16]
        simp (disch := (first | assumption | omega | exact Nat.le_of_ble_eq_true rfl | rfl)) only [w238_17, w238_20, w238_23, w238_24, w238_27, w238_28, w238_29, w238_32, w238_33, w238_35, w238_36, w238_37, w238_38, w238_41, Ko_n, Ko_v, vX_i, vX_r, vX_l, vX_j, reduceIte, show ¬ (903 : Int) ≤ 138 + (n : Int) by omega, upA_s, upA_upA]
        exact ih'
    have l := loop 765 0 (by omega)
    have e0 : shK1 K (138 + ((0 : Nat) : Int)) = K := by
      funext j
      unfold shK1
      rw [if_neg (by omega)]
    rw [e0, fuK_i hK, show (138 : Int) + ((0 : Nat) : Int) = 138 from rfl] at l
    simp (disch := (first | assumption | omega | exact Nat.le_of_ble_eq_true rfl | rfl)) only [w238_0, w238_1, w238_4, w238_6, w238_7, w238_9, w238_12, w238_15, Ko_n, Ko_v, vX_i, vX_r, vX_l, vX_j, reduceIte, hK, e, not_true]
    rw [l]
    have e6 : shK1 K 903 6 = 10 := by unfold shK1; rw [if_neg (by omega)]; exact e
    simp (disch := (first | assumption | omega | exact Nat.le_of_ble_eq_true rfl | rfl)) only [w238_44, w238_45, w238_48, w238_50, w238_51, w238_52, w238_53, w238_54, Ko_n, Ko_v, vX_i, vX_r, vX_l, vX_j, reduceIte, upA_s, upA_upA, e6, Int.reduceSub]
    rw [L238 (by rw [fu_s]; omega) (by rw [fu_s]; omega)]
    congr 3
    funext j
    unfold kpK
    rw [if_pos e]
    simp only [fu_s]
    rw [show (138 : Int) + 85 * 9 = 903 from rfl]
    by_cases j6 : j = 6
    · rw [j6, fu_s, if_neg (by omega), if_neg (by omega), e]; rfl
    · rw [fu_n j6]
      unfold cpK1
      by_cases j9 : 903 ≤ j ∧ j < 903 + 85
      · rw [if_pos j9, if_neg (by omega), if_pos (by omega), fu_n (by omega)]
        unfold shK1
        rw [if_neg (by omega)]
      · rw [if_neg j9, fu_n j6]
        unfold shK1
        by_cases j1 : 138 ≤ j ∧ j < 903
        · rw [if_pos j1, if_pos j1]
        · rw [if_neg j1, if_neg j1, if_neg (by omega)]
  · have l := L238 (d := d) (T := T) (σ := σ) (Q := Q) (l1 := vmJ) (K := K) (by omega) (by omega)
    rw [fuK_i hK] at l
    simp (disch := (first | assumption | omega | exact Nat.le_of_ble_eq_true rfl | rfl)) only [w238_0, w238_1, w238_4, w238_6, w238_7, w238_9, w238_12, w238_15, Ko_n, Ko_v, vX_i, vX_r, vX_l, vX_j, reduceIte, hK, e, not_false_eq_true]
    rw [l]
    congr 3
    funext j
    unfold kpK
    rw [if_neg e]
    by_cases j6 : j = 6
    · rw [j6, fu_s, if_neg (by omega), if_pos rfl]
    · rw [fu_n j6]
      unfold cpK1
      by_cases j9 : 138 + 85 * K 6 ≤ j ∧ j < 138 + 85 * K 6 + 85
      · rw [if_pos j9, if_pos j9]
      · rw [if_neg j9, if_neg j9, if_neg j6]
theorem c241 {d : Nat} {k w z c : Int} {K : Int → Int} {T : Tt} {σ : St} {Q : vmO → vmH → Prop} (hK : σ 1200 382 = K) (w0 : 0 ≤ w) (w1 : w < 5) : Ca d k 241 [.ref 382, .int (i32 w), .int (i32 z), .int (i32 c)] (E T σ) Q = Q (.inl none) (E T (upA σ 1200 382 (goK K w z c))) := by
  have h0 := ob_md
  rw [n241 _ _ _ _ _ _ _ _ _ h0]
  simp (disch := (first | assumption | omega | exact Nat.le_of_ble_eq_true rfl | rfl)) only [w241_0, w241_1, w241_4, w241_6, w241_7, w241_8, w241_9, w241_10, w241_11, w241_14, w241_16, w241_17, w241_18, w241_19, w241_20, w241_21, w241_22, w241_23, w241_24, w241_27, w241_29, w241_30, w241_31, w241_32, w241_33, w241_34, Ko_n, Ko_v, vX_i, vX_r, vX_l, vX_j, reduceIte, hK, upA_s, upA_upA, fu_n (show (84 : Int) + w ≠ 79 + w by omega), fu_n (show (89 : Int) ≠ 84 + w by omega), fu_n (show (89 : Int) ≠ 79 + w by omega)]
  rfl
theorem c242 {d : Nat} {k z n B : Int} {K : Int → Int} {T : Tt} {σ : St} {Q : vmO → vmH → Prop} (hK : σ 1200 382 = K) (hv : scV K 7 B) (z0 : 0 ≤ z) (z1 : z < 36) (n0 : 0 ≤ n) (n1 : n ≤ 60) : Ca (d + 1) k 242 [.ref 382, .int (i32 z), .int (i32 n)] (E T σ) Q = Q (.inl (some (.int (i32 (K (43 + z) - min n (K (43 + z))))))) (E T (upA σ 1200 382 (clK K z (min n (K (43 + z)))))) := by
  have h0 := ob_md
  have hc := (kV_c hv z0 z1).2
  rw [n242 _ _ _ _ _ _ _ _ h0]
  simp (disch := (first | assumption | omega | exact Nat.le_of_ble_eq_true rfl | rfl)) only [w242_0, w242_1, w242_2, w242_3, w242_6, w242_9, w242_10, w242_11, w242_14, w242_16, w242_17, w242_18, w242_19, w242_20, w242_21, w242_22, w242_23, w242_24, w242_27, w242_29, w242_30, w242_31, w242_32, w242_33, w242_34, w242_35, w242_36, w242_39, w242_42, w242_43, w242_46, w242_48, w242_49, w242_50, w242_51, w242_52, w242_53, w242_54, w242_57, Ko_n, Ko_v, vX_i, vX_r, vX_l, vX_j, reduceIte]
  rw [c212 hK z0 z1]
  simp (disch := (first | assumption | omega | exact Nat.le_of_ble_eq_true rfl | rfl)) only [w242_0, w242_1, w242_2, w242_3, w242_6, w242_9, w242_10, w242_11, w242_14, w242_16, w242_17, w242_18, w242_19, w242_20, w242_21, w242_22, w242_23, w242_24, w242_27, w242_29, w242_30, w242_31, w242_32, w242_33, w242_34, w242_35, w242_36, w242_39, w242_42, w242_43, w242_46, w242_48, w242_49, w242_50, w242_51, w242_52, w242_53, w242_54, w242_57, Ko_n, Ko_v, vX_i, vX_r, vX_l, vX_j, reduceIte, hK, upA_s, upA_upA]
  generalize hm : min n (K (43 + z)) = m at *
  have hK2 : (upA σ 1200 382 (fu (fu K (43 + z) (K (43 + z) - m)) 91 (fu K (43 + z) (K (43 + z) - m) 91 + m))) 1200 382 = fu (fu K (43 + z) (K (43 + z) - m)) 91 (fu K (43 + z) (K (43 + z) - m) 91 + m) := upA_s
  have e1 : fu (fu K (43 + z) (K (43 + z) - m)) 91 (fu K (43 + z) (K (43 + z) - m) 91 + m) (43 + z) = K (43 + z) - m := by rw [fu_n (by omega), fu_s]
  have e91 : fu K (43 + z) (K (43 + z) - m) 91 = K 91 := fu_n (by omega)
  rw [c212 hK2 z0 z1, e1]
  by_cases e : K (43 + z) - m = 0
  · simp (disch := (first | assumption | omega | exact Nat.le_of_ble_eq_true rfl | rfl)) only [w242_0, w242_1, w242_2, w242_3, w242_6, w242_9, w242_10, w242_11, w242_14, w242_16, w242_17, w242_18, w242_19, w242_20, w242_21, w242_22, w242_23, w242_24, w242_27, w242_29, w242_30, w242_31, w242_32, w242_33, w242_34, w242_35, w242_36, w242_39, w242_42, w242_43, w242_46, w242_48, w242_49, w242_50, w242_51, w242_52, w242_53, w242_54, w242_57, Ko_n, Ko_v, vX_i, vX_r, vX_l, vX_j, reduceIte, e, not_true, upA_s, upA_upA]
    have hK3 : (upA σ 1200 382 (fu (fu (fu K (43 + z) 0) 91 (fu K (43 + z) 0 91 + m)) (7 + z) 0)) 1200 382 = fu (fu (fu K (43 + z) 0) 91 (fu K (43 + z) 0 91 + m)) (7 + z) 0 := upA_s
    rw [c212 hK3 z0 z1]
    have e2 : fu (fu (fu K (43 + z) 0) 91 (fu K (43 + z) 0 91 + m)) (7 + z) 0 (43 + z) = 0 := by rw [fu_n (by omega), fu_n (by omega), fu_s]
    rw [e2]
    simp (disch := (first | assumption | omega | exact Nat.le_of_ble_eq_true rfl | rfl)) only [w242_0, w242_1, w242_2, w242_3, w242_6, w242_9, w242_10, w242_11, w242_14, w242_16, w242_17, w242_18, w242_19, w242_20, w242_21, w242_22, w242_23, w242_24, w242_27, w242_29, w242_30, w242_31, w242_32, w242_33, w242_34, w242_35, w242_36, w242_39, w242_42, w242_43, w242_46, w242_48, w242_49, w242_50, w242_51, w242_52, w242_53, w242_54, w242_57, Ko_n, Ko_v, vX_i, vX_r, vX_l, vX_j, reduceIte]
    congr 3
    funext j
    unfold clK
    by_cases j1 : j = 43 + z
    · rw [j1, if_pos rfl, e, fu_n (by omega), fu_n (by omega), fu_s]
    · rw [if_neg j1]
      by_cases j2 : j = 91
      · rw [j2, if_pos rfl, fu_n (by omega), fu_s, fu_n (by omega)]
      · rw [if_neg j2]
        by_cases j3 : j = 7 + z
        · rw [j3, fu_s, if_pos ⟨rfl, e⟩]
        · rw [if_neg (fun w => j3 w.1), fu_n j3, fu_n j2, fu_n j1]
  · simp (disch := (first | assumption | omega | exact Nat.le_of_ble_eq_true rfl | rfl)) only [w242_0, w242_1, w242_2, w242_3, w242_6, w242_9, w242_10, w242_11, w242_14, w242_16, w242_17, w242_18, w242_19, w242_20, w242_21, w242_22, w242_23, w242_24, w242_27, w242_29, w242_30, w242_31, w242_32, w242_33, w242_34, w242_35, w242_36, w242_39, w242_42, w242_43, w242_46, w242_48, w242_49, w242_50, w242_51, w242_52, w242_53, w242_54, w242_57, Ko_n, Ko_v, vX_i, vX_r, vX_l, vX_j, reduceIte, e, not_false_eq_true]
    rw [c212 hK2 z0 z1, e1]
    simp (disch := (first | assumption | omega | exact Nat.le_of_ble_eq_true rfl | rfl)) only [w242_0, w242_1, w242_2, w242_3, w242_6, w242_9, w242_10, w242_11, w242_14, w242_16, w242_17, w242_18, w242_19, w242_20, w242_21, w242_22, w242_23, w242_24, w242_27, w242_29, w242_30, w242_31, w242_32, w242_33, w242_34, w242_35, w242_36, w242_39, w242_42, w242_43, w242_46, w242_48, w242_49, w242_50, w242_51, w242_52, w242_53, w242_54, w242_57, Ko_n, Ko_v, vX_i, vX_r, vX_l, vX_j, reduceIte]
    congr 3
    funext j
    unfold clK
    by_cases j1 : j = 43 + z
    · rw [j1, if_pos rfl, fu_n (by omega), fu_s]
    · rw [if_neg j1]
      by_cases j2 : j = 91
      · rw [j2, if_pos rfl, fu_s, e91]
      · rw [if_neg j2, if_neg (fun w => e w.2), fu_n j2, fu_n j1]
theorem c243 {d : Nat} {k z kd : Int} {K : Int → Int} {T : Tt} {σ : St} {Q : vmO → vmH → Prop} (hK : σ 1200 382 = K) (z0 : 0 ≤ z) (z1 : z < 36) : Ca d k 243 [.ref 382, .int (i32 z), .int (i32 kd)] (E T σ) Q = Q (.inl none) (E T (upA σ 1200 382 (ptK2 K z kd))) := by
  have h0 := ob_md
  rw [n243 _ _ _ _ _ _ _ _ h0]
  simp (disch := (first | assumption | omega | exact Nat.le_of_ble_eq_true rfl | rfl)) only [w243_0, w243_1, w243_4, w243_6, w243_7, w243_8, w243_9, w243_10, w243_11, w243_14, w243_16, w243_17, w243_18, w243_19, w243_20, Ko_n, Ko_v, vX_i, vX_r, vX_l, vX_j, reduceIte, hK, upA_s, upA_upA]
  rfl
