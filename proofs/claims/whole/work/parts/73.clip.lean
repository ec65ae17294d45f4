/-! ===== HedgePark: clip, plant, nights ===== -/
theorem stR_o {σ : St} {t o : Nat} (h : o < 16) (h3 : t ≠ 803) (h4 : t ≠ 804) : stR σ 2 t o = σ t o := by
  unfold stR
  rw [upA_t h4, upA_t h3, scB_o]
  unfold pst
  omega
theorem stR_t {σ : St} {t o : Nat} (h : t < 700 ∨ 706 < t) (h3 : t ≠ 803) (h4 : t ≠ 804) : stR σ 2 t o = σ t o := by
  unfold stR
  rw [upA_t h4, upA_t h3, scB_t h]
theorem c122 {d : Nat} {k z n N : Int} {T : Tt} {σ : St} {Q : vmO → vmH → Prop} (hN : σ 401 3 0 * σ 402 3 0 = N) (N0 : 0 ≤ N) (N1 : N ≤ 36) (hs : sty σ 2) (hkd : kdOk (σ 700 10)) (htk : tkOk (σ 701 10)) (z0 : -2147483648 ≤ z) (z1 : z < 2147483648) (n0 : -2147483648 ≤ n) (n1 : n < 2147483648) : Ca (d + 9) k 122 [.ref 0, .int (i32 z), .int (i32 n)] (E T σ) Q = if 0 ≤ z ∧ z < N then (if hgB (σ 700 10) z then (if 1 ≤ n ∧ n ≤ 60 then Q (.inl (some (.int (i32 (σ 701 10 z - min n (σ 701 10 z)))))) (E T (shr (stR σ 2) 10 z (min n (σ 701 10 z)))) else Q (.inr 1) (E (thr T) σ)) else Q (.inr 2) (E (thr T) σ)) else Q (.inr 0) (E (thr T) σ) := by
  have h0 := ob_hp; have h2 := ob_st; have hn := ob_n10
  rw [n122 _ _ _ _ _ _ _ _ h0]
  simp (disch := (first | assumption | omega | exact Nat.le_of_ble_eq_true rfl | rfl)) only [w122_0, w122_1, w122_2, w122_5, w122_6, w122_9, w122_12, w122_13, w122_16, w122_19, w122_20, w122_21, w122_24, w122_25, w122_27, w122_30, w122_31, w122_34, w122_35, w122_38, w122_39, w122_42, w122_45, w122_46, w122_49, w122_52, w122_53, w122_54, w122_57, w122_58, w122_61, w122_64, w122_67, w122_68, w122_69, Ko_n, Ko_v, vX_i, vX_r, vX_l, vX_j, reduceIte]
  rw [c163 hN N0 N1 z0 z1]
  by_cases hx : 0 ≤ z ∧ z < N
  · rw [if_pos hx, if_pos hx]
    obtain ⟨hx1, hx2⟩ := hx
    have htz := htk z hx1 (by omega)
    simp (disch := (first | assumption | omega | exact Nat.le_of_ble_eq_true rfl | rfl)) only [w122_0, w122_1, w122_2, w122_5, w122_6, w122_9, w122_12, w122_13, w122_16, w122_19, w122_20, w122_21, w122_24, w122_25, w122_27, w122_30, w122_31, w122_34, w122_35, w122_38, w122_39, w122_42, w122_45, w122_46, w122_49, w122_52, w122_53, w122_54, w122_57, w122_58, w122_61, w122_64, w122_67, w122_68, w122_69, Ko_n, Ko_v, vX_i, vX_r, vX_l, vX_j, reduceIte, Nat.reduceAdd]
    rw [c74 hn hkd hx1 (by omega)]
    cases hh : hgB (σ 700 10) z with
    | false =>
      simp (disch := (first | assumption | omega | exact Nat.le_of_ble_eq_true rfl | rfl)) only [w122_0, w122_1, w122_2, w122_5, w122_6, w122_9, w122_12, w122_13, w122_16, w122_19, w122_20, w122_21, w122_24, w122_25, w122_27, w122_30, w122_31, w122_34, w122_35, w122_38, w122_39, w122_42, w122_45, w122_46, w122_49, w122_52, w122_53, w122_54, w122_57, w122_58, w122_61, w122_64, w122_67, w122_68, w122_69, Ko_n, Ko_v, vX_i, vX_r, vX_l, vX_j, reduceIte, Bool.false_eq_true]
      rw [c170 (by omega) (Or.inl rfl), if_pos rfl, Ko_x rfl]
    | true =>
      simp only [if_true]
      by_cases hy : 1 ≤ n ∧ n ≤ 60
      · rw [if_pos hy]
        simp (disch := (first | assumption | omega | exact Nat.le_of_ble_eq_true rfl | rfl)) only [w122_0, w122_1, w122_2, w122_5, w122_6, w122_9, w122_12, w122_13, w122_16, w122_19, w122_20, w122_21, w122_24, w122_25, w122_27, w122_30, w122_31, w122_34, w122_35, w122_38, w122_39, w122_42, w122_45, w122_46, w122_49, w122_52, w122_53, w122_54, w122_57, w122_58, w122_61, w122_64, w122_67, w122_68, w122_69, Ko_n, Ko_v, vX_i, vX_r, vX_l, vX_j, reduceIte]
        rw [c170 (by omega) (Or.inr rfl), if_neg (by omega)]
        simp (disch := (first | assumption | omega | exact Nat.le_of_ble_eq_true rfl | rfl)) only [w122_0, w122_1, w122_2, w122_5, w122_6, w122_9, w122_12, w122_13, w122_16, w122_19, w122_20, w122_21, w122_24, w122_25, w122_27, w122_30, w122_31, w122_34, w122_35, w122_38, w122_39, w122_42, w122_45, w122_46, w122_49, w122_52, w122_53, w122_54, w122_57, w122_58, w122_61, w122_64, w122_67, w122_68, w122_69, Ko_n, Ko_v, vX_i, vX_r, vX_l, vX_j, reduceIte, show ¬ n < 1 by omega, show ¬ 60 < n by omega]
        rw [c169 (by omega) (Or.inr rfl), if_neg (by omega)]
        simp (disch := (first | assumption | omega | exact Nat.le_of_ble_eq_true rfl | rfl)) only [w122_0, w122_1, w122_2, w122_5, w122_6, w122_9, w122_12, w122_13, w122_16, w122_19, w122_20, w122_21, w122_24, w122_25, w122_27, w122_30, w122_31, w122_34, w122_35, w122_38, w122_39, w122_42, w122_45, w122_46, w122_49, w122_52, w122_53, w122_54, w122_57, w122_58, w122_61, w122_64, w122_67, w122_68, w122_69, Ko_n, Ko_v, vX_i, vX_r, vX_l, vX_j, reduceIte, Nat.reduceAdd]
        rw [c84 h2 hs]
        simp (disch := (first | assumption | omega | exact Nat.le_of_ble_eq_true rfl | rfl)) only [w122_0, w122_1, w122_2, w122_5, w122_6, w122_9, w122_12, w122_13, w122_16, w122_19, w122_20, w122_21, w122_24, w122_25, w122_27, w122_30, w122_31, w122_34, w122_35, w122_38, w122_39, w122_42, w122_45, w122_46, w122_49, w122_52, w122_53, w122_54, w122_57, w122_58, w122_61, w122_64, w122_67, w122_68, w122_69, Ko_n, Ko_v, vX_i, vX_r, vX_l, vX_j, reduceIte, Nat.reduceAdd]
        have e1 : stR σ 2 701 10 = σ 701 10 := stR_o (by omega) (by omega) (by omega)
        rw [c80 (σ := stR σ 2) hn (by rw [e1]; exact htk) hx1 (by omega) hy.1 hy.2, e1]
        have e2 : shr (stR σ 2) 10 z (min n (σ 701 10 z)) 701 10 z = σ 701 10 z - min n (σ 701 10 z) := by
          unfold shr
          rw [upA_t (by omega), upA_s, fu_s, e1]
        simp (disch := (first | assumption | omega | exact Nat.le_of_ble_eq_true rfl | rfl)) only [w122_0, w122_1, w122_2, w122_5, w122_6, w122_9, w122_12, w122_13, w122_16, w122_19, w122_20, w122_21, w122_24, w122_25, w122_27, w122_30, w122_31, w122_34, w122_35, w122_38, w122_39, w122_42, w122_45, w122_46, w122_49, w122_52, w122_53, w122_54, w122_57, w122_58, w122_61, w122_64, w122_67, w122_68, w122_69, Ko_n, Ko_v, vX_i, vX_r, vX_l, vX_j, reduceIte, Nat.reduceAdd, e2]
      · rw [if_neg hy]
        simp (disch := (first | assumption | omega | exact Nat.le_of_ble_eq_true rfl | rfl)) only [w122_0, w122_1, w122_2, w122_5, w122_6, w122_9, w122_12, w122_13, w122_16, w122_19, w122_20, w122_21, w122_24, w122_25, w122_27, w122_30, w122_31, w122_34, w122_35, w122_38, w122_39, w122_42, w122_45, w122_46, w122_49, w122_52, w122_53, w122_54, w122_57, w122_58, w122_61, w122_64, w122_67, w122_68, w122_69, Ko_n, Ko_v, vX_i, vX_r, vX_l, vX_j, reduceIte]
        rw [c170 (by omega) (Or.inr rfl), if_neg (by omega)]
        by_cases a : n < 1
        · simp (disch := (first | assumption | omega | exact Nat.le_of_ble_eq_true rfl | rfl)) only [w122_0, w122_1, w122_2, w122_5, w122_6, w122_9, w122_12, w122_13, w122_16, w122_19, w122_20, w122_21, w122_24, w122_25, w122_27, w122_30, w122_31, w122_34, w122_35, w122_38, w122_39, w122_42, w122_45, w122_46, w122_49, w122_52, w122_53, w122_54, w122_57, w122_58, w122_61, w122_64, w122_67, w122_68, w122_69, Ko_n, Ko_v, vX_i, vX_r, vX_l, vX_j, reduceIte, a]
          rw [c169 (by omega) (Or.inl rfl), if_pos rfl, Ko_x rfl]
        · simp (disch := (first | assumption | omega | exact Nat.le_of_ble_eq_true rfl | rfl)) only [w122_0, w122_1, w122_2, w122_5, w122_6, w122_9, w122_12, w122_13, w122_16, w122_19, w122_20, w122_21, w122_24, w122_25, w122_27, w122_30, w122_31, w122_34, w122_35, w122_38, w122_39, w122_42, w122_45, w122_46, w122_49, w122_52, w122_53, w122_54, w122_57, w122_58, w122_61, w122_64, w122_67, w122_68, w122_69, Ko_n, Ko_v, vX_i, vX_r, vX_l, vX_j, reduceIte, a, show 60 < n by omega]
          rw [c169 (by omega) (Or.inl rfl), if_pos rfl, Ko_x rfl]
  · rw [if_neg hx, if_neg hx, Ko_x rfl]
