/-! ===== HedgePark: plant, nights ===== -/
theorem c123 {d : Nat} {k z n N : Int} {T : Tt} {σ : St} {Q : vmO → vmH → Prop} (hN : σ 401 3 0 * σ 402 3 0 = N) (N0 : 0 ≤ N) (N1 : N ≤ 36) (hs : sty σ 2) (hkd : kdOk (σ 700 10)) (w0 : 0 ≤ σ 404 3 0) (w1 : σ 404 3 0 ≤ 5) (hat : ∀ w : Nat, (w : Int) < σ 404 3 0 → 0 ≤ σ 702 10 w ∧ σ 702 10 w < 36) (z0 : -2147483648 ≤ z) (z1 : z < 2147483648) (n0 : -2147483648 ≤ n) (n1 : n < 2147483648) : Ca (d + 9) k 123 [.ref 0, .int (i32 z), .int (i32 n)] (E T σ) Q = if 0 ≤ z ∧ z < N then (if 1 ≤ n ∧ n ≤ 3 then (if σ 700 10 z = 0 ∧ wa (σ 702 10) z (σ 404 3 0).toNat = 0 then Q (.inl (some (.int (i32 (cnt (hgB (fu (σ 700 10) z n)) 64))))) (E T (upA (upA (stR σ 2) 700 10 (fu (σ 700 10) z n)) 701 10 (fu (σ 701 10) z 1))) else Q (.inr 2) (E (thr T) σ)) else Q (.inr 1) (E (thr T) σ)) else Q (.inr 0) (E (thr T) σ) := by
  have h0 := ob_hp; have h2 := ob_st; have h3 := ob_p3; have hn := ob_n10
  rw [n123 _ _ _ _ _ _ _ _ h0]
  simp (disch := (first | assumption | omega | exact Nat.le_of_ble_eq_true rfl | rfl)) only [w123_0, w123_1, w123_2, w123_5, w123_6, w123_7, w123_10, w123_11, w123_12, w123_15, w123_16, w123_19, w123_20, w123_23, w123_24, w123_27, w123_30, w123_31, w123_34, w123_37, w123_40, w123_41, w123_44, w123_47, w123_48, w123_51, w123_54, w123_55, w123_58, w123_61, w123_62, w123_63, w123_64, w123_67, w123_68, w123_71, w123_74, w123_77, w123_80, Ko_n, Ko_v, vX_i, vX_r, vX_l, vX_j, reduceIte]
  rw [c163 hN N0 N1 z0 z1]
  by_cases hx : 0 ≤ z ∧ z < N
  · rw [if_pos hx, if_pos hx]
    obtain ⟨hx1, hx2⟩ := hx
    by_cases hy : 1 ≤ n ∧ n ≤ 3
    · rw [if_pos hy]
      simp (disch := (first | assumption | omega | exact Nat.le_of_ble_eq_true rfl | rfl)) only [w123_0, w123_1, w123_2, w123_5, w123_6, w123_7, w123_10, w123_11, w123_12, w123_15, w123_16, w123_19, w123_20, w123_23, w123_24, w123_27, w123_30, w123_31, w123_34, w123_37, w123_40, w123_41, w123_44, w123_47, w123_48, w123_51, w123_54, w123_55, w123_58, w123_61, w123_62, w123_63, w123_64, w123_67, w123_68, w123_71, w123_74, w123_77, w123_80, Ko_n, Ko_v, vX_i, vX_r, vX_l, vX_j, reduceIte, show ¬ n < 1 by omega, show ¬ 3 < n by omega]
      rw [c169 (by omega) (Or.inr rfl), if_neg (by omega)]
      simp (disch := (first | assumption | omega | exact Nat.le_of_ble_eq_true rfl | rfl)) only [w123_0, w123_1, w123_2, w123_5, w123_6, w123_7, w123_10, w123_11, w123_12, w123_15, w123_16, w123_19, w123_20, w123_23, w123_24, w123_27, w123_30, w123_31, w123_34, w123_37, w123_40, w123_41, w123_44, w123_47, w123_48, w123_51, w123_54, w123_55, w123_58, w123_61, w123_62, w123_63, w123_64, w123_67, w123_68, w123_71, w123_74, w123_77, w123_80, Ko_n, Ko_v, vX_i, vX_r, vX_l, vX_j, reduceIte, Nat.reduceAdd]
      rw [show i32 (σ 404 3 0) = i32 (((σ 404 3 0).toNat : Nat) : Int) by rw [show (((σ 404 3 0).toNat : Nat) : Int) = σ 404 3 0 by omega]]
      rw [c78 hn hkd (by omega) hx1 (by omega) (fun w hw => hat w (by omega))]
      by_cases hp : σ 700 10 z = 0 ∧ wa (σ 702 10) z (σ 404 3 0).toNat = 0
      · rw [if_pos hp, if_pos hp]
        simp (disch := (first | assumption | omega | exact Nat.le_of_ble_eq_true rfl | rfl)) only [w123_0, w123_1, w123_2, w123_5, w123_6, w123_7, w123_10, w123_11, w123_12, w123_15, w123_16, w123_19, w123_20, w123_23, w123_24, w123_27, w123_30, w123_31, w123_34, w123_37, w123_40, w123_41, w123_44, w123_47, w123_48, w123_51, w123_54, w123_55, w123_58, w123_61, w123_62, w123_63, w123_64, w123_67, w123_68, w123_71, w123_74, w123_77, w123_80, Ko_n, Ko_v, vX_i, vX_r, vX_l, vX_j, reduceIte]
        rw [c170 (by omega) (Or.inr rfl), if_neg (by omega)]
        simp (disch := (first | assumption | omega | exact Nat.le_of_ble_eq_true rfl | rfl)) only [w123_0, w123_1, w123_2, w123_5, w123_6, w123_7, w123_10, w123_11, w123_12, w123_15, w123_16, w123_19, w123_20, w123_23, w123_24, w123_27, w123_30, w123_31, w123_34, w123_37, w123_40, w123_41, w123_44, w123_47, w123_48, w123_51, w123_54, w123_55, w123_58, w123_61, w123_62, w123_63, w123_64, w123_67, w123_68, w123_71, w123_74, w123_77, w123_80, Ko_n, Ko_v, vX_i, vX_r, vX_l, vX_j, reduceIte, Nat.reduceAdd]
        rw [c84 h2 hs]
        simp (disch := (first | assumption | omega | exact Nat.le_of_ble_eq_true rfl | rfl)) only [w123_0, w123_1, w123_2, w123_5, w123_6, w123_7, w123_10, w123_11, w123_12, w123_15, w123_16, w123_19, w123_20, w123_23, w123_24, w123_27, w123_30, w123_31, w123_34, w123_37, w123_40, w123_41, w123_44, w123_47, w123_48, w123_51, w123_54, w123_55, w123_58, w123_61, w123_62, w123_63, w123_64, w123_67, w123_68, w123_71, w123_74, w123_77, w123_80, Ko_n, Ko_v, vX_i, vX_r, vX_l, vX_j, reduceIte, Nat.reduceAdd]
        have e0 : stR σ 2 700 10 = σ 700 10 := stR_o (by omega) (by omega) (by omega)
        have e1 : stR σ 2 701 10 = σ 701 10 := stR_o (by omega) (by omega) (by omega)
        rw [c79 (σ := stR σ 2) hn hx1 (by omega), e0, e1]
        simp (disch := (first | assumption | omega | exact Nat.le_of_ble_eq_true rfl | rfl)) only [w123_0, w123_1, w123_2, w123_5, w123_6, w123_7, w123_10, w123_11, w123_12, w123_15, w123_16, w123_19, w123_20, w123_23, w123_24, w123_27, w123_30, w123_31, w123_34, w123_37, w123_40, w123_41, w123_44, w123_47, w123_48, w123_51, w123_54, w123_55, w123_58, w123_61, w123_62, w123_63, w123_64, w123_67, w123_68, w123_71, w123_74, w123_77, w123_80, Ko_n, Ko_v, vX_i, vX_r, vX_l, vX_j, reduceIte, Nat.reduceAdd]
        have e2 : upA (upA (stR σ 2) 700 10 (fu (σ 700 10) z n)) 701 10 (fu (σ 701 10) z 1) 700 10 = fu (σ 700 10) z n := by rw [upA_t (by omega), upA_s]
        rw [c75 (σ := upA (upA (stR σ 2) 700 10 (fu (σ 700 10) z n)) 701 10 (fu (σ 701 10) z 1)) hn (by
          rw [e2]
          intro j j0 j1
          by_cases hj : j = z
          · rw [hj, fu_s]; omega
          · rw [fu_n hj]; exact hkd j j0 j1), e2]
        simp (disch := (first | assumption | omega | exact Nat.le_of_ble_eq_true rfl | rfl)) only [w123_0, w123_1, w123_2, w123_5, w123_6, w123_7, w123_10, w123_11, w123_12, w123_15, w123_16, w123_19, w123_20, w123_23, w123_24, w123_27, w123_30, w123_31, w123_34, w123_37, w123_40, w123_41, w123_44, w123_47, w123_48, w123_51, w123_54, w123_55, w123_58, w123_61, w123_62, w123_63, w123_64, w123_67, w123_68, w123_71, w123_74, w123_77, w123_80, Ko_n, Ko_v, vX_i, vX_r, vX_l, vX_j, reduceIte, c307]
      · rw [if_neg hp, if_neg hp]
        simp (disch := (first | assumption | omega | exact Nat.le_of_ble_eq_true rfl | rfl)) only [w123_0, w123_1, w123_2, w123_5, w123_6, w123_7, w123_10, w123_11, w123_12, w123_15, w123_16, w123_19, w123_20, w123_23, w123_24, w123_27, w123_30, w123_31, w123_34, w123_37, w123_40, w123_41, w123_44, w123_47, w123_48, w123_51, w123_54, w123_55, w123_58, w123_61, w123_62, w123_63, w123_64, w123_67, w123_68, w123_71, w123_74, w123_77, w123_80, Ko_n, Ko_v, vX_i, vX_r, vX_l, vX_j, reduceIte]
        rw [c170 (by omega) (Or.inl rfl), if_pos rfl, Ko_x rfl]
    · rw [if_neg hy]
      by_cases a : n < 1
      · simp (disch := (first | assumption | omega | exact Nat.le_of_ble_eq_true rfl | rfl)) only [w123_0, w123_1, w123_2, w123_5, w123_6, w123_7, w123_10, w123_11, w123_12, w123_15, w123_16, w123_19, w123_20, w123_23, w123_24, w123_27, w123_30, w123_31, w123_34, w123_37, w123_40, w123_41, w123_44, w123_47, w123_48, w123_51, w123_54, w123_55, w123_58, w123_61, w123_62, w123_63, w123_64, w123_67, w123_68, w123_71, w123_74, w123_77, w123_80, Ko_n, Ko_v, vX_i, vX_r, vX_l, vX_j, reduceIte, a]
        rw [c169 (by omega) (Or.inl rfl), if_pos rfl, Ko_x rfl]
      · simp (disch := (first | assumption | omega | exact Nat.le_of_ble_eq_true rfl | rfl)) only [w123_0, w123_1, w123_2, w123_5, w123_6, w123_7, w123_10, w123_11, w123_12, w123_15, w123_16, w123_19, w123_20, w123_23, w123_24, w123_27, w123_30, w123_31, w123_34, w123_37, w123_40, w123_41, w123_44, w123_47, w123_48, w123_51, w123_54, w123_55, w123_58, w123_61, w123_62, w123_63, w123_64, w123_67, w123_68, w123_71, w123_74, w123_77, w123_80, Ko_n, Ko_v, vX_i, vX_r, vX_l, vX_j, reduceIte, a, show 3 < n by omega]
        rw [c169 (by omega) (Or.inl rfl), if_pos rfl, Ko_x rfl]
  · rw [if_neg hx, if_neg hx, Ko_x rfl]
theorem c124 {d many N : Nat} {k n W H : Int} {T : Tt} {σ : St} {Q : vmO → vmH → Prop} (hge : geo σ 3 W H) (h : whOk W H) (hN : (N : Int) = W * H) (hs : sty σ 2) (hS : scK σ 10) (hm : σ 301 7 0 = many) (hm1 : many ≤ 900) (hlaw : lawG (σ 300 7) many) (n0 : -2147483648 ≤ n) (n1 : n < 2147483648)
    (hQ1 : ¬ (1 ≤ n ∧ n ≤ 99) → Q (.inr 1) (E (thr T) σ))
    (hQ2 : 1 ≤ n → n ≤ 99 → ∀ F S, Q (.inl (some (.int (i32 (ngC W H (σ 700 10) (σ 300 7) many N (σ 701 10) (σ 705 10 0) n.toNat))))) (E T (nsS (stR σ 2) 141 10 F S (ngT W H (σ 700 10) (σ 300 7) many N (σ 701 10) (σ 705 10 0) n.toNat) (σ 705 10 0 + n) 0))) : Ca (d + 9) k 124 [.ref 0, .int (i32 n)] (E T σ) Q := by
  have h0 := ob_hp; have h2 := ob_st; have h3 := ob_p3; have hn := ob_n10; have hgr := ob_gr
  obtain ⟨hkd, htk, t0, t1⟩ := hS
  rw [n124 _ _ _ _ _ _ _ h0]
  by_cases hy : 1 ≤ n ∧ n ≤ 99
  · obtain ⟨y0, y1⟩ := hy
    simp (disch := (first | assumption | omega | exact Nat.le_of_ble_eq_true rfl | rfl)) only [w124_0, w124_1, w124_2, w124_5, w124_6, w124_8, w124_11, w124_12, w124_15, w124_16, w124_19, w124_20, w124_23, w124_26, w124_27, w124_30, w124_31, w124_34, w124_37, w124_38, w124_41, w124_44, w124_45, w124_48, Ko_n, Ko_v, vX_i, vX_r, vX_l, vX_j, reduceIte, show ¬ n < 1 by omega, show ¬ 99 < n by omega]
    rw [c169 (by omega) (Or.inr rfl), if_neg (by omega)]
    simp (disch := (first | assumption | omega | exact Nat.le_of_ble_eq_true rfl | rfl)) only [w124_0, w124_1, w124_2, w124_5, w124_6, w124_8, w124_11, w124_12, w124_15, w124_16, w124_19, w124_20, w124_23, w124_26, w124_27, w124_30, w124_31, w124_34, w124_37, w124_38, w124_41, w124_44, w124_45, w124_48, Ko_n, Ko_v, vX_i, vX_r, vX_l, vX_j, reduceIte, Nat.reduceAdd]
    rw [c84 h2 hs]
    simp (disch := (first | assumption | omega | exact Nat.le_of_ble_eq_true rfl | rfl)) only [w124_0, w124_1, w124_2, w124_5, w124_6, w124_8, w124_11, w124_12, w124_15, w124_16, w124_19, w124_20, w124_23, w124_26, w124_27, w124_30, w124_31, w124_34, w124_37, w124_38, w124_41, w124_44, w124_45, w124_48, Ko_n, Ko_v, vX_i, vX_r, vX_l, vX_j, reduceIte, Nat.reduceAdd]
    have eo : ∀ t, t ≠ 803 → t ≠ 804 → stR σ 2 t 10 = σ t 10 := fun t a b => stR_o (by omega) a b
    have e3 : ∀ t o, (t < 700 ∨ 706 < t) → t ≠ 803 → t ≠ 804 → stR σ 2 t o = σ t o := fun t o a b c => stR_t a b c
    rw [show i32 n = i32 ((n.toNat : Nat) : Int) by rw [show ((n.toNat : Nat) : Int) = n by omega]]
    refine c18n (σ := stR σ 2) (many := many) (N := N) hgr h3 hn (geo_t hge (e3 _ _ (by omega) (by omega) (by omega)) (e3 _ _ (by omega) (by omega) (by omega)) (e3 _ _ (by omega) (by omega) (by omega)) (e3 _ _ (by omega) (by omega) (by omega)) (e3 _ _ (by omega) (by omega) (by omega)) (e3 _ _ (by omega) (by omega) (by omega))) h hN (by rw [eo 700 (by omega) (by omega)]; exact hkd) (by rw [eo 701 (by omega) (by omega)]; exact htk) (by rw [eo 705 (by omega) (by omega)]; exact t0) (by rw [eo 705 (by omega) (by omega)]; exact t1) (by rw [e3 301 _ (by omega) (by omega) (by omega)]; exact hm) hm1 (by rw [e3 300 _ (by omega) (by omega) (by omega)]; exact hlaw) (by omega) ?_
    intro F S
    rw [eo 700 (by omega) (by omega), eo 701 (by omega) (by omega), eo 705 (by omega) (by omega), e3 300 _ (by omega) (by omega) (by omega), if_neg (by omega), show ((n.toNat : Nat) : Int) = n by omega]
    simp (disch := (first | assumption | omega | exact Nat.le_of_ble_eq_true rfl | rfl)) only [w124_0, w124_1, w124_2, w124_5, w124_6, w124_8, w124_11, w124_12, w124_15, w124_16, w124_19, w124_20, w124_23, w124_26, w124_27, w124_30, w124_31, w124_34, w124_37, w124_38, w124_41, w124_44, w124_45, w124_48, Ko_n, Ko_v, vX_i, vX_r, vX_l, vX_j, reduceIte]
    exact hQ2 y0 y1 F S
  · have hq := hQ1 hy
    by_cases a : n < 1
    · simp (disch := (first | assumption | omega | exact Nat.le_of_ble_eq_true rfl | rfl)) only [w124_0, w124_1, w124_2, w124_5, w124_6, w124_8, w124_11, w124_12, w124_15, w124_16, w124_19, w124_20, w124_23, w124_26, w124_27, w124_30, w124_31, w124_34, w124_37, w124_38, w124_41, w124_44, w124_45, w124_48, Ko_n, Ko_v, vX_i, vX_r, vX_l, vX_j, reduceIte, a]
      rw [c169 (by omega) (Or.inl rfl), if_pos rfl, Ko_x rfl]
      exact hq
    · simp (disch := (first | assumption | omega | exact Nat.le_of_ble_eq_true rfl | rfl)) only [w124_0, w124_1, w124_2, w124_5, w124_6, w124_8, w124_11, w124_12, w124_15, w124_16, w124_19, w124_20, w124_23, w124_26, w124_27, w124_30, w124_31, w124_34, w124_37, w124_38, w124_41, w124_44, w124_45, w124_48, Ko_n, Ko_v, vX_i, vX_r, vX_l, vX_j, reduceIte, a, show 99 < n by omega]
      rw [c169 (by omega) (Or.inl rfl), if_pos rfl, Ko_x rfl]
      exact hq
