/-! ===== the reference: nights, undo, told deeds in a row ===== -/
theorem kV_ng {K : Int → Int} {B : Int} (hv : kV K B) (n : Nat) : kV (ngI K n) (B + n) := kV_act hv (by omega) (ngI_st n) (ngI_V hv.1 hv.2.1 n)
theorem lw_ng {K : Int → Int} (n : Nat) (hl : lwV K) (hr : rwK K) : lwV (ngI K n) ∧ rwK (ngI K n) := ⟨lwV_cg (fun j hj => ngI_o n (by omega)) hl, rw_cg (fun j hj => ngI_o n (by omega)) hr⟩
theorem lw_st {K K' : Int → Int} (h : stK K K') (hl : lwV K) (hr : rwK K) : lwV K' ∧ rwK K' := ⟨lwV_cg (fun j hj => h j (by omega)) hl, rw_cg (fun j hj => h j (by omega)) hr⟩
theorem lw_lo {K K' : Int → Int} (h : loK K K') (hl : lwV K) (hr : rwK K) : lwV K' ∧ rwK K' := ⟨lwV_cg (fun j hj => h j (by omega)) hl, rw_cg (fun j hj => h j (by omega)) hr⟩
theorem lw_kp {K : Int → Int} {B : Int} (hv : kV K B) (hl : lwV K) (hr : rwK K) : lwV (kpK K) ∧ rwK (kpK K) := lw_lo (kpK_lo hv.1.2.2.2.2.1.1 hv.1.2.2.2.2.1.2) hl hr
theorem c249 {d : Nat} {k n B : Int} {K : Int → Int} {T : Tt} {σ : St} {Q : vmO → vmH → Prop} (hK : σ 1200 382 = K) (hv : kV K B) (hB : B < 800000000) (hl : lwV K) (hr : rwK K) (x0 : -2147483648 ≤ n) (x1 : n < 2147483648)
    (hQ1 : ¬ (1 ≤ n ∧ n ≤ 99) → ∀ τ, fT σ τ → τ 1200 382 = K → τ 1204 382 0 = 1 → Q (.inl (some (.int (i32 0)))) (E T τ))
    (hQ2 : 1 ≤ n → n ≤ 99 → ∀ τ, fT σ τ → τ 1200 382 = ngI (kpK K) n.toNat → τ 1204 382 0 = 0 → Q (.inl (some (.int (i32 (ngS (kpK K) n.toNat))))) (E T τ)) : Ca (d + 6) k 249 [.ref 382, .int (i32 n)] (E T σ) Q := by
  have h0 := ob_md
  rw [n249 _ _ _ _ _ _ _ h0]
  simp (disch := (first | assumption | omega | exact Nat.le_of_ble_eq_true rfl | rfl)) only [w249_0, w249_1, w249_2, w249_5, w249_6, w249_7, w249_8, w249_11, w249_14, w249_17, w249_18, w249_19, w249_22, w249_23, w249_24, w249_27, w249_28, w249_29, w249_30, w249_32, w249_33, w249_36, w249_37, w249_38, w249_41, w249_42, w249_43, w249_46, w249_49, w249_50, Ko_n, Ko_v, vX_i, vX_r, vX_l, vX_j, reduceIte]
  rw [c176 (by omega) (by omega) (by omega) (by omega) (by omega) (by omega) (by omega)]
  have hk1 : (upA σ 1204 382 fun _ => 0) 1200 382 = K := by rw [upA_t (by omega)]; exact hK
  by_cases a : 1 ≤ n ∧ n ≤ 99
  · rw [if_pos a]
    have vk := kpK_V hv
    have lk := lw_kp hv hl hr
    simp (disch := (first | assumption | omega | exact Nat.le_of_ble_eq_true rfl | rfl)) only [w249_0, w249_1, w249_2, w249_5, w249_6, w249_7, w249_8, w249_11, w249_14, w249_17, w249_18, w249_19, w249_22, w249_23, w249_24, w249_27, w249_28, w249_29, w249_30, w249_32, w249_33, w249_36, w249_37, w249_38, w249_41, w249_42, w249_43, w249_46, w249_49, w249_50, Ko_n, Ko_v, vX_i, vX_r, vX_l, vX_j, reduceIte, Int.reduceEq, not_false_eq_true]
    rw [c238 hk1 hv]
    have loop : ∀ (m i : Nat) (τ : St), (i : Int) + m = n → fT σ τ → τ 1200 382 = ngI (kpK K) i → τ 1204 382 0 = 0 → Wp (d + 6) M_X12_nights 31 [.ref 382, .int (i32 n), .int (i32 (ngS (kpK K) i)), .int (i32 i)] [] (E T τ) Q := by
      intro m
      induction m with
      | zero =>
        intro i τ hi h1 h2 h3
        have hi' : (i : Int) = n := by omega
        have q := hQ2 a.1 a.2 τ h1 (by rw [show n.toNat = i by omega]; exact h2) h3
        rw [show n.toNat = i by omega] at q
        rw [w249_31]
        simp (disch := (first | assumption | omega | exact Nat.le_of_ble_eq_true rfl | rfl)) only [w249_0, w249_1, w249_2, w249_5, w249_6, w249_7, w249_8, w249_11, w249_14, w249_17, w249_18, w249_19, w249_22, w249_23, w249_24, w249_27, w249_28, w249_29, w249_30, w249_32, w249_33, w249_36, w249_37, w249_38, w249_41, w249_42, w249_43, w249_46, w249_49, w249_50, Ko_n, Ko_v, vX_i, vX_r, vX_l, vX_j, reduceIte, hi', Int.le_refl]
        exact q
      | succ m ih =>
        intro i τ hi h1 h2 h3
        rw [w249_31]
        simp (disch := (first | assumption | omega | exact Nat.le_of_ble_eq_true rfl | rfl)) only [w249_0, w249_1, w249_2, w249_5, w249_6, w249_7, w249_8, w249_11, w249_14, w249_17, w249_18, w249_19, w249_22, w249_23, w249_24, w249_27, w249_28, w249_29, w249_30, w249_32, w249_33, w249_36, w249_37, w249_38, w249_41, w249_42, w249_43, w249_46, w249_49, w249_50, Ko_n, Ko_v, vX_i, vX_r, vX_l, vX_j, reduceIte, show ¬ n ≤ (i : Int) by omega]
        have ln := lw_ng i lk.1 lk.2
        refine c225 h2 (kV_ng vk i) (by omega) ln.1 ln.2 fun S G => ?_
        simp (disch := (first | assumption | omega | exact Nat.le_of_ble_eq_true rfl | rfl)) only [w249_0, w249_1, w249_2, w249_5, w249_6, w249_7, w249_8, w249_11, w249_14, w249_17, w249_18, w249_19, w249_22, w249_23, w249_24, w249_27, w249_28, w249_29, w249_30, w249_32, w249_33, w249_36, w249_37, w249_38, w249_41, w249_42, w249_43, w249_46, w249_49, w249_50, Ko_n, Ko_v, vX_i, vX_r, vX_l, vX_j, reduceIte]
        exact ih (i + 1) _ (by omega) (fT_u (fT_u (fT_u h1 (by omega)) (by omega)) (by omega)) upA_s (by rw [upA_t (by omega), upA_t (by omega), upA_t (by omega)]; exact h3)
    simp (disch := (first | assumption | omega | exact Nat.le_of_ble_eq_true rfl | rfl)) only [w249_0, w249_1, w249_2, w249_5, w249_6, w249_7, w249_8, w249_11, w249_14, w249_17, w249_18, w249_19, w249_22, w249_23, w249_24, w249_27, w249_28, w249_29, w249_30, w249_32, w249_33, w249_36, w249_37, w249_38, w249_41, w249_42, w249_43, w249_46, w249_49, w249_50, Ko_n, Ko_v, vX_i, vX_r, vX_l, vX_j, reduceIte]
    exact loop n.toNat 0 _ (by omega) (fT_u (fT_u fT_r (by omega)) (by omega)) upA_s (by rw [upA_t (by omega), upA_s])
  · rw [if_neg a]
    simp (disch := (first | assumption | omega | exact Nat.le_of_ble_eq_true rfl | rfl)) only [w249_0, w249_1, w249_2, w249_5, w249_6, w249_7, w249_8, w249_11, w249_14, w249_17, w249_18, w249_19, w249_22, w249_23, w249_24, w249_27, w249_28, w249_29, w249_30, w249_32, w249_33, w249_36, w249_37, w249_38, w249_41, w249_42, w249_43, w249_46, w249_49, w249_50, Ko_n, Ko_v, vX_i, vX_r, vX_l, vX_j, reduceIte, not_true]
    rw [c175]
    simp (disch := (first | assumption | omega | exact Nat.le_of_ble_eq_true rfl | rfl)) only [w249_0, w249_1, w249_2, w249_5, w249_6, w249_7, w249_8, w249_11, w249_14, w249_17, w249_18, w249_19, w249_22, w249_23, w249_24, w249_27, w249_28, w249_29, w249_30, w249_32, w249_33, w249_36, w249_37, w249_38, w249_41, w249_42, w249_43, w249_46, w249_49, w249_50, Ko_n, Ko_v, vX_i, vX_r, vX_l, vX_j, reduceIte, upA_upA]
    exact hQ1 a _ (fT_u fT_r (by omega)) (by rw [upA_t (by omega)]; exact hK) (by rw [upA_s])
theorem c250 {d : Nat} {k n B : Int} {K : Int → Int} {T : Tt} {σ : St} {Q : vmO → vmH → Prop} (hK : σ 1200 382 = K) (hv : kV K B) (x0 : -2147483648 ≤ n) (x1 : n < 2147483648)
    (hQ1 : ¬ (1 ≤ n ∧ n ≤ K 6) → ∀ τ, fT σ τ → τ 1200 382 = K → τ 1204 382 0 = 1 → Q (.inl (some (.int (i32 0)))) (E T τ))
    (hQ2 : 1 ≤ n → n ≤ K 6 → ∀ τ, fT σ τ → τ 1200 382 = unK K n → τ 1204 382 0 = 0 → Q (.inl (some (.int (i32 (K 6 - n))))) (E T τ)) : Ca (d + 1) k 250 [.ref 382, .int (i32 n)] (E T σ) Q := by
  have h0 := ob_md
  have h6 := hv.1.2.2.2.2.1
  rw [n250 _ _ _ _ _ _ _ h0]
  simp (disch := (first | assumption | omega | exact Nat.le_of_ble_eq_true rfl | rfl)) only [w250_0, w250_1, w250_2, w250_5, w250_6, w250_7, w250_8, w250_11, w250_14, w250_17, w250_18, w250_19, w250_22, w250_24, w250_25, w250_28, w250_29, w250_30, w250_33, w250_34, w250_35, w250_38, w250_40, w250_41, w250_42, w250_43, w250_44, w250_45, w250_46, w250_48, w250_50, w250_53, w250_54, w250_57, w250_59, w250_60, w250_61, w250_62, w250_65, w250_68, w250_70, w250_71, w250_74, w250_76, w250_77, w250_78, w250_79, w250_80, w250_81, w250_82, w250_83, w250_86, w250_89, w250_90, w250_93, w250_95, w250_96, Ko_n, Ko_v, vX_i, vX_r, vX_l, vX_j, reduceIte]
  rw [c176 (by omega) (by omega) (by omega) (by omega) (by omega) (by omega) (by omega)]
  have hk1 : (upA σ 1204 382 fun _ => 0) 1200 382 = K := by rw [upA_t (by omega)]; exact hK
  have bad : ¬ (1 ≤ n ∧ n ≤ K 6) → Wp (d + 1) M_X12_undo 28 [.ref 382, .int (i32 n), vmJ] [] (E T (upA σ 1204 382 fun _ => 0)) Q := by
    intro hb
    simp (disch := (first | assumption | omega | exact Nat.le_of_ble_eq_true rfl | rfl)) only [w250_0, w250_1, w250_2, w250_5, w250_6, w250_7, w250_8, w250_11, w250_14, w250_17, w250_18, w250_19, w250_22, w250_24, w250_25, w250_28, w250_29, w250_30, w250_33, w250_34, w250_35, w250_38, w250_40, w250_41, w250_42, w250_43, w250_44, w250_45, w250_46, w250_48, w250_50, w250_53, w250_54, w250_57, w250_59, w250_60, w250_61, w250_62, w250_65, w250_68, w250_70, w250_71, w250_74, w250_76, w250_77, w250_78, w250_79, w250_80, w250_81, w250_82, w250_83, w250_86, w250_89, w250_90, w250_93, w250_95, w250_96, Ko_n, Ko_v, vX_i, vX_r, vX_l, vX_j, reduceIte]
    rw [c175]
    simp (disch := (first | assumption | omega | exact Nat.le_of_ble_eq_true rfl | rfl)) only [w250_0, w250_1, w250_2, w250_5, w250_6, w250_7, w250_8, w250_11, w250_14, w250_17, w250_18, w250_19, w250_22, w250_24, w250_25, w250_28, w250_29, w250_30, w250_33, w250_34, w250_35, w250_38, w250_40, w250_41, w250_42, w250_43, w250_44, w250_45, w250_46, w250_48, w250_50, w250_53, w250_54, w250_57, w250_59, w250_60, w250_61, w250_62, w250_65, w250_68, w250_70, w250_71, w250_74, w250_76, w250_77, w250_78, w250_79, w250_80, w250_81, w250_82, w250_83, w250_86, w250_89, w250_90, w250_93, w250_95, w250_96, Ko_n, Ko_v, vX_i, vX_r, vX_l, vX_j, reduceIte, upA_upA]
    exact hQ1 hb _ (fT_u fT_r (by omega)) (by rw [upA_t (by omega)]; exact hK) (by rw [upA_s])
  by_cases a : 1 ≤ n ∧ n ≤ 10
  · rw [if_pos a]
    by_cases b : n ≤ K 6
    · have loop : ∀ (m i : Nat), i + m = 85 → Wp (d + 1) M_X12_undo 47 [.ref 382, .int (i32 n), .int (i32 i)] [] (E T (upA (upA σ 1204 382 fun _ => 0) 1200 382 (cpK1 (fu K 6 (K 6 - n)) 7 (138 + 85 * (K 6 - n)) i))) Q := by
        intro m
        induction m with
        | zero =>
          intro i hi
          have hi : i = 85 := by omega
          subst hi
          have eK : cpK1 (fu K 6 (K 6 - n)) 7 (138 + 85 * (K 6 - n)) ((85 : Nat) : Int) = unK K n := by
            funext j
            unfold cpK1 unK
            by_cases j6 : j = 6
            · rw [j6, if_neg (by omega), if_pos rfl, fu_s]
            · rw [if_neg j6]
              by_cases j7 : 7 ≤ j ∧ j < 92
              · rw [if_pos (by omega), if_pos j7, fu_n (by omega)]
                congr 1; omega
              · rw [if_neg (by omega), if_neg j7, fu_n j6]
          have e6 : unK K n 6 = K 6 - n := by unfold unK; rw [if_pos rfl]
          have q := hQ2 a.1 b (upA (upA σ 1204 382 fun _ => 0) 1200 382 (unK K n)) (fT_u (fT_u fT_r (by omega)) (by omega)) upA_s (by rw [upA_t (by omega), upA_s])
          rw [w250_47, eK]
          simp (disch := (first | assumption | omega | exact Nat.le_of_ble_eq_true rfl | rfl)) only [w250_0, w250_1, w250_2, w250_5, w250_6, w250_7, w250_8, w250_11, w250_14, w250_17, w250_18, w250_19, w250_22, w250_24, w250_25, w250_28, w250_29, w250_30, w250_33, w250_34, w250_35, w250_38, w250_40, w250_41, w250_42, w250_43, w250_44, w250_45, w250_46, w250_48, w250_50, w250_53, w250_54, w250_57, w250_59, w250_60, w250_61, w250_62, w250_65, w250_68, w250_70, w250_71, w250_74, w250_76, w250_77, w250_78, w250_79, w250_80, w250_81, w250_82, w250_83, w250_86, w250_89, w250_90, w250_93, w250_95, w250_96, Ko_n, Ko_v, vX_i, vX_r, vX_l, vX_j, reduceIte, show (85 : Int) ≤ ((85 : Nat) : Int) by omega, upA_s, e6]
          exact q
        | succ m ih =>
          intro i hi
          have ih' := ih (i + 1) (by omega)
          have e6 : cpK1 (fu K 6 (K 6 - n)) 7 (138 + 85 * (K 6 - n)) i 6 = K 6 - n := by unfold cpK1; rw [if_neg (by omega), fu_s]
          rw [show ((i + 1 : Nat) : Int) = (i : Int) + 1 by omega, ← cpK1_s (by omega) (by omega)] at ih'
          rw [w250_47]
          simp (disch := (first | assumption | omega | exact Nat.le_of_ble_eq_true rfl | rfl)) only [w250_0, w250_1, w250_2, w250_5, w250_6, w250_7, w250_8, w250_11, w250_14, w250_17, w250_18, w250_19, w250_22, w250_24, w250_25, w250_28, w250_29, w250_30, w250_33, w250_34, w250_35, w250_38, w250_40, w250_41, w250_42, w250_43, w250_44, w250_45, w250_46, w250_48, w250_50, w250_53, w250_54, w250_57, w250_59, w250_60, w250_61, w250_62, w250_65, w250_68, w250_70, w250_71, w250_74, w250_76, w250_77, w250_78, w250_79, w250_80, w250_81, w250_82, w250_83, w250_86, w250_89, w250_90, w250_93, w250_95, w250_96, Ko_n, Ko_v, vX_i, vX_r, vX_l, vX_j, reduceIte, show ¬ (85 : Int) ≤ (i : Int) by omega, upA_s, upA_upA, e6]
          exact ih'
      have l := loop 85 0 (by omega)
      rw [show ((0 : Nat) : Int) = 0 from rfl, cpK1_0] at l
      simp (disch := (first | assumption | omega | exact Nat.le_of_ble_eq_true rfl | rfl)) only [w250_0, w250_1, w250_2, w250_5, w250_6, w250_7, w250_8, w250_11, w250_14, w250_17, w250_18, w250_19, w250_22, w250_24, w250_25, w250_28, w250_29, w250_30, w250_33, w250_34, w250_35, w250_38, w250_40, w250_41, w250_42, w250_43, w250_44, w250_45, w250_46, w250_48, w250_50, w250_53, w250_54, w250_57, w250_59, w250_60, w250_61, w250_62, w250_65, w250_68, w250_70, w250_71, w250_74, w250_76, w250_77, w250_78, w250_79, w250_80, w250_81, w250_82, w250_83, w250_86, w250_89, w250_90, w250_93, w250_95, w250_96, Ko_n, Ko_v, vX_i, vX_r, vX_l, vX_j, reduceIte, Int.reduceEq, hk1, b, upA_t, hK]
      exact l
    · simp (disch := (first | assumption | omega | exact Nat.le_of_ble_eq_true rfl | rfl)) only [w250_14, w250_17, w250_18, w250_19, w250_22, w250_24, w250_25, w250_28, w250_29, w250_30, w250_33, Ko_n, Ko_v, vX_i, vX_r, vX_l, vX_j, reduceIte, Int.reduceEq, hk1, b]
      have q := bad (fun w => b w.2)
      simp (disch := (first | assumption | omega | exact Nat.le_of_ble_eq_true rfl | rfl)) only [w250_14, w250_17, w250_18, w250_19, w250_22, w250_24, w250_25, w250_28, w250_29, w250_30, w250_33, Ko_n, Ko_v, vX_i, vX_r, vX_l, vX_j, reduceIte] at q
      exact q
  · rw [if_neg a]
    have q := bad (fun w => a ⟨w.1, by omega⟩)
    simp (disch := (first | assumption | omega | exact Nat.le_of_ble_eq_true rfl | rfl)) only [w250_0, w250_1, w250_2, w250_5, w250_6, w250_7, w250_8, w250_11, w250_14, w250_17, w250_18, w250_19, w250_22, w250_24, w250_25, w250_28, w250_29, w250_30, w250_33, w250_34, w250_35, w250_38, w250_40, w250_41, w250_42, w250_43, w250_44, w250_45, w250_46, w250_48, w250_50, w250_53, w250_54, w250_57, w250_59, w250_60, w250_61, w250_62, w250_65, w250_68, w250_70, w250_71, w250_74, w250_76, w250_77, w250_78, w250_79, w250_80, w250_81, w250_82, w250_83, w250_86, w250_89, w250_90, w250_93, w250_95, w250_96, Ko_n, Ko_v, vX_i, vX_r, vX_l, vX_j, reduceIte]
    simp (disch := (first | assumption | omega | exact Nat.le_of_ble_eq_true rfl | rfl)) only [w250_0, w250_1, w250_2, w250_5, w250_6, w250_7, w250_8, w250_11, w250_14, w250_17, w250_18, w250_19, w250_22, w250_24, w250_25, w250_28, w250_29, w250_30, w250_33, w250_34, w250_35, w250_38, w250_40, w250_41, w250_42, w250_43, w250_44, w250_45, w250_46, w250_48, w250_50, w250_53, w250_54, w250_57, w250_59, w250_60, w250_61, w250_62, w250_65, w250_68, w250_70, w250_71, w250_74, w250_76, w250_77, w250_78, w250_79, w250_80, w250_81, w250_82, w250_83, w250_86, w250_89, w250_90, w250_93, w250_95, w250_96, Ko_n, Ko_v, vX_i, vX_r, vX_l, vX_j, reduceIte] at q
    exact q
theorem c239 {d : Nat} {k : Int} {K : Int → Int} {T : Tt} {σ : St} {Q : vmO → vmH → Prop} (hK : σ 1200 382 = K) (hQ : ∀ A, (∀ j, 0 ≤ j → j < 85 → A j = K (7 + j)) → Q (.inl none) (E T (upA σ 1222 382 A))) : Ca d k 239 [.ref 382] (E T σ) Q := by
  have h0 := ob_md
  rw [n239 _ _ _ _ _ _ h0]
  have loop : ∀ (m i : Nat) (A : Int → Int), i + m = 85 → (∀ j : Int, 0 ≤ j → j < i → A j = K (7 + j)) → Wp d M_X12_putsAside 2 [.ref 382, .int (i32 i)] [] (E T (upA σ 1222 382 A)) Q := by
    intro m
    induction m with
    | zero =>
      intro i A hi hA
      have hi : i = 85 := by omega
      subst hi
      rw [w239_2]
      simp (disch := (first | assumption | omega | exact Nat.le_of_ble_eq_true rfl | rfl)) only [w239_0, w239_1, w239_3, w239_5, w239_8, w239_9, w239_12, w239_13, w239_14, w239_17, w239_19, w239_20, w239_21, w239_22, w239_23, w239_26, w239_29, Ko_n, Ko_v, vX_i, vX_r, vX_l, vX_j, reduceIte, show (85 : Int) ≤ ((85 : Nat) : Int) by omega]
      exact hQ A (fun j j0 j1 => hA j j0 (by omega))
    | succ m ih =>
      intro i A hi hA
      have ih' := ih (i + 1) (fu A i (K (7 + i))) (by omega) (fun j j0 j1 => by
        by_cases e : j = i
        · rw [e, fu_s]
        · rw [fu_n e]; exact hA j j0 (by omega))
      rw [w239_2]
      simp (disch := (first | assumption | omega | exact Nat.le_of_ble_eq_true rfl | rfl)) only [w239_0, w239_1, w239_3, w239_5, w239_8, w239_9, w239_12, w239_13, w239_14, w239_17, w239_19, w239_20, w239_21, w239_22, w239_23, w239_26, w239_29, Ko_n, Ko_v, vX_i, vX_r, vX_l, vX_j, reduceIte, show ¬ (85 : Int) ≤ (i : Int) by omega, upA_t, upA_s, hK, upA_upA]
      exact ih'
  have l := loop 85 0 (σ 1222 382) (by omega) (fun j j0 j1 => by omega)
  rw [upA_self] at l
  simp (disch := (first | assumption | omega | exact Nat.le_of_ble_eq_true rfl | rfl)) only [w239_0, w239_1, w239_3, w239_5, w239_8, w239_9, w239_12, w239_13, w239_14, w239_17, w239_19, w239_20, w239_21, w239_22, w239_23, w239_26, w239_29, Ko_n, Ko_v, vX_i, vX_r, vX_l, vX_j, reduceIte]
  exact l
/-- the state is put back -/
def bkK (K A : Int → Int) (n : Int) : Int → Int := fun j => if 7 ≤ j ∧ j < 7 + n then A (j - 7) else K j
theorem bkK_s {K A : Int → Int} {n : Int} (n0 : 0 ≤ n) : fu (bkK K A n) (7 + n) (A n) = bkK K A (n + 1) := by
  funext j
  by_cases e : j = 7 + n
  · rw [e, fu_s]; unfold bkK; rw [if_pos (by omega), show 7 + n - 7 = n by omega]
  · rw [fu_n e]
    unfold bkK
    by_cases h : 7 ≤ j ∧ j < 7 + n
    · rw [if_pos h, if_pos (by omega)]
    · rw [if_neg h, if_neg (by omega)]
theorem c240 {d : Nat} {k : Int} {K K' : Int → Int} {T : Tt} {σ : St} {Q : vmO → vmH → Prop} (hK : σ 1200 382 = K') (hA : ∀ j, 0 ≤ j → j < 85 → σ 1222 382 j = K (7 + j)) (hs : stK K K') : Ca d k 240 [.ref 382] (E T σ) Q = Q (.inl none) (E T (upA σ 1200 382 K)) := by
  have h0 := ob_md
  rw [n240 _ _ _ _ _ _ h0]
  have loop : ∀ (m i : Nat), i + m = 85 → Wp d M_X12_putsBack 2 [.ref 382, .int (i32 i)] [] (E T (upA σ 1200 382 (bkK K' (σ 1222 382) i))) Q = Q (.inl none) (E T (upA σ 1200 382 K)) := by
    intro m
    induction m with
    | zero =>
      intro i hi
      have hi : i = 85 := by omega
      subst hi
      have eK : bkK K' (σ 1222 382) ((85 : Nat) : Int) = K := by
        funext j
        unfold bkK
        by_cases h : 7 ≤ j ∧ j < 92
        · rw [if_pos (by omega), hA (j - 7) (by omega) (by omega), show 7 + (j - 7) = j by omega]
        · rw [if_neg (by omega), hs j (by omega)]
      rw [w240_2, eK]
      simp (disch := (first | assumption | omega | exact Nat.le_of_ble_eq_true rfl | rfl)) only [w240_0, w240_1, w240_3, w240_5, w240_8, w240_9, w240_12, w240_14, w240_15, w240_16, w240_17, w240_20, w240_21, w240_22, w240_23, w240_26, w240_29, Ko_n, Ko_v, vX_i, vX_r, vX_l, vX_j, reduceIte, show (85 : Int) ≤ ((85 : Nat) : Int) by omega]
    | succ m ih =>
      intro i hi
      have ih' := ih (i + 1) (by omega)
      rw [show ((i + 1 : Nat) : Int) = (i : Int) + 1 by omega, ← bkK_s (by omega)] at ih'
      rw [w240_2]
      simp (disch := (first | assumption | omega | exact Nat.le_of_ble_eq_true rfl | rfl)) only [w240_0, w240_1, w240_3, w240_5, w240_8, w240_9, w240_12, w240_14, w240_15, w240_16, w240_17, w240_20, w240_21, w240_22, w240_23, w240_26, w240_29, Ko_n, Ko_v, vX_i, vX_r, vX_l, vX_j, reduceIte, show ¬ (85 : Int) ≤ (i : Int) by omega, upA_t, upA_s, upA_upA]
      exact ih'
  have l := loop 85 0 (by omega)
  have e0 : bkK K' (σ 1222 382) ((0 : Nat) : Int) = K' := by
    funext j
    unfold bkK
    rw [if_neg (by omega)]
  rw [e0, fuK_i hK] at l
  simp (disch := (first | assumption | omega | exact Nat.le_of_ble_eq_true rfl | rfl)) only [w240_0, w240_1, w240_3, w240_5, w240_8, w240_9, w240_12, w240_14, w240_15, w240_16, w240_17, w240_20, w240_21, w240_22, w240_23, w240_26, w240_29, Ko_n, Ko_v, vX_i, vX_r, vX_l, vX_j, reduceIte]
  exact l
theorem c298 {d : Nat} {k t : Int} {h : vmH} {Q : vmO → vmH → Prop} (hk : 4 ≤ k) (x0 : -2147483648 ≤ t) (x1 : t < 2147483648) : Ca (d + 1) k 298 [.int (i32 t)] h Q = Q (.inl (some (.int (i32 (if 0 ≤ t ∧ t < 4 then 1 else 0))))) h := by
  rw [n298 _ _ _ _ _ hk]
  simp (disch := (first | assumption | omega | exact Nat.le_of_ble_eq_true rfl | rfl)) only [w298_0, w298_1, w298_2, w298_3, w298_6, w298_9, Ko_n, Ko_v, vX_i, vX_r, vX_l, vX_j, reduceIte]
  rw [c176 (by omega) (by omega) (by omega) (by omega) (by omega) (by omega) (by omega)]
  by_cases a : 0 ≤ t ∧ t < 4
  · rw [if_pos (by omega), if_pos a]
    simp (disch := (first | assumption | omega | exact Nat.le_of_ble_eq_true rfl | rfl)) only [w298_0, w298_1, w298_2, w298_3, w298_6, w298_9, Ko_n, Ko_v, vX_i, vX_r, vX_l, vX_j, reduceIte]
  · rw [if_neg (by omega), if_neg a]
    simp (disch := (first | assumption | omega | exact Nat.le_of_ble_eq_true rfl | rfl)) only [w298_0, w298_1, w298_2, w298_3, w298_6, w298_9, Ko_n, Ko_v, vX_i, vX_r, vX_l, vX_j, reduceIte]
/-- what a tray's number makes of a call -/
def tfR (σ : St) (t : Int) : Int := if 0 ≤ t ∧ t < 4 then (if σ 1237 382 t = -1 then 2 else 0) else 1
theorem c251 {d : Nat} {k t : Int} {T : Tt} {σ : St} {Q : vmO → vmH → Prop} (hs : ∀ j, 0 ≤ j → j < 4 → -1 ≤ σ 1237 382 j ∧ σ 1237 382 j ≤ 3) (x0 : -2147483648 ≤ t) (x1 : t < 2147483648) : Ca (d + 2) k 251 [.ref 382, .int (i32 t)] (E T σ) Q = Q (.inl (some (.int (i32 (tfR σ t))))) (E T σ) := by
  have h0 := ob_md
  rw [n251 _ _ _ _ _ _ _ h0]
  unfold tfR
  simp (disch := (first | assumption | omega | exact Nat.le_of_ble_eq_true rfl | rfl)) only [w251_0, w251_1, w251_4, w251_7, w251_8, w251_11, w251_12, w251_15, w251_16, w251_17, w251_18, w251_21, w251_22, w251_25, w251_26, Ko_n, Ko_v, vX_i, vX_r, vX_l, vX_j, reduceIte]
  rw [c298 (by omega) x0 x1]
  by_cases a : 0 ≤ t ∧ t < 4
  · have ht := hs t a.1 a.2
    rw [if_pos a, if_pos a]
    obtain ⟨a1, a2⟩ := a
    by_cases b : σ 1237 382 t = -1
    · rw [if_pos b]
      simp (disch := (first | assumption | omega | exact Nat.le_of_ble_eq_true rfl | rfl)) only [w251_0, w251_1, w251_4, w251_7, w251_8, w251_11, w251_12, w251_15, w251_16, w251_17, w251_18, w251_21, w251_22, w251_25, w251_26, Ko_n, Ko_v, vX_i, vX_r, vX_l, vX_j, reduceIte, Int.reduceEq, not_false_eq_true, b, not_true]
    · rw [if_neg b]
      simp (disch := (first | assumption | omega | exact Nat.le_of_ble_eq_true rfl | rfl)) only [w251_0, w251_1, w251_4, w251_7, w251_8, w251_11, w251_12, w251_15, w251_16, w251_17, w251_18, w251_21, w251_22, w251_25, w251_26, Ko_n, Ko_v, vX_i, vX_r, vX_l, vX_j, reduceIte, Int.reduceEq, not_false_eq_true, b]
  · rw [if_neg a, if_neg a]
    simp (disch := (first | assumption | omega | exact Nat.le_of_ble_eq_true rfl | rfl)) only [w251_0, w251_1, w251_4, w251_7, w251_8, w251_11, w251_12, w251_15, w251_16, w251_17, w251_18, w251_21, w251_22, w251_25, w251_26, Ko_n, Ko_v, vX_i, vX_r, vX_l, vX_j, reduceIte, not_true]
def tyR (σ : St) (t : Int) : Int → Int := fun k => (i64 (σ 1239 382 (40 * t + k))).toInt
theorem tyR_in {σ : St} {t k : Int} : -9223372036854775808 ≤ tyR σ t k ∧ tyR σ t k < 9223372036854775808 := ⟨by have := Int64.le_toInt (i64 (σ 1239 382 (40 * t + k))); unfold tyR; omega, by have := Int64.toInt_lt (i64 (σ 1239 382 (40 * t + k))); unfold tyR; omega⟩
theorem tyR_i {σ : St} {t k : Int} : i64 (σ 1239 382 (40 * t + k)) = i64 (tyR σ t k) := (i64_toInt _).symm
