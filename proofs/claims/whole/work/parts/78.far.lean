/-! ===== HedgePark: farthest ===== -/
/-- how far the farthest of the first n is, and which -/
def ftI (f : Int → Int) (a : Int) : Nat → Int × Int
  | 0 => (-1, a)
  | n + 1 => if f n < far ∧ (ftI f a n).1 < f n then (f n, (n : Int)) else ftI f a n
theorem ftI_in {f : Int → Int} {a : Int} (hf : frIn f) (n : Nat) (hn : n ≤ 36) : -1 ≤ (ftI f a n).1 ∧ (ftI f a n).1 ≤ far := by
  have hfar : far = 1000000000 := rfl
  induction n with
  | zero => exact ⟨Int.le_refl _, by show (-1 : Int) ≤ far; omega⟩
  | succ n ih =>
    have := ih (by omega)
    have h2 := hf n (by omega) (by omega)
    simp only [ftI]
    split
    · exact ⟨by show -1 ≤ f n; omega, h2.2⟩
    · exact this
theorem ftI_congr {f f' : Int → Int} {a : Int} (h : agr 36 f f') (n : Nat) (hn : n ≤ 36) : ftI f a n = ftI f' a n := by
  induction n with
  | zero => rfl
  | succ n ih =>
    simp only [ftI]
    rw [ih (by omega), h n (by omega) (by omega)]
theorem c138 {d N : Nat} {k w W H : Int} {T : Tt} {σ : St} {Q : vmO → vmH → Prop} (hW : hpW σ W H N) (x0 : -2147483648 ≤ w) (x1 : w < 2147483648)
    (hQ1 : ¬ (0 ≤ w ∧ w < σ 404 3 0) → Q (.inr 0) (E (thr T) σ))
    (hQ2 : 0 ≤ w → w < σ 404 3 0 → ∀ C X, Q (.inl (some (.int (i32 (ftI (dD W H (prc σ 3 10 (frB (σ 405 3 0) w)) (σ 702 10 w) N) (σ 702 10 w) N).2)))) (E T (wyD (upA σ 1000 144 C) 144 X))) : Ca (d + 10) k 138 [.ref 0, .int (i32 w)] (E T σ) Q := by
  have h0 := ob_hp; have h2 := ob_st; have h3 := ob_p3; have hn := ob_n10; have hwy := ob_wy
  have hm := wh_mul0 hW.2.1
  have hNw := hW.2.2.1
  have hfar : far = 1000000000 := rfl
  have hN : σ 401 3 0 * σ 402 3 0 = (N : Int) := by rw [hW.1.1, hW.1.2.1, hW.2.2.1]
  rw [n138 _ _ _ _ _ _ _ h0]
  simp (disch := (first | assumption | omega | exact Nat.le_of_ble_eq_true rfl | rfl)) only [w138_0, w138_1, w138_2, w138_5, w138_6, w138_9, w138_10, w138_13, w138_16, w138_17, w138_20, w138_23, w138_24, w138_27, w138_28, w138_31, w138_34, w138_37, w138_38, w138_39, w138_40, w138_41, w138_42, w138_43, w138_47, w138_48, w138_51, w138_54, w138_57, w138_60, w138_61, w138_64, w138_67, w138_69, w138_70, w138_73, w138_76, w138_77, w138_80, w138_83, w138_85, w138_86, w138_87, w138_90, w138_91, w138_94, w138_97, w138_99, w138_100, w138_101, w138_103, w138_104, w138_107, w138_110, w138_111, Ko_n, Ko_v, vX_i, vX_r, vX_l, vX_j, reduceIte]
  rw [c164 hW.2.2.2.2.2.1 hW.2.2.2.2.2.2.1 x0 x1]
  by_cases hv : 0 ≤ w ∧ w < σ 404 3 0
  · rw [if_pos hv]
    obtain ⟨w0, w1⟩ := hv
    have w5 := (hpW_w hW w0 w1).2.1
    simp (disch := (first | assumption | omega | exact Nat.le_of_ble_eq_true rfl | rfl)) only [w138_0, w138_1, w138_2, w138_5, w138_6, w138_9, w138_10, w138_13, w138_16, w138_17, w138_20, w138_23, w138_24, w138_27, w138_28, w138_31, w138_34, w138_37, w138_38, w138_39, w138_40, w138_41, w138_42, w138_43, w138_47, w138_48, w138_51, w138_54, w138_57, w138_60, w138_61, w138_64, w138_67, w138_69, w138_70, w138_73, w138_76, w138_77, w138_80, w138_83, w138_85, w138_86, w138_87, w138_90, w138_91, w138_94, w138_97, w138_99, w138_100, w138_101, w138_103, w138_104, w138_107, w138_110, w138_111, Ko_n, Ko_v, vX_i, vX_r, vX_l, vX_j, reduceIte, Nat.reduceAdd]
    refine sprW hW w0 w1 ?_
    intro C X hX hfr hC
    have loop : ∀ (m n : Nat), n + m = N → Wp (d + 10) M_X11_farthest 45 [.ref 0, .int (i32 w), .int (i32 (ftI X.1 (σ 702 10 w) n).2), .int (i32 (ftI X.1 (σ 702 10 w) n).1), .int (i32 n)] [] (E T (wyD (upA σ 1000 144 C) 144 X)) Q := by
      intro m
      induction m with
      | zero =>
        intro n hn2
        have hn2 : n = N := by omega
        subst hn2
        have hq := hQ2 w0 w1 C X
        rw [← ftI_congr hX n (by omega)] at hq
        rw [w138_45]
        simp (disch := (first | assumption | omega | exact Nat.le_of_ble_eq_true rfl | rfl)) only [w138_0, w138_1, w138_2, w138_5, w138_6, w138_9, w138_10, w138_13, w138_16, w138_17, w138_20, w138_23, w138_24, w138_27, w138_28, w138_31, w138_34, w138_37, w138_38, w138_39, w138_40, w138_41, w138_42, w138_43, w138_47, w138_48, w138_51, w138_54, w138_57, w138_60, w138_61, w138_64, w138_67, w138_69, w138_70, w138_73, w138_76, w138_77, w138_80, w138_83, w138_85, w138_86, w138_87, w138_90, w138_91, w138_94, w138_97, w138_99, w138_100, w138_101, w138_103, w138_104, w138_107, w138_110, w138_111, Ko_n, Ko_v, vX_i, vX_r, vX_l, vX_j, reduceIte, Nat.reduceAdd, c26, wdt, hN, Int.le_refl]
        exact hq
      | succ m ih =>
        intro n hn2
        have ih' := ih (n + 1) (by omega)
        have hf := hfr n (by omega) (by omega)
        have hi := ftI_in (a := σ 702 10 w) hfr n (by omega)
        simp only [ftI] at ih'
        rw [w138_45]
        by_cases c1 : X.1 n < far
        · by_cases c2 : (ftI X.1 (σ 702 10 w) n).1 < X.1 n
          · rw [if_pos ⟨c1, c2⟩] at ih'
            simp (disch := (first | assumption | omega | exact Nat.le_of_ble_eq_true rfl | rfl)) only [w138_0, w138_1, w138_2, w138_5, w138_6, w138_9, w138_10, w138_13, w138_16, w138_17, w138_20, w138_23, w138_24, w138_27, w138_28, w138_31, w138_34, w138_37, w138_38, w138_39, w138_40, w138_41, w138_42, w138_43, w138_47, w138_48, w138_51, w138_54, w138_57, w138_60, w138_61, w138_64, w138_67, w138_69, w138_70, w138_73, w138_76, w138_77, w138_80, w138_83, w138_85, w138_86, w138_87, w138_90, w138_91, w138_94, w138_97, w138_99, w138_100, w138_101, w138_103, w138_104, w138_107, w138_110, w138_111, Ko_n, Ko_v, vX_i, vX_r, vX_l, vX_j, reduceIte, Nat.reduceAdd, c26, wdt, hN, show ¬ (N : Int) ≤ (n : Int) by omega, wd1, show ¬ (1000000000 : Int) ≤ X.1 n by omega, show ¬ X.1 n ≤ (ftI X.1 (σ 702 10 w) n).1 by omega]
            exact ih'
          · rw [if_neg (fun v => c2 v.2)] at ih'
            simp (disch := (first | assumption | omega | exact Nat.le_of_ble_eq_true rfl | rfl)) only [w138_0, w138_1, w138_2, w138_5, w138_6, w138_9, w138_10, w138_13, w138_16, w138_17, w138_20, w138_23, w138_24, w138_27, w138_28, w138_31, w138_34, w138_37, w138_38, w138_39, w138_40, w138_41, w138_42, w138_43, w138_47, w138_48, w138_51, w138_54, w138_57, w138_60, w138_61, w138_64, w138_67, w138_69, w138_70, w138_73, w138_76, w138_77, w138_80, w138_83, w138_85, w138_86, w138_87, w138_90, w138_91, w138_94, w138_97, w138_99, w138_100, w138_101, w138_103, w138_104, w138_107, w138_110, w138_111, Ko_n, Ko_v, vX_i, vX_r, vX_l, vX_j, reduceIte, Nat.reduceAdd, c26, wdt, hN, show ¬ (N : Int) ≤ (n : Int) by omega, wd1, show ¬ (1000000000 : Int) ≤ X.1 n by omega, show X.1 n ≤ (ftI X.1 (σ 702 10 w) n).1 by omega]
            exact ih'
        · rw [if_neg (fun v => c1 v.1)] at ih'
          simp (disch := (first | assumption | omega | exact Nat.le_of_ble_eq_true rfl | rfl)) only [w138_0, w138_1, w138_2, w138_5, w138_6, w138_9, w138_10, w138_13, w138_16, w138_17, w138_20, w138_23, w138_24, w138_27, w138_28, w138_31, w138_34, w138_37, w138_38, w138_39, w138_40, w138_41, w138_42, w138_43, w138_47, w138_48, w138_51, w138_54, w138_57, w138_60, w138_61, w138_64, w138_67, w138_69, w138_70, w138_73, w138_76, w138_77, w138_80, w138_83, w138_85, w138_86, w138_87, w138_90, w138_91, w138_94, w138_97, w138_99, w138_100, w138_101, w138_103, w138_104, w138_107, w138_110, w138_111, Ko_n, Ko_v, vX_i, vX_r, vX_l, vX_j, reduceIte, Nat.reduceAdd, c26, wdt, hN, show ¬ (N : Int) ≤ (n : Int) by omega, wd1, show (1000000000 : Int) ≤ X.1 n by omega]
          exact ih'
    simp (disch := (first | assumption | omega | exact Nat.le_of_ble_eq_true rfl | rfl)) only [w138_0, w138_1, w138_2, w138_5, w138_6, w138_9, w138_10, w138_13, w138_16, w138_17, w138_20, w138_23, w138_24, w138_27, w138_28, w138_31, w138_34, w138_37, w138_38, w138_39, w138_40, w138_41, w138_42, w138_43, w138_47, w138_48, w138_51, w138_54, w138_57, w138_60, w138_61, w138_64, w138_67, w138_69, w138_70, w138_73, w138_76, w138_77, w138_80, w138_83, w138_85, w138_86, w138_87, w138_90, w138_91, w138_94, w138_97, w138_99, w138_100, w138_101, w138_103, w138_104, w138_107, w138_110, w138_111, Ko_n, Ko_v, vX_i, vX_r, vX_l, vX_j, reduceIte, Nat.reduceAdd, wdt]
    exact loop N 0 (by omega)
  · rw [if_neg hv, Ko_x rfl]
    exact hQ1 hv
