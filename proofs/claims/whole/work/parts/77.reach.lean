/-! ===== HedgePark: reach ===== -/
/-- the least costs of a walker are laid, in the rows of the ways at 144 -/
theorem sprW {d N : Nat} {k w W H : Int} {T : Tt} {σ : St} {Q : vmO → vmH → Prop} (hW : hpW σ W H N) (w0 : 0 ≤ w) (w1 : w < σ 404 3 0)
    (hQ : ∀ C X, agr 36 X.1 (dD W H (prc σ 3 10 (frB (σ 405 3 0) w)) (σ 702 10 w) N) → frIn X.1 → agr (W * H) C (prc σ 3 10 (frB (σ 405 3 0) w)) → Q (.inl none) (E T (wyD (upA σ 1000 144 C) 144 X))) : Ca (d + 4) k 96 [.ref 144, .ref 3, .ref 10, .int (i32 w)] (E T σ) Q := by
  have h3 := ob_p3; have hn := ob_n10; have hwy := ob_wy
  have hm := wh_mul0 hW.2.1
  have hNw := hW.2.2.1
  obtain ⟨hw2, w5, a0, a1⟩ := hpW_w hW w0 w1
  obtain ⟨hP, hS⟩ := hpW_k hW w0 w1
  have hcs := cst_cs (e := σ 1000 144) (wi := wiB (σ 403 3 0) (σ 705 10 0)) (fr := frB (σ 405 3 0) w) (N := W * H) (by omega) hS.1 hS.2.1
  have hag : agr (W * H) (cp (prc σ 3 10 (frB (σ 405 3 0) w)) (σ 1000 144) (W * H)) (prc σ 3 10 (frB (σ 405 3 0) w)) := fun j j0 j1 => cp_lt j0 j1
  rw [c96 (N := N) hwy h3 hn hP hS hNw w0 w5 a0 a1]
  exact hQ _ _ (spr_dD hw2 hag hcs hNw a0 a1) (dj_frIn hw2 hcs hNw) hag
theorem wd1 {σ : St} {C : Int → Int} {X : Dj} : wyD (upA σ 1000 144 C) 144 X 1001 144 = X.1 := wy1
theorem wdt {σ : St} {C : Int → Int} {X : Dj} {t o : Nat} (h : t < 1000 ∨ 1006 < t) : wyD (upA σ 1000 144 C) 144 X t o = σ t o := by
  unfold wyD
  rw [wyt (by omega) (by omega) (by omega) (by omega), upA_t (by omega)]
def rcB (f : Int → Int) (c : Int) (n : Int) : Int → Bool := fun k => decide (0 ≤ k ∧ k < n ∧ f k < far ∧ f k ≤ c)
theorem c137 {d N : Nat} {k w c W H : Int} {T : Tt} {σ : St} {Q : vmO → vmH → Prop} (hW : hpW σ W H N) (x0 : -2147483648 ≤ w) (x1 : w < 2147483648) (z0 : -2147483648 ≤ c) (z1 : c < 2147483648)
    (hQ1 : ¬ (0 ≤ w ∧ w < σ 404 3 0) → Q (.inr 0) (E (thr T) σ))
    (hQ2 : 0 ≤ w → w < σ 404 3 0 → c < 0 → Q (.inr 1) (E (thr T) σ))
    (hQ3 : 0 ≤ w → w < σ 404 3 0 → 0 ≤ c → ∀ C X, Q (.inl (some (.long (bs (rcB (dD W H (prc σ 3 10 (frB (σ 405 3 0) w)) (σ 702 10 w) N) c N))))) (E T (wyD (upA σ 1000 144 C) 144 X))) : Ca (d + 10) k 137 [.ref 0, .int (i32 w), .int (i32 c)] (E T σ) Q := by
  have h0 := ob_hp; have h2 := ob_st; have h3 := ob_p3; have hn := ob_n10; have hwy := ob_wy
  have hm := wh_mul0 hW.2.1
  have hNw := hW.2.2.1
  have hN : σ 401 3 0 * σ 402 3 0 = (N : Int) := by rw [hW.1.1, hW.1.2.1, hW.2.2.1]
  rw [n137 _ _ _ _ _ _ _ _ h0]
  simp (disch := (first | assumption | omega | exact Nat.le_of_ble_eq_true rfl | rfl)) only [w137_0, w137_1, w137_2, w137_5, w137_6, w137_9, w137_10, w137_13, w137_14, w137_17, w137_18, w137_21, w137_22, w137_25, w137_28, w137_29, w137_32, w137_35, w137_36, w137_39, w137_40, w137_41, w137_42, w137_46, w137_47, w137_50, w137_53, w137_56, w137_59, w137_60, w137_63, w137_65, w137_66, w137_69, w137_72, w137_73, w137_74, w137_76, w137_77, w137_78, w137_79, w137_82, w137_85, w137_86, Ko_n, Ko_v, vX_i, vX_r, vX_l, vX_j, reduceIte]
  rw [c164 hW.2.2.2.2.2.1 hW.2.2.2.2.2.2.1 x0 x1]
  by_cases hv : 0 ≤ w ∧ w < σ 404 3 0
  · rw [if_pos hv]
    obtain ⟨w0, w1⟩ := hv
    by_cases hc : c < 0
    · simp (disch := (first | assumption | omega | exact Nat.le_of_ble_eq_true rfl | rfl)) only [w137_0, w137_1, w137_2, w137_5, w137_6, w137_9, w137_10, w137_13, w137_14, w137_17, w137_18, w137_21, w137_22, w137_25, w137_28, w137_29, w137_32, w137_35, w137_36, w137_39, w137_40, w137_41, w137_42, w137_46, w137_47, w137_50, w137_53, w137_56, w137_59, w137_60, w137_63, w137_65, w137_66, w137_69, w137_72, w137_73, w137_74, w137_76, w137_77, w137_78, w137_79, w137_82, w137_85, w137_86, Ko_n, Ko_v, vX_i, vX_r, vX_l, vX_j, reduceIte, hc]
      rw [c169 (by omega) (Or.inl rfl), if_pos rfl, Ko_x rfl]
      exact hQ2 w0 w1 hc
    · simp (disch := (first | assumption | omega | exact Nat.le_of_ble_eq_true rfl | rfl)) only [w137_0, w137_1, w137_2, w137_5, w137_6, w137_9, w137_10, w137_13, w137_14, w137_17, w137_18, w137_21, w137_22, w137_25, w137_28, w137_29, w137_32, w137_35, w137_36, w137_39, w137_40, w137_41, w137_42, w137_46, w137_47, w137_50, w137_53, w137_56, w137_59, w137_60, w137_63, w137_65, w137_66, w137_69, w137_72, w137_73, w137_74, w137_76, w137_77, w137_78, w137_79, w137_82, w137_85, w137_86, Ko_n, Ko_v, vX_i, vX_r, vX_l, vX_j, reduceIte, hc]
      rw [c169 (by omega) (Or.inr rfl), if_neg (by omega)]
      simp (disch := (first | assumption | omega | exact Nat.le_of_ble_eq_true rfl | rfl)) only [w137_0, w137_1, w137_2, w137_5, w137_6, w137_9, w137_10, w137_13, w137_14, w137_17, w137_18, w137_21, w137_22, w137_25, w137_28, w137_29, w137_32, w137_35, w137_36, w137_39, w137_40, w137_41, w137_42, w137_46, w137_47, w137_50, w137_53, w137_56, w137_59, w137_60, w137_63, w137_65, w137_66, w137_69, w137_72, w137_73, w137_74, w137_76, w137_77, w137_78, w137_79, w137_82, w137_85, w137_86, Ko_n, Ko_v, vX_i, vX_r, vX_l, vX_j, reduceIte, Nat.reduceAdd]
      refine sprW hW w0 w1 ?_
      intro C X hX hfr hC
      have loop : ∀ (m n : Nat), n + m = N → Wp (d + 10) M_X11_reach 44 [.ref 0, .int (i32 w), .int (i32 c), .long (bs (rcB X.1 c n)), vmJ, .int (i32 n)] [] (E T (wyD (upA σ 1000 144 C) 144 X)) Q := by
        intro m
        induction m with
        | zero =>
          intro n hn2
          have hn2 : n = N := by omega
          subst hn2
          have hq := hQ3 w0 w1 (by omega) C X
          rw [← bs_congr (p := rcB X.1 c n) (fun j j0 j1 => by
            unfold rcB
            by_cases hj : j < (n : Int)
            · rw [hX j j0 (by omega)]
            · simp [hj])] at hq
          rw [w137_44]
          simp (disch := (first | assumption | omega | exact Nat.le_of_ble_eq_true rfl | rfl)) only [w137_0, w137_1, w137_2, w137_5, w137_6, w137_9, w137_10, w137_13, w137_14, w137_17, w137_18, w137_21, w137_22, w137_25, w137_28, w137_29, w137_32, w137_35, w137_36, w137_39, w137_40, w137_41, w137_42, w137_46, w137_47, w137_50, w137_53, w137_56, w137_59, w137_60, w137_63, w137_65, w137_66, w137_69, w137_72, w137_73, w137_74, w137_76, w137_77, w137_78, w137_79, w137_82, w137_85, w137_86, Ko_n, Ko_v, vX_i, vX_r, vX_l, vX_j, reduceIte, Nat.reduceAdd, c26, wdt, hN, Int.le_refl]
          exact hq
        | succ m ih =>
          intro n hn2
          have ih' := ih (n + 1) (by omega)
          have hf := hfr n (by omega) (by omega)
          rw [w137_44]
          simp (disch := (first | assumption | omega | exact Nat.le_of_ble_eq_true rfl | rfl)) only [w137_0, w137_1, w137_2, w137_5, w137_6, w137_9, w137_10, w137_13, w137_14, w137_17, w137_18, w137_21, w137_22, w137_25, w137_28, w137_29, w137_32, w137_35, w137_36, w137_39, w137_40, w137_41, w137_42, w137_46, w137_47, w137_50, w137_53, w137_56, w137_59, w137_60, w137_63, w137_65, w137_66, w137_69, w137_72, w137_73, w137_74, w137_76, w137_77, w137_78, w137_79, w137_82, w137_85, w137_86, Ko_n, Ko_v, vX_i, vX_r, vX_l, vX_j, reduceIte, Nat.reduceAdd, c26, wdt, hN, show ¬ (N : Int) ≤ (n : Int) by omega]
          rw [c102 (σ := wyD (upA σ 1000 144 C) 144 X) hwy (by omega) (by omega) z0 z1 (by rw [wd1]; exact hf.1) (by rw [wd1]; exact hf.2), wd1]
          by_cases hx : X.1 n < far ∧ X.1 n ≤ c
          · rw [if_pos hx]
            simp (disch := (first | assumption | omega | exact Nat.le_of_ble_eq_true rfl | rfl)) only [w137_0, w137_1, w137_2, w137_5, w137_6, w137_9, w137_10, w137_13, w137_14, w137_17, w137_18, w137_21, w137_22, w137_25, w137_28, w137_29, w137_32, w137_35, w137_36, w137_39, w137_40, w137_41, w137_42, w137_46, w137_47, w137_50, w137_53, w137_56, w137_59, w137_60, w137_63, w137_65, w137_66, w137_69, w137_72, w137_73, w137_74, w137_76, w137_77, w137_78, w137_79, w137_82, w137_85, w137_86, Ko_n, Ko_v, vX_i, vX_r, vX_l, vX_j, reduceIte, Int.reduceEq, bs_add]
            rw [bs_congr (p := fun k => rcB X.1 c n k || decide (k = (n : Int))) (q := rcB X.1 c ((n + 1 : Nat) : Int))]
            · exact ih'
            · intro j j0 j1
              unfold rcB
              by_cases hj : j = n
              · rw [hj, decide_eq_true (rfl : (n : Int) = n), Bool.or_true, decide_eq_true (by omega)]
              · rw [decide_eq_false hj, Bool.or_false]
                simp only [show j < ((n + 1 : Nat) : Int) ↔ j < (n : Int) by omega]
          · rw [if_neg hx]
            simp (disch := (first | assumption | omega | exact Nat.le_of_ble_eq_true rfl | rfl)) only [w137_0, w137_1, w137_2, w137_5, w137_6, w137_9, w137_10, w137_13, w137_14, w137_17, w137_18, w137_21, w137_22, w137_25, w137_28, w137_29, w137_32, w137_35, w137_36, w137_39, w137_40, w137_41, w137_42, w137_46, w137_47, w137_50, w137_53, w137_56, w137_59, w137_60, w137_63, w137_65, w137_66, w137_69, w137_72, w137_73, w137_74, w137_76, w137_77, w137_78, w137_79, w137_82, w137_85, w137_86, Ko_n, Ko_v, vX_i, vX_r, vX_l, vX_j, reduceIte]
            rw [bs_congr (p := rcB X.1 c n) (q := rcB X.1 c ((n + 1 : Nat) : Int))]
            · exact ih'
            · intro j j0 j1
              unfold rcB
              by_cases hj : j = n
              · rw [hj, decide_eq_false (by omega), decide_eq_false (fun v => hx v.2.2)]
              · simp only [show j < ((n + 1 : Nat) : Int) ↔ j < (n : Int) by omega]
      simp (disch := (first | assumption | omega | exact Nat.le_of_ble_eq_true rfl | rfl)) only [w137_0, w137_1, w137_2, w137_5, w137_6, w137_9, w137_10, w137_13, w137_14, w137_17, w137_18, w137_21, w137_22, w137_25, w137_28, w137_29, w137_32, w137_35, w137_36, w137_39, w137_40, w137_41, w137_42, w137_46, w137_47, w137_50, w137_53, w137_56, w137_59, w137_60, w137_63, w137_65, w137_66, w137_69, w137_72, w137_73, w137_74, w137_76, w137_77, w137_78, w137_79, w137_82, w137_85, w137_86, Ko_n, Ko_v, vX_i, vX_r, vX_l, vX_j, reduceIte]
      have := loop N 0 (by omega)
      rw [bs_congr (p := rcB X.1 c ((0 : Nat) : Int)) (q := fun _ => false) (fun j j0 _ => by unfold rcB; rw [decide_eq_false (by omega)]), ← bs_none] at this
      exact this
  · rw [if_neg hv, Ko_x rfl]
    exact hQ1 hv
