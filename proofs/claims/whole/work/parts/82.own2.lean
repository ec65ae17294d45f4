/-! ===== HedgePark: own, the method ===== -/
theorem c143 {d N : Nat} {k w W H : Int} {T : Tt} {σ : St} {Q : vmO → vmH → Prop} (hk : 4 ≤ k) (hW : hpW σ W H N) (x0 : -2147483648 ≤ w) (x1 : w < 2147483648)
    (hQ1 : ¬ (0 ≤ w ∧ w < σ 404 3 0) → Q (.inr 0) (E (thr T) σ))
    (hQ2 : 0 ≤ w → w < σ 404 3 0 → ∀ K C X, Q (.inl (some (.long (bs (owB (dW σ W H N w) (owI (dW σ W H N) w (σ 404 3 0).toNat) N))))) (E T (wyD (upA (upA σ 1002 144 K) 1000 144 C) 144 X))) : Ca (d + 10) k 143 [.ref 0, .int (i32 w)] (E T σ) Q := by
  have h0 := ob_hp; have h2 := ob_st; have h3 := ob_p3; have hn := ob_n10; have hwy := ob_wy
  have hm := wh_mul0 hW.2.1
  have hNw := hW.2.2.1
  have hfar : far = 1000000000 := rfl
  have hN : σ 401 3 0 * σ 402 3 0 = (N : Int) := by rw [hW.1.1, hW.1.2.1, hW.2.2.1]
  have v0 := hW.2.2.2.2.2.1
  have v1 := hW.2.2.2.2.2.2.1
  rw [n143 _ _ _ _ _ _ _ h0]
  simp (disch := (first | assumption | omega | exact Nat.le_of_ble_eq_true rfl | rfl)) only [w143_0, w143_1, w143_2, w143_5, w143_6, w143_9, w143_12, w143_15, w143_18, w143_19, w143_21, w143_22, w143_25, w143_28, w143_31, w143_34, w143_35, w143_36, w143_39, w143_40, w143_43, w143_44, w143_47, w143_50, w143_51, w143_54, w143_57, w143_58, w143_61, w143_62, w143_65, w143_68, w143_71, w143_74, w143_75, w143_78, w143_79, w143_82, w143_85, w143_86, w143_89, w143_92, w143_93, w143_96, w143_97, w143_98, w143_99, w143_103, w143_104, w143_107, w143_110, w143_113, w143_116, w143_117, w143_120, w143_123, w143_125, w143_126, w143_127, w143_130, w143_133, w143_135, w143_136, w143_139, w143_140, w143_141, w143_143, w143_144, w143_145, w143_146, w143_149, w143_152, w143_153, Ko_n, Ko_v, vX_i, vX_r, vX_l, vX_j, reduceIte]
  rw [c164 hW.2.2.2.2.2.1 hW.2.2.2.2.2.2.1 x0 x1]
  by_cases hv : 0 ≤ w ∧ w < σ 404 3 0
  · rw [if_pos hv]
    obtain ⟨w0, w1⟩ := hv
    have loop2 : ∀ (K C : Int → Int) (X : Dj), agr 36 X.1 (dW σ W H N w) → frIn X.1 → agr 36 K (owI (dW σ W H N) w (σ 404 3 0).toNat) → frIn K → ∀ (m n : Nat), n + m = N → Wp (d + 10) M_X11_own 101 [.ref 0, .int (i32 w), .long (bs (owB X.1 K n)), vmJ, .int (i32 n)] [] (E T (wyD (upA (upA σ 1002 144 K) 1000 144 C) 144 X)) Q := by
      intro K C X hX hfr hK hkr m
      induction m with
      | zero =>
        intro n hn2
        have hn2 : n = N := by omega
        subst hn2
        have hq := hQ2 w0 w1 K C X
        rw [← bs_congr (p := owB X.1 K n) (fun j j0 j1 => by
          unfold owB
          by_cases hj : j < (n : Int)
          · rw [hX j j0 (by omega), hK j j0 (by omega)]
          · simp [hj])] at hq
        rw [w143_101]
        simp (disch := (first | assumption | omega | exact Nat.le_of_ble_eq_true rfl | rfl)) only [w143_0, w143_1, w143_2, w143_5, w143_6, w143_9, w143_12, w143_15, w143_18, w143_19, w143_21, w143_22, w143_25, w143_28, w143_31, w143_34, w143_35, w143_36, w143_39, w143_40, w143_43, w143_44, w143_47, w143_50, w143_51, w143_54, w143_57, w143_58, w143_61, w143_62, w143_65, w143_68, w143_71, w143_74, w143_75, w143_78, w143_79, w143_82, w143_85, w143_86, w143_89, w143_92, w143_93, w143_96, w143_97, w143_98, w143_99, w143_103, w143_104, w143_107, w143_110, w143_113, w143_116, w143_117, w143_120, w143_123, w143_125, w143_126, w143_127, w143_130, w143_133, w143_135, w143_136, w143_139, w143_140, w143_141, w143_143, w143_144, w143_145, w143_146, w143_149, w143_152, w143_153, Ko_n, Ko_v, vX_i, vX_r, vX_l, vX_j, reduceIte, Nat.reduceAdd, c26, wdt, upA_t, hN, Int.le_refl]
        exact hq
      | succ m ih =>
        intro n hn2
        have ih' := ih (n + 1) (by omega)
        have hf := hfr n (by omega) (by omega)
        have hg := hkr n (by omega) (by omega)
        rw [w143_101]
        by_cases hx : X.1 n < K n
        · simp (disch := (first | assumption | omega | exact Nat.le_of_ble_eq_true rfl | rfl)) only [w143_0, w143_1, w143_2, w143_5, w143_6, w143_9, w143_12, w143_15, w143_18, w143_19, w143_21, w143_22, w143_25, w143_28, w143_31, w143_34, w143_35, w143_36, w143_39, w143_40, w143_43, w143_44, w143_47, w143_50, w143_51, w143_54, w143_57, w143_58, w143_61, w143_62, w143_65, w143_68, w143_71, w143_74, w143_75, w143_78, w143_79, w143_82, w143_85, w143_86, w143_89, w143_92, w143_93, w143_96, w143_97, w143_98, w143_99, w143_103, w143_104, w143_107, w143_110, w143_113, w143_116, w143_117, w143_120, w143_123, w143_125, w143_126, w143_127, w143_130, w143_133, w143_135, w143_136, w143_139, w143_140, w143_141, w143_143, w143_144, w143_145, w143_146, w143_149, w143_152, w143_153, Ko_n, Ko_v, vX_i, vX_r, vX_l, vX_j, reduceIte, Nat.reduceAdd, c26, wdt, upA_t, hN, show ¬ (N : Int) ≤ (n : Int) by omega, wd1, wk2, show ¬ K n ≤ X.1 n by omega, bs_add]
          rw [bs_congr (p := fun k => owB X.1 K n k || decide (k = (n : Int))) (q := owB X.1 K ((n + 1 : Nat) : Int))]
          · exact ih'
          · intro j j0 j1
            unfold owB
            by_cases hj : j = n
            · rw [hj, decide_eq_true (rfl : (n : Int) = n), Bool.or_true, decide_eq_true (by omega)]
            · rw [decide_eq_false hj, Bool.or_false]
              simp only [show j < ((n + 1 : Nat) : Int) ↔ j < (n : Int) by omega]
        · simp (disch := (first | assumption | omega | exact Nat.le_of_ble_eq_true rfl | rfl)) only [w143_0, w143_1, w143_2, w143_5, w143_6, w143_9, w143_12, w143_15, w143_18, w143_19, w143_21, w143_22, w143_25, w143_28, w143_31, w143_34, w143_35, w143_36, w143_39, w143_40, w143_43, w143_44, w143_47, w143_50, w143_51, w143_54, w143_57, w143_58, w143_61, w143_62, w143_65, w143_68, w143_71, w143_74, w143_75, w143_78, w143_79, w143_82, w143_85, w143_86, w143_89, w143_92, w143_93, w143_96, w143_97, w143_98, w143_99, w143_103, w143_104, w143_107, w143_110, w143_113, w143_116, w143_117, w143_120, w143_123, w143_125, w143_126, w143_127, w143_130, w143_133, w143_135, w143_136, w143_139, w143_140, w143_141, w143_143, w143_144, w143_145, w143_146, w143_149, w143_152, w143_153, Ko_n, Ko_v, vX_i, vX_r, vX_l, vX_j, reduceIte, Nat.reduceAdd, c26, wdt, upA_t, hN, show ¬ (N : Int) ≤ (n : Int) by omega, wd1, wk2, show K n ≤ X.1 n by omega]
          rw [bs_congr (p := owB X.1 K n) (q := owB X.1 K ((n + 1 : Nat) : Int))]
          · exact ih'
          · intro j j0 j1
            unfold owB
            by_cases hj : j = n
            · rw [hj, decide_eq_false (by omega), decide_eq_false (fun v => hx v.2.2)]
            · simp only [show j < ((n + 1 : Nat) : Int) ↔ j < (n : Int) by omega]
    have loop : ∀ (m n : Nat) (K : Int → Int) (τ : St), wdR (upA σ 1002 144 K) τ → τ 1002 144 = K → agr 36 K (owI (dW σ W H N) w n) → frIn K → n + m = (σ 404 3 0).toNat → Wp (d + 10) M_X11_own 20 [.ref 0, .int (i32 w), .int (i32 n), vmJ, vmJ] [] (E T τ) Q := by
      intro m
      induction m with
      | zero =>
        intro n K τ hR hτ hK hkr hn2
        have hn2 : n = (σ 404 3 0).toNat := by omega
        have e4 : τ 404 3 = σ 404 3 := (wdR_t (t := 404) (o := 3) hR (by omega)).trans (upA_t (by omega))
        rw [hn2] at hK
        rw [w143_20]
        simp (disch := (first | assumption | omega | exact Nat.le_of_ble_eq_true rfl | rfl)) only [w143_0, w143_1, w143_2, w143_5, w143_6, w143_9, w143_12, w143_15, w143_18, w143_19, w143_21, w143_22, w143_25, w143_28, w143_31, w143_34, w143_35, w143_36, w143_39, w143_40, w143_43, w143_44, w143_47, w143_50, w143_51, w143_54, w143_57, w143_58, w143_61, w143_62, w143_65, w143_68, w143_71, w143_74, w143_75, w143_78, w143_79, w143_82, w143_85, w143_86, w143_89, w143_92, w143_93, w143_96, w143_97, w143_98, w143_99, w143_103, w143_104, w143_107, w143_110, w143_113, w143_116, w143_117, w143_120, w143_123, w143_125, w143_126, w143_127, w143_130, w143_133, w143_135, w143_136, w143_139, w143_140, w143_141, w143_143, w143_144, w143_145, w143_146, w143_149, w143_152, w143_153, Ko_n, Ko_v, vX_i, vX_r, vX_l, vX_j, reduceIte, Nat.reduceAdd, e4, show σ 404 3 0 ≤ (n : Int) by omega]
        refine sprR hR (hpW_k2 hW) (by omega) (by rw [upA_t (by omega)]; exact w1) ?_
        intro C X hX hfr
        rw [dW_k2] at hX
        simp (disch := (first | assumption | omega | exact Nat.le_of_ble_eq_true rfl | rfl)) only [w143_0, w143_1, w143_2, w143_5, w143_6, w143_9, w143_12, w143_15, w143_18, w143_19, w143_21, w143_22, w143_25, w143_28, w143_31, w143_34, w143_35, w143_36, w143_39, w143_40, w143_43, w143_44, w143_47, w143_50, w143_51, w143_54, w143_57, w143_58, w143_61, w143_62, w143_65, w143_68, w143_71, w143_74, w143_75, w143_78, w143_79, w143_82, w143_85, w143_86, w143_89, w143_92, w143_93, w143_96, w143_97, w143_98, w143_99, w143_103, w143_104, w143_107, w143_110, w143_113, w143_116, w143_117, w143_120, w143_123, w143_125, w143_126, w143_127, w143_130, w143_133, w143_135, w143_136, w143_139, w143_140, w143_141, w143_143, w143_144, w143_145, w143_146, w143_149, w143_152, w143_153, Ko_n, Ko_v, vX_i, vX_r, vX_l, vX_j, reduceIte, Nat.reduceAdd]
        have := loop2 K C X hX hfr hK hkr N 0 (by omega)
        rw [bs_congr (p := owB X.1 K ((0 : Nat) : Int)) (q := fun _ => false) (fun j j0 _ => by unfold owB; rw [decide_eq_false (by omega)]), ← bs_none] at this
        exact this
      | succ m ih =>
        intro n K τ hR hτ hK hkr hn2
        have e4 : τ 404 3 = σ 404 3 := (wdR_t (t := 404) (o := 3) hR (by omega)).trans (upA_t (by omega))
        rw [w143_20]
        by_cases hw : (n : Int) = w
        · simp (disch := (first | assumption | omega | exact Nat.le_of_ble_eq_true rfl | rfl)) only [w143_0, w143_1, w143_2, w143_5, w143_6, w143_9, w143_12, w143_15, w143_18, w143_19, w143_21, w143_22, w143_25, w143_28, w143_31, w143_34, w143_35, w143_36, w143_39, w143_40, w143_43, w143_44, w143_47, w143_50, w143_51, w143_54, w143_57, w143_58, w143_61, w143_62, w143_65, w143_68, w143_71, w143_74, w143_75, w143_78, w143_79, w143_82, w143_85, w143_86, w143_89, w143_92, w143_93, w143_96, w143_97, w143_98, w143_99, w143_103, w143_104, w143_107, w143_110, w143_113, w143_116, w143_117, w143_120, w143_123, w143_125, w143_126, w143_127, w143_130, w143_133, w143_135, w143_136, w143_139, w143_140, w143_141, w143_143, w143_144, w143_145, w143_146, w143_149, w143_152, w143_153, Ko_n, Ko_v, vX_i, vX_r, vX_l, vX_j, reduceIte, Nat.reduceAdd, e4, show ¬ σ 404 3 0 ≤ (n : Int) by omega, hw]
          have := ih (n + 1) K τ hR hτ (fun j j0 j1 => by rw [hK j j0 j1]; simp only [owI]; rw [if_pos hw]) hkr (by omega)
          rw [show ((n + 1 : Nat) : Int) = w + 1 by omega] at this
          rw [if_neg (by omega)]
          exact this
        · simp (disch := (first | assumption | omega | exact Nat.le_of_ble_eq_true rfl | rfl)) only [w143_0, w143_1, w143_2, w143_5, w143_6, w143_9, w143_12, w143_15, w143_18, w143_19, w143_21, w143_22, w143_25, w143_28, w143_31, w143_34, w143_35, w143_36, w143_39, w143_40, w143_43, w143_44, w143_47, w143_50, w143_51, w143_54, w143_57, w143_58, w143_61, w143_62, w143_65, w143_68, w143_71, w143_74, w143_75, w143_78, w143_79, w143_82, w143_85, w143_86, w143_89, w143_92, w143_93, w143_96, w143_97, w143_98, w143_99, w143_103, w143_104, w143_107, w143_110, w143_113, w143_116, w143_117, w143_120, w143_123, w143_125, w143_126, w143_127, w143_130, w143_133, w143_135, w143_136, w143_139, w143_140, w143_141, w143_143, w143_144, w143_145, w143_146, w143_149, w143_152, w143_153, Ko_n, Ko_v, vX_i, vX_r, vX_l, vX_j, reduceIte, Nat.reduceAdd, e4, show ¬ σ 404 3 0 ≤ (n : Int) by omega, hw]
          refine sprR hR (hpW_k2 hW) (by omega) (by rw [upA_t (by omega)]; omega) ?_
          intro C X hX hfr
          rw [dW_k2] at hX
          simp (disch := (first | assumption | omega | exact Nat.le_of_ble_eq_true rfl | rfl)) only [w143_0, w143_1, w143_2, w143_5, w143_6, w143_9, w143_12, w143_15, w143_18, w143_19, w143_21, w143_22, w143_25, w143_28, w143_31, w143_34, w143_35, w143_36, w143_39, w143_40, w143_43, w143_44, w143_47, w143_50, w143_51, w143_54, w143_57, w143_58, w143_61, w143_62, w143_65, w143_68, w143_71, w143_74, w143_75, w143_78, w143_79, w143_82, w143_85, w143_86, w143_89, w143_92, w143_93, w143_96, w143_97, w143_98, w143_99, w143_103, w143_104, w143_107, w143_110, w143_113, w143_116, w143_117, w143_120, w143_123, w143_125, w143_126, w143_127, w143_130, w143_133, w143_135, w143_136, w143_139, w143_140, w143_141, w143_143, w143_144, w143_145, w143_146, w143_149, w143_152, w143_153, Ko_n, Ko_v, vX_i, vX_r, vX_l, vX_j, reduceIte, Nat.reduceAdd]
          rw [c104 hwy (by rw [wd1]; exact hfr) (by rw [wk2]; exact hkr), wd1, wk2, wk_wd]
          simp (disch := (first | assumption | omega | exact Nat.le_of_ble_eq_true rfl | rfl)) only [w143_0, w143_1, w143_2, w143_5, w143_6, w143_9, w143_12, w143_15, w143_18, w143_19, w143_21, w143_22, w143_25, w143_28, w143_31, w143_34, w143_35, w143_36, w143_39, w143_40, w143_43, w143_44, w143_47, w143_50, w143_51, w143_54, w143_57, w143_58, w143_61, w143_62, w143_65, w143_68, w143_71, w143_74, w143_75, w143_78, w143_79, w143_82, w143_85, w143_86, w143_89, w143_92, w143_93, w143_96, w143_97, w143_98, w143_99, w143_103, w143_104, w143_107, w143_110, w143_113, w143_116, w143_117, w143_120, w143_123, w143_125, w143_126, w143_127, w143_130, w143_133, w143_135, w143_136, w143_139, w143_140, w143_141, w143_143, w143_144, w143_145, w143_146, w143_149, w143_152, w143_153, Ko_n, Ko_v, vX_i, vX_r, vX_l, vX_j, reduceIte, Nat.reduceAdd]
          refine ih (n + 1) _ _ (Or.inr ⟨C, X, rfl⟩) wk2 ?_ ?_ (by omega)
          · intro j j0 j1
            rw [cp_lt j0 j1]
            simp only [owI]
            rw [if_neg hw, hK j j0 j1, hX j j0 j1]
          · intro j j0 j1
            rw [cp_lt j0 j1]
            have a1 := hfr j j0 j1
            have a2 := hkr j j0 j1
            constructor <;> omega
    simp (disch := (first | assumption | omega | exact Nat.le_of_ble_eq_true rfl | rfl)) only [w143_0, w143_1, w143_2, w143_5, w143_6, w143_9, w143_12, w143_15, w143_18, w143_19, w143_21, w143_22, w143_25, w143_28, w143_31, w143_34, w143_35, w143_36, w143_39, w143_40, w143_43, w143_44, w143_47, w143_50, w143_51, w143_54, w143_57, w143_58, w143_61, w143_62, w143_65, w143_68, w143_71, w143_74, w143_75, w143_78, w143_79, w143_82, w143_85, w143_86, w143_89, w143_92, w143_93, w143_96, w143_97, w143_98, w143_99, w143_103, w143_104, w143_107, w143_110, w143_113, w143_116, w143_117, w143_120, w143_123, w143_125, w143_126, w143_127, w143_130, w143_133, w143_135, w143_136, w143_139, w143_140, w143_141, w143_143, w143_144, w143_145, w143_146, w143_149, w143_152, w143_153, Ko_n, Ko_v, vX_i, vX_r, vX_l, vX_j, reduceIte, Nat.reduceAdd]
    rw [c320 (by omega) owShA]
    simp (disch := (first | assumption | omega | exact Nat.le_of_ble_eq_true rfl | rfl)) only [w143_0, w143_1, w143_2, w143_5, w143_6, w143_9, w143_12, w143_15, w143_18, w143_19, w143_21, w143_22, w143_25, w143_28, w143_31, w143_34, w143_35, w143_36, w143_39, w143_40, w143_43, w143_44, w143_47, w143_50, w143_51, w143_54, w143_57, w143_58, w143_61, w143_62, w143_65, w143_68, w143_71, w143_74, w143_75, w143_78, w143_79, w143_82, w143_85, w143_86, w143_89, w143_92, w143_93, w143_96, w143_97, w143_98, w143_99, w143_103, w143_104, w143_107, w143_110, w143_113, w143_116, w143_117, w143_120, w143_123, w143_125, w143_126, w143_127, w143_130, w143_133, w143_135, w143_136, w143_139, w143_140, w143_141, w143_143, w143_144, w143_145, w143_146, w143_149, w143_152, w143_153, Ko_n, Ko_v, vX_i, vX_r, vX_l, vX_j, reduceIte, Nat.reduceAdd]
    refine loop _ 0 _ _ (Or.inl rfl) upA_s ?_ ?_ (Nat.zero_add _)
    · intro j j0 j1
      unfold fil
      rw [if_pos ⟨j0, j1⟩]
      rfl
    · intro j j0 j1
      unfold fil
      rw [if_pos ⟨j0, j1⟩]
      constructor <;> omega
  · rw [if_neg hv, Ko_x rfl]
    exact hQ1 hv
