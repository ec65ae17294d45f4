/-! ===== HedgePark: steps ===== -/
/-- what calls that only ask leave as it was -/
def sg (σ τ : St) : Prop := ∀ t o, ((300 ≤ t ∧ t < 600) ∨ (700 ≤ t ∧ t < 900 ∧ o ≠ 67) ∨ 1100 ≤ t) → τ t o = σ t o
theorem sg_r {σ : St} : sg σ σ := fun _ _ _ => rfl
theorem sg_t {σ τ ρ : St} (h1 : sg σ τ) (h2 : sg τ ρ) : sg σ ρ := fun t o h => (h2 t o h).trans (h1 t o h)
theorem sg_u {σ τ : St} {t o : Nat} {f : Int → Int} (h1 : sg σ τ) (h : t < 300 ∨ (600 ≤ t ∧ t < 700) ∨ (900 ≤ t ∧ t < 1100) ∨ (700 ≤ t ∧ t < 900 ∧ o = 67)) : sg σ (upA τ t o f) := fun t' o' h' => by
  by_cases e : t' = t
  · by_cases e2 : o' = o
    · exfalso; subst e; subst e2; omega
    · rw [upA_o e2]; exact h1 t' o' h'
  · rw [upA_t e]; exact h1 t' o' h'
theorem sg_wd {σ : St} {C : Int → Int} {X : Dj} : sg σ (wyD (upA σ 1000 144 C) 144 X) := fun t o h => wdt (by omega)
theorem sg_ws {σ : St} {C K F : Int → Int} : sg σ (wsT σ C K F) := fun t o h => wsT_t (by omega)
theorem sg_hp {σ τ : St} {W H : Int} {N : Nat} (hs : sg σ τ) (h : hpW σ W H N) : hpW τ W H N := by
  have e : ∀ t o, 300 ≤ t → t < 600 → τ t o = σ t o := fun t o h1 h2 => hs t o (Or.inl ⟨h1, h2⟩)
  have e2 : ∀ t, 700 ≤ t → t < 900 → τ t 10 = σ t 10 := fun t h1 h2 => hs t 10 (by omega)
  obtain ⟨h1, h2, h3, h4, h5, h6, h7, h8, h9, h10, h11⟩ := h
  refine ⟨geo_t h1 (e _ _ (by omega) (by omega)) (e _ _ (by omega) (by omega)) (e _ _ (by omega) (by omega)) (e _ _ (by omega) (by omega)) (e _ _ (by omega) (by omega)) (e _ _ (by omega) (by omega)), h2, h3, ?_, ?_, ?_, ?_, ?_, ?_, ?_, ?_⟩
  · rw [e 403 _ (by omega) (by omega)]; exact h4
  · rw [e 403 _ (by omega) (by omega)]; exact h5
  · rw [e 404 _ (by omega) (by omega)]; exact h6
  · rw [e 404 _ (by omega) (by omega)]; exact h7
  · rw [e 405 _ (by omega) (by omega)]; exact h8
  · rw [e 405 _ (by omega) (by omega)]; exact h9
  · unfold scK
    rw [e2 700 (by omega) (by omega), e2 701 (by omega) (by omega), e2 705 (by omega) (by omega)]
    exact h10
  · rw [e 404 _ (by omega) (by omega), e2 702 (by omega) (by omega)]; exact h11
theorem sg_dW {σ τ : St} {W H w : Int} {N : Nat} (hs : sg σ τ) : dW τ W H N w = dW σ W H N w := by
  have e : ∀ t o, 300 ≤ t → t < 600 → τ t o = σ t o := fun t o h1 h2 => hs t o (Or.inl ⟨h1, h2⟩)
  have e2 : ∀ t, 700 ≤ t → t < 900 → τ t 10 = σ t 10 := fun t h1 h2 => hs t 10 (by omega)
  unfold dW prc
  rw [e2 700 (by omega) (by omega), e2 701 (by omega) (by omega), e 403 _ (by omega) (by omega), e2 705 (by omega) (by omega), e 405 _ (by omega) (by omega), e2 702 (by omega) (by omega)]
/-- the first below m of which something holds -/
def fst1 (P : Nat → Bool) : Nat → Int
  | 0 => -1
  | m + 1 => if fst1 P m = -1 then (if P m then (m : Int) else -1) else fst1 P m
theorem fst1_no {P : Nat → Bool} : ∀ m, (∀ i, i < m → P i = false) → fst1 P m = -1
  | 0, _ => rfl
  | m + 1, h => by
    simp only [fst1]
    rw [fst1_no m (fun i hi => h i (by omega)), if_pos rfl, h m (by omega)]
    rfl
theorem fst1_at {P : Nat → Bool} {n : Nat} (hp : P n = true) (hb : ∀ i, i < n → P i = false) : ∀ m, n < m → fst1 P m = n
  | 0, h => by omega
  | m + 1, h => by
    simp only [fst1]
    by_cases e : n = m
    · subst e
      rw [fst1_no n hb, if_pos rfl, if_pos hp]
    · rw [fst1_at hp hb m (by omega), if_neg (by omega)]
def stP (W H : Int) (N : Nat) (C f : Int → Int) (z c : Int) : Nat → Bool := fun n => decide (stN W H N C f n z < far ∧ stN W H N C f n z ≤ c)
theorem L134 {d N : Nat} {w c s W H : Int} {T : Tt} {σ : St} {Q : vmO → vmH → Prop} {C f : Int → Int} (hW : hpW σ W H N) (h : wh2 W H) (hc : csIn C (W * H)) (hf : frIn f) (k0 : 0 ≤ c) (k1 : c < N) (s0 : 0 ≤ s) (s1 : s < 2147483648)
    (hQ : ∀ τ, sg σ τ → Q (.inl (some (.int (i32 (fst1 (stP W H N C f c s) 36))))) (E T τ)) :
    ∀ (m n : Nat) (K : Int → Int), n + m = 36 → (∀ i, i < n → stP W H N C f c s i = false) → Wp (d + 10) M_X11_steps 72 [.ref 0, .int (i32 w), .int (i32 c), .int (i32 s), .int (i32 n)] [] (E T (wsT σ C K (stN W H N C f n))) Q := by
  have h0 := ob_hp; have h2 := ob_st; have h3 := ob_p3; have hn := ob_n10; have hwy := ob_wy
  have hm := wh_mul h
  have hNw := hW.2.2.1
  have hfar : far = 1000000000 := rfl
  have hr := stN_in h hNw hc hf
  intro m
  induction m with
  | zero =>
    intro n K hn2 hb
    have hn2 : n = 36 := by omega
    subst hn2
    have hq := hQ _ (sg_ws (σ := σ) (C := C) (K := K) (F := stN W H N C f 36))
    rw [fst1_no 36 hb] at hq
    rw [w134_72]
    simp (disch := (first | assumption | omega | exact Nat.le_of_ble_eq_true rfl | rfl)) only [w134_0, w134_1, w134_2, w134_3, w134_6, w134_7, w134_10, w134_11, w134_14, w134_15, w134_18, w134_19, w134_22, w134_23, w134_26, w134_29, w134_30, w134_33, w134_36, w134_37, w134_40, w134_43, w134_44, w134_47, w134_50, w134_51, w134_54, w134_55, w134_58, w134_61, w134_64, w134_65, w134_66, w134_69, w134_70, w134_74, w134_76, w134_79, w134_80, w134_83, w134_84, w134_85, w134_88, w134_91, w134_93, w134_94, w134_95, w134_98, w134_99, w134_102, w134_105, w134_108, w134_111, w134_112, w134_113, w134_116, w134_119, w134_120, Ko_n, Ko_v, vX_i, vX_r, vX_l, vX_j, reduceIte, Nat.reduceAdd, show (36 : Int) ≤ ((36 : Nat) : Int) by omega]
    exact hq
  | succ m ih =>
    intro n K hn2 hb
    have hi := hr n c k0 (by omega)
    rw [w134_72]
    simp (disch := (first | assumption | omega | exact Nat.le_of_ble_eq_true rfl | rfl)) only [w134_0, w134_1, w134_2, w134_3, w134_6, w134_7, w134_10, w134_11, w134_14, w134_15, w134_18, w134_19, w134_22, w134_23, w134_26, w134_29, w134_30, w134_33, w134_36, w134_37, w134_40, w134_43, w134_44, w134_47, w134_50, w134_51, w134_54, w134_55, w134_58, w134_61, w134_64, w134_65, w134_66, w134_69, w134_70, w134_74, w134_76, w134_79, w134_80, w134_83, w134_84, w134_85, w134_88, w134_91, w134_93, w134_94, w134_95, w134_98, w134_99, w134_102, w134_105, w134_108, w134_111, w134_112, w134_113, w134_116, w134_119, w134_120, Ko_n, Ko_v, vX_i, vX_r, vX_l, vX_j, reduceIte, Nat.reduceAdd, show ¬ (36 : Int) ≤ (n : Int) by omega]
    rw [c102 (σ := wsT σ C K (stN W H N C f n)) hwy k0 (by omega) (by omega) s1 (by rw [wsT_1]; exact hi.1) (by rw [wsT_1]; exact hi.2), wsT_1]
    by_cases hx : stN W H N C f n c < far ∧ stN W H N C f n c ≤ s
    · rw [if_pos hx]
      have hq := hQ _ (sg_ws (σ := σ) (C := C) (K := K) (F := stN W H N C f n))
      rw [fst1_at (n := n) (decide_eq_true hx) hb 36 (by omega)] at hq
      simp (disch := (first | assumption | omega | exact Nat.le_of_ble_eq_true rfl | rfl)) only [w134_0, w134_1, w134_2, w134_3, w134_6, w134_7, w134_10, w134_11, w134_14, w134_15, w134_18, w134_19, w134_22, w134_23, w134_26, w134_29, w134_30, w134_33, w134_36, w134_37, w134_40, w134_43, w134_44, w134_47, w134_50, w134_51, w134_54, w134_55, w134_58, w134_61, w134_64, w134_65, w134_66, w134_69, w134_70, w134_74, w134_76, w134_79, w134_80, w134_83, w134_84, w134_85, w134_88, w134_91, w134_93, w134_94, w134_95, w134_98, w134_99, w134_102, w134_105, w134_108, w134_111, w134_112, w134_113, w134_116, w134_119, w134_120, Ko_n, Ko_v, vX_i, vX_r, vX_l, vX_j, reduceIte, Int.reduceEq]
      exact hq
    · rw [if_neg hx]
      have hb' : ∀ i, i < n + 1 → stP W H N C f c s i = false := fun i hi => by
        by_cases e : i = n
        · rw [e]; exact decide_eq_false hx
        · exact hb i (by omega)
      simp (disch := (first | assumption | omega | exact Nat.le_of_ble_eq_true rfl | rfl)) only [w134_0, w134_1, w134_2, w134_3, w134_6, w134_7, w134_10, w134_11, w134_14, w134_15, w134_18, w134_19, w134_22, w134_23, w134_26, w134_29, w134_30, w134_33, w134_36, w134_37, w134_40, w134_43, w134_44, w134_47, w134_50, w134_51, w134_54, w134_55, w134_58, w134_61, w134_64, w134_65, w134_66, w134_69, w134_70, w134_74, w134_76, w134_79, w134_80, w134_83, w134_84, w134_85, w134_88, w134_91, w134_93, w134_94, w134_95, w134_98, w134_99, w134_102, w134_105, w134_108, w134_111, w134_112, w134_113, w134_116, w134_119, w134_120, Ko_n, Ko_v, vX_i, vX_r, vX_l, vX_j, reduceIte, Nat.reduceAdd]
      rw [c109 (N := N) hwy h3 (geo_ws hW.1) h hNw (by rw [wsT_0]; exact hc) (by rw [wsT_1]; exact hr n), wsT_0, wsT_1, wsT_u]
      cases hl : ls (stp W H C (stN W H N C f n)) (stN W H N C f n) N with
      | false =>
        have a1 := stN_no h hNw hc hf n hl
        have hq := hQ _ (sg_ws (σ := σ) (C := C) (K := cp (stN W H N C f n) K 36) (F := cp (stp W H C (stN W H N C f n)) (stN W H N C f n) N))
        rw [fst1_no 36 (fun i hi => by
          by_cases e : i < n
          · exact hb i e
          · unfold stP
            rw [show i = n + (i - n) by omega, a1]
            exact decide_eq_false hx)] at hq
        simp (disch := (first | assumption | omega | exact Nat.le_of_ble_eq_true rfl | rfl)) only [w134_0, w134_1, w134_2, w134_3, w134_6, w134_7, w134_10, w134_11, w134_14, w134_15, w134_18, w134_19, w134_22, w134_23, w134_26, w134_29, w134_30, w134_33, w134_36, w134_37, w134_40, w134_43, w134_44, w134_47, w134_50, w134_51, w134_54, w134_55, w134_58, w134_61, w134_64, w134_65, w134_66, w134_69, w134_70, w134_74, w134_76, w134_79, w134_80, w134_83, w134_84, w134_85, w134_88, w134_91, w134_93, w134_94, w134_95, w134_98, w134_99, w134_102, w134_105, w134_108, w134_111, w134_112, w134_113, w134_116, w134_119, w134_120, Ko_n, Ko_v, vX_i, vX_r, vX_l, vX_j, reduceIte, Nat.reduceAdd, Bool.false_eq_true, wsT_2]
        exact hq
      | true =>
        simp (disch := (first | assumption | omega | exact Nat.le_of_ble_eq_true rfl | rfl)) only [w134_0, w134_1, w134_2, w134_3, w134_6, w134_7, w134_10, w134_11, w134_14, w134_15, w134_18, w134_19, w134_22, w134_23, w134_26, w134_29, w134_30, w134_33, w134_36, w134_37, w134_40, w134_43, w134_44, w134_47, w134_50, w134_51, w134_54, w134_55, w134_58, w134_61, w134_64, w134_65, w134_66, w134_69, w134_70, w134_74, w134_76, w134_79, w134_80, w134_83, w134_84, w134_85, w134_88, w134_91, w134_93, w134_94, w134_95, w134_98, w134_99, w134_102, w134_105, w134_108, w134_111, w134_112, w134_113, w134_116, w134_119, w134_120, Ko_n, Ko_v, vX_i, vX_r, vX_l, vX_j, reduceIte, Nat.reduceAdd, Int.reduceEq]
        exact ih (n + 1) _ (by omega) hb'
theorem c134 {d N : Nat} {k w c s W H : Int} {T : Tt} {σ : St} {Q : vmO → vmH → Prop} (hW : hpW σ W H N) (x0 : -2147483648 ≤ w) (x1 : w < 2147483648) (z0 : -2147483648 ≤ c) (z1 : c < 2147483648) (y0 : -2147483648 ≤ s) (y1 : s < 2147483648)
    (hQ1 : ¬ ((0 ≤ w ∧ w < σ 404 3 0) ∧ (0 ≤ c ∧ c < N)) → Q (.inr 0) (E (thr T) σ))
    (hQ2 : 0 ≤ w → w < σ 404 3 0 → 0 ≤ c → c < N → s < 0 → Q (.inr 1) (E (thr T) σ))
    (hQ3 : 0 ≤ w → w < σ 404 3 0 → 0 ≤ c → c < N → 0 ≤ s → ∀ τ, sg σ τ → Q (.inl (some (.int (i32 (fst1 (stP W H N (cW σ W H w) (std (cW σ W H w) (σ 702 10 w) (σ 1001 144)) c s) 36))))) (E T τ)) : Ca (d + 10) k 134 [.ref 0, .int (i32 w), .int (i32 c), .int (i32 s)] (E T σ) Q := by
  have h0 := ob_hp; have h2 := ob_st; have h3 := ob_p3; have hn := ob_n10; have hwy := ob_wy
  have hm := wh_mul0 hW.2.1
  have hNw := hW.2.2.1
  have hfar : far = 1000000000 := rfl
  have hN : σ 401 3 0 * σ 402 3 0 = (N : Int) := by rw [hW.1.1, hW.1.2.1, hW.2.2.1]
  have v0 := hW.2.2.2.2.2.1
  have v1 := hW.2.2.2.2.2.2.1
  have u0 := hW.2.2.2.2.2.2.2.1
  have u1 := hW.2.2.2.2.2.2.2.2.1
  have m0 := hW.2.2.2.1
  have m1 := hW.2.2.2.2.1
  have hS := hW.2.2.2.2.2.2.2.2.2.1
  rw [n134 _ _ _ _ _ _ _ _ _ h0]
  simp (disch := (first | assumption | omega | exact Nat.le_of_ble_eq_true rfl | rfl)) only [w134_0, w134_1, w134_2, w134_3, w134_6, w134_7, w134_10, w134_11, w134_14, w134_15, w134_18, w134_19, w134_22, w134_23, w134_26, w134_29, w134_30, w134_33, w134_36, w134_37, w134_40, w134_43, w134_44, w134_47, w134_50, w134_51, w134_54, w134_55, w134_58, w134_61, w134_64, w134_65, w134_66, w134_69, w134_70, w134_74, w134_76, w134_79, w134_80, w134_83, w134_84, w134_85, w134_88, w134_91, w134_93, w134_94, w134_95, w134_98, w134_99, w134_102, w134_105, w134_108, w134_111, w134_112, w134_113, w134_116, w134_119, w134_120, Ko_n, Ko_v, vX_i, vX_r, vX_l, vX_j, reduceIte]
  rw [c165 hN (by omega) (by omega) v0 v1 x0 x1 z0 z1]
  by_cases hv : (0 ≤ w ∧ w < σ 404 3 0) ∧ (0 ≤ c ∧ c < (N : Int))
  · rw [if_pos hv]
    obtain ⟨⟨w0, w1⟩, k0, k1⟩ := hv
    obtain ⟨h, w5, a0, a1⟩ := hpW_w hW w0 w1
    have hcs := cW_in (w := w) hW h
    by_cases hd : s < 0
    · simp (disch := (first | assumption | omega | exact Nat.le_of_ble_eq_true rfl | rfl)) only [w134_0, w134_1, w134_2, w134_3, w134_6, w134_7, w134_10, w134_11, w134_14, w134_15, w134_18, w134_19, w134_22, w134_23, w134_26, w134_29, w134_30, w134_33, w134_36, w134_37, w134_40, w134_43, w134_44, w134_47, w134_50, w134_51, w134_54, w134_55, w134_58, w134_61, w134_64, w134_65, w134_66, w134_69, w134_70, w134_74, w134_76, w134_79, w134_80, w134_83, w134_84, w134_85, w134_88, w134_91, w134_93, w134_94, w134_95, w134_98, w134_99, w134_102, w134_105, w134_108, w134_111, w134_112, w134_113, w134_116, w134_119, w134_120, Ko_n, Ko_v, vX_i, vX_r, vX_l, vX_j, reduceIte, Nat.reduceAdd, hd]
      rw [c169 (by omega) (Or.inl rfl), if_pos rfl, Ko_x rfl]
      exact hQ2 w0 w1 k0 k1 hd
    · simp (disch := (first | assumption | omega | exact Nat.le_of_ble_eq_true rfl | rfl)) only [w134_0, w134_1, w134_2, w134_3, w134_6, w134_7, w134_10, w134_11, w134_14, w134_15, w134_18, w134_19, w134_22, w134_23, w134_26, w134_29, w134_30, w134_33, w134_36, w134_37, w134_40, w134_43, w134_44, w134_47, w134_50, w134_51, w134_54, w134_55, w134_58, w134_61, w134_64, w134_65, w134_66, w134_69, w134_70, w134_74, w134_76, w134_79, w134_80, w134_83, w134_84, w134_85, w134_88, w134_91, w134_93, w134_94, w134_95, w134_98, w134_99, w134_102, w134_105, w134_108, w134_111, w134_112, w134_113, w134_116, w134_119, w134_120, Ko_n, Ko_v, vX_i, vX_r, vX_l, vX_j, reduceIte, Nat.reduceAdd, hd]
      rw [c169 (by omega) (Or.inr rfl), if_neg (by omega)]
      simp (disch := (first | assumption | omega | exact Nat.le_of_ble_eq_true rfl | rfl)) only [w134_0, w134_1, w134_2, w134_3, w134_6, w134_7, w134_10, w134_11, w134_14, w134_15, w134_18, w134_19, w134_22, w134_23, w134_26, w134_29, w134_30, w134_33, w134_36, w134_37, w134_40, w134_43, w134_44, w134_47, w134_50, w134_51, w134_54, w134_55, w134_58, w134_61, w134_64, w134_65, w134_66, w134_69, w134_70, w134_74, w134_76, w134_79, w134_80, w134_83, w134_84, w134_85, w134_88, w134_91, w134_93, w134_94, w134_95, w134_98, w134_99, w134_102, w134_105, w134_108, w134_111, w134_112, w134_113, w134_116, w134_119, w134_120, Ko_n, Ko_v, vX_i, vX_r, vX_l, vX_j, reduceIte, Nat.reduceAdd, c27]
      rw [c95 (N := W * H) hwy h3 hn hS.1 hS.2.1 m0 m1 hS.2.2.1 (by have := hS.2.2.2; omega) (by rw [hW.1.1, hW.1.2.1]) (by omega) (by omega)]
      simp (disch := (first | assumption | omega | exact Nat.le_of_ble_eq_true rfl | rfl)) only [w134_0, w134_1, w134_2, w134_3, w134_6, w134_7, w134_10, w134_11, w134_14, w134_15, w134_18, w134_19, w134_22, w134_23, w134_26, w134_29, w134_30, w134_33, w134_36, w134_37, w134_40, w134_43, w134_44, w134_47, w134_50, w134_51, w134_54, w134_55, w134_58, w134_61, w134_64, w134_65, w134_66, w134_69, w134_70, w134_74, w134_76, w134_79, w134_80, w134_83, w134_84, w134_85, w134_88, w134_91, w134_93, w134_94, w134_95, w134_98, w134_99, w134_102, w134_105, w134_108, w134_111, w134_112, w134_113, w134_116, w134_119, w134_120, Ko_n, Ko_v, vX_i, vX_r, vX_l, vX_j, reduceIte, Nat.reduceAdd, upA_t]
      have hz := hcs _ a0 a1
      rw [c97 hwy a0 (by omega) (by rw [upA_s]; exact hz.1) (by rw [upA_s]; exact hz.2.1), upA_s, upA_t (by omega), wsT_i]
      simp (disch := (first | assumption | omega | exact Nat.le_of_ble_eq_true rfl | rfl)) only [w134_0, w134_1, w134_2, w134_3, w134_6, w134_7, w134_10, w134_11, w134_14, w134_15, w134_18, w134_19, w134_22, w134_23, w134_26, w134_29, w134_30, w134_33, w134_36, w134_37, w134_40, w134_43, w134_44, w134_47, w134_50, w134_51, w134_54, w134_55, w134_58, w134_61, w134_64, w134_65, w134_66, w134_69, w134_70, w134_74, w134_76, w134_79, w134_80, w134_83, w134_84, w134_85, w134_88, w134_91, w134_93, w134_94, w134_95, w134_98, w134_99, w134_102, w134_105, w134_108, w134_111, w134_112, w134_113, w134_116, w134_119, w134_120, Ko_n, Ko_v, vX_i, vX_r, vX_l, vX_j, reduceIte, Nat.reduceAdd]
      exact L134 hW h hcs std_in k0 k1 (by omega) y1 (hQ3 w0 w1 k0 k1 (by omega)) 36 0 _ (by omega) (fun i hi => by omega)
  · rw [if_neg hv, Ko_x rfl]
    exact hQ1 hv
