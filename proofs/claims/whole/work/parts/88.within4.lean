/-! ===== HedgePark: within ===== -/
/-- the prices of a walker, as they lie in the rows of ways -/
def cW (σ : St) (W H w : Int) : Int → Int := cp (prc σ 3 10 (frB (σ 405 3 0) w)) (σ 1000 144) (W * H)
theorem cW_in {σ : St} {W H w : Int} {N : Nat} (hW : hpW σ W H N) (h : wh2 W H) : csIn (cW σ W H w) (W * H) := by
  have hm := wh_mul h
  exact cst_cs (by omega) hW.2.2.2.2.2.2.2.2.2.1.1 hW.2.2.2.2.2.2.2.2.2.1.2.1
theorem c133 {d N : Nat} {k w c s W H : Int} {T : Tt} {σ : St} {Q : vmO → vmH → Prop} (hk : 4 ≤ k) (hW : hpW σ W H N) (x0 : -2147483648 ≤ w) (x1 : w < 2147483648) (z0 : -2147483648 ≤ c) (z1 : c < 2147483648) (y0 : -2147483648 ≤ s) (y1 : s < 2147483648)
    (hQ1 : ¬ ((0 ≤ w ∧ w < σ 404 3 0) ∧ (0 ≤ c ∧ c < N)) → Q (.inr 0) (E (thr T) σ))
    (hQ2 : 0 ≤ w → w < σ 404 3 0 → 0 ≤ c → c < N → ¬ (0 ≤ s ∧ s ≤ 99) → Q (.inr 1) (E (thr T) σ))
    (hQ3 : 0 ≤ w → w < σ 404 3 0 → 0 ≤ c → c < N → 0 ≤ s → s ≤ 99 → ∀ K F, F = stN W H N (cW σ W H w) (std (cW σ W H w) (σ 702 10 w) (σ 1001 144)) s.toNat → Q (.inl (some (.int (i32 (if F c < far then F c else -1))))) (E T (wsT σ (cW σ W H w) K F))) : Ca (d + 10) k 133 [.ref 0, .int (i32 w), .int (i32 c), .int (i32 s)] (E T σ) Q := by
  have h0 := ob_hp; have h2 := ob_st; have h3 := ob_p3; have hn := ob_n10; have hwy := ob_wy
  have hm := wh_mul0 hW.2.1
  have hNw := hW.2.2.1
  have hfar : far = 1000000000 := rfl
  have hN : σ 401 3 0 * σ 402 3 0 = (N : Int) := by rw [hW.1.1, hW.1.2.1, hW.2.2.1]
  have v0 := hW.2.2.2.2.2.1
  have v1 := hW.2.2.2.2.2.2.1
  have u0 := hW.2.2.2.2.2.2.2.1
  have u1 := hW.2.2.2.2.2.2.2.2.1
  have m0 := hW.2.2.2.1
  have m1 := hW.2.2.2.2.1
  have hS := hW.2.2.2.2.2.2.2.2.2.1
  rw [n133 _ _ _ _ _ _ _ _ _ h0]
  simp (disch := (first | assumption | omega | exact Nat.le_of_ble_eq_true rfl | rfl)) only [w133_0, w133_1, w133_2, w133_3, w133_6, w133_7, w133_10, w133_11, w133_13, w133_16, w133_17, w133_20, w133_21, w133_24, w133_25, w133_28, w133_29, w133_32, w133_35, w133_36, w133_39, w133_42, w133_43, w133_46, w133_49, w133_50, w133_53, w133_56, w133_57, w133_60, w133_61, w133_64, w133_67, w133_70, w133_71, w133_72, w133_75, w133_76, w133_78, w133_79, w133_83, w133_84, w133_87, w133_89, w133_92, w133_93, w133_96, w133_97, w133_100, w133_103, w133_106, w133_108, w133_111, w133_114, w133_115, w133_118, w133_121, w133_122, w133_123, w133_126, Ko_n, Ko_v, vX_i, vX_r, vX_l, vX_j, reduceIte]
  rw [c165 hN (by omega) (by omega) v0 v1 x0 x1 z0 z1]
  by_cases hv : (0 ≤ w ∧ w < σ 404 3 0) ∧ (0 ≤ c ∧ c < (N : Int))
  · rw [if_pos hv]
    obtain ⟨⟨w0, w1⟩, k0, k1⟩ := hv
    obtain ⟨h, w5, a0, a1⟩ := hpW_w hW w0 w1
    have hcs := cW_in (w := w) hW h
    by_cases hd : 0 ≤ s ∧ s ≤ 99
    · simp (disch := (first | assumption | omega | exact Nat.le_of_ble_eq_true rfl | rfl)) only [w133_0, w133_1, w133_2, w133_3, w133_6, w133_7, w133_10, w133_11, w133_13, w133_16, w133_17, w133_20, w133_21, w133_24, w133_25, w133_28, w133_29, w133_32, w133_35, w133_36, w133_39, w133_42, w133_43, w133_46, w133_49, w133_50, w133_53, w133_56, w133_57, w133_60, w133_61, w133_64, w133_67, w133_70, w133_71, w133_72, w133_75, w133_76, w133_78, w133_79, w133_83, w133_84, w133_87, w133_89, w133_92, w133_93, w133_96, w133_97, w133_100, w133_103, w133_106, w133_108, w133_111, w133_114, w133_115, w133_118, w133_121, w133_122, w133_123, w133_126, Ko_n, Ko_v, vX_i, vX_r, vX_l, vX_j, reduceIte, Nat.reduceAdd, show ¬ s < 0 by omega, show ¬ 99 < s by omega]
      rw [c169 (by omega) (Or.inr rfl), if_neg (by omega)]
      simp (disch := (first | assumption | omega | exact Nat.le_of_ble_eq_true rfl | rfl)) only [w133_0, w133_1, w133_2, w133_3, w133_6, w133_7, w133_10, w133_11, w133_13, w133_16, w133_17, w133_20, w133_21, w133_24, w133_25, w133_28, w133_29, w133_32, w133_35, w133_36, w133_39, w133_42, w133_43, w133_46, w133_49, w133_50, w133_53, w133_56, w133_57, w133_60, w133_61, w133_64, w133_67, w133_70, w133_71, w133_72, w133_75, w133_76, w133_78, w133_79, w133_83, w133_84, w133_87, w133_89, w133_92, w133_93, w133_96, w133_97, w133_100, w133_103, w133_106, w133_108, w133_111, w133_114, w133_115, w133_118, w133_121, w133_122, w133_123, w133_126, Ko_n, Ko_v, vX_i, vX_r, vX_l, vX_j, reduceIte, Nat.reduceAdd, c27]
      rw [c95 (N := W * H) hwy h3 hn hS.1 hS.2.1 m0 m1 hS.2.2.1 (by have := hS.2.2.2; omega) (by rw [hW.1.1, hW.1.2.1]) (by omega) (by omega)]
      simp (disch := (first | assumption | omega | exact Nat.le_of_ble_eq_true rfl | rfl)) only [w133_0, w133_1, w133_2, w133_3, w133_6, w133_7, w133_10, w133_11, w133_13, w133_16, w133_17, w133_20, w133_21, w133_24, w133_25, w133_28, w133_29, w133_32, w133_35, w133_36, w133_39, w133_42, w133_43, w133_46, w133_49, w133_50, w133_53, w133_56, w133_57, w133_60, w133_61, w133_64, w133_67, w133_70, w133_71, w133_72, w133_75, w133_76, w133_78, w133_79, w133_83, w133_84, w133_87, w133_89, w133_92, w133_93, w133_96, w133_97, w133_100, w133_103, w133_106, w133_108, w133_111, w133_114, w133_115, w133_118, w133_121, w133_122, w133_123, w133_126, Ko_n, Ko_v, vX_i, vX_r, vX_l, vX_j, reduceIte, Nat.reduceAdd, upA_t]
      have hz := hcs _ a0 a1
      rw [c97 hwy a0 (by omega) (by rw [upA_s]; exact hz.1) (by rw [upA_s]; exact hz.2.1), upA_s, upA_t (by omega), wsT_i]
      simp (disch := (first | assumption | omega | exact Nat.le_of_ble_eq_true rfl | rfl)) only [w133_0, w133_1, w133_2, w133_3, w133_6, w133_7, w133_10, w133_11, w133_13, w133_16, w133_17, w133_20, w133_21, w133_24, w133_25, w133_28, w133_29, w133_32, w133_35, w133_36, w133_39, w133_42, w133_43, w133_46, w133_49, w133_50, w133_53, w133_56, w133_57, w133_60, w133_61, w133_64, w133_67, w133_70, w133_71, w133_72, w133_75, w133_76, w133_78, w133_79, w133_83, w133_84, w133_87, w133_89, w133_92, w133_93, w133_96, w133_97, w133_100, w133_103, w133_106, w133_108, w133_111, w133_114, w133_115, w133_118, w133_121, w133_122, w133_123, w133_126, Ko_n, Ko_v, vX_i, vX_r, vX_l, vX_j, reduceIte, Nat.reduceAdd]
      exact L133 hW h hcs std_in k0 k1 hd.1 hd.2 (fun K => hQ3 w0 w1 k0 k1 hd.1 hd.2 K _ rfl) s.toNat 0 _ true (by omega) (fun e => by cases e)
    · have hq := hQ2 w0 w1 k0 k1 hd
      by_cases d2 : s < 0
      · simp (disch := (first | assumption | omega | exact Nat.le_of_ble_eq_true rfl | rfl)) only [w133_0, w133_1, w133_2, w133_3, w133_6, w133_7, w133_10, w133_11, w133_13, w133_16, w133_17, w133_20, w133_21, w133_24, w133_25, w133_28, w133_29, w133_32, w133_35, w133_36, w133_39, w133_42, w133_43, w133_46, w133_49, w133_50, w133_53, w133_56, w133_57, w133_60, w133_61, w133_64, w133_67, w133_70, w133_71, w133_72, w133_75, w133_76, w133_78, w133_79, w133_83, w133_84, w133_87, w133_89, w133_92, w133_93, w133_96, w133_97, w133_100, w133_103, w133_106, w133_108, w133_111, w133_114, w133_115, w133_118, w133_121, w133_122, w133_123, w133_126, Ko_n, Ko_v, vX_i, vX_r, vX_l, vX_j, reduceIte, Nat.reduceAdd, d2]
        rw [c169 (by omega) (Or.inl rfl), if_pos rfl, Ko_x rfl]
        exact hq
      · simp (disch := (first | assumption | omega | exact Nat.le_of_ble_eq_true rfl | rfl)) only [w133_0, w133_1, w133_2, w133_3, w133_6, w133_7, w133_10, w133_11, w133_13, w133_16, w133_17, w133_20, w133_21, w133_24, w133_25, w133_28, w133_29, w133_32, w133_35, w133_36, w133_39, w133_42, w133_43, w133_46, w133_49, w133_50, w133_53, w133_56, w133_57, w133_60, w133_61, w133_64, w133_67, w133_70, w133_71, w133_72, w133_75, w133_76, w133_78, w133_79, w133_83, w133_84, w133_87, w133_89, w133_92, w133_93, w133_96, w133_97, w133_100, w133_103, w133_106, w133_108, w133_111, w133_114, w133_115, w133_118, w133_121, w133_122, w133_123, w133_126, Ko_n, Ko_v, vX_i, vX_r, vX_l, vX_j, reduceIte, Nat.reduceAdd, d2, show 99 < s by omega]
        rw [c169 (by omega) (Or.inl rfl), if_pos rfl, Ko_x rfl]
        exact hq
  · rw [if_neg hv, Ko_x rfl]
    exact hQ1 hv
