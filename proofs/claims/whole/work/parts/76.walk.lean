/-! ===== HedgePark: walk ===== -/
theorem why_w {σ : St} {W H w z : Int} (w0 : 0 ≤ w) (w1 : w < σ 404 3 0) (w5 : σ 404 3 0 ≤ 5) (z0 : 0 ≤ z) (z1 : z < W * H) (hm : W * H ≤ 36) : why σ 3 10 W H (100 * w + z) = if flI W H (opB (σ 700 10) (W * H)) (σ 702 10 w) 36 z then 0 else 2 := by
  unfold why
  rw [if_neg (by omega), if_neg (by omega), show (100 * w + z) % 100 = z by omega, show (100 * w + z) / 100 = w by omega, if_neg (fun v => v z1), if_pos w1]
theorem c121 {d N : Nat} {k w z W H : Int} {T : Tt} {σ : St} {Q : vmO → vmH → Prop} (hW : hpW σ W H N) (hs : sty σ 2) (x0 : -2147483648 ≤ w) (x1 : w < 2147483648) (z0 : -2147483648 ≤ z) (z1 : z < 2147483648)
    (hQ1 : ¬ ((0 ≤ w ∧ w < σ 404 3 0) ∧ (0 ≤ z ∧ z < N)) → Q (.inr 0) (E (thr T) σ))
    (hQ2 : 0 ≤ w → w < σ 404 3 0 → 0 ≤ z → z < N → flI W H (opB (σ 700 10) (W * H)) (σ 702 10 w) 36 z = false → Q (.inl (some (.int (i32 (-1))))) (E T σ))
    (hQ3 : 0 ≤ w → w < σ 404 3 0 → 0 ≤ z → z < N → flI W H (opB (σ 700 10) (W * H)) (σ 702 10 w) 36 z = true → Q (.inl (some (.int (i32 (dD W H (prc σ 3 10 (frB (σ 405 3 0) w)) (σ 702 10 w) N z))))) (E T (gtS (stR σ 2) 3 10 W H w z N))) : Ca (d + 10) k 121 [.ref 0, .int (i32 w), .int (i32 z)] (E T σ) Q := by
  have h0 := ob_hp; have h2 := ob_st; have h3 := ob_p3; have hn := ob_n10; have hde := ob_de
  have hm := wh_mul0 hW.2.1
  have hN : σ 401 3 0 * σ 402 3 0 = (N : Int) := by rw [hW.1.1, hW.1.2.1, hW.2.2.1]
  have hNw := hW.2.2.1
  have hw5 := hW.2.2.2.2.2.2.1
  rw [n121 _ _ _ _ _ _ _ _ h0]
  simp (disch := (first | assumption | omega | exact Nat.le_of_ble_eq_true rfl | rfl)) only [w121_0, w121_1, w121_2, w121_3, w121_6, w121_7, w121_10, w121_11, w121_14, w121_17, w121_18, w121_21, w121_24, w121_25, w121_26, w121_29, w121_30, w121_33, w121_36, w121_37, w121_38, w121_39, w121_42, w121_45, w121_46, w121_49, w121_50, w121_53, w121_56, w121_57, w121_60, w121_63, w121_64, w121_65, w121_68, Ko_n, Ko_v, vX_i, vX_r, vX_l, vX_j, reduceIte]
  rw [c165 hN (by omega) (by omega) hW.2.2.2.2.2.1 hw5 x0 x1 z0 z1]
  by_cases hv : (0 ≤ w ∧ w < σ 404 3 0) ∧ (0 ≤ z ∧ z < (N : Int))
  · rw [if_pos hv]
    obtain ⟨⟨w0, w1⟩, v0, v1⟩ := hv
    obtain ⟨hw2, w5, a0, a1⟩ := hpW_w hW w0 w1
    obtain ⟨hP, hS⟩ := hpW_k hW w0 w1
    simp (disch := (first | assumption | omega | exact Nat.le_of_ble_eq_true rfl | rfl)) only [w121_0, w121_1, w121_2, w121_3, w121_6, w121_7, w121_10, w121_11, w121_14, w121_17, w121_18, w121_21, w121_24, w121_25, w121_26, w121_29, w121_30, w121_33, w121_36, w121_37, w121_38, w121_39, w121_42, w121_45, w121_46, w121_49, w121_50, w121_53, w121_56, w121_57, w121_60, w121_63, w121_64, w121_65, w121_68, Ko_n, Ko_v, vX_i, vX_r, vX_l, vX_j, reduceIte, Nat.reduceAdd, c9]
    rw [c10 h3 hn hW.1 hW.2.1 hS.1 (by omega) (by omega) hW.2.2.2.2.2.1 hw5 (fun x hx => by have := hW.2.2.2.2.2.2.2.2.2.2 x hx; omega), why_w w0 w1 hw5 v0 (by omega) hm.2]
    cases hf : flI W H (opB (σ 700 10) (W * H)) (σ 702 10 w) 36 z with
    | false =>
      simp (disch := (first | assumption | omega | exact Nat.le_of_ble_eq_true rfl | rfl)) only [w121_0, w121_1, w121_2, w121_3, w121_6, w121_7, w121_10, w121_11, w121_14, w121_17, w121_18, w121_21, w121_24, w121_25, w121_26, w121_29, w121_30, w121_33, w121_36, w121_37, w121_38, w121_39, w121_42, w121_45, w121_46, w121_49, w121_50, w121_53, w121_56, w121_57, w121_60, w121_63, w121_64, w121_65, w121_68, Ko_n, Ko_v, vX_i, vX_r, vX_l, vX_j, reduceIte, Bool.false_eq_true, Int.reduceEq]
      exact hQ2 w0 w1 v0 v1 hf
    | true =>
      simp (disch := (first | assumption | omega | exact Nat.le_of_ble_eq_true rfl | rfl)) only [w121_0, w121_1, w121_2, w121_3, w121_6, w121_7, w121_10, w121_11, w121_14, w121_17, w121_18, w121_21, w121_24, w121_25, w121_26, w121_29, w121_30, w121_33, w121_36, w121_37, w121_38, w121_39, w121_42, w121_45, w121_46, w121_49, w121_50, w121_53, w121_56, w121_57, w121_60, w121_63, w121_64, w121_65, w121_68, Ko_n, Ko_v, vX_i, vX_r, vX_l, vX_j, reduceIte, Int.reduceEq, Nat.reduceAdd]
      rw [c84 h2 hs]
      simp (disch := (first | assumption | omega | exact Nat.le_of_ble_eq_true rfl | rfl)) only [w121_0, w121_1, w121_2, w121_3, w121_6, w121_7, w121_10, w121_11, w121_14, w121_17, w121_18, w121_21, w121_24, w121_25, w121_26, w121_29, w121_30, w121_33, w121_36, w121_37, w121_38, w121_39, w121_42, w121_45, w121_46, w121_49, w121_50, w121_53, w121_56, w121_57, w121_60, w121_63, w121_64, w121_65, w121_68, Ko_n, Ko_v, vX_i, vX_r, vX_l, vX_j, reduceIte, Nat.reduceAdd]
      have eo : ∀ t, t ≠ 803 → t ≠ 804 → stR σ 2 t 10 = σ t 10 := fun t a b => stR_o (by omega) a b
      have e3 : ∀ t o, (t < 700 ∨ 706 < t) → t ≠ 803 → t ≠ 804 → stR σ 2 t o = σ t o := fun t o a b c => stR_t a b c
      have hP' : plK (stR σ 2) 3 W H := by
        obtain ⟨p1, p2, p3, p4, p5, p6⟩ := hP
        refine ⟨geo_t p1 (e3 _ _ (by omega) (by omega) (by omega)) (e3 _ _ (by omega) (by omega) (by omega)) (e3 _ _ (by omega) (by omega) (by omega)) (e3 _ _ (by omega) (by omega) (by omega)) (e3 _ _ (by omega) (by omega) (by omega)) (e3 _ _ (by omega) (by omega) (by omega)), p2, ?_, ?_, ?_, ?_⟩
        · rw [e3 403 _ (by omega) (by omega) (by omega)]; exact p3
        · rw [e3 403 _ (by omega) (by omega) (by omega)]; exact p4
        · rw [e3 405 _ (by omega) (by omega) (by omega)]; exact p5
        · rw [e3 405 _ (by omega) (by omega) (by omega)]; exact p6
      have hS' : scK (stR σ 2) 10 := by
        unfold scK
        rw [eo 700 (by omega) (by omega), eo 701 (by omega) (by omega), eo 705 (by omega) (by omega)]
        exact hS
      have hprc : prc (stR σ 2) 3 10 (frB (stR σ 2 405 3 0) w) = prc σ 3 10 (frB (σ 405 3 0) w) := by
        unfold prc
        rw [eo 700 (by omega) (by omega), eo 701 (by omega) (by omega), eo 705 (by omega) (by omega), e3 403 _ (by omega) (by omega) (by omega), e3 405 _ (by omega) (by omega) (by omega)]
      rw [c12 (σ := stR σ 2) (N := N) h3 hn hP' hS' hNw w0 w5 (by rw [eo 702 (by omega) (by omega)]; exact a0) (by rw [eo 702 (by omega) (by omega)]; exact a1) v0 (by omega)]
      have hcs := cst_cs (e := stR σ 2 1000 180) (wi := wiB (σ 403 3 0) (σ 705 10 0)) (fr := frB (σ 405 3 0) w) (N := W * H) (by omega) hS.1 hS.2.1
      have hag : agr (W * H) (cp (prc σ 3 10 (frB (σ 405 3 0) w)) (stR σ 2 1000 180) (W * H)) (prc σ 3 10 (frB (σ 405 3 0) w)) := fun j j0 j1 => cp_lt j0 j1
      have hsp := spr_dD (g := stR σ 2 1001 180) (o := stR σ 2 1005 180) hw2 hag hcs hNw a0 a1
      rw [hprc, eo 702 (by omega) (by omega), hsp z v0 (by omega)]
      simp (disch := (first | assumption | omega | exact Nat.le_of_ble_eq_true rfl | rfl)) only [w121_0, w121_1, w121_2, w121_3, w121_6, w121_7, w121_10, w121_11, w121_14, w121_17, w121_18, w121_21, w121_24, w121_25, w121_26, w121_29, w121_30, w121_33, w121_36, w121_37, w121_38, w121_39, w121_42, w121_45, w121_46, w121_49, w121_50, w121_53, w121_56, w121_57, w121_60, w121_63, w121_64, w121_65, w121_68, Ko_n, Ko_v, vX_i, vX_r, vX_l, vX_j, reduceIte]
      exact hQ3 w0 w1 v0 v1 hf
  · rw [if_neg hv, Ko_x rfl]
    exact hQ1 hv
