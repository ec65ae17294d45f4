/-! ===== HedgePark: soonest, ways ===== -/
/-- what every call on walkers rests on -/
def hpW (σ : St) (W H : Int) (N : Nat) : Prop := geo σ 3 W H ∧ whOk W H ∧ (N : Int) = W * H ∧ 0 ≤ σ 403 3 0 ∧ σ 403 3 0 ≤ 9 ∧ 0 ≤ σ 404 3 0 ∧ σ 404 3 0 ≤ 5 ∧ 0 ≤ σ 405 3 0 ∧ σ 405 3 0 < 32 ∧ scK σ 10 ∧ ∀ w : Nat, (w : Int) < σ 404 3 0 → 0 ≤ σ 702 10 w ∧ σ 702 10 w < W * H
theorem hpW_w {σ : St} {W H w : Int} {N : Nat} (h : hpW σ W H N) (w0 : 0 ≤ w) (w1 : w < σ 404 3 0) : wh2 W H ∧ w < 5 ∧ 0 ≤ σ 702 10 w ∧ σ 702 10 w < W * H := by
  obtain ⟨h1, h2, h3, h4, h5, h6, h7, h8, h9, h10, h11⟩ := h
  have := h11 w.toNat (by omega)
  rw [show ((w.toNat : Nat) : Int) = w by omega] at this
  refine ⟨?_, by omega, this.1, this.2⟩
  rcases h2 with ⟨rfl, rfl⟩ | h2
  · omega
  · exact h2
theorem hpW_k {σ : St} {W H w : Int} {N : Nat} (h : hpW σ W H N) (w0 : 0 ≤ w) (w1 : w < σ 404 3 0) : plK σ 3 W H ∧ scK σ 10 := ⟨⟨h.1, (hpW_w h w0 w1).1, h.2.2.2.1, h.2.2.2.2.1, h.2.2.2.2.2.2.2.1, h.2.2.2.2.2.2.2.2.1⟩, h.2.2.2.2.2.2.2.2.2.1⟩
theorem c130 {d N : Nat} {k w z W H : Int} {T : Tt} {σ : St} {Q : vmO → vmH → Prop} (hW : hpW σ W H N) (x0 : -2147483648 ≤ w) (x1 : w < 2147483648) (z0 : -2147483648 ≤ z) (z1 : z < 2147483648)
    (hQ1 : ¬ ((0 ≤ w ∧ w < σ 404 3 0) ∧ (0 ≤ z ∧ z < N)) → Q (.inr 0) (E (thr T) σ))
    (hQ2 : 0 ≤ w → w < σ 404 3 0 → 0 ≤ z → z < N → ∀ C X, Q (.inl (some (.int (i32 (if dD W H (prc σ 3 10 (frB (σ 405 3 0) w)) (σ 702 10 w) N z < far then dD W H (prc σ 3 10 (frB (σ 405 3 0) w)) (σ 702 10 w) N z else -1))))) (E T (wyD (upA σ 1000 144 C) 144 X))) : Ca (d + 10) k 130 [.ref 0, .int (i32 w), .int (i32 z)] (E T σ) Q := by
  have h0 := ob_hp; have h2 := ob_st; have h3 := ob_p3; have hn := ob_n10; have hwy := ob_wy
  have hm := wh_mul0 hW.2.1
  have hN : σ 401 3 0 * σ 402 3 0 = (N : Int) := by rw [hW.1.1, hW.1.2.1, hW.2.2.1]
  have hNw := hW.2.2.1
  rw [n130 _ _ _ _ _ _ _ _ h0]
  simp (disch := (first | assumption | omega | exact Nat.le_of_ble_eq_true rfl | rfl)) only [w130_0, w130_1, w130_2, w130_3, w130_6, w130_7, w130_10, w130_11, w130_14, w130_17, w130_18, w130_21, w130_24, w130_25, w130_28, w130_29, w130_32, w130_35, w130_36, w130_37, w130_40, Ko_n, Ko_v, vX_i, vX_r, vX_l, vX_j, reduceIte]
  rw [c165 hN (by omega) (by omega) hW.2.2.2.2.2.1 hW.2.2.2.2.2.2.1 x0 x1 z0 z1]
  by_cases hv : (0 ≤ w ∧ w < σ 404 3 0) ∧ (0 ≤ z ∧ z < (N : Int))
  · rw [if_pos hv]
    obtain ⟨⟨w0, w1⟩, v0, v1⟩ := hv
    obtain ⟨hw2, w5, a0, a1⟩ := hpW_w hW w0 w1
    obtain ⟨hP, hS⟩ := hpW_k hW w0 w1
    have hcs := cst_cs (e := σ 1000 144) (wi := wiB (σ 403 3 0) (σ 705 10 0)) (fr := frB (σ 405 3 0) w) (N := W * H) (by omega) hS.1 hS.2.1
    have hag : agr (W * H) (cp (prc σ 3 10 (frB (σ 405 3 0) w)) (σ 1000 144) (W * H)) (prc σ 3 10 (frB (σ 405 3 0) w)) := fun j j0 j1 => cp_lt j0 j1
    have hsp := spr_dD (g := σ 1001 144) (o := σ 1005 144) hw2 hag hcs hNw a0 a1
    have hfr := dj_frIn (c := cp (prc σ 3 10 (frB (σ 405 3 0) w)) (σ 1000 144) (W * H)) (g := σ 1001 144) (o := σ 1005 144) (z := σ 702 10 w) hw2 hcs hNw z v0 (by omega)
    simp (disch := (first | assumption | omega | exact Nat.le_of_ble_eq_true rfl | rfl)) only [w130_0, w130_1, w130_2, w130_3, w130_6, w130_7, w130_10, w130_11, w130_14, w130_17, w130_18, w130_21, w130_24, w130_25, w130_28, w130_29, w130_32, w130_35, w130_36, w130_37, w130_40, Ko_n, Ko_v, vX_i, vX_r, vX_l, vX_j, reduceIte, Nat.reduceAdd]
    rw [c96 (N := N) hwy h3 hn hP hS hNw w0 w5 a0 a1]
    have e1 : ∀ C X, wyD (upA σ 1000 144 C) 144 X 1001 144 = X.1 := fun C X => wy1
    simp (disch := (first | assumption | omega | exact Nat.le_of_ble_eq_true rfl | rfl)) only [w130_0, w130_1, w130_2, w130_3, w130_6, w130_7, w130_10, w130_11, w130_14, w130_17, w130_18, w130_21, w130_24, w130_25, w130_28, w130_29, w130_32, w130_35, w130_36, w130_37, w130_40, Ko_n, Ko_v, vX_i, vX_r, vX_l, vX_j, reduceIte, Nat.reduceAdd, e1]
    rw [c171 (by omega) hfr.1 hfr.2, hsp z v0 (by omega)]
    simp (disch := (first | assumption | omega | exact Nat.le_of_ble_eq_true rfl | rfl)) only [w130_0, w130_1, w130_2, w130_3, w130_6, w130_7, w130_10, w130_11, w130_14, w130_17, w130_18, w130_21, w130_24, w130_25, w130_28, w130_29, w130_32, w130_35, w130_36, w130_37, w130_40, Ko_n, Ko_v, vX_i, vX_r, vX_l, vX_j, reduceIte]
    exact hQ2 w0 w1 v0 v1 _ _
  · rw [if_neg hv, Ko_x rfl]
    exact hQ1 hv
