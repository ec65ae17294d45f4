/-! ===== the reference: where one is, before any step ===== -/
theorem c264 {d : Nat} {k w B : Int} {K : Int → Int} {T : Tt} {σ : St} {Q : vmO → vmH → Prop} (hK : σ 1200 382 = K) (hv : kV K B) (hB : B < 900000000) (w0 : 0 ≤ w) (w1 : w < K 3)
    (hQ : ∀ τ, fq σ τ → τ 1200 382 = K → (∀ z, 0 ≤ z → z < K 1 * K 2 → τ 1219 382 z = rp (prK K w z)) → (∀ z, 0 ≤ z → z < K 1 * K 2 → τ 1220 382 z = if z = K (79 + w) then 0 else hiR) → Q (.inl none) (E T τ)) : Ca (d + 5) k 264 [.ref 382, .int (i32 w)] (E T σ) Q := by
  have h0 := ob_md
  have hhi : hiR = 536870912 := rfl
  have hN := nK_c hv.1
  obtain ⟨h2, h5, h6, h7⟩ := kV_w hv w0 w1
  have hm := wh_mul h2
  rw [n264 _ _ _ _ _ _ _ h0]
  simp (disch := (first | assumption | omega | exact Nat.le_of_ble_eq_true rfl | rfl)) only [w264_0, w264_1, w264_2, Ko_n, Ko_v, vX_i, vX_r, vX_l, vX_j, reduceIte]
  rw [c231 hK hv hB (by omega) (by omega)]
  have hP : ∀ z, 0 ≤ z → z < K 1 * K 2 → (upA σ 1219 382 (cp (prR K w) (σ 1219 382) (K 1 * K 2))) 1219 382 z = rp (prK K w z) := fun z z0 z1 => by
    rw [upA_s]
    unfold cp
    rw [if_pos ⟨z0, z1⟩]
    exact prR_rp hv.2.1 (by omega) z0 (by omega)
  have f1 : fq σ (upA σ 1219 382 (cp (prR K w) (σ 1219 382) (K 1 * K 2))) := fq_u fq_r (by omega)
  have k1 : (upA σ 1219 382 (cp (prR K w) (σ 1219 382) (K 1 * K 2))) 1200 382 = K := by rw [upA_t (by omega)]; exact hK
  generalize upA σ 1219 382 (cp (prR K w) (σ 1219 382) (K 1 * K 2)) = τ at hP f1 k1 ⊢
  have loop : ∀ (m n : Nat) (D : Int → Int), n + m = nK K → (∀ z : Int, 0 ≤ z → z < n → D z = if z = K (79 + w) then 0 else hiR) → Wp (d + 5) M_X12_laysHere 7 [.ref 382, .int (i32 w), .int (i32 n)] [] (E T (upA τ 1220 382 D)) Q := by
    intro m
    induction m with
    | zero =>
      intro n D hn hD
      have hn : n = nK K := by omega
      subst hn
      have kU : (upA τ 1220 382 D) 1200 382 = K := by rw [upA_t (by omega)]; exact k1
      have q := hQ (upA τ 1220 382 D) (fq_u f1 (by omega)) kU (fun z z0 z1 => by rw [upA_t (by omega)]; exact hP z z0 z1) (fun z z0 z1 => by rw [upA_s]; exact hD z z0 (by omega))
      rw [w264_7]
      simp (disch := (first | assumption | omega | exact Nat.le_of_ble_eq_true rfl | rfl)) only [w264_8, w264_9, Ko_n, Ko_v, vX_i, vX_r, vX_l, vX_j, reduceIte]
      rw [c210 kU]
      simp (disch := (first | assumption | omega | exact Nat.le_of_ble_eq_true rfl | rfl)) only [w264_12, w264_15, w264_16, w264_19, w264_20, w264_21, w264_22, w264_25, w264_27, w264_28, w264_29, w264_30, w264_33, w264_34, w264_37, w264_40, w264_41, w264_44, w264_47, Ko_n, Ko_v, vX_i, vX_r, vX_l, vX_j, reduceIte, hN, Int.le_refl]
      exact q
    | succ m ih =>
      intro n D hn hD
      have kU : (upA τ 1220 382 D) 1200 382 = K := by rw [upA_t (by omega)]; exact k1
      rw [w264_7]
      simp (disch := (first | assumption | omega | exact Nat.le_of_ble_eq_true rfl | rfl)) only [w264_8, w264_9, Ko_n, Ko_v, vX_i, vX_r, vX_l, vX_j, reduceIte]
      rw [c210 kU]
      by_cases e : (n : Int) = K (79 + w)
      · have i2 := ih (n + 1) (fu D n 0) (by omega) (fun z z0 z1 => by
          by_cases ez : z = n
          · rw [ez, fu_s, if_pos e]
          · rw [fu_n ez]; exact hD z z0 (by omega))
        rw [show ((n + 1 : Nat) : Int) = (n : Int) + 1 by omega] at i2
        simp (disch := (first | assumption | omega | exact Nat.le_of_ble_eq_true rfl | rfl)) only [w264_12, w264_15, w264_16, w264_19, w264_20, w264_21, w264_22, w264_25, w264_27, w264_28, w264_29, Ko_n, Ko_v, vX_i, vX_r, vX_l, vX_j, reduceIte, show ¬ K 1 * K 2 ≤ (n : Int) by omega, kU]
        rw [e] at i2 ⊢
        simp (disch := (first | assumption | omega | exact Nat.le_of_ble_eq_true rfl | rfl)) only [w264_30, w264_33, w264_34, w264_37, w264_40, w264_41, w264_44, Ko_n, Ko_v, vX_i, vX_r, vX_l, vX_j, reduceIte, not_true, upA_s, upA_upA]
        exact i2
      · have i2 := ih (n + 1) (fu D n 536870912) (by omega) (fun z z0 z1 => by
          by_cases ez : z = n
          · rw [ez, fu_s, if_neg e]; rfl
          · rw [fu_n ez]; exact hD z z0 (by omega))
        rw [show ((n + 1 : Nat) : Int) = (n : Int) + 1 by omega] at i2
        simp (disch := (first | assumption | omega | exact Nat.le_of_ble_eq_true rfl | rfl)) only [w264_12, w264_15, w264_16, w264_19, w264_20, w264_21, w264_22, w264_25, w264_27, w264_28, w264_29, w264_30, w264_33, w264_34, w264_37, w264_40, w264_41, w264_44, Ko_n, Ko_v, vX_i, vX_r, vX_l, vX_j, reduceIte, show ¬ K 1 * K 2 ≤ (n : Int) by omega, kU, e, not_false_eq_true, upA_s, upA_upA]
        exact i2
  have l0 := loop (nK K) 0 (τ 1220 382) (by omega) (fun z z0 z1 => by omega)
  rw [upA_self] at l0
  simp (disch := (first | assumption | omega | exact Nat.le_of_ble_eq_true rfl | rfl)) only [w264_5, w264_6, Ko_n, Ko_v, vX_i, vX_r, vX_l, vX_j, reduceIte]
  exact l0
