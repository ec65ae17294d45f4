/-! ===== the reference: shutOff ===== -/
theorem c282 {d : Nat} {k w t B : Int} {K : Int → Int} {T : Tt} {σ : St} {Q : vmO → vmH → Prop} (hK : σ 1200 382 = K) (hv : kV K B) (hB : B < 900000000) (x0 : -2147483648 ≤ w) (x1 : w < 2147483648) (y0 : -2147483648 ≤ t) (y1 : t < 2147483648)
    (hQ1 : ¬ wzI K w t → ∀ τ, fT σ τ → τ 1200 382 = K → τ 1204 382 0 = 1 → Q (.inl (some (.int (i32 0)))) (E T τ))
    (hQ2 : wzI K w t → K (79 + w) ≠ t → ¬ dK K w t < far → ∀ τ, fT σ τ → τ 1200 382 = K → τ 1204 382 0 = 0 → Q (.inl (some (.int (i32 0)))) (E T τ))
    (hQ3 : wzI K w t → (K (79 + w) = t ∨ (dK K w t < far ∧ ∃ e : Int, 0 ≤ e ∧ e < 4 ∧ bsC (K 1) (K 2) (K (79 + w)) e = t)) → ∀ τ, fT σ τ → τ 1200 382 = K → τ 1204 382 0 = 0 → Q (.inl (some (.int (i32 (-1))))) (E T τ))
    (hQ4 : wzI K w t → K (79 + w) ≠ t → dK K w t < far → (¬ ∃ e : Int, 0 ≤ e ∧ e < 4 ∧ bsC (K 1) (K 2) (K (79 + w)) e = t) → ∀ l : Nat, l ≤ 4 → (∀ j : Nat, j < l → ¬ shS K w t j (fun _ => false) 0) → (l < 4 → shS K w t l (fun _ => false) 0) → ∀ τ, fT σ τ → τ 1200 382 = K → τ 1204 382 0 = 0 → Q (.inl (some (.int (i32 l)))) (E T τ)) : Ca (d + 10) k 282 [.ref 382, .int (i32 w), .int (i32 t)] (E T σ) Q := by
  have h0 := ob_md
  have hfar : far = 1000000000 := rfl
  have hN := nK_c hv.1
  have kU : ∀ u, (upA σ 1204 382 fun _ => u) 1200 382 = K := fun u => by rw [upA_t (by omega)]; exact hK
  have fU : ∀ u, fT σ (upA σ 1204 382 fun _ => u) := fun u => fT_u fT_r (by omega)
  have sU : ∀ u, (upA σ 1204 382 fun _ => u) 1204 382 0 = u := fun u => by rw [upA_s]
  rw [n282 _ _ _ _ _ _ _ _ h0]
  simp (disch := (first | assumption | omega | exact Nat.le_of_ble_eq_true rfl | rfl)) only [w282_0, w282_1, w282_2, w282_3, Ko_n, Ko_v, vX_i, vX_r, vX_l, vX_j, reduceIte]
  refine c237 hK hv x0 x1 y0 y1 (fun a => ?_) (fun a => ?_)
  · have wz := a
    obtain ⟨⟨w0, w1⟩, t0, t1⟩ := a
    obtain ⟨h2, h5, h6, h7⟩ := kV_w hv w0 w1
    have hm := wh_mul h2
    have db := dK_b hv w0 w1 t0 t1
    by_cases e1 : K (79 + w) = t
    · have q := hQ3 wz (Or.inl e1) _ (fU 0) (kU 0) (sU 0)
      simp (disch := (first | assumption | omega | exact Nat.le_of_ble_eq_true rfl | rfl)) only [w282_6, w282_9, w282_10, w282_11, w282_12, w282_15, w282_17, w282_18, w282_19, w282_20, Ko_n, Ko_v, vX_i, vX_r, vX_l, vX_j, reduceIte, kU]
      simp (disch := (first | assumption | omega | exact Nat.le_of_ble_eq_true rfl | rfl)) only [w282_21, w282_22, w282_23, w282_26, w282_27, w282_28, w282_29, w282_32, w282_33, w282_36, w282_37, w282_38, w282_39, w282_40, w282_43, w282_44, w282_45, w282_46, w282_49, w282_52, w282_53, Ko_n, Ko_v, vX_i, vX_r, vX_l, vX_j, reduceIte, e1]
      exact q
    · simp (disch := (first | assumption | omega | exact Nat.le_of_ble_eq_true rfl | rfl)) only [w282_6, w282_9, w282_10, w282_11, w282_12, w282_15, w282_17, w282_18, w282_19, w282_20, w282_21, w282_22, w282_23, w282_26, w282_27, w282_28, w282_29, Ko_n, Ko_v, vX_i, vX_r, vX_l, vX_j, reduceIte, kU, e1]
      refine c236 (kU 0) hv hB w0 w1 t0 t1 fun τ g1 g2 g3 => ?_
      have ft := fT_q g1
      by_cases e2 : dK K w t < far
      · rw [show orN (dK K w t) = dK K w t from if_pos e2]
        simp (disch := (first | assumption | omega | exact Nat.le_of_ble_eq_true rfl | rfl)) only [w282_32, w282_33, w282_36, w282_37, w282_38, w282_39, w282_40, w282_43, w282_44, w282_45, w282_46, Ko_n, Ko_v, vX_i, vX_r, vX_l, vX_j, reduceIte, show ¬ dK K w t = -1 by omega, not_false_eq_true, e1]
        refine c281 g2 h2 h6.1 h6.2 t0 t1 (fun e3 => ?_) (fun e3 => ?_)
        · have q := hQ3 wz (Or.inr ⟨e2, e3⟩) τ ft.1 g2 ft.2
          simp (disch := (first | assumption | omega | exact Nat.le_of_ble_eq_true rfl | rfl)) only [w282_49, w282_52, w282_53, Ko_n, Ko_v, vX_i, vX_r, vX_l, vX_j, reduceIte, Int.reduceEq]
          exact q
        · have hq := hQ4 wz e1 e2 e3
          have loop : ∀ (m l : Nat) (τ : St), l + m = 4 → fq (upA σ 1204 382 fun _ => 0) τ → τ 1200 382 = K → (∀ j : Nat, j < l → ¬ shS K w t j (fun _ => false) 0) → Wp (d + 10) M_X12_shutOff 57 [.ref 382, .int (i32 w), .int (i32 t), .int (i32 (K (79 + w))), .int (i32 l)] [] (E T τ) Q := by
            intro m
            induction m with
            | zero =>
              intro l τ hl g1 g2 hno
              have hl : l = 4 := by omega
              subst hl
              have ft := fT_q g1
              have q := hq 4 (by omega) hno (fun x => by omega) τ ft.1 g2 ft.2
              rw [w282_57]
              simp (disch := (first | assumption | omega | exact Nat.le_of_ble_eq_true rfl | rfl)) only [w282_59, w282_60, w282_63, w282_64, w282_65, w282_66, w282_67, w282_68, w282_70, w282_73, w282_76, w282_78, w282_79, w282_82, w282_85, w282_86, Ko_n, Ko_v, vX_i, vX_r, vX_l, vX_j, reduceIte, show (4 : Int) ≤ ((4 : Nat) : Int) by omega]
              exact q
            | succ m ih =>
              intro l τ hl g1 g2 hno
              rw [w282_57]
              simp (disch := (first | assumption | omega | exact Nat.le_of_ble_eq_true rfl | rfl)) only [w282_59, w282_60, w282_63, w282_64, w282_65, w282_66, w282_67, w282_68, w282_70, Ko_n, Ko_v, vX_i, vX_r, vX_l, vX_j, reduceIte, show ¬ (4 : Int) ≤ (l : Int) by omega]
              rw [bs_none]
              have e : d + 4 - l + 5 + l = d + 9 := by omega
              conv => arg 1; rw [← e]
              refine c280 hv hB w0 w1 t0 t1 l (d + 4 - l) _ (fun _ => false) 0 τ _ (by omega) g2 rfl (by omega) (by omega) (fun x ρ r1 r2 => ?_) (fun x ρ r1 r2 => ?_)
              · have ft := fT_q (fq_t g1 r1)
                have q := hq l (by omega) hno (fun _ => x) ρ ft.1 r2 ft.2
                simp (disch := (first | assumption | omega | exact Nat.le_of_ble_eq_true rfl | rfl)) only [w282_73, w282_76, w282_78, Ko_n, Ko_v, vX_i, vX_r, vX_l, vX_j, reduceIte, Int.reduceEq]
                exact q
              · simp (disch := (first | assumption | omega | exact Nat.le_of_ble_eq_true rfl | rfl)) only [w282_73, w282_76, w282_78, w282_79, w282_82, Ko_n, Ko_v, vX_i, vX_r, vX_l, vX_j, reduceIte]
                refine ih (l + 1) ρ (by omega) (fq_t g1 r1) r2 (fun j hj => ?_)
                by_cases ej : j = l
                · rw [ej]; exact x
                · exact hno j (by omega)
          simp (disch := (first | assumption | omega | exact Nat.le_of_ble_eq_true rfl | rfl)) only [w282_49, w282_52, w282_53, w282_54, w282_55, Ko_n, Ko_v, vX_i, vX_r, vX_l, vX_j, reduceIte]
          exact loop 4 0 τ (by omega) g1 g2 (fun j hj => by omega)
      · have q := hQ2 wz e1 e2 τ ft.1 g2 ft.2
        rw [show orN (dK K w t) = -1 from if_neg e2]
        simp (disch := (first | assumption | omega | exact Nat.le_of_ble_eq_true rfl | rfl)) only [w282_32, w282_33, w282_36, w282_37, w282_38, w282_39, w282_40, w282_43, w282_44, w282_45, w282_46, w282_49, w282_52, w282_53, Ko_n, Ko_v, vX_i, vX_r, vX_l, vX_j, reduceIte, not_true]
        exact q
  · simp (disch := (first | assumption | omega | exact Nat.le_of_ble_eq_true rfl | rfl)) only [w282_6, w282_9, w282_10, w282_11, w282_12, w282_15, w282_17, w282_18, w282_19, Ko_n, Ko_v, vX_i, vX_r, vX_l, vX_j, reduceIte, Int.reduceEq]
    exact hQ1 a _ (fU _) (kU _) (sU _)
