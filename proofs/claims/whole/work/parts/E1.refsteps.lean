/-! ===== the reference: steps ===== -/
theorem c266 {d : Nat} {k w z c B : Int} {K : Int → Int} {T : Tt} {σ : St} {Q : vmO → vmH → Prop} (hK : σ 1200 382 = K) (hv : kV K B) (hB : B < 900000000) (x0 : -2147483648 ≤ w) (x1 : w < 2147483648) (y0 : -2147483648 ≤ z) (y1 : z < 2147483648) (u0 : -2147483648 ≤ c) (u1 : c < 2147483648)
    (hQ1 : ∀ u, ((¬ wzI K w z ∧ u = 1) ∨ (wzI K w z ∧ c < 0 ∧ u = 2)) → ∀ τ, fT σ τ → τ 1200 382 = K → τ 1204 382 0 = u → Q (.inl (some (.int (i32 0)))) (E T τ))
    (hQ2 : wzI K w z → 0 ≤ c → ∀ τ, fT σ τ → τ 1200 382 = K → τ 1204 382 0 = 0 → Q (.inl (some (.int (i32 (fst1 (fun i => decide (sfI K w i z < far ∧ sfI K w i z ≤ c)) 37))))) (E T τ)) : Ca (d + 7) k 266 [.ref 382, .int (i32 w), .int (i32 z), .int (i32 c)] (E T σ) Q := by
  have h0 := ob_md
  have hfar : far = 1000000000 := rfl
  have hhi : hiR = 536870912 := rfl
  have kU : ∀ u, (upA σ 1204 382 fun _ => u) 1200 382 = K := fun u => by rw [upA_t (by omega)]; exact hK
  have fU : ∀ u, fT σ (upA σ 1204 382 fun _ => u) := fun u => fT_u fT_r (by omega)
  have sU : ∀ u, (upA σ 1204 382 fun _ => u) 1204 382 0 = u := fun u => by rw [upA_s]
  rw [n266 _ _ _ _ _ _ _ _ _ h0]
  simp (disch := (first | assumption | omega | exact Nat.le_of_ble_eq_true rfl | rfl)) only [w266_0, w266_1, w266_2, w266_3, Ko_n, Ko_v, vX_i, vX_r, vX_l, vX_j, reduceIte]
  refine c237 hK hv x0 x1 y0 y1 (fun a => ?_) (fun a => ?_)
  · by_cases b : 0 ≤ c
    · have hq := hQ2 a b
      generalize hP : (fun i : Nat => decide (sfI K w i z < far ∧ sfI K w i z ≤ c)) = P at hq
      have PE : ∀ i : Nat, P i = decide (sfI K w i z < far ∧ sfI K w i z ≤ c) := fun i => by rw [← hP]
      obtain ⟨h2, h5, h6, h7⟩ := kV_w hv a.1.1 a.1.2
      have hm := wh_mul h2
      have z36 : 0 ≤ z ∧ z < 36 := ⟨a.2.1, by have := a.2.2; omega⟩
      simp (disch := (first | assumption | omega | exact Nat.le_of_ble_eq_true rfl | rfl)) only [w266_6, w266_9, w266_10, w266_11, w266_12, w266_15, w266_16, w266_17, w266_20, w266_21, w266_22, w266_23, Ko_n, Ko_v, vX_i, vX_r, vX_l, vX_j, reduceIte, b]
      refine c264 (kU 0) hv hB a.1.1 a.1.2 fun τ g1 g2 g3 g4 => ?_
      have loop : ∀ (m i : Nat) (τ : St), i + m = 37 → fst1 P i = -1 → fq (upA σ 1204 382 fun _ => 0) τ → τ 1200 382 = K → (∀ z, 0 ≤ z → z < K 1 * K 2 → τ 1219 382 z = rp (prK K w z)) → (∀ z, 0 ≤ z → z < K 1 * K 2 → τ 1220 382 z = rf (sfI K w i z)) → Wp (d + 7) M_X12_steps 29 [.ref 382, .int (i32 w), .int (i32 z), .int (i32 c), .int (i32 i)] [] (E T τ) Q := by
        intro m
        induction m with
        | zero =>
          intro i τ hi hno g1 g2 g3 g4
          have hi : i = 37 := by omega
          subst hi
          have ft := fT_q g1
          have q := hq τ ft.1 g2 ft.2
          rw [hno] at q
          rw [w266_29]
          simp (disch := (first | assumption | omega | exact Nat.le_of_ble_eq_true rfl | rfl)) only [w266_31, w266_33, w266_36, w266_37, w266_40, w266_41, w266_42, w266_43, w266_46, w266_47, w266_50, w266_51, w266_52, w266_55, w266_58, w266_60, w266_61, w266_62, w266_65, w266_68, w266_71, w266_72, Ko_n, Ko_v, vX_i, vX_r, vX_l, vX_j, reduceIte, show (36 : Int) < ((37 : Nat) : Int) by omega]
          exact q
        | succ m ih =>
          intro i τ hi hno g1 g2 g3 g4
          have ft := fT_q g1
          have s := sfI_sm (w := w) hv h2 i (by omega) z a.2.1 a.2.2
          have dz := g4 z a.2.1 a.2.2
          have fs : fst1 P (i + 1) = if fst1 P i = -1 then (if P i = true then (i : Int) else -1) else fst1 P i := rfl
          rw [if_pos hno, PE] at fs
          have go : fst1 P (i + 1) = -1 → Wp (d + 7) M_X12_steps 61 [.ref 382, .int (i32 w), .int (i32 z), .int (i32 c), .int (i32 i)] [] (E T τ) Q := by
            intro hn
            simp (disch := (first | assumption | omega | exact Nat.le_of_ble_eq_true rfl | rfl)) only [w266_61, w266_62, Ko_n, Ko_v, vX_i, vX_r, vX_l, vX_j, reduceIte]
            refine c263 g2 h2 (prK_cs hv.1 hv.2.1) g3 (sfI_sm (w := w) hv h2 i (by omega)) (by omega) (by omega) g4 fun F G hG => ?_
            simp (disch := (first | assumption | omega | exact Nat.le_of_ble_eq_true rfl | rfl)) only [w266_65, w266_68, Ko_n, Ko_v, vX_i, vX_r, vX_l, vX_j, reduceIte]
            exact ih (i + 1) _ (by omega) hn (fq_u (fq_u g1 (by omega)) (by omega)) (by rw [upA_t (by omega), upA_t (by omega)]; exact g2) (fun z z0 z1 => by rw [upA_t (by omega), upA_t (by omega)]; exact g3 z z0 z1) (fun z z0 z1 => by rw [upA_s]; exact hG z z0 z1)
          rw [w266_29]
          by_cases e : sfI K w i z < far
          · rw [show rf (sfI K w i z) = sfI K w i z from if_pos e] at dz
            by_cases e2 : sfI K w i z ≤ c
            · rw [if_pos (decide_eq_true ⟨e, e2⟩)] at fs
              have q := hq τ ft.1 g2 ft.2
              have up := fst1_up (P := P) (m := i + 1) (by rw [fs]; omega) (36 - i)
              rw [show i + 1 + (36 - i) = 37 by omega, fs] at up
              rw [up] at q
              simp (disch := (first | assumption | omega | exact Nat.le_of_ble_eq_true rfl | rfl)) only [w266_31, w266_33, w266_36, w266_37, w266_40, w266_41, w266_42, w266_43, w266_46, w266_47, w266_50, w266_51, w266_52, w266_55, w266_58, w266_60, Ko_n, Ko_v, vX_i, vX_r, vX_l, vX_j, reduceIte, show ¬ (36 : Int) < (i : Int) by omega, dz, show ¬ c < sfI K w i z by omega, show ¬ (536870912 : Int) ≤ sfI K w i z by omega]
              exact q
            · rw [if_neg (fun h => e2 (of_decide_eq_true h).2)] at fs
              simp (disch := (first | assumption | omega | exact Nat.le_of_ble_eq_true rfl | rfl)) only [w266_31, w266_33, w266_36, w266_37, w266_40, w266_41, w266_42, w266_43, w266_46, w266_47, w266_50, w266_51, w266_52, w266_55, w266_58, w266_60, Ko_n, Ko_v, vX_i, vX_r, vX_l, vX_j, reduceIte, show ¬ (36 : Int) < (i : Int) by omega, dz, show c < sfI K w i z by omega]
              exact go fs
          · rw [show rf (sfI K w i z) = 536870912 from if_neg e] at dz
            rw [if_neg (fun h => e (of_decide_eq_true h).1)] at fs
            by_cases e3 : c < 536870912
            · simp (disch := (first | assumption | omega | exact Nat.le_of_ble_eq_true rfl | rfl)) only [w266_31, w266_33, w266_36, w266_37, w266_40, w266_41, w266_42, w266_43, w266_46, w266_47, w266_50, w266_51, w266_52, w266_55, w266_58, w266_60, Ko_n, Ko_v, vX_i, vX_r, vX_l, vX_j, reduceIte, show ¬ (36 : Int) < (i : Int) by omega, dz, e3]
              exact go fs
            · simp (disch := (first | assumption | omega | exact Nat.le_of_ble_eq_true rfl | rfl)) only [w266_31, w266_33, w266_36, w266_37, w266_40, w266_41, w266_42, w266_43, w266_46, w266_47, w266_50, w266_51, w266_52, w266_55, w266_58, w266_60, Ko_n, Ko_v, vX_i, vX_r, vX_l, vX_j, reduceIte, show ¬ (36 : Int) < (i : Int) by omega, dz, e3, Int.le_refl]
              exact go fs
      simp (disch := (first | assumption | omega | exact Nat.le_of_ble_eq_true rfl | rfl)) only [w266_26, w266_27, Ko_n, Ko_v, vX_i, vX_r, vX_l, vX_j, reduceIte]
      refine loop 37 0 τ (by omega) rfl g1 g2 g3 (fun z z0 z1 => ?_)
      rw [g4 z z0 z1]
      show _ = rf (hrF K w z)
      unfold hrF
      by_cases e : z = K (79 + w)
      · rw [if_pos e, if_pos e]; rfl
      · rw [if_neg e, if_neg e]; rfl
    · simp (disch := (first | assumption | omega | exact Nat.le_of_ble_eq_true rfl | rfl)) only [w266_6, w266_9, w266_10, w266_11, w266_12, w266_15, w266_16, w266_17, Ko_n, Ko_v, vX_i, vX_r, vX_l, vX_j, reduceIte, b]
      rw [c175]
      simp (disch := (first | assumption | omega | exact Nat.le_of_ble_eq_true rfl | rfl)) only [w266_20, Ko_n, Ko_v, vX_i, vX_r, vX_l, vX_j, reduceIte, upA_upA]
      exact hQ1 2 (Or.inr ⟨a, by omega, rfl⟩) _ (fU _) (kU _) (sU _)
  · simp (disch := (first | assumption | omega | exact Nat.le_of_ble_eq_true rfl | rfl)) only [w266_6, w266_9, w266_10, w266_11, w266_12, w266_15, w266_16, w266_17, Ko_n, Ko_v, vX_i, vX_r, vX_l, vX_j, reduceIte, Int.reduceEq]
    exact hQ1 1 (Or.inl ⟨a, rfl⟩) _ (fU _) (kU _) (sU _)
