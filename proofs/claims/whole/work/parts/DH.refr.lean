/-! ===== the reference: reach, farthest, first ===== -/
theorem rf_in {x : Int} (h : (0 ≤ x ∧ x ≤ 6516) ∨ x = far) : (0 ≤ x ∧ x ≤ 6516 ∧ rf x = x) ∨ (x = far ∧ rf x = hiR) := by
  have hfar : far = 1000000000 := rfl
  unfold rf
  rcases h with h | h
  · exact Or.inl ⟨h.1, h.2, if_pos (by omega)⟩
  · exact Or.inr ⟨h, if_neg (by omega)⟩
theorem c270 {d : Nat} {k w c B : Int} {K : Int → Int} {T : Tt} {σ : St} {Q : vmO → vmH → Prop} (hK : σ 1200 382 = K) (hv : kV K B) (hB : B < 900000000) (x0 : -2147483648 ≤ w) (x1 : w < 2147483648) (y0 : -2147483648 ≤ c) (y1 : c < 2147483648)
    (hQ1 : ∀ u, ((¬ (0 ≤ w ∧ w < K 3) ∧ u = 1) ∨ ((0 ≤ w ∧ w < K 3) ∧ c < 0 ∧ u = 2)) → ∀ τ, fT σ τ → τ 1200 382 = K → τ 1204 382 0 = u → Q (.inl (some (.long (i64 0)))) (E T τ))
    (hQ2 : (0 ≤ w ∧ w < K 3) → 0 ≤ c → ∀ τ, fT σ τ → τ 1200 382 = K → τ 1204 382 0 = 0 → Q (.inl (some (.long (bs (rcB (dK K w) c (nK K)))))) (E T τ)) : Ca (d + 6) k 270 [.ref 382, .int (i32 w), .int (i32 c)] (E T σ) Q := by
  have h0 := ob_md
  have hfar : far = 1000000000 := rfl
  have hhi : hiR = 536870912 := rfl
  have hm := wh_mul0 hv.1.1
  have hn := nK_c hv.1
  have kU : ∀ u, (upA σ 1204 382 fun _ => u) 1200 382 = K := fun u => by rw [upA_t (by omega)]; exact hK
  have fU : ∀ u, fT σ (upA σ 1204 382 fun _ => u) := fun u => fT_u fT_r (by omega)
  have sU : ∀ u, (upA σ 1204 382 fun _ => u) 1204 382 0 = u := fun u => by rw [upA_s]
  rw [n270 _ _ _ _ _ _ _ _ h0]
  simp (disch := (first | assumption | omega | exact Nat.le_of_ble_eq_true rfl | rfl)) only [w270_0, w270_1, w270_2, w270_3, w270_4, Ko_n, Ko_v, vX_i, vX_r, vX_l, vX_j, reduceIte]
  rw [c215 hK hv (by omega) (by omega)]
  by_cases a : 0 ≤ w ∧ w < K 3
  · rw [if_pos a]
    by_cases b : 0 ≤ c
    · have hq := hQ2 a b
      simp (disch := (first | assumption | omega | exact Nat.le_of_ble_eq_true rfl | rfl)) only [w270_7, w270_10, w270_11, w270_14, w270_15, w270_18, w270_19, w270_22, w270_23, w270_26, w270_27, w270_30, w270_33, w270_34, w270_35, w270_36, w270_37, Ko_n, Ko_v, vX_i, vX_r, vX_l, vX_j, reduceIte, Int.reduceEq, not_false_eq_true, b, upA_s, Int.le_refl]
      refine c234 (kU 0) hv hB a.1 a.2 fun τ h1 h2 h3 => ?_
      have ft := fT_q h1
      have loop : ∀ (m n : Nat), n + m = nK K → Wp (d + 6) M_X12_reach 45 [.ref 382, .int (i32 w), .int (i32 c), .long (bsN (rcB (dK K w) c (nK K)) n), vmJ, .int (i32 n)] [] (E T τ) Q := by
        intro m
        induction m with
        | zero =>
          intro n hn2
          have hn2 : n = nK K := by omega
          subst hn2
          rw [w270_45]
          simp (disch := (first | assumption | omega | exact Nat.le_of_ble_eq_true rfl | rfl)) only [w270_47, w270_48, Ko_n, Ko_v, vX_i, vX_r, vX_l, vX_j, reduceIte]
          rw [c210 h2]
          simp (disch := (first | assumption | omega | exact Nat.le_of_ble_eq_true rfl | rfl)) only [w270_51, w270_54, w270_55, w270_56, w270_59, w270_61, w270_62, w270_63, w270_66, w270_67, w270_70, w270_72, w270_73, w270_76, w270_79, w270_80, w270_82, w270_83, w270_86, w270_87, w270_88, w270_89, w270_92, w270_95, w270_96, Ko_n, Ko_v, vX_i, vX_r, vX_l, vX_j, reduceIte, hn, Int.le_refl]
          rw [← hn, bsN_e (p := rcB (dK K w) c (nK K)) (n := ((nK K : Nat) : Int)) (fun k h _ => decide_eq_false (by omega))]
          exact hq τ ft.1 h2 ft.2
        | succ m ih =>
          intro n hn2
          have ih' := ih (n + 1) (by omega)
          rw [show ((n + 1 : Nat) : Int) = (n : Int) + 1 by omega] at ih'
          have hd := h3.2 n (by omega) (by omega)
          have hb := rf_in (dK_b hv a.1 a.2 (z := n) (by omega) (by omega))
          rw [w270_45]
          simp (disch := (first | assumption | omega | exact Nat.le_of_ble_eq_true rfl | rfl)) only [w270_47, w270_48, Ko_n, Ko_v, vX_i, vX_r, vX_l, vX_j, reduceIte]
          rw [c210 h2]
          rcases hb with ⟨b0, b1, b2⟩ | ⟨b0, b1⟩
          · rw [b2] at hd
            by_cases e : dK K w n ≤ c
            · have ep : rcB (dK K w) c (nK K) n = true := decide_eq_true ⟨by omega, by omega, by omega, e⟩
              rw [← bsN_t (by omega) (by omega) ep] at ih'
              simp (disch := (first | assumption | omega | exact Nat.le_of_ble_eq_true rfl | rfl)) only [w270_51, w270_54, w270_55, w270_56, w270_59, w270_61, w270_62, w270_63, w270_66, w270_67, w270_70, w270_72, w270_73, w270_76, w270_79, w270_80, w270_82, w270_83, w270_86, w270_87, w270_88, w270_89, w270_92, Ko_n, Ko_v, vX_i, vX_r, vX_l, vX_j, reduceIte, show ¬ K 1 * K 2 ≤ (n : Int) by omega, hd, show ¬ c < dK K w n by omega, show ¬ (536870912 : Int) ≤ dK K w n by omega]
              exact ih'
            · have ep : rcB (dK K w) c (nK K) n = false := decide_eq_false (fun h => e h.2.2.2)
              rw [← bsN_f ep] at ih'
              simp (disch := (first | assumption | omega | exact Nat.le_of_ble_eq_true rfl | rfl)) only [w270_51, w270_54, w270_55, w270_56, w270_59, w270_61, w270_62, w270_63, w270_66, w270_67, w270_70, w270_72, w270_73, w270_76, w270_79, w270_80, w270_82, w270_83, w270_86, w270_87, w270_88, w270_89, w270_92, Ko_n, Ko_v, vX_i, vX_r, vX_l, vX_j, reduceIte, show ¬ K 1 * K 2 ≤ (n : Int) by omega, hd, show c < dK K w n by omega]
              exact ih'
          · have ep : rcB (dK K w) c (nK K) n = false := decide_eq_false (fun h => by have := h.2.2.1; omega)
            rw [← bsN_f ep] at ih'
            rw [b1] at hd
            by_cases e : c < hiR
            · simp (disch := (first | assumption | omega | exact Nat.le_of_ble_eq_true rfl | rfl)) only [w270_51, w270_54, w270_55, w270_56, w270_59, w270_61, w270_62, w270_63, w270_66, w270_67, w270_70, w270_72, w270_73, w270_76, w270_79, w270_80, w270_82, w270_83, w270_86, w270_87, w270_88, w270_89, w270_92, Ko_n, Ko_v, vX_i, vX_r, vX_l, vX_j, reduceIte, show ¬ K 1 * K 2 ≤ (n : Int) by omega, hd, e]
              exact ih'
            · rw [hhi] at hd e
              simp (disch := (first | assumption | omega | exact Nat.le_of_ble_eq_true rfl | rfl)) only [w270_51, w270_54, w270_55, w270_56, w270_59, w270_61, w270_62, w270_63, w270_66, w270_67, w270_70, w270_72, w270_73, w270_76, w270_79, w270_80, w270_82, w270_83, w270_86, w270_87, w270_88, w270_89, w270_92, Ko_n, Ko_v, vX_i, vX_r, vX_l, vX_j, reduceIte, show ¬ K 1 * K 2 ≤ (n : Int) by omega, hd, e, Int.le_refl]
              exact ih'
      have l0 := loop (nK K) 0 (by omega)
      rw [show bsN (rcB (dK K w) c (nK K)) ((0 : Nat) : Int) = i64 0 from bsN_0.symm] at l0
      simp (disch := (first | assumption | omega | exact Nat.le_of_ble_eq_true rfl | rfl)) only [w270_40, w270_41, w270_42, w270_43, Ko_n, Ko_v, vX_i, vX_r, vX_l, vX_j, reduceIte]
      exact l0
    · simp (disch := (first | assumption | omega | exact Nat.le_of_ble_eq_true rfl | rfl)) only [w270_7, w270_10, w270_11, w270_14, w270_15, w270_18, w270_19, w270_22, w270_23, w270_26, w270_27, w270_30, w270_33, w270_34, Ko_n, Ko_v, vX_i, vX_r, vX_l, vX_j, reduceIte, Int.reduceEq, not_false_eq_true, b, upA_s, show ¬ (2 : Int) ≤ 0 by omega]
      exact hQ1 2 (Or.inr ⟨a, by omega, rfl⟩) _ (fU _) (kU _) (sU _)
  · rw [if_neg a]
    simp (disch := (first | assumption | omega | exact Nat.le_of_ble_eq_true rfl | rfl)) only [w270_7, w270_10, w270_11, w270_14, w270_15, w270_18, w270_19, w270_22, w270_23, w270_26, w270_27, w270_30, w270_33, w270_34, Ko_n, Ko_v, vX_i, vX_r, vX_l, vX_j, reduceIte, not_true, upA_s, show ¬ (1 : Int) ≤ 0 by omega]
    exact hQ1 1 (Or.inl ⟨a, rfl⟩) _ (fU _) (kU _) (sU _)
theorem c277 {d : Nat} {k c B : Int} {K : Int → Int} {T : Tt} {σ : St} {Q : vmO → vmH → Prop} (hK : σ 1200 382 = K) (hv : kV K B) (hB : B < 900000000) (x0 : -2147483648 ≤ c) (x1 : c < 2147483648)
    (hQ1 : ¬ (0 ≤ c ∧ c < K 1 * K 2) → ∀ τ, fT σ τ → τ 1200 382 = K → τ 1204 382 0 = 1 → Q (.inl (some (.int (i32 0)))) (E T τ))
    (hQ2 : (0 ≤ c ∧ c < K 1 * K 2) → ∀ τ, fT σ τ → τ 1200 382 = K → τ 1204 382 0 = 0 → Q (.inl (some (.int (i32 (fsI (fun w => dK K w c) (K 3).toNat).2)))) (E T τ)) : Ca (d + 6) k 277 [.ref 382, .int (i32 c)] (E T σ) Q := by
  have h0 := ob_md
  have hfar : far = 1000000000 := rfl
  have hhi : hiR = 536870912 := rfl
  have hm := wh_mul0 hv.1.1
  have k3 := hv.1.2.1
  have kU : ∀ u, (upA σ 1204 382 fun _ => u) 1200 382 = K := fun u => by rw [upA_t (by omega)]; exact hK
  have fU : ∀ u, fT σ (upA σ 1204 382 fun _ => u) := fun u => fT_u fT_r (by omega)
  have sU : ∀ u, (upA σ 1204 382 fun _ => u) 1204 382 0 = u := fun u => by rw [upA_s]
  rw [n277 _ _ _ _ _ _ _ h0]
  simp (disch := (first | assumption | omega | exact Nat.le_of_ble_eq_true rfl | rfl)) only [w277_0, w277_1, w277_2, w277_5, w277_6, w277_7, w277_8, Ko_n, Ko_v, vX_i, vX_r, vX_l, vX_j, reduceIte]
  rw [c214 (kU 0) hv (by omega) (by omega)]
  by_cases a : 0 ≤ c ∧ c < K 1 * K 2
  · rw [if_pos a]
    have hq := hQ2 a
    have fsb : ∀ n : Nat, (n : Int) ≤ K 3 → (0 ≤ (fsI (fun w => dK K w c) n).1 ∧ (fsI (fun w => dK K w c) n).1 ≤ 6516) ∨ (fsI (fun w => dK K w c) n).1 = far := by
      intro n
      induction n with
      | zero => intro _; exact Or.inr rfl
      | succ n ih =>
        intro h
        rw [show fsI (fun w => dK K w c) (n + 1) = if dK K n c < (fsI (fun w => dK K w c) n).1 then (dK K n c, (n : Int)) else fsI (fun w => dK K w c) n from rfl]
        by_cases e : dK K n c < (fsI (fun w => dK K w c) n).1
        · rw [if_pos e]
          exact dK_b hv (by omega) (by omega) a.1 a.2
        · rw [if_neg e]
          exact ih (by omega)
    have loop : ∀ (m n : Nat) (τ : St), (n : Int) + m = K 3 → fq (upA σ 1204 382 fun _ => 0) τ → τ 1200 382 = K → Wp (d + 6) M_X12_first 29 [.ref 382, .int (i32 c), .int (i32 (fsI (fun w => dK K w c) n).2), .int (i32 (rf (fsI (fun w => dK K w c) n).1)), .int (i32 n)] [] (E T τ) Q := by
      intro m
      induction m with
      | zero =>
        intro n τ hn2 h1 h2
        have hn2 : (n : Int) = K 3 := by omega
        have ft := fT_q h1
        have hq' := hq τ ft.1 h2 ft.2
        rw [show (K 3).toNat = n by omega] at hq'
        rw [w277_29]
        simp (disch := (first | assumption | omega | exact Nat.le_of_ble_eq_true rfl | rfl)) only [w277_31, w277_32, w277_35, w277_36, w277_37, w277_40, w277_41, w277_43, w277_46, w277_47, w277_50, w277_51, w277_52, w277_53, w277_56, w277_59, w277_61, w277_62, w277_63, w277_66, w277_67, w277_68, w277_69, w277_72, w277_75, w277_76, Ko_n, Ko_v, vX_i, vX_r, vX_l, vX_j, reduceIte, h2, hn2, Int.le_refl]
        exact hq'
      | succ m ih =>
        intro n τ hn2 h1 h2
        have hr := rf_in (fsb n (by omega))
        have hb := rf_in (dK_b hv (w := n) (by omega) (by omega) a.1 a.2)
        have ih' := ih (n + 1)
        rw [show fsI (fun w => dK K w c) (n + 1) = if dK K n c < (fsI (fun w => dK K w c) n).1 then (dK K n c, (n : Int)) else fsI (fun w => dK K w c) n from rfl, show ((n + 1 : Nat) : Int) = (n : Int) + 1 by omega] at ih'
        rw [w277_29]
        simp (disch := (first | assumption | omega | exact Nat.le_of_ble_eq_true rfl | rfl)) only [w277_31, w277_32, w277_35, w277_36, w277_37, w277_40, w277_41, w277_43, Ko_n, Ko_v, vX_i, vX_r, vX_l, vX_j, reduceIte, h2, show ¬ K 3 ≤ (n : Int) by omega]
        refine c234 h2 hv hB (by omega) (by omega) fun ρ g1 g2 g3 => ?_
        have hd := g3.2 c a.1 a.2
        by_cases e : dK K n c < (fsI (fun w => dK K w c) n).1
        · have e2 : rf (dK K n c) < rf (fsI (fun w => dK K w c) n).1 := by omega
          rw [if_pos e] at ih'
          simp (disch := (first | assumption | omega | exact Nat.le_of_ble_eq_true rfl | rfl)) only [w277_46, w277_47, w277_50, w277_51, w277_52, w277_53, w277_56, w277_59, w277_61, w277_62, w277_63, w277_66, w277_67, w277_68, w277_69, w277_72, Ko_n, Ko_v, vX_i, vX_r, vX_l, vX_j, reduceIte, hd, e2]
          exact ih' ρ (by omega) (fq_t h1 g1) g2
        · have e2 : ¬ rf (dK K n c) < rf (fsI (fun w => dK K w c) n).1 := by omega
          rw [if_neg e] at ih'
          simp (disch := (first | assumption | omega | exact Nat.le_of_ble_eq_true rfl | rfl)) only [w277_46, w277_47, w277_50, w277_51, w277_52, w277_53, w277_56, w277_59, w277_61, w277_62, w277_63, w277_66, w277_67, w277_68, w277_69, w277_72, Ko_n, Ko_v, vX_i, vX_r, vX_l, vX_j, reduceIte, hd, e2]
          exact ih' ρ (by omega) (fq_t h1 g1) g2
    have l0 := loop (K 3).toNat 0 _ (by omega) fq_r (kU 0)
    rw [show fsI (fun w => dK K w c) 0 = (far, -1) from rfl, show rf ((far, (-1 : Int))).1 = 536870912 from rfl] at l0
    simp (disch := (first | assumption | omega | exact Nat.le_of_ble_eq_true rfl | rfl)) only [w277_11, w277_14, w277_15, w277_16, w277_19, w277_20, w277_21, w277_22, w277_25, w277_26, w277_27, Ko_n, Ko_v, vX_i, vX_r, vX_l, vX_j, reduceIte, Int.reduceEq, not_false_eq_true]
    exact l0
  · rw [if_neg a]
    simp (disch := (first | assumption | omega | exact Nat.le_of_ble_eq_true rfl | rfl)) only [w277_11, w277_14, w277_15, w277_16, Ko_n, Ko_v, vX_i, vX_r, vX_l, vX_j, reduceIte, not_true]
    rw [c175]
    simp (disch := (first | assumption | omega | exact Nat.le_of_ble_eq_true rfl | rfl)) only [w277_19, w277_20, Ko_n, Ko_v, vX_i, vX_r, vX_l, vX_j, reduceIte, upA_upA]
    exact hQ1 a _ (fU _) (kU _) (sU _)
