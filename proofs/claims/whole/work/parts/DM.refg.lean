/-! ===== the reference: grownTo ===== -/
theorem fst1_up {P : Nat → Bool} {m : Nat} (h : fst1 P m ≠ -1) : ∀ j : Nat, fst1 P (m + j) = fst1 P m
  | 0 => rfl
  | j + 1 => by
    have ih := fst1_up h j
    show (if fst1 P (m + j) = -1 then (if P (m + j) then ((m + j : Nat) : Int) else -1) else fst1 P (m + j)) = _
    rw [ih, if_neg h]
theorem fst1_in {P : Nat → Bool} : ∀ m : Nat, -1 ≤ fst1 P m ∧ fst1 P m < m
  | 0 => ⟨Int.le_refl _, by show (-1 : Int) < ((0 : Nat) : Int); omega⟩
  | m + 1 => by
    have ih := fst1_in (P := P) m
    show -1 ≤ (if fst1 P m = -1 then (if P m then (m : Int) else -1) else fst1 P m) ∧ (if fst1 P m = -1 then (if P m then (m : Int) else -1) else fst1 P m) < ((m + 1 : Nat) : Int)
    by_cases e : fst1 P m = -1
    · rw [if_pos e]
      by_cases p : P m = true
      · rw [if_pos p]; omega
      · rw [if_neg p]; omega
    · rw [if_neg e]; omega
theorem c287 {d : Nat} {k w z c B : Int} {K : Int → Int} {T : Tt} {σ : St} {Q : vmO → vmH → Prop} (hK : σ 1200 382 = K) (hv : kV K B) (hB : B < 800000000) (hl : lwV K) (hr : rwK K) (x0 : -2147483648 ≤ w) (x1 : w < 2147483648) (y0 : -2147483648 ≤ z) (y1 : z < 2147483648) (u0 : -2147483648 ≤ c) (u1 : c < 2147483648)
    (hQ1 : ∀ u, ((¬ wzI K w z ∧ u = 1) ∨ (wzI K w z ∧ c < 0 ∧ u = 2)) → ∀ τ, fT σ τ → τ 1200 382 = K → τ 1204 382 0 = u → Q (.inl (some (.int (i32 0)))) (E T τ))
    (hQ2 : wzI K w z → 0 ≤ c → ∀ τ, fT σ τ → τ 1200 382 = K → τ 1204 382 0 = 0 → Q (.inl (some (.int (i32 (fst1 (fun i => decide (dK (ngI K i) w z < far ∧ c ≤ dK (ngI K i) w z)) 100))))) (E T τ)) : Ca (d + 7) k 287 [.ref 382, .int (i32 w), .int (i32 z), .int (i32 c)] (E T σ) Q := by
  have h0 := ob_md
  have hfar : far = 1000000000 := rfl
  have hhi : hiR = 536870912 := rfl
  have kU : ∀ u, (upA σ 1204 382 fun _ => u) 1200 382 = K := fun u => by rw [upA_t (by omega)]; exact hK
  have fU : ∀ u, fT σ (upA σ 1204 382 fun _ => u) := fun u => fT_u fT_r (by omega)
  have sU : ∀ u, (upA σ 1204 382 fun _ => u) 1204 382 0 = u := fun u => by rw [upA_s]
  rw [n287 _ _ _ _ _ _ _ _ _ h0]
  simp (disch := (first | assumption | omega | exact Nat.le_of_ble_eq_true rfl | rfl)) only [w287_0, w287_1, w287_2, w287_3, Ko_n, Ko_v, vX_i, vX_r, vX_l, vX_j, reduceIte]
  refine c237 hK hv x0 x1 y0 y1 (fun a => ?_) (fun a => ?_)
  · by_cases b : 0 ≤ c
    · have hq := hQ2 a b
      generalize hP : (fun i : Nat => decide (dK (ngI K i) w z < far ∧ c ≤ dK (ngI K i) w z)) = P at hq
      have PE : ∀ i : Nat, P i = decide (dK (ngI K i) w z < far ∧ c ≤ dK (ngI K i) w z) := fun i => by rw [← hP]
      simp (disch := (first | assumption | omega | exact Nat.le_of_ble_eq_true rfl | rfl)) only [w287_6, w287_9, w287_10, w287_11, w287_12, w287_15, w287_16, w287_17, w287_20, w287_21, w287_22, Ko_n, Ko_v, vX_i, vX_r, vX_l, vX_j, reduceIte, b]
      refine c239 (kU 0) fun A hA => ?_
      have fin : ∀ (i : Nat) (τ : St) (l5 l6 : Value), nJ σ τ K i → fst1 P 100 = fst1 P i → Wp (d + 7) M_X12_grownTo 79 [.ref 382, .int (i32 w), .int (i32 z), .int (i32 c), .int (i32 (fst1 P i)), l5, l6] [] (E T τ) Q := by
        intro i τ l5 l6 h1 he
        rw [he] at hq
        simp (disch := (first | assumption | omega | exact Nat.le_of_ble_eq_true rfl | rfl)) only [w287_79, w287_80, Ko_n, Ko_v, vX_i, vX_r, vX_l, vX_j, reduceIte]
        rw [c240 (K := K) h1.2.1 h1.2.2.2 (ngI_st i)]
        simp (disch := (first | assumption | omega | exact Nat.le_of_ble_eq_true rfl | rfl)) only [w287_83, w287_85, Ko_n, Ko_v, vX_i, vX_r, vX_l, vX_j, reduceIte]
        exact hq _ (fT_u h1.1 (by omega)) upA_s (by rw [upA_t (by omega)]; exact h1.2.2.1)
      have loop : ∀ (m i : Nat) (τ : St) (l6 : Value), i + m = 100 → nJ σ τ K i → Wp (d + 7) M_X12_grownTo 31 [.ref 382, .int (i32 w), .int (i32 z), .int (i32 c), .int (i32 (fst1 P i)), .int (i32 i), l6] [] (E T τ) Q := by
        intro m
        induction m with
        | zero =>
          intro i τ l6 hi h1
          have hi : i = 100 := by omega
          subst hi
          have f := fin 100 τ (.int (i32 ((100 : Nat) : Int))) l6 h1 rfl
          rw [w287_31]
          simp (disch := (first | assumption | omega | exact Nat.le_of_ble_eq_true rfl | rfl)) only [w287_33, w287_35, w287_38, w287_40, w287_41, w287_44, w287_45, w287_46, w287_47, w287_50, w287_52, w287_54, w287_55, w287_58, w287_60, w287_61, w287_64, w287_66, w287_68, w287_69, w287_72, w287_73, w287_76, Ko_n, Ko_v, vX_i, vX_r, vX_l, vX_j, reduceIte, show (99 : Int) < ((100 : Nat) : Int) by omega]
          exact f
        | succ m ih =>
          intro i τ l6 hi h1
          have ln := lw_ng i hl hr
          have wz := ngI_kV hv i a
          have db := dK_b (kV_ng hv i) wz.1.1 wz.1.2 wz.2.1 wz.2.2
          have fi := fst1_in (P := P) i
          rw [w287_31]
          by_cases e0 : fst1 P i = -1
          · simp (disch := (first | assumption | omega | exact Nat.le_of_ble_eq_true rfl | rfl)) only [w287_33, w287_35, w287_38, w287_40, w287_41, w287_44, w287_45, w287_46, w287_47, Ko_n, Ko_v, vX_i, vX_r, vX_l, vX_j, reduceIte, show ¬ (99 : Int) < (i : Int) by omega, e0, not_true]
            refine c236 h1.2.1 (kV_ng hv i) (by omega) wz.1.1 wz.1.2 wz.2.1 wz.2.2 fun ρ g1 g2 g3 => ?_
            have h2 := nJ_q h1 g1 g2
            have go : ∀ l6, Wp (d + 7) M_X12_grownTo 68 [.ref 382, .int (i32 w), .int (i32 z), .int (i32 c), .int (i32 (fst1 P (i + 1))), .int (i32 i), l6] [] (E T ρ) Q := by
              intro l6
              simp (disch := (first | assumption | omega | exact Nat.le_of_ble_eq_true rfl | rfl)) only [w287_68, w287_69, Ko_n, Ko_v, vX_i, vX_r, vX_l, vX_j, reduceIte]
              refine c225 h2.2.1 (kV_ng hv i) (by omega) ln.1 ln.2 fun S G => ?_
              simp (disch := (first | assumption | omega | exact Nat.le_of_ble_eq_true rfl | rfl)) only [w287_72, w287_73, w287_76, Ko_n, Ko_v, vX_i, vX_r, vX_l, vX_j, reduceIte]
              exact ih (i + 1) _ l6 (by omega) (nJ_n h2)
            rw [show fst1 P (i + 1) = if fst1 P i = -1 then (if P i = true then (i : Int) else -1) else fst1 P i from rfl, if_pos e0, PE] at go
            by_cases e : dK (ngI K i) w z < far
            · have o1 : orN (dK (ngI K i) w z) = dK (ngI K i) w z := if_pos e
              rw [o1]
              by_cases e2 : c ≤ dK (ngI K i) w z
              · rw [if_pos (decide_eq_true ⟨e, e2⟩)] at go
                simp (disch := (first | assumption | omega | exact Nat.le_of_ble_eq_true rfl | rfl)) only [w287_50, w287_52, w287_54, w287_55, w287_58, w287_60, w287_61, w287_64, w287_66, Ko_n, Ko_v, vX_i, vX_r, vX_l, vX_j, reduceIte, show ¬ dK (ngI K i) w z = -1 by omega, show ¬ dK (ngI K i) w z < c by omega]
                exact go _
              · rw [if_neg (fun h => e2 (of_decide_eq_true h).2)] at go
                simp (disch := (first | assumption | omega | exact Nat.le_of_ble_eq_true rfl | rfl)) only [w287_50, w287_52, w287_54, w287_55, w287_58, w287_60, w287_61, w287_64, w287_66, Ko_n, Ko_v, vX_i, vX_r, vX_l, vX_j, reduceIte, show ¬ dK (ngI K i) w z = -1 by omega, show dK (ngI K i) w z < c by omega]
                exact go _
            · have o1 : orN (dK (ngI K i) w z) = -1 := if_neg e
              rw [o1]
              rw [if_neg (fun h => e (of_decide_eq_true h).1)] at go
              simp (disch := (first | assumption | omega | exact Nat.le_of_ble_eq_true rfl | rfl)) only [w287_50, w287_52, w287_54, w287_55, w287_58, w287_60, w287_61, w287_64, w287_66, Ko_n, Ko_v, vX_i, vX_r, vX_l, vX_j, reduceIte]
              exact go _
          · have f := fin i τ (.int (i32 (i : Int))) l6 h1 (by have := fst1_up e0 (100 - i); rw [show i + (100 - i) = 100 by omega] at this; exact this)
            simp (disch := (first | assumption | omega | exact Nat.le_of_ble_eq_true rfl | rfl)) only [w287_33, w287_35, w287_38, w287_40, w287_41, w287_44, w287_45, w287_46, w287_47, w287_50, w287_52, w287_54, w287_55, w287_58, w287_60, w287_61, w287_64, w287_66, w287_68, w287_69, w287_72, w287_73, w287_76, Ko_n, Ko_v, vX_i, vX_r, vX_l, vX_j, reduceIte, show ¬ (99 : Int) < (i : Int) by omega, e0, not_false_eq_true]
            exact f
      have l0 := loop 100 0 (upA (upA σ 1204 382 fun _ => 0) 1222 382 A) vmJ (by omega) ⟨fun t o h => by rw [upA_t (by omega), upA_t (by omega)], by rw [upA_t (by omega)]; exact kU 0, by rw [upA_t (by omega)]; exact sU 0, fun j j0 j1 => by rw [upA_s]; exact hA j j0 j1⟩
      rw [show fst1 P 0 = -1 from rfl] at l0
      simp (disch := (first | assumption | omega | exact Nat.le_of_ble_eq_true rfl | rfl)) only [w287_25, w287_26, w287_28, w287_29, Ko_n, Ko_v, vX_i, vX_r, vX_l, vX_j, reduceIte]
      exact l0
    · simp (disch := (first | assumption | omega | exact Nat.le_of_ble_eq_true rfl | rfl)) only [w287_6, w287_9, w287_10, w287_11, w287_12, w287_15, w287_16, w287_17, Ko_n, Ko_v, vX_i, vX_r, vX_l, vX_j, reduceIte, b]
      rw [c175]
      simp (disch := (first | assumption | omega | exact Nat.le_of_ble_eq_true rfl | rfl)) only [w287_20, Ko_n, Ko_v, vX_i, vX_r, vX_l, vX_j, reduceIte, upA_upA]
      exact hQ1 2 (Or.inr ⟨a, by omega, rfl⟩) _ (fU _) (kU _) (sU _)
  · simp (disch := (first | assumption | omega | exact Nat.le_of_ble_eq_true rfl | rfl)) only [w287_6, w287_9, w287_10, w287_11, w287_12, w287_15, w287_16, w287_17, Ko_n, Ko_v, vX_i, vX_r, vX_l, vX_j, reduceIte, Int.reduceEq]
    exact hQ1 1 (Or.inl ⟨a, rfl⟩) _ (fU _) (kU _) (sU _)
