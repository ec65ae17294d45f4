/-! ===== the reference: nights ahead ===== -/
theorem ngI_kV {K : Int → Int} {B w z : Int} (hv : kV K B) (i : Nat) (h : wzI K w z) : (0 ≤ w ∧ w < ngI K i 3) ∧ 0 ≤ z ∧ z < ngI K i 1 * ngI K i 2 := by
  rw [ngI_o i (by omega), ngI_o i (by omega), ngI_o i (by omega)]
  exact h
/-- behind i nights, what was put aside is aside -/
def nJ (σ τ : St) (K : Int → Int) (i : Nat) : Prop := fT σ τ ∧ τ 1200 382 = ngI K i ∧ τ 1204 382 0 = 0 ∧ ∀ j, 0 ≤ j → j < 85 → τ 1222 382 j = K (7 + j)
theorem nJ_q {σ τ ρ : St} {K : Int → Int} {i : Nat} (h : nJ σ τ K i) (g : fq τ ρ) (g2 : ρ 1200 382 = ngI K i) : nJ σ ρ K i :=
  ⟨fT_t h.1 (fq_T g), g2, by rw [g 1204 382 (by omega)]; exact h.2.2.1, fun j j0 j1 => by rw [g 1222 382 (by omega)]; exact h.2.2.2 j j0 j1⟩
theorem nJ_n {σ τ : St} {K S G : Int → Int} {i : Nat} (h : nJ σ τ K i) : nJ σ (upA (upA (upA τ 1217 382 S) 1218 382 G) 1200 382 (ngK (ngI K i))) K (i + 1) :=
  ⟨fT_u (fT_u (fT_u h.1 (by omega)) (by omega)) (by omega), upA_s, by rw [upA_t (by omega), upA_t (by omega), upA_t (by omega)]; exact h.2.2.1, fun j j0 j1 => by rw [upA_t (by omega), upA_t (by omega), upA_t (by omega)]; exact h.2.2.2 j j0 j1⟩
theorem c285 {d : Nat} {k w z n B : Int} {K : Int → Int} {T : Tt} {σ : St} {Q : vmO → vmH → Prop} (hK : σ 1200 382 = K) (hv : kV K B) (hB : B < 800000000) (hl : lwV K) (hr : rwK K) (x0 : -2147483648 ≤ w) (x1 : w < 2147483648) (y0 : -2147483648 ≤ z) (y1 : z < 2147483648) (u0 : -2147483648 ≤ n) (u1 : n < 2147483648)
    (hQ1 : ∀ u, ((¬ wzI K w z ∧ u = 1) ∨ (wzI K w z ∧ ¬ (0 ≤ n ∧ n ≤ 99) ∧ u = 2)) → ∀ τ, fT σ τ → τ 1200 382 = K → τ 1204 382 0 = u → Q (.inl (some (.int (i32 0)))) (E T τ))
    (hQ2 : wzI K w z → (0 ≤ n ∧ n ≤ 99) → ∀ τ, fT σ τ → τ 1200 382 = K → τ 1204 382 0 = 0 → Q (.inl (some (.int (i32 (orN (dK (ngI K n.toNat) w z)))))) (E T τ)) : Ca (d + 7) k 285 [.ref 382, .int (i32 w), .int (i32 z), .int (i32 n)] (E T σ) Q := by
  have h0 := ob_md
  have kU : ∀ u, (upA σ 1204 382 fun _ => u) 1200 382 = K := fun u => by rw [upA_t (by omega)]; exact hK
  have fU : ∀ u, fT σ (upA σ 1204 382 fun _ => u) := fun u => fT_u fT_r (by omega)
  have sU : ∀ u, (upA σ 1204 382 fun _ => u) 1204 382 0 = u := fun u => by rw [upA_s]
  rw [n285 _ _ _ _ _ _ _ _ _ h0]
  simp (disch := (first | assumption | omega | exact Nat.le_of_ble_eq_true rfl | rfl)) only [w285_0, w285_1, w285_2, w285_3, Ko_n, Ko_v, vX_i, vX_r, vX_l, vX_j, reduceIte]
  refine c237 hK hv x0 x1 y0 y1 (fun a => ?_) (fun a => ?_)
  · simp (disch := (first | assumption | omega | exact Nat.le_of_ble_eq_true rfl | rfl)) only [w285_6, w285_9, w285_10, w285_11, w285_12, w285_13, w285_14, w285_17, Ko_n, Ko_v, vX_i, vX_r, vX_l, vX_j, reduceIte]
    rw [c176 (by omega) (by omega) (by omega) (by omega) (by omega) (by omega) (by omega)]
    by_cases b : 0 ≤ n ∧ n ≤ 99
    · rw [if_pos b]
      have hq := hQ2 a b
      simp (disch := (first | assumption | omega | exact Nat.le_of_ble_eq_true rfl | rfl)) only [w285_20, w285_23, w285_24, w285_25, w285_28, w285_29, w285_30, Ko_n, Ko_v, vX_i, vX_r, vX_l, vX_j, reduceIte, Int.reduceEq, not_false_eq_true]
      refine c239 (kU 0) fun A hA => ?_
      have loop : ∀ (m i : Nat) (τ : St), (i : Int) + m = n → nJ σ τ K i → Wp (d + 7) M_X12_soonestIn 36 [.ref 382, .int (i32 w), .int (i32 z), .int (i32 n), .int (i32 i)] [] (E T τ) Q := by
        intro m
        induction m with
        | zero =>
          intro i τ hi h1
          have hi' : (i : Int) = n := by omega
          have wz := ngI_kV hv i a
          rw [w285_36]
          simp (disch := (first | assumption | omega | exact Nat.le_of_ble_eq_true rfl | rfl)) only [w285_38, w285_39, w285_42, w285_43, w285_46, w285_47, w285_50, w285_53, w285_54, w285_55, w285_56, Ko_n, Ko_v, vX_i, vX_r, vX_l, vX_j, reduceIte, hi', Int.le_refl]
          refine c236 h1.2.1 (kV_ng hv i) (by omega) wz.1.1 wz.1.2 wz.2.1 wz.2.2 fun ρ g1 g2 g3 => ?_
          have h2 := nJ_q h1 g1 g2
          simp (disch := (first | assumption | omega | exact Nat.le_of_ble_eq_true rfl | rfl)) only [w285_59, w285_61, w285_62, Ko_n, Ko_v, vX_i, vX_r, vX_l, vX_j, reduceIte]
          rw [c240 (K := K) h2.2.1 h2.2.2.2 (ngI_st i)]
          rw [show n.toNat = i by omega] at hq
          simp (disch := (first | assumption | omega | exact Nat.le_of_ble_eq_true rfl | rfl)) only [w285_65, w285_67, Ko_n, Ko_v, vX_i, vX_r, vX_l, vX_j, reduceIte]
          exact hq _ (fT_u h2.1 (by omega)) upA_s (by rw [upA_t (by omega)]; exact h2.2.2.1)
        | succ m ih =>
          intro i τ hi h1
          have ln := lw_ng i hl hr
          rw [w285_36]
          simp (disch := (first | assumption | omega | exact Nat.le_of_ble_eq_true rfl | rfl)) only [w285_38, w285_39, w285_42, w285_43, Ko_n, Ko_v, vX_i, vX_r, vX_l, vX_j, reduceIte, show ¬ n ≤ (i : Int) by omega]
          refine c225 h1.2.1 (kV_ng hv i) (by omega) ln.1 ln.2 fun S G => ?_
          simp (disch := (first | assumption | omega | exact Nat.le_of_ble_eq_true rfl | rfl)) only [w285_46, w285_47, w285_50, Ko_n, Ko_v, vX_i, vX_r, vX_l, vX_j, reduceIte]
          exact ih (i + 1) _ (by omega) (nJ_n h1)
      simp (disch := (first | assumption | omega | exact Nat.le_of_ble_eq_true rfl | rfl)) only [w285_33, w285_34, Ko_n, Ko_v, vX_i, vX_r, vX_l, vX_j, reduceIte]
      exact loop n.toNat 0 _ (by omega) ⟨fun t o h => by rw [upA_t (by omega), upA_t (by omega)], by rw [upA_t (by omega)]; exact kU 0, by rw [upA_t (by omega)]; exact sU 0, fun j j0 j1 => by rw [upA_s]; exact hA j j0 j1⟩
    · rw [if_neg b]
      simp (disch := (first | assumption | omega | exact Nat.le_of_ble_eq_true rfl | rfl)) only [w285_20, w285_23, w285_24, w285_25, Ko_n, Ko_v, vX_i, vX_r, vX_l, vX_j, reduceIte, not_true]
      rw [c175]
      simp (disch := (first | assumption | omega | exact Nat.le_of_ble_eq_true rfl | rfl)) only [w285_28, Ko_n, Ko_v, vX_i, vX_r, vX_l, vX_j, reduceIte, upA_upA]
      exact hQ1 2 (Or.inr ⟨a, b, rfl⟩) _ (fU _) (kU _) (sU _)
  · simp (disch := (first | assumption | omega | exact Nat.le_of_ble_eq_true rfl | rfl)) only [w285_6, w285_9, w285_10, w285_11, w285_12, w285_13, w285_14, w285_17, Ko_n, Ko_v, vX_i, vX_r, vX_l, vX_j, reduceIte, Int.reduceEq]
    exact hQ1 1 (Or.inl ⟨a, rfl⟩) _ (fU _) (kU _) (sU _)
theorem c286 {d : Nat} {k w z n B : Int} {K : Int → Int} {T : Tt} {σ : St} {Q : vmO → vmH → Prop} (hK : σ 1200 382 = K) (hv : kV K B) (hB : B < 800000000) (hl : lwV K) (hr : rwK K) (x0 : -2147483648 ≤ w) (x1 : w < 2147483648) (y0 : -2147483648 ≤ z) (y1 : z < 2147483648) (u0 : -2147483648 ≤ n) (u1 : n < 2147483648)
    (hQ1 : ∀ u, ((¬ wzI K w z ∧ u = 1) ∨ (wzI K w z ∧ ¬ (0 ≤ n ∧ n ≤ 99) ∧ u = 2)) → ∀ τ, fT σ τ → τ 1200 382 = K → τ 1204 382 0 = u → Q (.inl (some (.int (i32 0)))) (E T τ))
    (hQ2 : wzI K w z → (0 ≤ n ∧ n ≤ 99) → ∀ τ, fT σ τ → τ 1200 382 = K → τ 1204 382 0 = 0 → Q (.inl (some (.int (i32 (fsI (fun i => dK (ngI K i.toNat) w z) (n.toNat + 1)).2)))) (E T τ)) : Ca (d + 7) k 286 [.ref 382, .int (i32 w), .int (i32 z), .int (i32 n)] (E T σ) Q := by
  have h0 := ob_md
  have hfar : far = 1000000000 := rfl
  have hhi : hiR = 536870912 := rfl
  have kU : ∀ u, (upA σ 1204 382 fun _ => u) 1200 382 = K := fun u => by rw [upA_t (by omega)]; exact hK
  have fU : ∀ u, fT σ (upA σ 1204 382 fun _ => u) := fun u => fT_u fT_r (by omega)
  have sU : ∀ u, (upA σ 1204 382 fun _ => u) 1204 382 0 = u := fun u => by rw [upA_s]
  rw [n286 _ _ _ _ _ _ _ _ _ h0]
  simp (disch := (first | assumption | omega | exact Nat.le_of_ble_eq_true rfl | rfl)) only [w286_0, w286_1, w286_2, w286_3, Ko_n, Ko_v, vX_i, vX_r, vX_l, vX_j, reduceIte]
  refine c237 hK hv x0 x1 y0 y1 (fun a => ?_) (fun a => ?_)
  · simp (disch := (first | assumption | omega | exact Nat.le_of_ble_eq_true rfl | rfl)) only [w286_6, w286_9, w286_10, w286_11, w286_12, w286_13, w286_14, w286_17, Ko_n, Ko_v, vX_i, vX_r, vX_l, vX_j, reduceIte]
    rw [c176 (by omega) (by omega) (by omega) (by omega) (by omega) (by omega) (by omega)]
    by_cases b : 0 ≤ n ∧ n ≤ 99
    · rw [if_pos b]
      have hq := hQ2 a b
      generalize hF : (fun i : Int => dK (ngI K i.toNat) w z) = F at hq
      have FE : ∀ i : Nat, F i = dK (ngI K i) w z := fun i => by rw [← hF]; show dK (ngI K ((i : Int).toNat)) w z = _; rw [show (i : Int).toNat = i by omega]
      have FB : ∀ i : Nat, (0 ≤ F i ∧ F i ≤ 6516) ∨ F i = far := fun i => by
        have wz := ngI_kV hv i a
        rw [FE]; exact dK_b (kV_ng hv i) wz.1.1 wz.1.2 wz.2.1 wz.2.2
      have fsb : ∀ i : Nat, (0 ≤ (fsI F i).1 ∧ (fsI F i).1 ≤ 6516) ∨ (fsI F i).1 = far := by
        intro i
        induction i with
        | zero => exact Or.inr rfl
        | succ i ih =>
          rw [show fsI F (i + 1) = if F i < (fsI F i).1 then (F i, (i : Int)) else fsI F i from rfl]
          by_cases e : F i < (fsI F i).1
          · rw [if_pos e]; exact FB i
          · rw [if_neg e]; exact ih
      simp (disch := (first | assumption | omega | exact Nat.le_of_ble_eq_true rfl | rfl)) only [w286_20, w286_23, w286_24, w286_25, w286_28, w286_29, w286_30, Ko_n, Ko_v, vX_i, vX_r, vX_l, vX_j, reduceIte, Int.reduceEq, not_false_eq_true]
      refine c239 (kU 0) fun A hA => ?_
      have loop : ∀ (m i : Nat) (τ : St) (l7 : Value), (i : Int) + m = n + 1 → nJ σ τ K i → Wp (d + 7) M_X12_bestNight 44 [.ref 382, .int (i32 w), .int (i32 z), .int (i32 n), .int (i32 (fsI F i).2), .int (i32 (rf (fsI F i).1)), .int (i32 i), l7] [] (E T τ) Q := by
        intro m
        induction m with
        | zero =>
          intro i τ l7 hi h1
          rw [w286_44]
          simp (disch := (first | assumption | omega | exact Nat.le_of_ble_eq_true rfl | rfl)) only [w286_46, w286_47, w286_50, w286_51, w286_52, w286_53, w286_56, w286_58, w286_60, w286_61, w286_64, w286_66, w286_68, w286_71, w286_73, w286_75, w286_77, w286_79, w286_80, w286_83, w286_84, w286_87, w286_90, w286_91, Ko_n, Ko_v, vX_i, vX_r, vX_l, vX_j, reduceIte, show n < (i : Int) by omega]
          rw [c240 (K := K) h1.2.1 h1.2.2.2 (ngI_st i)]
          rw [show n.toNat + 1 = i by omega] at hq
          simp (disch := (first | assumption | omega | exact Nat.le_of_ble_eq_true rfl | rfl)) only [w286_94, w286_96, Ko_n, Ko_v, vX_i, vX_r, vX_l, vX_j, reduceIte]
          exact hq _ (fT_u h1.1 (by omega)) upA_s (by rw [upA_t (by omega)]; exact h1.2.2.1)
        | succ m ih =>
          intro i τ l7 hi h1
          have ln := lw_ng i hl hr
          have wz := ngI_kV hv i a
          have fb := FB i
          have fs := fsb i
          have r1 := rf_in fs
          have or1 := rf_or fb
          rw [w286_44]
          simp (disch := (first | assumption | omega | exact Nat.le_of_ble_eq_true rfl | rfl)) only [w286_46, w286_47, w286_50, w286_51, w286_52, w286_53, Ko_n, Ko_v, vX_i, vX_r, vX_l, vX_j, reduceIte, show ¬ n < (i : Int) by omega]
          refine c236 h1.2.1 (kV_ng hv i) (by omega) wz.1.1 wz.1.2 wz.2.1 wz.2.2 fun ρ g1 g2 g3 => ?_
          have h2 := nJ_q h1 g1 g2
          rw [← FE]
          have go : ∀ l7, Wp (d + 7) M_X12_bestNight 79 [.ref 382, .int (i32 w), .int (i32 z), .int (i32 n), .int (i32 (fsI F (i + 1)).2), .int (i32 (rf (fsI F (i + 1)).1)), .int (i32 i), l7] [] (E T ρ) Q := by
            intro l7
            simp (disch := (first | assumption | omega | exact Nat.le_of_ble_eq_true rfl | rfl)) only [w286_79, w286_80, Ko_n, Ko_v, vX_i, vX_r, vX_l, vX_j, reduceIte]
            refine c225 h2.2.1 (kV_ng hv i) (by omega) ln.1 ln.2 fun S G => ?_
            simp (disch := (first | assumption | omega | exact Nat.le_of_ble_eq_true rfl | rfl)) only [w286_83, w286_84, w286_87, Ko_n, Ko_v, vX_i, vX_r, vX_l, vX_j, reduceIte]
            exact ih (i + 1) _ l7 (by omega) (nJ_n h2)
          rw [show fsI F (i + 1) = if F i < (fsI F i).1 then (F i, (i : Int)) else fsI F i from rfl] at go
          by_cases e : F i < far
          · have o1 : orN (F i) = F i := if_pos e
            rw [o1]
            by_cases e2 : F i < (fsI F i).1
            · rw [if_pos e2] at go
              dsimp only at go
              rw [show rf (F i) = F i from if_pos e] at go
              simp (disch := (first | assumption | omega | exact Nat.le_of_ble_eq_true rfl | rfl)) only [w286_56, w286_58, w286_60, w286_61, w286_64, w286_66, w286_68, w286_71, w286_73, w286_75, w286_77, Ko_n, Ko_v, vX_i, vX_r, vX_l, vX_j, reduceIte, show ¬ F i = -1 by omega, show ¬ rf (fsI F i).1 ≤ F i by omega]
              exact go _
            · rw [if_neg e2] at go
              simp (disch := (first | assumption | omega | exact Nat.le_of_ble_eq_true rfl | rfl)) only [w286_56, w286_58, w286_60, w286_61, w286_64, w286_66, w286_68, w286_71, w286_73, w286_75, w286_77, Ko_n, Ko_v, vX_i, vX_r, vX_l, vX_j, reduceIte, show ¬ F i = -1 by omega, show rf (fsI F i).1 ≤ F i by omega]
              exact go _
          · have o1 : orN (F i) = -1 := if_neg e
            rw [o1]
            rw [if_neg (by omega)] at go
            simp (disch := (first | assumption | omega | exact Nat.le_of_ble_eq_true rfl | rfl)) only [w286_56, w286_58, w286_60, w286_61, w286_64, w286_66, w286_68, w286_71, w286_73, w286_75, w286_77, Ko_n, Ko_v, vX_i, vX_r, vX_l, vX_j, reduceIte]
            exact go _
      have l0 := loop (n.toNat + 1) 0 (upA (upA σ 1204 382 fun _ => 0) 1222 382 A) vmJ (by omega) ⟨fun t o h => by rw [upA_t (by omega), upA_t (by omega)], by rw [upA_t (by omega)]; exact kU 0, by rw [upA_t (by omega)]; exact sU 0, fun j j0 j1 => by rw [upA_s]; exact hA j j0 j1⟩
      rw [show fsI F 0 = (far, -1) from rfl, show rf ((far, (-1 : Int))).1 = 536870912 from rfl] at l0
      simp (disch := (first | assumption | omega | exact Nat.le_of_ble_eq_true rfl | rfl)) only [w286_33, w286_34, w286_36, w286_39, w286_41, w286_42, Ko_n, Ko_v, vX_i, vX_r, vX_l, vX_j, reduceIte]
      exact l0
    · rw [if_neg b]
      simp (disch := (first | assumption | omega | exact Nat.le_of_ble_eq_true rfl | rfl)) only [w286_20, w286_23, w286_24, w286_25, Ko_n, Ko_v, vX_i, vX_r, vX_l, vX_j, reduceIte, not_true]
      rw [c175]
      simp (disch := (first | assumption | omega | exact Nat.le_of_ble_eq_true rfl | rfl)) only [w286_28, Ko_n, Ko_v, vX_i, vX_r, vX_l, vX_j, reduceIte, upA_upA]
      exact hQ1 2 (Or.inr ⟨a, b, rfl⟩) _ (fU _) (kU _) (sU _)
  · simp (disch := (first | assumption | omega | exact Nat.le_of_ble_eq_true rfl | rfl)) only [w286_6, w286_9, w286_10, w286_11, w286_12, w286_13, w286_14, w286_17, Ko_n, Ko_v, vX_i, vX_r, vX_l, vX_j, reduceIte, Int.reduceEq]
    exact hQ1 1 (Or.inl ⟨a, rfl⟩) _ (fU _) (kU _) (sU _)
