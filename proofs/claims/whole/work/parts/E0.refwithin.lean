/-! ===== the reference: within ===== -/
def hrF (K : Int → Int) (w : Int) : Int → Int := fun z => if z = K (79 + w) then 0 else far
def sfI (K : Int → Int) (w : Int) : Nat → Int → Int
  | 0 => hrF K w
  | n + 1 => stp (K 1) (K 2) (prK K w) (sfI K w n)
theorem sfI_sm {K : Int → Int} {B w : Int} (hv : kV K B) (h : wh2 (K 1) (K 2)) (n : Nat) (hn : n ≤ 99) : smF (sfI K w n) (K 1 * K 2) (181 * n) := by
  induction n with
  | zero =>
    intro z z0 z1
    show (0 ≤ hrF K w z ∧ hrF K w z ≤ _) ∨ hrF K w z = far
    unfold hrF
    by_cases e : z = K (79 + w)
    · rw [if_pos e]; exact Or.inl ⟨by omega, by omega⟩
    · rw [if_neg e]; exact Or.inr rfl
  | succ n ih =>
    have ih := ih (by omega)
    intro z z0 z1
    have s := (stp_sm h (prK_cs (w := w) hv.1 hv.2.1) ih (by omega) z z0 z1).1
    show (0 ≤ stp (K 1) (K 2) (prK K w) (sfI K w n) z ∧ stp (K 1) (K 2) (prK K w) (sfI K w n) z ≤ _) ∨ stp (K 1) (K 2) (prK K w) (sfI K w n) z = far
    omega
theorem c265 {d : Nat} {k w z n B : Int} {K : Int → Int} {T : Tt} {σ : St} {Q : vmO → vmH → Prop} (hK : σ 1200 382 = K) (hv : kV K B) (hB : B < 900000000) (x0 : -2147483648 ≤ w) (x1 : w < 2147483648) (y0 : -2147483648 ≤ z) (y1 : z < 2147483648) (u0 : -2147483648 ≤ n) (u1 : n < 2147483648)
    (hQ1 : ∀ u, ((¬ wzI K w z ∧ u = 1) ∨ (wzI K w z ∧ ¬ (0 ≤ n ∧ n ≤ 99) ∧ u = 2)) → ∀ τ, fT σ τ → τ 1200 382 = K → τ 1204 382 0 = u → Q (.inl (some (.int (i32 0)))) (E T τ))
    (hQ2 : wzI K w z → (0 ≤ n ∧ n ≤ 99) → ∀ τ, fT σ τ → τ 1200 382 = K → τ 1204 382 0 = 0 → Q (.inl (some (.int (i32 (orN (sfI K w n.toNat z)))))) (E T τ)) : Ca (d + 7) k 265 [.ref 382, .int (i32 w), .int (i32 z), .int (i32 n)] (E T σ) Q := by
  have h0 := ob_md
  have hfar : far = 1000000000 := rfl
  have hhi : hiR = 536870912 := rfl
  have kU : ∀ u, (upA σ 1204 382 fun _ => u) 1200 382 = K := fun u => by rw [upA_t (by omega)]; exact hK
  have fU : ∀ u, fT σ (upA σ 1204 382 fun _ => u) := fun u => fT_u fT_r (by omega)
  have sU : ∀ u, (upA σ 1204 382 fun _ => u) 1204 382 0 = u := fun u => by rw [upA_s]
  rw [n265 _ _ _ _ _ _ _ _ _ h0]
  simp (disch := (first | assumption | omega | exact Nat.le_of_ble_eq_true rfl | rfl)) only [w265_0, w265_1, w265_2, w265_3, Ko_n, Ko_v, vX_i, vX_r, vX_l, vX_j, reduceIte]
  refine c237 hK hv x0 x1 y0 y1 (fun a => ?_) (fun a => ?_)
  · simp (disch := (first | assumption | omega | exact Nat.le_of_ble_eq_true rfl | rfl)) only [w265_6, w265_9, w265_10, w265_11, w265_12, w265_13, w265_14, w265_17, Ko_n, Ko_v, vX_i, vX_r, vX_l, vX_j, reduceIte]
    rw [c176 (by omega) (by omega) (by omega) (by omega) (by omega) (by omega) (by omega)]
    by_cases b : 0 ≤ n ∧ n ≤ 99
    · rw [if_pos b]
      have hq := hQ2 a b
      obtain ⟨h2, h5, h6, h7⟩ := kV_w hv a.1.1 a.1.2
      have hm := wh_mul h2
      have z36 : 0 ≤ z ∧ z < 36 := ⟨a.2.1, by have := a.2.2; omega⟩
      simp (disch := (first | assumption | omega | exact Nat.le_of_ble_eq_true rfl | rfl)) only [w265_20, w265_23, w265_24, w265_25, w265_28, w265_29, w265_30, w265_31, Ko_n, Ko_v, vX_i, vX_r, vX_l, vX_j, reduceIte, Int.reduceEq, not_false_eq_true]
      refine c264 (kU 0) hv hB a.1.1 a.1.2 fun τ g1 g2 g3 g4 => ?_
      have loop : ∀ (m i : Nat) (τ : St), (i : Int) + m = n → fq (upA σ 1204 382 fun _ => 0) τ → τ 1200 382 = K → (∀ z, 0 ≤ z → z < K 1 * K 2 → τ 1219 382 z = rp (prK K w z)) → (∀ z, 0 ≤ z → z < K 1 * K 2 → τ 1220 382 z = rf (sfI K w i z)) → Wp (d + 7) M_X12_within 37 [.ref 382, .int (i32 w), .int (i32 z), .int (i32 n), .int (i32 i)] [] (E T τ) Q := by
        intro m
        induction m with
        | zero =>
          intro i τ hi g1 g2 g3 g4
          have hi' : (i : Int) = n := by omega
          have ft := fT_q g1
          have q := hq τ ft.1 g2 ft.2
          rw [show n.toNat = i by omega] at q
          have s := sfI_sm (w := w) hv h2 i (by omega) z a.2.1 a.2.2
          have dz := g4 z a.2.1 a.2.2
          rw [w265_37]
          simp (disch := (first | assumption | omega | exact Nat.le_of_ble_eq_true rfl | rfl)) only [w265_39, w265_40, w265_43, w265_44, w265_47, w265_50, w265_53, w265_54, w265_57, w265_58, w265_59, Ko_n, Ko_v, vX_i, vX_r, vX_l, vX_j, reduceIte, hi', Int.le_refl, dz]
          by_cases e : sfI K w i z < far
          · rw [show orN (sfI K w i z) = sfI K w i z from if_pos e] at q
            rw [show rf (sfI K w i z) = sfI K w i z from if_pos e, c235 (by omega) (by omega) (by omega), if_pos (by omega)]
            simp (disch := (first | assumption | omega | exact Nat.le_of_ble_eq_true rfl | rfl)) only [w265_62, Ko_n, Ko_v, vX_i, vX_r, vX_l, vX_j, reduceIte]
            exact q
          · rw [show orN (sfI K w i z) = -1 from if_neg e] at q
            rw [show rf (sfI K w i z) = hiR from if_neg e, c235 (by omega) (by omega) (by omega), if_neg (by omega)]
            simp (disch := (first | assumption | omega | exact Nat.le_of_ble_eq_true rfl | rfl)) only [w265_62, Ko_n, Ko_v, vX_i, vX_r, vX_l, vX_j, reduceIte]
            exact q
        | succ m ih =>
          intro i τ hi g1 g2 g3 g4
          rw [w265_37]
          simp (disch := (first | assumption | omega | exact Nat.le_of_ble_eq_true rfl | rfl)) only [w265_39, w265_40, w265_43, w265_44, Ko_n, Ko_v, vX_i, vX_r, vX_l, vX_j, reduceIte, show ¬ n ≤ (i : Int) by omega]
          refine c263 g2 h2 (prK_cs hv.1 hv.2.1) g3 (sfI_sm (w := w) hv h2 i (by omega)) (by omega) (by omega) g4 fun F G hG => ?_
          simp (disch := (first | assumption | omega | exact Nat.le_of_ble_eq_true rfl | rfl)) only [w265_47, w265_50, Ko_n, Ko_v, vX_i, vX_r, vX_l, vX_j, reduceIte]
          exact ih (i + 1) _ (by omega) (fq_u (fq_u g1 (by omega)) (by omega)) (by rw [upA_t (by omega), upA_t (by omega)]; exact g2) (fun z z0 z1 => by rw [upA_t (by omega), upA_t (by omega)]; exact g3 z z0 z1) (fun z z0 z1 => by rw [upA_s]; exact hG z z0 z1)
      simp (disch := (first | assumption | omega | exact Nat.le_of_ble_eq_true rfl | rfl)) only [w265_34, w265_35, Ko_n, Ko_v, vX_i, vX_r, vX_l, vX_j, reduceIte]
      refine loop n.toNat 0 τ (by omega) g1 g2 g3 (fun z z0 z1 => ?_)
      rw [g4 z z0 z1]
      show _ = rf (hrF K w z)
      unfold hrF
      by_cases e : z = K (79 + w)
      · rw [if_pos e, if_pos e]; rfl
      · rw [if_neg e, if_neg e]; rfl
    · rw [if_neg b]
      simp (disch := (first | assumption | omega | exact Nat.le_of_ble_eq_true rfl | rfl)) only [w265_20, w265_23, w265_24, w265_25, Ko_n, Ko_v, vX_i, vX_r, vX_l, vX_j, reduceIte, not_true]
      rw [c175]
      simp (disch := (first | assumption | omega | exact Nat.le_of_ble_eq_true rfl | rfl)) only [w265_28, Ko_n, Ko_v, vX_i, vX_r, vX_l, vX_j, reduceIte, upA_upA]
      exact hQ1 2 (Or.inr ⟨a, b, rfl⟩) _ (fU _) (kU _) (sU _)
  · simp (disch := (first | assumption | omega | exact Nat.le_of_ble_eq_true rfl | rfl)) only [w265_6, w265_9, w265_10, w265_11, w265_12, w265_13, w265_14, w265_17, Ko_n, Ko_v, vX_i, vX_r, vX_l, vX_j, reduceIte, Int.reduceEq]
    exact hQ1 1 (Or.inl ⟨a, rfl⟩) _ (fU _) (kU _) (sU _)
