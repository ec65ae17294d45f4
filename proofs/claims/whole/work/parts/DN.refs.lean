/-! ===== the reference: costs where cells are shut; needed, dearest ===== -/
theorem c178 {d : Nat} {k z : Int} {p : Int → Bool} {h : vmH} {Q : vmO → vmH → Prop} (hk : 4 ≤ k) (z0 : 0 ≤ z) (z1 : z < 64) : Ca d k 178 [.long (bs p), .int (i32 z)] h Q = Q (.inl (some (.int (i32 (if p z then 1 else 0))))) h := by
  rw [n178 _ _ _ _ _ _ hk]
  have hs := bs_hass (p := p) z0 z1
  cases e : p z with
  | true =>
    have h1 : lr (bs p) z &&& i64 1 = i64 1 := hs.mpr e
    simp (disch := (first | assumption | omega | exact Nat.le_of_ble_eq_true rfl | rfl)) only [w178_0, w178_1, w178_2, w178_3, w178_4, w178_5, w178_6, w178_10, w178_11, w178_14, w178_15, Ko_n, Ko_v, vX_i, vX_r, vX_l, vX_j, reduceIte, h1, not_true, Int.reduceEq]
  | false =>
    have h1 : ¬ lr (bs p) z &&& i64 1 = i64 1 := fun w => by rw [hs.mp w] at e; exact Bool.noConfusion e
    simp (disch := (first | assumption | omega | exact Nat.le_of_ble_eq_true rfl | rfl)) only [w178_0, w178_1, w178_2, w178_3, w178_4, w178_5, w178_6, w178_10, w178_11, w178_14, w178_15, Ko_n, Ko_v, vX_i, vX_r, vX_l, vX_j, reduceIte, h1, not_false_eq_true, Bool.false_eq_true]
def shC (c : Int → Int) (p : Int → Bool) : Int → Int := fun z => if p z = true then -1 else c z
theorem shC_cs {c : Int → Int} {p : Int → Bool} {N : Int} (hc : csIn c N) : csIn (shC c p) N := fun j j0 j1 => by
  unfold shC
  by_cases e : p j = true
  · rw [if_pos e]; omega
  · rw [if_neg e]; exact hc j j0 j1
theorem c279 {d N : Nat} {k a t : Int} {K c : Int → Int} {p : Int → Bool} {T : Tt} {σ : St} {Q : vmO → vmH → Prop} (hK : σ 1200 382 = K) (h : wh2 (K 1) (K 2)) (hN : (N : Int) = K 1 * K 2) (hc : csIn c (K 1 * K 2)) (hP : ∀ z, 0 ≤ z → z < K 1 * K 2 → σ 1219 382 z = rp (c z)) (a0 : 0 ≤ a) (a1 : a < K 1 * K 2) (ha : c a ≠ -1) (hpa : p a = false) (t0 : 0 ≤ t) (t1 : t < K 1 * K 2)
    (hQ : ∀ P D, Q (.inl (some (.int (i32 (rf (dD (K 1) (K 2) (shC c p) a N t)))))) (E T (upA (upA σ 1219 382 P) 1220 382 D))) : Ca (d + 3) k 279 [.ref 382, .int (i32 a), .int (i32 t), .long (bs p)] (E T σ) Q := by
  have h0 := ob_md
  have hm := wh_mul h
  rw [n279 _ _ _ _ _ _ _ _ _ h0]
  have loop : ∀ (m n : Nat) (P : Int → Int), n + m = N → (∀ z : Int, 0 ≤ z → z < n → P z = rp (shC c p z)) → (∀ z : Int, n ≤ z → z < K 1 * K 2 → P z = rp (c z)) → Wp (d + 3) M_X12_costShut 3 [.ref 382, .int (i32 a), .int (i32 t), .long (bs p), vmJ, .int (i32 n)] [] (E T (upA σ 1219 382 P)) Q := by
    intro m
    induction m with
    | zero =>
      intro n P hn h1 h2
      have hn : n = N := by omega
      subst hn
      have kU : (upA σ 1219 382 P) 1200 382 = K := by rw [upA_t (by omega)]; exact hK
      rw [w279_3]
      simp (disch := (first | assumption | omega | exact Nat.le_of_ble_eq_true rfl | rfl)) only [w279_5, w279_6, Ko_n, Ko_v, vX_i, vX_r, vX_l, vX_j, reduceIte]
      rw [c210 kU]
      simp (disch := (first | assumption | omega | exact Nat.le_of_ble_eq_true rfl | rfl)) only [w279_9, w279_12, w279_13, w279_15, w279_18, w279_21, w279_22, w279_25, w279_27, w279_30, w279_31, w279_34, w279_37, w279_38, w279_39, Ko_n, Ko_v, vX_i, vX_r, vX_l, vX_j, reduceIte, hN, Int.le_refl]
      refine c232 (c := shC c p) (N := n) kU h hN (shC_cs hc) (fun z z0 z1 => by rw [upA_s]; exact h1 z z0 (by omega)) a0 a1 (by unfold shC; rw [hpa]; exact ha) fun D hD => ?_
      simp (disch := (first | assumption | omega | exact Nat.le_of_ble_eq_true rfl | rfl)) only [w279_42, w279_43, w279_46, w279_47, w279_48, Ko_n, Ko_v, vX_i, vX_r, vX_l, vX_j, reduceIte, upA_s]
      rw [hD t t0 t1]
      exact hQ P D
    | succ m ih =>
      intro n P hn h1 h2
      have kU : (upA σ 1219 382 P) 1200 382 = K := by rw [upA_t (by omega)]; exact hK
      rw [w279_3]
      simp (disch := (first | assumption | omega | exact Nat.le_of_ble_eq_true rfl | rfl)) only [w279_5, w279_6, Ko_n, Ko_v, vX_i, vX_r, vX_l, vX_j, reduceIte]
      rw [c210 kU]
      simp (disch := (first | assumption | omega | exact Nat.le_of_ble_eq_true rfl | rfl)) only [w279_9, w279_12, w279_13, w279_15, Ko_n, Ko_v, vX_i, vX_r, vX_l, vX_j, reduceIte, show ¬ K 1 * K 2 ≤ (n : Int) by omega]
      rw [c178 (by omega) (by omega) (by omega)]
      cases e : p n with
      | true =>
        simp (disch := (first | assumption | omega | exact Nat.le_of_ble_eq_true rfl | rfl)) only [w279_18, w279_21, w279_22, w279_25, w279_27, w279_30, w279_31, w279_34, Ko_n, Ko_v, vX_i, vX_r, vX_l, vX_j, reduceIte, Int.reduceEq, upA_s, upA_upA]
        refine ih (n + 1) _ (by omega) (fun z z0 z1 => ?_) (fun z z0 z1 => ?_)
        · by_cases ez : z = n
          · rw [ez, fu_s]; unfold shC; rw [if_pos e]; rfl
          · rw [fu_n ez]; exact h1 z z0 (by omega)
        · rw [fu_n (by omega)]; exact h2 z (by omega) z1
      | false =>
        simp (disch := (first | assumption | omega | exact Nat.le_of_ble_eq_true rfl | rfl)) only [w279_18, w279_21, w279_22, w279_25, w279_27, w279_30, w279_31, w279_34, Ko_n, Ko_v, vX_i, vX_r, vX_l, vX_j, reduceIte, Bool.false_eq_true]
        refine ih (n + 1) _ (by omega) (fun z z0 z1 => ?_) (fun z z0 z1 => h2 z (by omega) z1)
        by_cases ez : z = n
        · rw [ez]; unfold shC; rw [e]; exact h2 n (by omega) (by omega)
        · exact h1 z z0 (by omega)
  have l0 := loop N 0 (σ 1219 382) (by omega) (fun z z0 z1 => by omega) (fun z z0 z1 => hP z (by omega) z1)
  rw [upA_self] at l0
  simp (disch := (first | assumption | omega | exact Nat.le_of_ble_eq_true rfl | rfl)) only [w279_0, w279_1, Ko_n, Ko_v, vX_i, vX_r, vX_l, vX_j, reduceIte]
  exact l0
