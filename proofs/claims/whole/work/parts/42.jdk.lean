/-! ===== the JDK's methods ===== -/
def fil (f : Int → Int) (n v : Int) : Int → Int := fun j => if 0 ≤ j ∧ j < n then v else f j
theorem fil_fu {f : Int → Int} {z v : Int} (h0 : 0 ≤ z) : fu (fil f z v) z v = fil f (z + 1) v := by
  funext j
  unfold fu fil
  by_cases h : j = z
  · rw [if_pos h, if_pos (by omega)]
  · rw [if_neg h]
    by_cases h2 : 0 ≤ j ∧ j < z
    · rw [if_pos h2, if_pos (by omega)]
    · rw [if_neg h2, if_neg (by omega)]
theorem fil_0 {f : Int → Int} {v : Int} : fil f 0 v = f := by
  funext j
  unfold fil
  rw [if_neg (by omega)]
theorem sh_ln {a t o ty n : Nat} (h : sh a = (0, ty, n, t, o)) : n < 6000 := by
  have ha : a < 406 := sh_lt (by rw [h]; show (0 : Nat) ≠ 9; decide)
  have := sh_u7 a ha
  rw [h] at this
  exact this
theorem c320 {d : Nat} {k : Int} {t o n : Nat} {v : Int} {T : Tt} {σ : St} {Q : vmO → vmH → Prop} (hk : 4 ≤ k) (hs : sh (A t o) = (0, 0, n, t, o)) : Ca d k 320 [.ref (A t o), .int (i32 v)] (E T σ) Q = Q (.inl none) (E T (upA σ t o (fil (σ t o) n v))) := by
  have hn := sh_ln hs
  have ha : A t o < 406 := sh_lt (by rw [hs]; show (0 : Nat) ≠ 9; decide)
  have loop : ∀ (m : Nat) (z : Int), 0 ≤ z → z + m = n → Wp d M_J7_fill_53178 5 [.ref (A t o), .int (i32 v), .int (i32 z), .int (i32 n)] [] (E T (upA σ t o (fil (σ t o) z v))) Q = Q (.inl none) (E T (upA σ t o (fil (σ t o) n v))) := by
    intro m
    induction m with
    | zero =>
      intro z h0 h1
      have hz : z = n := by omega
      subst hz
      simp (disch := (first | assumption | omega | exact Nat.le_of_ble_eq_true rfl | rfl)) only [w320_0, w320_1, w320_2, w320_4, w320_6, w320_7, w320_10, w320_11, w320_12, w320_14, w320_17, w320_20, Ko_n, Ko_v, vX_i, vX_r, vX_l, vX_j, reduceIte, w320_5, Int.le_refl]
    | succ m ih =>
      intro z h0 h1
      rw [w320_5]
      simp (disch := (first | assumption | omega | exact Nat.le_of_ble_eq_true rfl | rfl)) only [w320_0, w320_1, w320_2, w320_4, w320_6, w320_7, w320_10, w320_11, w320_12, w320_14, w320_17, w320_20, Ko_n, Ko_v, vX_i, vX_r, vX_l, vX_j, reduceIte, show ¬ (n : Int) ≤ z by omega]
      rw [g_iast (n := n) rfl (by omega) _ _ _ _ _ _ _ _ _ hs h0 (by omega), upA_upA, upA_s, fil_fu h0]
      simp (disch := (first | assumption | omega | exact Nat.le_of_ble_eq_true rfl | rfl)) only [w320_0, w320_1, w320_2, w320_4, w320_6, w320_7, w320_10, w320_11, w320_12, w320_14, w320_17, w320_20, Ko_n, Ko_v, vX_i, vX_r, vX_l, vX_j, reduceIte]
      exact ih (z + 1) (by omega) (by omega)
  rw [n320 _ _ _ _ _ _ hk]
  simp (disch := (first | assumption | omega | exact Nat.le_of_ble_eq_true rfl | rfl)) only [w320_0, w320_1, w320_2, w320_4, w320_6, w320_7, w320_10, w320_11, w320_12, w320_14, w320_17, w320_20, Ko_n, Ko_v, vX_i, vX_r, vX_l, vX_j, reduceIte]
  rw [g_alen (n := n) (ty := 0) rfl _ _ _ _ _ _ _ hs]
  simp (disch := (first | assumption | omega | exact Nat.le_of_ble_eq_true rfl | rfl)) only [w320_0, w320_1, w320_2, w320_4, w320_6, w320_7, w320_10, w320_11, w320_12, w320_14, w320_17, w320_20, Ko_n, Ko_v, vX_i, vX_r, vX_l, vX_j, reduceIte]
  have := loop n 0 (by omega) (by omega)
  rw [fil_0, upA_self] at this
  exact this
