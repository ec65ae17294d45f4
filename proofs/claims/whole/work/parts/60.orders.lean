/-! ===== Rounds: orders ===== -/
theorem c68 {d N : Nat} {k : Int} {T : Tt} {σ : St} {Q : vmO → vmH → Prop} (hn : σ 604 167 0 = N) (hN : N ≤ 4) (hl : lgOk N (σ 601 167)) (hd : ∀ j, 0 ≤ j → j < (N : Int) → 0 ≤ σ 602 167 j ∧ σ 602 167 j ≤ 999) (s0 : 0 ≤ σ 605 167 0) (s1 : σ 605 167 0 < 1000000000) :
    Ca (d + 1) k 68 [.ref 167] (E T σ) Q = Q (.inl none) (E T (rgS (upA σ 603 167 (cp (fun i => i) (σ 603 167) N)) (rdI (σ 601 167) (σ 602 167) (σ 605 167 0) (cp (fun i => i) (σ 603 167) N) N).1 (rdI (σ 601 167) (σ 602 167) (σ 605 167 0) (cp (fun i => i) (σ 603 167) N) N).2.1 (rdI (σ 601 167) (σ 602 167) (σ 605 167 0) (cp (fun i => i) (σ 603 167) N) N).2.2.1)) := by
  have hr := ob_ro
  have loop : ∀ (m n : Nat), n + m = N → Wp (d + 1) M_X6_inOrderTold 2 [.ref 167, .int (i32 n)] [] (E T (upA σ 603 167 (cp (fun i => i) (σ 603 167) n))) Q = Q (.inl none) (E T (rgS (upA σ 603 167 (cp (fun i => i) (σ 603 167) N)) (rdI (σ 601 167) (σ 602 167) (σ 605 167 0) (cp (fun i => i) (σ 603 167) N) N).1 (rdI (σ 601 167) (σ 602 167) (σ 605 167 0) (cp (fun i => i) (σ 603 167) N) N).2.1 (rdI (σ 601 167) (σ 602 167) (σ 605 167 0) (cp (fun i => i) (σ 603 167) N) N).2.2.1)) := by
    intro m
    induction m with
    | zero =>
      intro n hn2
      have hn2 : n = N := by omega
      subst hn2
      rw [w68_2]
      simp (disch := (first | assumption | omega | exact Nat.le_of_ble_eq_true rfl | rfl)) only [w68_0, w68_1, w68_3, w68_4, w68_7, w68_10, w68_11, w68_14, w68_15, w68_16, w68_17, w68_20, w68_23, w68_24, w68_27, Ko_n, Ko_v, vX_i, vX_r, vX_l, vX_j, reduceIte, upA_t, hn, Int.le_refl]
      rw [c69 (N := n) (by rw [upA_t (by omega)]; exact hn) hN (by
        intro i hi
        rw [upA_s, cp_lt (by omega) (by omega)]
        omega) (by rw [upA_t (by omega)]; exact hl) (by rw [upA_t (by omega)]; exact hd) (by rw [upA_t (by omega)]; exact s0) (by rw [upA_t (by omega)]; exact s1)]
      simp (disch := (first | assumption | omega | exact Nat.le_of_ble_eq_true rfl | rfl)) only [w68_0, w68_1, w68_3, w68_4, w68_7, w68_10, w68_11, w68_14, w68_15, w68_16, w68_17, w68_20, w68_23, w68_24, w68_27, Ko_n, Ko_v, vX_i, vX_r, vX_l, vX_j, reduceIte, upA_t, upA_s]
    | succ m ih =>
      intro n hn2
      have ih' := ih (n + 1) (by omega)
      rw [show cp (fun i => i) (σ 603 167) ((n + 1 : Nat) : Int) = fu (cp (fun i => i) (σ 603 167) n) n n from (cp_fu (f := fun i => i) (g := σ 603 167) (by omega : (0 : Int) ≤ n)).symm] at ih'
      rw [w68_2]
      simp (disch := (first | assumption | omega | exact Nat.le_of_ble_eq_true rfl | rfl)) only [w68_0, w68_1, w68_3, w68_4, w68_7, w68_10, w68_11, w68_14, w68_15, w68_16, w68_17, w68_20, w68_23, w68_24, w68_27, Ko_n, Ko_v, vX_i, vX_r, vX_l, vX_j, reduceIte, upA_t, upA_s, upA_upA, hn, show ¬ (N : Int) ≤ (n : Int) by omega]
      exact ih'
  rw [n68 _ _ _ _ _ _ hr]
  simp (disch := (first | assumption | omega | exact Nat.le_of_ble_eq_true rfl | rfl)) only [w68_0, w68_1, w68_3, w68_4, w68_7, w68_10, w68_11, w68_14, w68_15, w68_16, w68_17, w68_20, w68_23, w68_24, w68_27, Ko_n, Ko_v, vX_i, vX_r, vX_l, vX_j, reduceIte]
  have := loop N 0 (by omega)
  rw [show ((0 : Nat) : Int) = 0 from rfl, cp_0, upA_self] at this
  exact this
/-! a number's digits as an order -/
def dgt (N : Nat) (row : Int) (j : Nat) : Int := row / (N : Int) ^ j % N
def odI (N : Nat) (row : Int) (g : Int → Int) : Nat → Int → Int
  | 0 => g
  | j + 1 => fu (odI N row g j) (N - (j + 1)) (dgt N row j)
def snI (N : Nat) (row : Int) : Nat → Int
  | 0 => 0
  | j + 1 => oo (snI N row j) (sl 1 (dgt N row j))
theorem oo_16 : ∀ u : Fin 16, ∀ e : Fin 4, 0 ≤ oo (u.val : Int) (sl 1 (e.val : Int)) ∧ oo (u.val : Int) (sl 1 (e.val : Int)) < 16 := by decide
theorem sl_4 : ∀ n : Fin 5, 1 ≤ sl 1 (n.val : Int) ∧ sl 1 (n.val : Int) ≤ 16 := by decide
theorem dgt_in {N : Nat} {row : Int} {j : Nat} (hN : 0 < N) : 0 ≤ dgt N row j ∧ dgt N row j < N := by
  unfold dgt
  exact ⟨Int.emod_nonneg _ (by omega), Int.emod_lt_of_pos _ (by omega)⟩
theorem snI_in {N : Nat} {row : Int} (hN : 0 < N) (h4 : N ≤ 4) (j : Nat) : 0 ≤ snI N row j ∧ snI N row j < 16 := by
  induction j with
  | zero => simp [snI]
  | succ j ih =>
    have hd := dgt_in (row := row) (j := j) hN
    have := oo_16 ⟨(snI N row j).toNat, by omega⟩ ⟨(dgt N row j).toNat, by omega⟩
    dsimp only at this
    rw [show (((snI N row j).toNat : Nat) : Int) = snI N row j by omega, show (((dgt N row j).toNat : Nat) : Int) = dgt N row j by omega] at this
    exact this
theorem c71 {d N : Nat} {k row : Int} {T : Tt} {σ : St} {Q : vmO → vmH → Prop} (hn : σ 604 167 0 = N) (hN : N ≤ 4) (r0 : 0 ≤ row) (r1 : row < 1000) : Ca d k 71 [.ref 167, .int (i32 row)] (E T σ) Q = Q (.inl (some (.int (i32 (if snI N row N = sl 1 N - 1 then 1 else 0))))) (E T (upA σ 603 167 (odI N row (σ 603 167) N))) := by
  have hr := ob_ro
  have hsl := sl_4 ⟨N, by omega⟩
  dsimp only at hsl
  have hsn : 0 ≤ snI N row N ∧ snI N row N < 16 := by
    rcases Nat.eq_zero_or_pos N with h | h
    · subst h; simp [snI]
    · exact snI_in h hN N
  have hpw : ∀ j : Nat, 0 ≤ row / (N : Int) ^ j ∧ row / (N : Int) ^ j < 1000 := by
    intro j
    have hp : 0 ≤ (N : Int) ^ j := Int.pow_nonneg (by omega)
    exact ⟨Int.ediv_nonneg r0 hp, Int.lt_of_le_of_lt (Int.ediv_le_self _ r0) r1⟩
  have loop : ∀ (m j : Nat), j + m = N → Wp d M_X6_isOrder 12 [.ref 167, .int (i32 row), .int (i32 (row / (N : Int) ^ j)), .int (i32 (snI N row j)), .int (i32 (N - (j + 1)))] [] (E T (upA σ 603 167 (odI N row (σ 603 167) j))) Q = Q (.inl (some (.int (i32 (if snI N row N = sl 1 N - 1 then 1 else 0))))) (E T (upA σ 603 167 (odI N row (σ 603 167) N))) := by
    intro m
    induction m with
    | zero =>
      intro j hj
      have hj : j = N := by omega
      subst hj
      rw [w71_12]
      simp (disch := (first | assumption | omega | exact Nat.le_of_ble_eq_true rfl | rfl)) only [w71_0, w71_1, w71_2, w71_3, w71_4, w71_5, w71_8, w71_9, w71_10, w71_14, w71_17, w71_18, w71_21, w71_23, w71_24, w71_25, w71_28, w71_29, w71_30, w71_31, w71_32, w71_35, w71_36, w71_37, w71_38, w71_39, w71_40, w71_43, w71_45, w71_46, w71_47, w71_48, w71_49, w71_52, w71_55, w71_56, w71_57, w71_58, w71_61, w71_62, w71_63, w71_64, w71_67, w71_68, w71_71, w71_72, Ko_n, Ko_v, vX_i, vX_r, vX_l, vX_j, reduceIte, show ((j : Int) - ((j : Int) + 1)) < 0 by omega, upA_t, hn]
      by_cases hx : snI j row j = sl 1 j - 1
      · simp [hx]
      · simp [hx]
    | succ m ih =>
      intro j hj
      have ih' := ih (j + 1) (by omega)
      have hN0 : 0 < N := by omega
      have hd := dgt_in (row := row) (j := j) hN0
      have hs := snI_in (row := row) hN0 hN j
      have hp := hpw j
      have e1 : row / (N : Int) ^ j / N = row / (N : Int) ^ (j + 1) := by
        rw [Int.pow_succ, Int.ediv_ediv_of_nonneg (Int.pow_nonneg (by omega))]
      have e2 : row / (N : Int) ^ j % N = dgt N row j := rfl
      rw [w71_12]
      simp (disch := (first | assumption | omega | exact Nat.le_of_ble_eq_true rfl | rfl)) only [w71_0, w71_1, w71_2, w71_3, w71_4, w71_5, w71_8, w71_9, w71_10, w71_14, w71_17, w71_18, w71_21, w71_23, w71_24, w71_25, w71_28, w71_29, w71_30, w71_31, w71_32, w71_35, w71_36, w71_37, w71_38, w71_39, w71_40, w71_43, w71_45, w71_46, w71_47, w71_48, w71_49, w71_52, w71_55, w71_56, w71_57, w71_58, w71_61, w71_62, w71_63, w71_64, w71_67, w71_68, w71_71, w71_72, Ko_n, Ko_v, vX_i, vX_r, vX_l, vX_j, reduceIte, show ¬ ((N : Int) - ((j : Int) + 1)) < 0 by omega, upA_t, upA_s, upA_upA, hn, fu_s, e1, e2]
      rw [show ((N : Int) - (((j + 1 : Nat) : Int) + 1)) = (N : Int) - ((j : Int) + 1) + -1 by omega] at ih'
      exact ih'
  rw [n71 _ _ _ _ _ _ _ hr]
  simp (disch := (first | assumption | omega | exact Nat.le_of_ble_eq_true rfl | rfl)) only [w71_0, w71_1, w71_2, w71_3, w71_4, w71_5, w71_8, w71_9, w71_10, w71_14, w71_17, w71_18, w71_21, w71_23, w71_24, w71_25, w71_28, w71_29, w71_30, w71_31, w71_32, w71_35, w71_36, w71_37, w71_38, w71_39, w71_40, w71_43, w71_45, w71_46, w71_47, w71_48, w71_49, w71_52, w71_55, w71_56, w71_57, w71_58, w71_61, w71_62, w71_63, w71_64, w71_67, w71_68, w71_71, w71_72, Ko_n, Ko_v, vX_i, vX_r, vX_l, vX_j, reduceIte, hn]
  have := loop N 0 (by omega)
  simp only [odI, snI] at this
  rw [upA_self, Int.pow_zero, Int.ediv_one, show ((N : Int) - (((0 : Nat) : Int) + 1)) = (N : Int) - 1 by omega] at this
  exact this
