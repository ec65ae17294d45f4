/-! ===== String.indexOf of a byte in the signs ===== -/
def ixO (b : Int) : Nat → Int → Int
  | 0, _ => -1
  | m + 1, j => if tb 0 j = b then j else ixO b m (j + 1)
theorem ixO_sg : ∀ c : Fin 256, decide (0 ≤ ixO (i32 (c.val : Int)).toInt8.toInt 11 0) = sgB (c.val : Int) := by decide +kernel
theorem ixO_in {b : Int} : ∀ (m : Nat) (j : Int), 0 ≤ j → j + m ≤ 11 → -1 ≤ ixO b m j ∧ ixO b m j < 11
  | 0, j, _, _ => by simp only [ixO]; omega
  | m + 1, j, h0, h1 => by
    simp only [ixO]
    split
    · omega
    · exact ixO_in m (j + 1) (by omega) (by omega)
theorem by0_l : (vmByt 0).length = 11 := by decide +kernel
theorem c316 {d : Nat} {k c : Int} {h : vmH} {Q : vmO → vmH → Prop} (hk : 4 ≤ k) (c0 : 0 ≤ c) (c1 : c ≤ 255) : Ca d k 316 [.int (i32 c)] h Q = Q (.inl (some (.int (i32 1)))) h := by
  rw [n316 _ _ _ _ _ hk]
  simp (disch := (first | assumption | omega | exact Nat.le_of_ble_eq_true rfl | rfl)) only [w316_0, w316_1, w316_4, w316_5, w316_8, w316_11, w316_12, w316_15, w316_16, Ko_n, Ko_v, vX_i, vX_r, vX_l, vX_j, reduceIte, show ¬ c < 0 by omega, show ¬ 255 < c by omega]
theorem c318 {d : Nat} {k c : Int} {T : Tt} {σ : St} {Q : vmO → vmH → Prop} (hk : 4 ≤ k) (c0 : 0 ≤ c) (c1 : c ≤ 255) : Ca d k 318 [.ref 1000001, .int (i32 c), .int (i32 0), .int (i32 11)] (E T σ) Q = Q (.inl (some (.int (i32 (ixO (i32 c).toInt8.toInt 11 0))))) (E T σ) := by
  have b1 := Int8.le_toInt (i32 c).toInt8
  have b2 := Int8.toInt_lt (i32 c).toInt8
  rw [n318 _ _ _ _ _ _ _ _ hk]
  have loop : ∀ (m : Nat) (j : Int), 0 ≤ j → j + m = 11 → Wp d M_J1_indexOfChar_4cfef 7 [.ref 1000001, .int (i32 c), .int (i32 0), .int (i32 11), .int (i32 (i32 c).toInt8.toInt), .int (i32 j)] [] (E T σ) Q = Q (.inl (some (.int (i32 (ixO (i32 c).toInt8.toInt m j))))) (E T σ) := by
    intro m
    induction m with
    | zero =>
      intro j j0 hj
      simp (disch := omega) only [w318_7]
      simp (disch := (first | assumption | omega | exact Nat.le_of_ble_eq_true rfl | rfl)) only [w318_0, w318_1, w318_2, w318_4, w318_5, w318_9, w318_10, w318_13, w318_14, w318_17, w318_19, w318_22, w318_24, w318_25, w318_28, w318_31, w318_32, Ko_n, Ko_v, vX_i, vX_r, vX_l, vX_j, reduceIte, show (11 : Int) ≤ j by omega]
      rfl
    | succ m ih =>
      intro j j0 hj
      have ih' := ih (j + 1) (by omega) (by omega)
      have ht := tb_in (i := 0) (by omega) j
      simp (disch := omega) only [w318_7]
      simp (disch := (first | assumption | omega | exact Nat.le_of_ble_eq_true rfl | rfl)) only [w318_0, w318_1, w318_2, w318_4, w318_5, w318_9, w318_10, w318_13, w318_14, w318_17, w318_19, w318_22, w318_24, w318_25, w318_28, w318_31, w318_32, Ko_n, Ko_v, vX_i, vX_r, vX_l, vX_j, reduceIte, show ¬ (11 : Int) ≤ j by omega]
      rw [show (1000001 : Nat) = 1000000 + 2 * 0 + 1 from rfl, g_byt (i := 0) rfl (by omega) j0 (by rw [by0_l]; omega)]
      simp only [ixO]
      by_cases e : tb 0 j = (i32 c).toInt8.toInt
      · rw [if_pos e]
        simp (disch := (first | assumption | omega | exact Nat.le_of_ble_eq_true rfl | rfl)) only [w318_0, w318_1, w318_2, w318_4, w318_5, w318_9, w318_10, w318_13, w318_14, w318_17, w318_19, w318_22, w318_24, w318_25, w318_28, w318_31, w318_32, Ko_n, Ko_v, vX_i, vX_r, vX_l, vX_j, reduceIte, e, not_true]
      · rw [if_neg e]
        simp (disch := (first | assumption | omega | exact Nat.le_of_ble_eq_true rfl | rfl)) only [w318_0, w318_1, w318_2, w318_4, w318_5, w318_9, w318_10, w318_13, w318_14, w318_17, w318_19, w318_22, w318_24, w318_25, w318_28, w318_31, w318_32, Ko_n, Ko_v, vX_i, vX_r, vX_l, vX_j, reduceIte, e, not_false_eq_true]
        exact ih'
  simp (disch := (first | assumption | omega | exact Nat.le_of_ble_eq_true rfl | rfl)) only [w318_0, w318_1, w318_2, w318_4, w318_5, w318_9, w318_10, w318_13, w318_14, w318_17, w318_19, w318_22, w318_24, w318_25, w318_28, w318_31, w318_32, Ko_n, Ko_v, vX_i, vX_r, vX_l, vX_j, reduceIte]
  exact loop 11 0 (by omega) (by omega)
theorem c317 {d : Nat} {k c : Int} {T : Tt} {σ : St} {Q : vmO → vmH → Prop} (hk : 4 ≤ k) (c0 : 0 ≤ c) (c1 : c ≤ 255) : Ca (d + 1) k 317 [.ref 1000001, .int (i32 c), .int (i32 0), .int (i32 11)] (E T σ) Q = Q (.inl (some (.int (i32 (ixO (i32 c).toInt8.toInt 11 0))))) (E T σ) := by
  rw [n317 _ _ _ _ _ _ _ _ hk]
  simp (disch := (first | assumption | omega | exact Nat.le_of_ble_eq_true rfl | rfl)) only [w317_0, w317_1, w317_4, w317_7, w317_8, w317_9, w317_10, w317_11, w317_14, w317_15, w317_16, w317_18, w317_21, w317_22, w317_23, w317_24, w317_27, w317_28, w317_29, w317_30, w317_31, w317_32, w317_33, w317_36, Ko_n, Ko_v, vX_i, vX_r, vX_l, vX_j, reduceIte]
  rw [c316 (by omega) c0 c1]
  simp (disch := (first | assumption | omega | exact Nat.le_of_ble_eq_true rfl | rfl)) only [w317_0, w317_1, w317_4, w317_7, w317_8, w317_9, w317_10, w317_11, w317_14, w317_15, w317_16, w317_18, w317_21, w317_22, w317_23, w317_24, w317_27, w317_28, w317_29, w317_30, w317_31, w317_32, w317_33, w317_36, Ko_n, Ko_v, vX_i, vX_r, vX_l, vX_j, reduceIte, Int.reduceEq, not_false_eq_true, show max (0 : Int) 0 = 0 from rfl]
  rw [show (1000001 : Nat) = 1000000 + 2 * 0 + 1 from rfl, g_bln (i := 0) rfl (by omega), by0_l]
  simp (disch := (first | assumption | omega | exact Nat.le_of_ble_eq_true rfl | rfl)) only [w317_0, w317_1, w317_4, w317_7, w317_8, w317_9, w317_10, w317_11, w317_14, w317_15, w317_16, w317_18, w317_21, w317_22, w317_23, w317_24, w317_27, w317_28, w317_29, w317_30, w317_31, w317_32, w317_33, w317_36, Ko_n, Ko_v, vX_i, vX_r, vX_l, vX_j, reduceIte, show min (11 : Int) ((11 : Nat) : Int) = 11 from rfl, show (0 : Int) < 11 by omega]
  rw [c318 (by omega) c0 c1]
  simp (disch := (first | assumption | omega | exact Nat.le_of_ble_eq_true rfl | rfl)) only [w317_0, w317_1, w317_4, w317_7, w317_8, w317_9, w317_10, w317_11, w317_14, w317_15, w317_16, w317_18, w317_21, w317_22, w317_23, w317_24, w317_27, w317_28, w317_29, w317_30, w317_31, w317_32, w317_33, w317_36, Ko_n, Ko_v, vX_i, vX_r, vX_l, vX_j, reduceIte]
theorem c311 {d : Nat} {k c : Int} {T : Tt} {σ : St} {Q : vmO → vmH → Prop} (c0 : 0 ≤ c) (c1 : c ≤ 255) : Ca (d + 2) k 311 [.ref 1000000, .int (i32 c), .int (i32 0)] (E T σ) Q = Q (.inl (some (.int (i32 (ixO (i32 c).toInt8.toInt 11 0))))) (E T σ) := by
  rw [show (1000000 : Nat) = 1000000 + 2 * 0 from rfl, ca_in (y := M_J0_indexOf_7cf53) (L := [.ref (1000000 + 2 * 0), .int (i32 c), .int (i32 0)]) rfl (fun _ => recv_str rfl (by omega)) (Nat.le_of_ble_eq_true rfl) rfl]
  simp (disch := (first | assumption | omega | exact Nat.le_of_ble_eq_true rfl | rfl)) only [w311_0, w311_1, w311_4, w311_7, w311_11, w311_12, w311_13, w311_14, w311_17, w311_20, w311_23, w311_27, w311_28, w311_29, w311_30, w311_36, Ko_n, Ko_v, vX_i, vX_r, vX_l, vX_j, reduceIte]
  rw [c313 (i := 0) (by omega)]
  simp (disch := (first | assumption | omega | exact Nat.le_of_ble_eq_true rfl | rfl)) only [w311_0, w311_1, w311_4, w311_7, w311_11, w311_12, w311_13, w311_14, w311_17, w311_20, w311_23, w311_27, w311_28, w311_29, w311_30, w311_36, Ko_n, Ko_v, vX_i, vX_r, vX_l, vX_j, reduceIte, Int.reduceEq]
  rw [g_val (i := 0) rfl (by omega)]
  simp (disch := (first | assumption | omega | exact Nat.le_of_ble_eq_true rfl | rfl)) only [w311_0, w311_1, w311_4, w311_7, w311_11, w311_12, w311_13, w311_14, w311_17, w311_20, w311_23, w311_27, w311_28, w311_29, w311_30, w311_36, Ko_n, Ko_v, vX_i, vX_r, vX_l, vX_j, reduceIte]
  rw [c308 (i := 0) (by omega), by0_l]
  simp (disch := (first | assumption | omega | exact Nat.le_of_ble_eq_true rfl | rfl)) only [w311_0, w311_1, w311_4, w311_7, w311_11, w311_12, w311_13, w311_14, w311_17, w311_20, w311_23, w311_27, w311_28, w311_29, w311_30, w311_36, Ko_n, Ko_v, vX_i, vX_r, vX_l, vX_j, reduceIte]
  have := fun k hk Q => c317 (d := d) (k := k) (T := T) (σ := σ) (Q := Q) hk c0 c1
  rw [show (((11 : Nat) : Int)) = 11 from rfl, show 1000000 + 2 * 0 + 1 = 1000001 from rfl, this _ (by omega)]
  simp (disch := (first | assumption | omega | exact Nat.le_of_ble_eq_true rfl | rfl)) only [w311_0, w311_1, w311_4, w311_7, w311_11, w311_12, w311_13, w311_14, w311_17, w311_20, w311_23, w311_27, w311_28, w311_29, w311_30, w311_36, Ko_n, Ko_v, vX_i, vX_r, vX_l, vX_j, reduceIte]
theorem c310 {d : Nat} {k c : Int} {T : Tt} {σ : St} {Q : vmO → vmH → Prop} (c0 : 0 ≤ c) (c1 : c ≤ 255) : Ca (d + 3) k 310 [.ref 1000000, .int (i32 c)] (E T σ) Q = Q (.inl (some (.int (i32 (ixO (i32 c).toInt8.toInt 11 0))))) (E T σ) := by
  rw [show (1000000 : Nat) = 1000000 + 2 * 0 from rfl, ca_in (y := M_J0_indexOf_0f7a4) (L := [.ref (1000000 + 2 * 0), .int (i32 c)]) rfl (fun _ => recv_str rfl (by omega)) (Nat.le_of_ble_eq_true rfl) rfl]
  simp (disch := (first | assumption | omega | exact Nat.le_of_ble_eq_true rfl | rfl)) only [w310_0, w310_1, w310_2, w310_3, w310_6, Ko_n, Ko_v, vX_i, vX_r, vX_l, vX_j, reduceIte]
  have := fun k Q => c311 (d := d) (k := k) (T := T) (σ := σ) (Q := Q) c0 c1
  rw [show 1000000 + 2 * 0 = 1000000 from rfl, this]
  simp (disch := (first | assumption | omega | exact Nat.le_of_ble_eq_true rfl | rfl)) only [w310_0, w310_1, w310_2, w310_3, w310_6, Ko_n, Ko_v, vX_i, vX_r, vX_l, vX_j, reduceIte]
theorem ixO_s {c : Int} (c0 : 0 ≤ c) (c1 : c ≤ 255) : (ixO (i32 c).toInt8.toInt 11 0 < 0 ↔ sgB c = false) ∧ -1 ≤ ixO (i32 c).toInt8.toInt 11 0 ∧ ixO (i32 c).toInt8.toInt 11 0 < 11 := by
  have h := ixO_sg ⟨c.toNat, by omega⟩
  dsimp only at h
  rw [show ((c.toNat : Nat) : Int) = c by omega] at h
  refine ⟨?_, ixO_in 11 0 (by omega) (by omega)⟩
  rw [← h, decide_eq_false_iff_not]
  omega
