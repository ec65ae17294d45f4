/-! ===== the reference: small questions of what is known ===== -/
def hiR : Int := 536870912
/-- what is known, for most questions -/
def kOk (K : Int → Int) : Prop := ∃ B : Int, kV K B ∧ B < 900000000
theorem c210 {d : Nat} {k : Int} {K : Int → Int} {T : Tt} {σ : St} {Q : vmO → vmH → Prop} (hK : σ 1200 382 = K) : Ca d k 210 [.ref 382] (E T σ) Q = Q (.inl (some (.int (i32 (K 1 * K 2))))) (E T σ) := by
  have h0 := ob_md
  rw [n210 _ _ _ _ _ _ h0]
  simp (disch := (first | assumption | omega | exact Nat.le_of_ble_eq_true rfl | rfl)) only [w210_0, w210_1, w210_4, w210_5, w210_6, w210_7, w210_10, w210_11, w210_12, w210_13, Ko_n, Ko_v, vX_i, vX_r, vX_l, vX_j, reduceIte, hK]
theorem c211 {d : Nat} {k z : Int} {K : Int → Int} {T : Tt} {σ : St} {Q : vmO → vmH → Prop} (hK : σ 1200 382 = K) (z0 : 0 ≤ z) (z1 : z < 36) : Ca d k 211 [.ref 382, .int (i32 z)] (E T σ) Q = Q (.inl (some (.int (i32 (K (7 + z)))))) (E T σ) := by
  have h0 := ob_md
  rw [n211 _ _ _ _ _ _ _ h0]
  simp (disch := (first | assumption | omega | exact Nat.le_of_ble_eq_true rfl | rfl)) only [w211_0, w211_1, w211_4, w211_6, w211_7, w211_8, w211_9, Ko_n, Ko_v, vX_i, vX_r, vX_l, vX_j, reduceIte, hK]
theorem c212 {d : Nat} {k z : Int} {K : Int → Int} {T : Tt} {σ : St} {Q : vmO → vmH → Prop} (hK : σ 1200 382 = K) (z0 : 0 ≤ z) (z1 : z < 36) : Ca d k 212 [.ref 382, .int (i32 z)] (E T σ) Q = Q (.inl (some (.int (i32 (K (43 + z)))))) (E T σ) := by
  have h0 := ob_md
  rw [n212 _ _ _ _ _ _ _ h0]
  simp (disch := (first | assumption | omega | exact Nat.le_of_ble_eq_true rfl | rfl)) only [w212_0, w212_1, w212_4, w212_6, w212_7, w212_8, w212_9, Ko_n, Ko_v, vX_i, vX_r, vX_l, vX_j, reduceIte, hK]
theorem kV_c {K : Int → Int} {B z : Int} (h : scV K 7 B) (z0 : 0 ≤ z) (z1 : z < 36) : (0 ≤ K (7 + z) ∧ K (7 + z) ≤ 4) ∧ (0 ≤ K (43 + z) ∧ K (43 + z) ≤ 60) := by
  have := (scV_W.mp h).1 z z0 z1
  exact ⟨this.1, this.2.1⟩
theorem c213 {d : Nat} {k z B : Int} {K : Int → Int} {T : Tt} {σ : St} {Q : vmO → vmH → Prop} (hK : σ 1200 382 = K) (hv : scV K 7 B) (z0 : 0 ≤ z) (z1 : z < 36) : Ca (d + 1) k 213 [.ref 382, .int (i32 z)] (E T σ) Q = Q (.inl (some (.int (i32 (if hgB (kdK K 7) z then 1 else 0))))) (E T σ) := by
  have h0 := ob_md
  have hc := (kV_c hv z0 z1).1
  rw [n213 _ _ _ _ _ _ _ h0]
  simp (disch := (first | assumption | omega | exact Nat.le_of_ble_eq_true rfl | rfl)) only [w213_0, w213_1, w213_2, w213_5, w213_6, w213_7, w213_10, w213_13, Ko_n, Ko_v, vX_i, vX_r, vX_l, vX_j, reduceIte]
  rw [c211 hK z0 z1]
  simp (disch := (first | assumption | omega | exact Nat.le_of_ble_eq_true rfl | rfl)) only [w213_0, w213_1, w213_2, w213_5, w213_6, w213_7, w213_10, w213_13, Ko_n, Ko_v, vX_i, vX_r, vX_l, vX_j, reduceIte]
  rw [c176 (by omega) (by omega) (by omega) (by omega) (by omega) (by omega) (by omega)]
  have e : (if 1 ≤ K (7 + z) ∧ K (7 + z) ≤ 3 then (1 : Int) else 0) = if hgB (kdK K 7) z then 1 else 0 := by
    by_cases h : 1 ≤ K (7 + z) ∧ K (7 + z) ≤ 3
    · rw [if_pos h, if_pos (hgB_3.mpr ⟨z0, z1, by omega, by omega⟩)]
    · rw [if_neg h, if_neg (fun w => h (by have := hgB_3.mp w; omega))]
  rw [e]
  cases hgB (kdK K 7) z <;> simp (disch := (first | assumption | omega | exact Nat.le_of_ble_eq_true rfl | rfl)) only [w213_0, w213_1, w213_2, w213_5, w213_6, w213_7, w213_10, w213_13, Ko_n, Ko_v, vX_i, vX_r, vX_l, vX_j, reduceIte, Bool.false_eq_true]
theorem c214 {d : Nat} {k z B : Int} {K : Int → Int} {T : Tt} {σ : St} {Q : vmO → vmH → Prop} (hK : σ 1200 382 = K) (hv : kV K B) (x0 : -9223372036854775808 ≤ z) (x1 : z < 9223372036854775808) : Ca (d + 1) k 214 [.ref 382, .long (i64 z)] (E T σ) Q = Q (.inl (some (.int (i32 (if 0 ≤ z ∧ z < K 1 * K 2 then 1 else 0))))) (E T σ) := by
  have h0 := ob_md
  have hm := wh_mul0 hv.1.1
  rw [n214 _ _ _ _ _ _ _ h0]
  simp (disch := (first | assumption | omega | exact Nat.le_of_ble_eq_true rfl | rfl)) only [w214_0, w214_1, w214_2, w214_3, w214_6, w214_7, w214_8, w214_9, w214_12, Ko_n, Ko_v, vX_i, vX_r, vX_l, vX_j, reduceIte]
  rw [c210 hK]
  simp (disch := (first | assumption | omega | exact Nat.le_of_ble_eq_true rfl | rfl)) only [w214_0, w214_1, w214_2, w214_3, w214_6, w214_7, w214_8, w214_9, w214_12, Ko_n, Ko_v, vX_i, vX_r, vX_l, vX_j, reduceIte]
  rw [c176 (by omega) x0 x1 (by omega) (by omega) (by omega) (by omega)]
  by_cases h : 0 ≤ z ∧ z < K 1 * K 2
  · rw [if_pos (by omega), if_pos h]
    simp (disch := (first | assumption | omega | exact Nat.le_of_ble_eq_true rfl | rfl)) only [w214_0, w214_1, w214_2, w214_3, w214_6, w214_7, w214_8, w214_9, w214_12, Ko_n, Ko_v, vX_i, vX_r, vX_l, vX_j, reduceIte]
  · rw [if_neg (by omega), if_neg h]
    simp (disch := (first | assumption | omega | exact Nat.le_of_ble_eq_true rfl | rfl)) only [w214_0, w214_1, w214_2, w214_3, w214_6, w214_7, w214_8, w214_9, w214_12, Ko_n, Ko_v, vX_i, vX_r, vX_l, vX_j, reduceIte]
theorem c215 {d : Nat} {k z B : Int} {K : Int → Int} {T : Tt} {σ : St} {Q : vmO → vmH → Prop} (hK : σ 1200 382 = K) (hv : kV K B) (x0 : -9223372036854775808 ≤ z) (x1 : z < 9223372036854775808) : Ca (d + 1) k 215 [.ref 382, .long (i64 z)] (E T σ) Q = Q (.inl (some (.int (i32 (if 0 ≤ z ∧ z < K 3 then 1 else 0))))) (E T σ) := by
  have h0 := ob_md
  have hm := hv.1.2.1
  rw [n215 _ _ _ _ _ _ _ h0]
  simp (disch := (first | assumption | omega | exact Nat.le_of_ble_eq_true rfl | rfl)) only [w215_0, w215_1, w215_2, w215_3, w215_6, w215_7, w215_8, w215_9, w215_10, w215_11, w215_14, Ko_n, Ko_v, vX_i, vX_r, vX_l, vX_j, reduceIte, hK]
  rw [c176 (by omega) x0 x1 (by omega) (by omega) (by omega) (by omega)]
  by_cases h : 0 ≤ z ∧ z < K 3
  · rw [if_pos (by omega), if_pos h]
    simp (disch := (first | assumption | omega | exact Nat.le_of_ble_eq_true rfl | rfl)) only [w215_0, w215_1, w215_2, w215_3, w215_6, w215_7, w215_8, w215_9, w215_10, w215_11, w215_14, Ko_n, Ko_v, vX_i, vX_r, vX_l, vX_j, reduceIte]
  · rw [if_neg (by omega), if_neg h]
    simp (disch := (first | assumption | omega | exact Nat.le_of_ble_eq_true rfl | rfl)) only [w215_0, w215_1, w215_2, w215_3, w215_6, w215_7, w215_8, w215_9, w215_10, w215_11, w215_14, Ko_n, Ko_v, vX_i, vX_r, vX_l, vX_j, reduceIte]
theorem c216 {d : Nat} {k : Int} {K : Int → Int} {T : Tt} {σ : St} {Q : vmO → vmH → Prop} (hK : σ 1200 382 = K) (m0 : 0 ≤ K 4) (m1 : K 4 ≤ 9) (n0 : 0 ≤ K 90) (n1 : K 90 < 2147483648) : Ca d k 216 [.ref 382] (E T σ) Q = Q (.inl (some (.int (i32 (if wiB (K 4) (K 90) then 1 else 0))))) (E T σ) := by
  have h0 := ob_md
  rw [n216 _ _ _ _ _ _ h0]
  by_cases a : K 4 ≤ 0
  · rw [show wiB (K 4) (K 90) = false from decide_eq_false (by omega)]
    simp (disch := (first | assumption | omega | exact Nat.le_of_ble_eq_true rfl | rfl)) only [w216_0, w216_1, w216_4, w216_5, w216_6, w216_9, w216_10, w216_13, w216_15, w216_16, w216_19, w216_20, w216_23, w216_25, w216_26, w216_27, w216_30, w216_31, w216_32, w216_33, w216_36, w216_37, w216_40, w216_41, Ko_n, Ko_v, vX_i, vX_r, vX_l, vX_j, reduceIte, hK, a, Bool.false_eq_true]
  · by_cases b : K 90 ≤ 0
    · rw [show wiB (K 4) (K 90) = false from decide_eq_false (by omega)]
      simp (disch := (first | assumption | omega | exact Nat.le_of_ble_eq_true rfl | rfl)) only [w216_0, w216_1, w216_4, w216_5, w216_6, w216_9, w216_10, w216_13, w216_15, w216_16, w216_19, w216_20, w216_23, w216_25, w216_26, w216_27, w216_30, w216_31, w216_32, w216_33, w216_36, w216_37, w216_40, w216_41, Ko_n, Ko_v, vX_i, vX_r, vX_l, vX_j, reduceIte, hK, a, b, Bool.false_eq_true]
    · have e1 := Int.emod_nonneg (K 90) (show K 4 ≠ 0 by omega)
      have e2 := Int.emod_lt_of_pos (K 90) (show 0 < K 4 by omega)
      by_cases c : K 90 % K 4 = 0
      · rw [show wiB (K 4) (K 90) = true from decide_eq_true ⟨by omega, by omega, c⟩]
        simp (disch := (first | assumption | omega | exact Nat.le_of_ble_eq_true rfl | rfl)) only [w216_0, w216_1, w216_4, w216_5, w216_6, w216_9, w216_10, w216_13, w216_15, w216_16, w216_19, w216_20, w216_23, w216_25, w216_26, w216_27, w216_30, w216_31, w216_32, w216_33, w216_36, w216_37, w216_40, w216_41, Ko_n, Ko_v, vX_i, vX_r, vX_l, vX_j, reduceIte, hK, a, b, c, not_true]
      · rw [show wiB (K 4) (K 90) = false from decide_eq_false (fun w => c w.2.2)]
        simp (disch := (first | assumption | omega | exact Nat.le_of_ble_eq_true rfl | rfl)) only [w216_0, w216_1, w216_4, w216_5, w216_6, w216_9, w216_10, w216_13, w216_15, w216_16, w216_19, w216_20, w216_23, w216_25, w216_26, w216_27, w216_30, w216_31, w216_32, w216_33, w216_36, w216_37, w216_40, w216_41, Ko_n, Ko_v, vX_i, vX_r, vX_l, vX_j, reduceIte, hK, a, b, c, not_false_eq_true, Bool.false_eq_true]
theorem c177 {d : Nat} {k u w : Int} {h : vmH} {Q : vmO → vmH → Prop} (hk : 4 ≤ k) (u0 : 0 ≤ u) (u1 : u < 32) (w0 : 0 ≤ w) (w1 : w < 5) : Ca d k 177 [.int (i32 u), .int (i32 w)] h Q = Q (.inl (some (.int (i32 (if frB u w then 1 else 0))))) h := by
  rw [n177 _ _ _ _ _ _ hk]
  cases e : frB u w with
  | true => simp (disch := (first | assumption | omega | exact Nat.le_of_ble_eq_true rfl | rfl)) only [w177_0, w177_1, w177_2, w177_3, w177_4, w177_5, w177_6, w177_9, w177_10, w177_13, w177_14, Ko_n, Ko_v, vX_i, vX_r, vX_l, vX_j, reduceIte, fr_s u0 u1 w0 w1, e, Int.reduceEq, not_true]
  | false => simp (disch := (first | assumption | omega | exact Nat.le_of_ble_eq_true rfl | rfl)) only [w177_0, w177_1, w177_2, w177_3, w177_4, w177_5, w177_6, w177_9, w177_10, w177_13, w177_14, Ko_n, Ko_v, vX_i, vX_r, vX_l, vX_j, reduceIte, fr_s u0 u1 w0 w1, e, Bool.false_eq_true, Int.reduceEq, not_false_eq_true]
/-- what a hedge costs besides -/
def hcR (K : Int → Int) (z : Int) : Int := if hgB (kdK K 7) z then (if wiB (K 4) (K 90) then K (43 + z) * K (7 + z) / 2 else K (43 + z) * K (7 + z)) else 0
theorem hcR_in {K : Int → Int} {B z : Int} (hv : scV K 7 B) (z0 : 0 ≤ z) (z1 : z < 36) : 0 ≤ hcR K z ∧ hcR K z ≤ 180 ∧ 0 ≤ K (43 + z) * K (7 + z) ∧ K (43 + z) * K (7 + z) ≤ 240 := by
  have hc := kV_c hv z0 z1
  have m1 : 0 ≤ K (43 + z) * K (7 + z) := Int.mul_nonneg hc.2.1 hc.1.1
  have m2 : K (43 + z) * K (7 + z) ≤ 60 * 4 := Int.mul_le_mul hc.2.2 hc.1.2 hc.1.1 (by omega)
  unfold hcR
  by_cases h : hgB (kdK K 7) z = true
  · have h3 := hgB_3.mp h
    have m3 : K (43 + z) * K (7 + z) ≤ 60 * 3 := Int.mul_le_mul hc.2.2 (by omega) hc.1.1 (by omega)
    rw [if_pos h]
    split <;> omega
  · rw [if_neg h]
    omega
theorem c217 {d : Nat} {k z B : Int} {K : Int → Int} {T : Tt} {σ : St} {Q : vmO → vmH → Prop} (hK : σ 1200 382 = K) (hv : kV K B) (hB : B < 900000000) (z0 : 0 ≤ z) (z1 : z < 36) : Ca (d + 2) k 217 [.ref 382, .int (i32 z)] (E T σ) Q = Q (.inl (some (.int (i32 (hcR K z))))) (E T σ) := by
  have h0 := ob_md
  have hp := hv.1.2.2.1
  have hn := hv.2.1.2.2.2.1
  have hn1 : 0 ≤ K 90 ∧ K 90 ≤ B := hn
  have hi := hcR_in hv.2.1 z0 z1
  rw [n217 _ _ _ _ _ _ _ h0]
  unfold hcR
  simp (disch := (first | assumption | omega | exact Nat.le_of_ble_eq_true rfl | rfl)) only [w217_0, w217_1, w217_2, w217_5, w217_8, w217_9, w217_12, w217_15, w217_16, w217_17, w217_20, w217_21, w217_22, w217_25, w217_26, w217_27, w217_28, w217_31, w217_32, w217_33, w217_36, w217_37, w217_38, w217_41, w217_42, w217_45, w217_46, Ko_n, Ko_v, vX_i, vX_r, vX_l, vX_j, reduceIte]
  rw [c213 hK hv.2.1 z0 z1]
  cases e : hgB (kdK K 7) z with
  | false => simp (disch := (first | assumption | omega | exact Nat.le_of_ble_eq_true rfl | rfl)) only [w217_0, w217_1, w217_2, w217_5, w217_8, w217_9, w217_12, w217_15, w217_16, w217_17, w217_20, w217_21, w217_22, w217_25, w217_26, w217_27, w217_28, w217_31, w217_32, w217_33, w217_36, w217_37, w217_38, w217_41, w217_42, w217_45, w217_46, Ko_n, Ko_v, vX_i, vX_r, vX_l, vX_j, reduceIte, Bool.false_eq_true]
  | true =>
    simp (disch := (first | assumption | omega | exact Nat.le_of_ble_eq_true rfl | rfl)) only [w217_0, w217_1, w217_2, w217_5, w217_8, w217_9, w217_12, w217_15, w217_16, w217_17, w217_20, w217_21, w217_22, w217_25, w217_26, w217_27, w217_28, w217_31, w217_32, w217_33, w217_36, w217_37, w217_38, w217_41, w217_42, w217_45, w217_46, Ko_n, Ko_v, vX_i, vX_r, vX_l, vX_j, reduceIte, Int.reduceEq]
    rw [c216 hK hp.1 hp.2 hn1.1 (by omega)]
    cases e2 : wiB (K 4) (K 90) with
    | false =>
      simp (disch := (first | assumption | omega | exact Nat.le_of_ble_eq_true rfl | rfl)) only [w217_0, w217_1, w217_2, w217_5, w217_8, w217_9, w217_12, w217_15, w217_16, w217_17, w217_20, w217_21, w217_22, w217_25, w217_26, w217_27, w217_28, w217_31, w217_32, w217_33, w217_36, w217_37, w217_38, w217_41, w217_42, w217_45, w217_46, Ko_n, Ko_v, vX_i, vX_r, vX_l, vX_j, reduceIte, Bool.false_eq_true, c212 hK z0 z1, c211 hK z0 z1]
    | true =>
      simp (disch := (first | assumption | omega | exact Nat.le_of_ble_eq_true rfl | rfl)) only [w217_0, w217_1, w217_2, w217_5, w217_8, w217_9, w217_12, w217_15, w217_16, w217_17, w217_20, w217_21, w217_22, w217_25, w217_26, w217_27, w217_28, w217_31, w217_32, w217_33, w217_36, w217_37, w217_38, w217_41, w217_42, w217_45, w217_46, Ko_n, Ko_v, vX_i, vX_r, vX_l, vX_j, reduceIte, Int.reduceEq, c212 hK z0 z1, c211 hK z0 z1]
/-- what it costs to go there, walls apart -/
def cfR (K : Int → Int) (w z : Int) : Int := if w ≠ -1 ∧ frB (K 92) w = true then 1 else 1 + hcR K z
theorem c218 {d : Nat} {k w z B : Int} {K : Int → Int} {T : Tt} {σ : St} {Q : vmO → vmH → Prop} (hK : σ 1200 382 = K) (hv : kV K B) (hB : B < 900000000) (w0 : -1 ≤ w) (w1 : w < 5) (z0 : 0 ≤ z) (z1 : z < 36) : Ca (d + 3) k 218 [.ref 382, .int (i32 w), .int (i32 z)] (E T σ) Q = Q (.inl (some (.int (i32 (cfR K w z))))) (E T σ) := by
  have h0 := ob_md
  have hf := hv.1.2.2.2.2.2.1
  rw [n218 _ _ _ _ _ _ _ _ h0]
  by_cases e : w = -1
  · rw [show cfR K w z = 1 + hcR K z by unfold cfR; rw [if_neg (fun x => x.1 e)]]
    simp (disch := (first | assumption | omega | exact Nat.le_of_ble_eq_true rfl | rfl)) only [w218_0, w218_1, w218_2, w218_5, w218_6, w218_9, w218_11, w218_12, w218_13, w218_16, w218_19, w218_20, w218_23, w218_24, w218_25, w218_26, w218_29, w218_30, Ko_n, Ko_v, vX_i, vX_r, vX_l, vX_j, reduceIte, e]
    rw [c217 hK hv hB z0 z1]
    simp (disch := (first | assumption | omega | exact Nat.le_of_ble_eq_true rfl | rfl)) only [w218_0, w218_1, w218_2, w218_5, w218_6, w218_9, w218_11, w218_12, w218_13, w218_16, w218_19, w218_20, w218_23, w218_24, w218_25, w218_26, w218_29, w218_30, Ko_n, Ko_v, vX_i, vX_r, vX_l, vX_j, reduceIte]
  · simp (disch := (first | assumption | omega | exact Nat.le_of_ble_eq_true rfl | rfl)) only [w218_0, w218_1, w218_2, w218_5, w218_6, w218_9, w218_11, w218_12, w218_13, w218_16, w218_19, w218_20, w218_23, w218_24, w218_25, w218_26, w218_29, w218_30, Ko_n, Ko_v, vX_i, vX_r, vX_l, vX_j, reduceIte, e, hK]
    rw [c177 (by omega) hf.1 hf.2 (by omega) (by omega)]
    cases e2 : frB (K 92) w with
    | true =>
      rw [show cfR K w z = 1 by unfold cfR; rw [if_pos ⟨e, e2⟩]]
      simp (disch := (first | assumption | omega | exact Nat.le_of_ble_eq_true rfl | rfl)) only [w218_0, w218_1, w218_2, w218_5, w218_6, w218_9, w218_11, w218_12, w218_13, w218_16, w218_19, w218_20, w218_23, w218_24, w218_25, w218_26, w218_29, w218_30, Ko_n, Ko_v, vX_i, vX_r, vX_l, vX_j, reduceIte, Int.reduceEq]
    | false =>
      rw [show cfR K w z = 1 + hcR K z by unfold cfR; rw [if_neg (fun x => by rw [e2] at x; cases x.2)]]
      simp (disch := (first | assumption | omega | exact Nat.le_of_ble_eq_true rfl | rfl)) only [w218_0, w218_1, w218_2, w218_5, w218_6, w218_9, w218_11, w218_12, w218_13, w218_16, w218_19, w218_20, w218_23, w218_24, w218_25, w218_26, w218_29, w218_30, Ko_n, Ko_v, vX_i, vX_r, vX_l, vX_j, reduceIte, Bool.false_eq_true]
      rw [c217 hK hv hB z0 z1]
      simp (disch := (first | assumption | omega | exact Nat.le_of_ble_eq_true rfl | rfl)) only [w218_0, w218_1, w218_2, w218_5, w218_6, w218_9, w218_11, w218_12, w218_13, w218_16, w218_19, w218_20, w218_23, w218_24, w218_25, w218_26, w218_29, w218_30, Ko_n, Ko_v, vX_i, vX_r, vX_l, vX_j, reduceIte]
theorem cfR_pr {K : Int → Int} {w z : Int} (h4 : K (7 + z) ≠ 4) (hw : w ≠ -1) (z0 : 0 ≤ z) (z1 : z < 36) : cfR K w z = prK K w z := by
  unfold cfR prK cst kdK tkK hcR
  rw [if_neg h4]
  by_cases e : frB (K 92) w = true
  · rw [if_pos ⟨hw, e⟩, if_pos (Or.inl e)]
  · rw [if_neg (fun x => e x.2)]
    by_cases e2 : K (7 + z) = 0
    · rw [if_pos (Or.inr e2), if_neg (fun x => by have := hgB_3.mp x; omega)]
      rfl
    · rw [if_neg (show ¬ (frB (K 92) w = true ∨ K (7 + z) = 0) from fun x => by rcases x with x | x; exact e x; exact e2 x), if_pos (hgB_3.mpr ⟨z0, z1, e2, h4⟩)]
      rfl
/-- beside, as the reference counts directions -/
def rdD (e : Int) : Int := if e = 0 then 1 else if e = 1 then 2 else if e = 2 then 0 else 3
def bsC (W H z e : Int) : Int := nbC W H z (rdD e)
theorem c219 {d : Nat} {k z e : Int} {K : Int → Int} {T : Tt} {σ : St} {Q : vmO → vmH → Prop} (hK : σ 1200 382 = K) (h : wh2 (K 1) (K 2)) (z0 : 0 ≤ z) (z1 : z < K 1 * K 2) (e0 : 0 ≤ e) (e1 : e < 4) : Ca (d + 1) k 219 [.ref 382, .int (i32 z), .int (i32 e)] (E T σ) Q = Q (.inl (some (.int (i32 (bsC (K 1) (K 2) z e))))) (E T σ) := by
  have h0 := ob_md
  have hm := wh_mul h
  obtain ⟨h1, h2, h3, h4⟩ := h
  have b1 := Int.emod_nonneg z (show K 1 ≠ 0 by omega)
  have b2 := Int.emod_lt_of_pos z (show 0 < K 1 by omega)
  have b3 : 0 ≤ z / K 1 := Int.ediv_nonneg (by omega) (by omega)
  have b4 : z / K 1 < K 2 := Int.ediv_lt_of_lt_mul (by omega) (by rw [Int.mul_comm]; exact z1)
  have b5 := Int.mul_ediv_add_emod z (K 1)
  rw [n219 _ _ _ _ _ _ _ _ h0]
  have he : e = 0 ∨ e = 1 ∨ e = 2 ∨ e = 3 := by omega
  rcases he with e | e | e | e <;> subst e
  · show _ = Q (.inl (some (.int (i32 (if 0 < z % K 1 then z - 1 else -1))))) (E T σ)
    simp (disch := (first | assumption | omega | exact Nat.le_of_ble_eq_true rfl | rfl)) only [w219_0, w219_1, w219_2, w219_5, w219_6, w219_7, w219_8, w219_9, w219_12, w219_13, w219_16, w219_17, w219_18, w219_21, w219_22, w219_25, w219_26, w219_27, w219_28, w219_29, w219_30, w219_33, w219_34, w219_35, w219_36, w219_37, w219_38, w219_41, w219_42, w219_45, w219_46, w219_47, w219_50, w219_51, w219_54, w219_55, w219_56, w219_58, w219_59, w219_60, w219_61, w219_62, w219_65, w219_66, w219_67, w219_68, w219_69, w219_70, w219_73, w219_76, w219_78, w219_79, w219_80, w219_81, w219_84, w219_85, w219_86, w219_87, w219_88, w219_89, w219_92, w219_95, w219_96, w219_99, w219_100, w219_101, w219_103, w219_104, w219_105, w219_106, w219_109, w219_110, Ko_n, Ko_v, vX_i, vX_r, vX_l, vX_j, reduceIte, hK, not_true, not_false_eq_true, Int.reduceEq]
    rw [c176 (by omega) (by omega) (by omega) (by omega) (by omega) (by omega) (by omega)]
    by_cases a : 0 < z % K 1
    · rw [if_pos (by omega), if_pos a]
      simp (disch := (first | assumption | omega | exact Nat.le_of_ble_eq_true rfl | rfl)) only [w219_0, w219_1, w219_2, w219_5, w219_6, w219_7, w219_8, w219_9, w219_12, w219_13, w219_16, w219_17, w219_18, w219_21, w219_22, w219_25, w219_26, w219_27, w219_28, w219_29, w219_30, w219_33, w219_34, w219_35, w219_36, w219_37, w219_38, w219_41, w219_42, w219_45, w219_46, w219_47, w219_50, w219_51, w219_54, w219_55, w219_56, w219_58, w219_59, w219_60, w219_61, w219_62, w219_65, w219_66, w219_67, w219_68, w219_69, w219_70, w219_73, w219_76, w219_78, w219_79, w219_80, w219_81, w219_84, w219_85, w219_86, w219_87, w219_88, w219_89, w219_92, w219_95, w219_96, w219_99, w219_100, w219_101, w219_103, w219_104, w219_105, w219_106, w219_109, w219_110, Ko_n, Ko_v, vX_i, vX_r, vX_l, vX_j, reduceIte, hK, Int.reduceEq]
      rw [c176 (by omega) (by omega) (by omega) (by omega) (by omega) (by omega) (by omega), if_pos (by omega)]
      simp (disch := (first | assumption | omega | exact Nat.le_of_ble_eq_true rfl | rfl)) only [w219_0, w219_1, w219_2, w219_5, w219_6, w219_7, w219_8, w219_9, w219_12, w219_13, w219_16, w219_17, w219_18, w219_21, w219_22, w219_25, w219_26, w219_27, w219_28, w219_29, w219_30, w219_33, w219_34, w219_35, w219_36, w219_37, w219_38, w219_41, w219_42, w219_45, w219_46, w219_47, w219_50, w219_51, w219_54, w219_55, w219_56, w219_58, w219_59, w219_60, w219_61, w219_62, w219_65, w219_66, w219_67, w219_68, w219_69, w219_70, w219_73, w219_76, w219_78, w219_79, w219_80, w219_81, w219_84, w219_85, w219_86, w219_87, w219_88, w219_89, w219_92, w219_95, w219_96, w219_99, w219_100, w219_101, w219_103, w219_104, w219_105, w219_106, w219_109, w219_110, Ko_n, Ko_v, vX_i, vX_r, vX_l, vX_j, reduceIte, hK, Int.reduceEq]
      rw [show K 1 * (z / K 1 + 0) + (z % K 1 + -1) = z - 1 by rw [Int.add_zero]; omega]
    · rw [if_neg (by omega), if_neg a]
      simp (disch := (first | assumption | omega | exact Nat.le_of_ble_eq_true rfl | rfl)) only [w219_0, w219_1, w219_2, w219_5, w219_6, w219_7, w219_8, w219_9, w219_12, w219_13, w219_16, w219_17, w219_18, w219_21, w219_22, w219_25, w219_26, w219_27, w219_28, w219_29, w219_30, w219_33, w219_34, w219_35, w219_36, w219_37, w219_38, w219_41, w219_42, w219_45, w219_46, w219_47, w219_50, w219_51, w219_54, w219_55, w219_56, w219_58, w219_59, w219_60, w219_61, w219_62, w219_65, w219_66, w219_67, w219_68, w219_69, w219_70, w219_73, w219_76, w219_78, w219_79, w219_80, w219_81, w219_84, w219_85, w219_86, w219_87, w219_88, w219_89, w219_92, w219_95, w219_96, w219_99, w219_100, w219_101, w219_103, w219_104, w219_105, w219_106, w219_109, w219_110, Ko_n, Ko_v, vX_i, vX_r, vX_l, vX_j, reduceIte]
  · show _ = Q (.inl (some (.int (i32 (if z % K 1 < K 1 - 1 then z + 1 else -1))))) (E T σ)
    simp (disch := (first | assumption | omega | exact Nat.le_of_ble_eq_true rfl | rfl)) only [w219_0, w219_1, w219_2, w219_5, w219_6, w219_7, w219_8, w219_9, w219_12, w219_13, w219_16, w219_17, w219_18, w219_21, w219_22, w219_25, w219_26, w219_27, w219_28, w219_29, w219_30, w219_33, w219_34, w219_35, w219_36, w219_37, w219_38, w219_41, w219_42, w219_45, w219_46, w219_47, w219_50, w219_51, w219_54, w219_55, w219_56, w219_58, w219_59, w219_60, w219_61, w219_62, w219_65, w219_66, w219_67, w219_68, w219_69, w219_70, w219_73, w219_76, w219_78, w219_79, w219_80, w219_81, w219_84, w219_85, w219_86, w219_87, w219_88, w219_89, w219_92, w219_95, w219_96, w219_99, w219_100, w219_101, w219_103, w219_104, w219_105, w219_106, w219_109, w219_110, Ko_n, Ko_v, vX_i, vX_r, vX_l, vX_j, reduceIte, hK, not_true, not_false_eq_true, Int.reduceEq]
    rw [c176 (by omega) (by omega) (by omega) (by omega) (by omega) (by omega) (by omega)]
    by_cases a : z % K 1 < K 1 - 1
    · rw [if_pos (by omega), if_pos a]
      simp (disch := (first | assumption | omega | exact Nat.le_of_ble_eq_true rfl | rfl)) only [w219_0, w219_1, w219_2, w219_5, w219_6, w219_7, w219_8, w219_9, w219_12, w219_13, w219_16, w219_17, w219_18, w219_21, w219_22, w219_25, w219_26, w219_27, w219_28, w219_29, w219_30, w219_33, w219_34, w219_35, w219_36, w219_37, w219_38, w219_41, w219_42, w219_45, w219_46, w219_47, w219_50, w219_51, w219_54, w219_55, w219_56, w219_58, w219_59, w219_60, w219_61, w219_62, w219_65, w219_66, w219_67, w219_68, w219_69, w219_70, w219_73, w219_76, w219_78, w219_79, w219_80, w219_81, w219_84, w219_85, w219_86, w219_87, w219_88, w219_89, w219_92, w219_95, w219_96, w219_99, w219_100, w219_101, w219_103, w219_104, w219_105, w219_106, w219_109, w219_110, Ko_n, Ko_v, vX_i, vX_r, vX_l, vX_j, reduceIte, hK, Int.reduceEq]
      rw [c176 (by omega) (by omega) (by omega) (by omega) (by omega) (by omega) (by omega), if_pos (by omega)]
      simp (disch := (first | assumption | omega | exact Nat.le_of_ble_eq_true rfl | rfl)) only [w219_0, w219_1, w219_2, w219_5, w219_6, w219_7, w219_8, w219_9, w219_12, w219_13, w219_16, w219_17, w219_18, w219_21, w219_22, w219_25, w219_26, w219_27, w219_28, w219_29, w219_30, w219_33, w219_34, w219_35, w219_36, w219_37, w219_38, w219_41, w219_42, w219_45, w219_46, w219_47, w219_50, w219_51, w219_54, w219_55, w219_56, w219_58, w219_59, w219_60, w219_61, w219_62, w219_65, w219_66, w219_67, w219_68, w219_69, w219_70, w219_73, w219_76, w219_78, w219_79, w219_80, w219_81, w219_84, w219_85, w219_86, w219_87, w219_88, w219_89, w219_92, w219_95, w219_96, w219_99, w219_100, w219_101, w219_103, w219_104, w219_105, w219_106, w219_109, w219_110, Ko_n, Ko_v, vX_i, vX_r, vX_l, vX_j, reduceIte, hK, Int.reduceEq]
      rw [show K 1 * (z / K 1 + 0) + (z % K 1 + 1) = z + 1 by rw [Int.add_zero]; omega]
    · rw [if_neg (by omega), if_neg a]
      simp (disch := (first | assumption | omega | exact Nat.le_of_ble_eq_true rfl | rfl)) only [w219_0, w219_1, w219_2, w219_5, w219_6, w219_7, w219_8, w219_9, w219_12, w219_13, w219_16, w219_17, w219_18, w219_21, w219_22, w219_25, w219_26, w219_27, w219_28, w219_29, w219_30, w219_33, w219_34, w219_35, w219_36, w219_37, w219_38, w219_41, w219_42, w219_45, w219_46, w219_47, w219_50, w219_51, w219_54, w219_55, w219_56, w219_58, w219_59, w219_60, w219_61, w219_62, w219_65, w219_66, w219_67, w219_68, w219_69, w219_70, w219_73, w219_76, w219_78, w219_79, w219_80, w219_81, w219_84, w219_85, w219_86, w219_87, w219_88, w219_89, w219_92, w219_95, w219_96, w219_99, w219_100, w219_101, w219_103, w219_104, w219_105, w219_106, w219_109, w219_110, Ko_n, Ko_v, vX_i, vX_r, vX_l, vX_j, reduceIte]
  · show _ = Q (.inl (some (.int (i32 (if 0 < z / K 1 then z - K 1 else -1))))) (E T σ)
    simp (disch := (first | assumption | omega | exact Nat.le_of_ble_eq_true rfl | rfl)) only [w219_0, w219_1, w219_2, w219_5, w219_6, w219_7, w219_8, w219_9, w219_12, w219_13, w219_16, w219_17, w219_18, w219_21, w219_22, w219_25, w219_26, w219_27, w219_28, w219_29, w219_30, w219_33, w219_34, w219_35, w219_36, w219_37, w219_38, w219_41, w219_42, w219_45, w219_46, w219_47, w219_50, w219_51, w219_54, w219_55, w219_56, w219_58, w219_59, w219_60, w219_61, w219_62, w219_65, w219_66, w219_67, w219_68, w219_69, w219_70, w219_73, w219_76, w219_78, w219_79, w219_80, w219_81, w219_84, w219_85, w219_86, w219_87, w219_88, w219_89, w219_92, w219_95, w219_96, w219_99, w219_100, w219_101, w219_103, w219_104, w219_105, w219_106, w219_109, w219_110, Ko_n, Ko_v, vX_i, vX_r, vX_l, vX_j, reduceIte, hK, not_true, not_false_eq_true, Int.reduceEq]
    rw [c176 (by omega) (by omega) (by omega) (by omega) (by omega) (by omega) (by omega), if_pos (by omega)]
    simp (disch := (first | assumption | omega | exact Nat.le_of_ble_eq_true rfl | rfl)) only [w219_0, w219_1, w219_2, w219_5, w219_6, w219_7, w219_8, w219_9, w219_12, w219_13, w219_16, w219_17, w219_18, w219_21, w219_22, w219_25, w219_26, w219_27, w219_28, w219_29, w219_30, w219_33, w219_34, w219_35, w219_36, w219_37, w219_38, w219_41, w219_42, w219_45, w219_46, w219_47, w219_50, w219_51, w219_54, w219_55, w219_56, w219_58, w219_59, w219_60, w219_61, w219_62, w219_65, w219_66, w219_67, w219_68, w219_69, w219_70, w219_73, w219_76, w219_78, w219_79, w219_80, w219_81, w219_84, w219_85, w219_86, w219_87, w219_88, w219_89, w219_92, w219_95, w219_96, w219_99, w219_100, w219_101, w219_103, w219_104, w219_105, w219_106, w219_109, w219_110, Ko_n, Ko_v, vX_i, vX_r, vX_l, vX_j, reduceIte, hK, Int.reduceEq]
    rw [c176 (by omega) (by omega) (by omega) (by omega) (by omega) (by omega) (by omega)]
    by_cases a : 0 < z / K 1
    · rw [if_pos (by omega), if_pos a]
      simp (disch := (first | assumption | omega | exact Nat.le_of_ble_eq_true rfl | rfl)) only [w219_0, w219_1, w219_2, w219_5, w219_6, w219_7, w219_8, w219_9, w219_12, w219_13, w219_16, w219_17, w219_18, w219_21, w219_22, w219_25, w219_26, w219_27, w219_28, w219_29, w219_30, w219_33, w219_34, w219_35, w219_36, w219_37, w219_38, w219_41, w219_42, w219_45, w219_46, w219_47, w219_50, w219_51, w219_54, w219_55, w219_56, w219_58, w219_59, w219_60, w219_61, w219_62, w219_65, w219_66, w219_67, w219_68, w219_69, w219_70, w219_73, w219_76, w219_78, w219_79, w219_80, w219_81, w219_84, w219_85, w219_86, w219_87, w219_88, w219_89, w219_92, w219_95, w219_96, w219_99, w219_100, w219_101, w219_103, w219_104, w219_105, w219_106, w219_109, w219_110, Ko_n, Ko_v, vX_i, vX_r, vX_l, vX_j, reduceIte, hK, Int.reduceEq]
      rw [show K 1 * (z / K 1 + -1) + (z % K 1 + 0) = z - K 1 by rw [Int.mul_add, Int.mul_neg, Int.mul_one]; omega]
    · rw [if_neg (by omega), if_neg a]
      simp (disch := (first | assumption | omega | exact Nat.le_of_ble_eq_true rfl | rfl)) only [w219_0, w219_1, w219_2, w219_5, w219_6, w219_7, w219_8, w219_9, w219_12, w219_13, w219_16, w219_17, w219_18, w219_21, w219_22, w219_25, w219_26, w219_27, w219_28, w219_29, w219_30, w219_33, w219_34, w219_35, w219_36, w219_37, w219_38, w219_41, w219_42, w219_45, w219_46, w219_47, w219_50, w219_51, w219_54, w219_55, w219_56, w219_58, w219_59, w219_60, w219_61, w219_62, w219_65, w219_66, w219_67, w219_68, w219_69, w219_70, w219_73, w219_76, w219_78, w219_79, w219_80, w219_81, w219_84, w219_85, w219_86, w219_87, w219_88, w219_89, w219_92, w219_95, w219_96, w219_99, w219_100, w219_101, w219_103, w219_104, w219_105, w219_106, w219_109, w219_110, Ko_n, Ko_v, vX_i, vX_r, vX_l, vX_j, reduceIte]
  · show _ = Q (.inl (some (.int (i32 (if z / K 1 < K 2 - 1 then z + K 1 else -1))))) (E T σ)
    simp (disch := (first | assumption | omega | exact Nat.le_of_ble_eq_true rfl | rfl)) only [w219_0, w219_1, w219_2, w219_5, w219_6, w219_7, w219_8, w219_9, w219_12, w219_13, w219_16, w219_17, w219_18, w219_21, w219_22, w219_25, w219_26, w219_27, w219_28, w219_29, w219_30, w219_33, w219_34, w219_35, w219_36, w219_37, w219_38, w219_41, w219_42, w219_45, w219_46, w219_47, w219_50, w219_51, w219_54, w219_55, w219_56, w219_58, w219_59, w219_60, w219_61, w219_62, w219_65, w219_66, w219_67, w219_68, w219_69, w219_70, w219_73, w219_76, w219_78, w219_79, w219_80, w219_81, w219_84, w219_85, w219_86, w219_87, w219_88, w219_89, w219_92, w219_95, w219_96, w219_99, w219_100, w219_101, w219_103, w219_104, w219_105, w219_106, w219_109, w219_110, Ko_n, Ko_v, vX_i, vX_r, vX_l, vX_j, reduceIte, hK, not_true, not_false_eq_true, Int.reduceEq]
    rw [c176 (by omega) (by omega) (by omega) (by omega) (by omega) (by omega) (by omega), if_pos (by omega)]
    simp (disch := (first | assumption | omega | exact Nat.le_of_ble_eq_true rfl | rfl)) only [w219_0, w219_1, w219_2, w219_5, w219_6, w219_7, w219_8, w219_9, w219_12, w219_13, w219_16, w219_17, w219_18, w219_21, w219_22, w219_25, w219_26, w219_27, w219_28, w219_29, w219_30, w219_33, w219_34, w219_35, w219_36, w219_37, w219_38, w219_41, w219_42, w219_45, w219_46, w219_47, w219_50, w219_51, w219_54, w219_55, w219_56, w219_58, w219_59, w219_60, w219_61, w219_62, w219_65, w219_66, w219_67, w219_68, w219_69, w219_70, w219_73, w219_76, w219_78, w219_79, w219_80, w219_81, w219_84, w219_85, w219_86, w219_87, w219_88, w219_89, w219_92, w219_95, w219_96, w219_99, w219_100, w219_101, w219_103, w219_104, w219_105, w219_106, w219_109, w219_110, Ko_n, Ko_v, vX_i, vX_r, vX_l, vX_j, reduceIte, hK, Int.reduceEq]
    rw [c176 (by omega) (by omega) (by omega) (by omega) (by omega) (by omega) (by omega)]
    by_cases a : z / K 1 < K 2 - 1
    · rw [if_pos (by omega), if_pos a]
      simp (disch := (first | assumption | omega | exact Nat.le_of_ble_eq_true rfl | rfl)) only [w219_0, w219_1, w219_2, w219_5, w219_6, w219_7, w219_8, w219_9, w219_12, w219_13, w219_16, w219_17, w219_18, w219_21, w219_22, w219_25, w219_26, w219_27, w219_28, w219_29, w219_30, w219_33, w219_34, w219_35, w219_36, w219_37, w219_38, w219_41, w219_42, w219_45, w219_46, w219_47, w219_50, w219_51, w219_54, w219_55, w219_56, w219_58, w219_59, w219_60, w219_61, w219_62, w219_65, w219_66, w219_67, w219_68, w219_69, w219_70, w219_73, w219_76, w219_78, w219_79, w219_80, w219_81, w219_84, w219_85, w219_86, w219_87, w219_88, w219_89, w219_92, w219_95, w219_96, w219_99, w219_100, w219_101, w219_103, w219_104, w219_105, w219_106, w219_109, w219_110, Ko_n, Ko_v, vX_i, vX_r, vX_l, vX_j, reduceIte, hK, Int.reduceEq]
      rw [show K 1 * (z / K 1 + 1) + (z % K 1 + 0) = z + K 1 by rw [Int.mul_add, Int.mul_one]; omega]
    · rw [if_neg (by omega), if_neg a]
      simp (disch := (first | assumption | omega | exact Nat.le_of_ble_eq_true rfl | rfl)) only [w219_0, w219_1, w219_2, w219_5, w219_6, w219_7, w219_8, w219_9, w219_12, w219_13, w219_16, w219_17, w219_18, w219_21, w219_22, w219_25, w219_26, w219_27, w219_28, w219_29, w219_30, w219_33, w219_34, w219_35, w219_36, w219_37, w219_38, w219_41, w219_42, w219_45, w219_46, w219_47, w219_50, w219_51, w219_54, w219_55, w219_56, w219_58, w219_59, w219_60, w219_61, w219_62, w219_65, w219_66, w219_67, w219_68, w219_69, w219_70, w219_73, w219_76, w219_78, w219_79, w219_80, w219_81, w219_84, w219_85, w219_86, w219_87, w219_88, w219_89, w219_92, w219_95, w219_96, w219_99, w219_100, w219_101, w219_103, w219_104, w219_105, w219_106, w219_109, w219_110, Ko_n, Ko_v, vX_i, vX_r, vX_l, vX_j, reduceIte]
theorem bsC_in {W H z e : Int} (h : wh2 W H) (z0 : 0 ≤ z) (z1 : z < W * H) : bsC W H z e = -1 ∨ (0 ≤ bsC W H z e ∧ bsC W H z e < W * H) := by
  by_cases n : bsC W H z e = -1
  · exact Or.inl n
  · have := nb_in h z0 z1 n
    exact Or.inr ⟨this.1, this.2.1⟩
