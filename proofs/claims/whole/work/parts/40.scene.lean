/-! ===== Scene ===== -/
theorem c74 {d : Nat} {k : Int} {r : Nat} {z : Int} {T : Tt} {σ : St} {Q : vmO → vmH → Prop} (hr : ob 7 r) (h0 : 0 ≤ z) (h1 : z < 36) (hk0 : 0 ≤ σ 700 r z) (hk1 : σ 700 r z ≤ 4) : Ca d k 74 [.ref r, .int (i32 z)] (E T σ) Q = Q (.inl (some (.int (i32 (if σ 700 r z ≠ 0 ∧ σ 700 r z ≠ 4 then 1 else 0))))) (E T σ) := by
  have hr3 := ob_lt hr
  rw [n74 _ _ _ _ _ _ _ hr]
  simp (disch := (first | assumption | omega | exact Nat.le_of_ble_eq_true rfl | rfl)) only [w74_0, w74_1, w74_4, w74_5, w74_6, w74_9, w74_10, w74_13, w74_14, w74_15, w74_16, w74_19, w74_20, w74_23, w74_24, Ko_n, Ko_v, vX_i, vX_r, vX_l, vX_j, reduceIte]
  by_cases a : σ 700 r z = 0
  · simp [a]
  · by_cases b : σ 700 r z = 4
    · simp [a, b]
    · simp [a, b]
