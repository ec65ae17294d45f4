/-! ===== Scene ===== -/
def hgB (f : Int → Int) : Int → Bool := fun k => decide (0 ≤ k ∧ k < 36 ∧ f k ≠ 0 ∧ f k ≠ 4)
def opB (f : Int → Int) (n : Int) : Int → Bool := fun k => decide (0 ≤ k ∧ k < n ∧ f k ≠ 4)
def kdOk (f : Int → Int) : Prop := ∀ k, 0 ≤ k → k < 36 → 0 ≤ f k ∧ f k ≤ 4
def tkOk (f : Int → Int) : Prop := ∀ k, 0 ≤ k → k < 36 → 0 ≤ f k ∧ f k ≤ 60
/-- who stands on a cell, as a number -/
def wa (f : Int → Int) (k : Int) : Nat → Int
  | 0 => 0
  | n + 1 => wa f k n + if f n = k then 2 ^ n else 0
theorem wa_nn {f : Int → Int} {k : Int} : ∀ n, 0 ≤ wa f k n ∧ wa f k n < 2 ^ n
  | 0 => by simp [wa]
  | n + 1 => by
    have := wa_nn (f := f) (k := k) n
    have h2 : (2 : Int) ^ (n + 1) = 2 * 2 ^ n := by rw [Int.pow_succ, Int.mul_comm]
    simp only [wa]
    split <;> omega
theorem wa_0 {f : Int → Int} {k : Int} : ∀ n, wa f k n = 0 ↔ ∀ j : Nat, j < n → f j ≠ k
  | 0 => by simp [wa]
  | n + 1 => by
    have h1 := wa_nn (f := f) (k := k) n
    have ih := wa_0 (f := f) (k := k) n
    have hp : (0 : Int) < 2 ^ n := Int.pow_pos (by omega)
    simp only [wa]
    constructor
    · intro h j hj
      split at h
      · omega
      · rename_i hne
        by_cases hjn : j = n
        · subst hjn; exact hne
        · exact ih.mp (by omega) j (by omega)
    · intro h
      rw [if_neg (h n (by omega)), (ih.mpr fun j hj => h j (by omega))]
      rfl
theorem c74 {d : Nat} {k : Int} {r : Nat} {z : Int} {T : Tt} {σ : St} {Q : vmO → vmH → Prop} (hr : ob 7 r) (hk : kdOk (σ 700 r)) (h0 : 0 ≤ z) (h1 : z < 36) : Ca d k 74 [.ref r, .int (i32 z)] (E T σ) Q = Q (.inl (some (.int (i32 (if hgB (σ 700 r) z then 1 else 0))))) (E T σ) := by
  have hr3 := ob_lt hr
  have hkz := hk z h0 h1
  rw [n74 _ _ _ _ _ _ _ hr]
  simp (disch := (first | assumption | omega | exact Nat.le_of_ble_eq_true rfl | rfl)) only [w74_0, w74_1, w74_4, w74_5, w74_6, w74_9, w74_10, w74_13, w74_14, w74_15, w74_16, w74_19, w74_20, w74_23, w74_24, Ko_n, Ko_v, vX_i, vX_r, vX_l, vX_j, reduceIte]
  unfold hgB
  by_cases a : σ 700 r z = 0
  · simp [a]
  · by_cases b : σ 700 r z = 4
    · simp [b]
    · simp [a, b, h0, h1]
theorem bs_add {p : Int → Bool} {z : Int} (h0 : 0 ≤ z) (h1 : z < 64) : bs p ||| ll (i64 1) z = bs (fun k => p k || decide (k = z)) := by
  rw [bs_one h0 h1, bs_or]
theorem c75 {d : Nat} {k : Int} {r : Nat} {T : Tt} {σ : St} {Q : vmO → vmH → Prop} (hr : ob 7 r) (hk : kdOk (σ 700 r)) : Ca (d + 1) k 75 [.ref r] (E T σ) Q = Q (.inl (some (.long (bs (hgB (σ 700 r)))))) (E T σ) := by
  have hr3 := ob_lt hr
  have loop : ∀ (m : Nat) (z : Int), 0 ≤ z → z + m = 36 → Wp (d + 1) M_X7_hedgeBits 4 [.ref r, .long (bs fun k => hgB (σ 700 r) k && decide (k < z)), vmJ, .int (i32 z)] [] (E T σ) Q = Q (.inl (some (.long (bs (hgB (σ 700 r)))))) (E T σ) := by
    intro m
    induction m with
    | zero =>
      intro z h0 h1
      have hz : z = 36 := by omega
      subst hz
      simp (disch := (first | assumption | omega | exact Nat.le_of_ble_eq_true rfl | rfl)) only [w75_0, w75_1, w75_2, w75_3, w75_5, w75_7, w75_10, w75_11, w75_12, w75_15, w75_18, w75_19, w75_20, w75_21, w75_22, w75_23, w75_24, w75_27, w75_30, w75_31, Ko_n, Ko_v, vX_i, vX_r, vX_l, vX_j, reduceIte, w75_4, Int.le_refl]
      rw [bs_congr (q := hgB (σ 700 r))]
      intro j _ _
      unfold hgB
      by_cases h : j < 36
      · simp [h]
      · simp [h]
    | succ m ih =>
      intro z h0 h1
      have ih' := ih (z + 1) (by omega) (by omega)
      rw [w75_4]
      simp (disch := (first | assumption | omega | exact Nat.le_of_ble_eq_true rfl | rfl)) only [w75_0, w75_1, w75_2, w75_3, w75_5, w75_7, w75_10, w75_11, w75_12, w75_15, w75_18, w75_19, w75_20, w75_21, w75_22, w75_23, w75_24, w75_27, w75_30, w75_31, Ko_n, Ko_v, vX_i, vX_r, vX_l, vX_j, reduceIte, show ¬ (36 : Int) ≤ z by omega]
      rw [c74 hr hk h0 (by omega)]
      cases hh : hgB (σ 700 r) z with
      | true =>
        simp (disch := (first | assumption | omega | exact Nat.le_of_ble_eq_true rfl | rfl)) only [w75_0, w75_1, w75_2, w75_3, w75_5, w75_7, w75_10, w75_11, w75_12, w75_15, w75_18, w75_19, w75_20, w75_21, w75_22, w75_23, w75_24, w75_27, w75_30, w75_31, Ko_n, Ko_v, vX_i, vX_r, vX_l, vX_j, reduceIte, Int.reduceEq, hh, bs_add]
        rw [bs_congr (q := fun k => hgB (σ 700 r) k && decide (k < z + 1))]
        · exact ih'
        · intro j _ _
          by_cases h : j = z
          · subst h; simp [hh]; omega
          · rw [decide_eq_false h, Bool.or_false]
            by_cases h2 : j < z
            · rw [decide_eq_true h2, decide_eq_true (by omega : j < z + 1)]
            · rw [decide_eq_false h2, decide_eq_false (by omega : ¬ j < z + 1)]
      | false =>
        simp (disch := (first | assumption | omega | exact Nat.le_of_ble_eq_true rfl | rfl)) only [w75_0, w75_1, w75_2, w75_3, w75_5, w75_7, w75_10, w75_11, w75_12, w75_15, w75_18, w75_19, w75_20, w75_21, w75_22, w75_23, w75_24, w75_27, w75_30, w75_31, Ko_n, Ko_v, vX_i, vX_r, vX_l, vX_j, reduceIte, Int.reduceEq, hh, Bool.false_eq_true]
        rw [bs_congr (q := fun k => hgB (σ 700 r) k && decide (k < z + 1))]
        · exact ih'
        · intro j _ _
          by_cases h : j = z
          · subst h; simp [hh]
          · by_cases h2 : j < z
            · rw [decide_eq_true h2, decide_eq_true (by omega : j < z + 1)]
            · rw [decide_eq_false h2, decide_eq_false (by omega : ¬ j < z + 1)]
  rw [n75 _ _ _ _ _ _ hr]
  simp (disch := (first | assumption | omega | exact Nat.le_of_ble_eq_true rfl | rfl)) only [w75_0, w75_1, w75_2, w75_3, w75_5, w75_7, w75_10, w75_11, w75_12, w75_15, w75_18, w75_19, w75_20, w75_21, w75_22, w75_23, w75_24, w75_27, w75_30, w75_31, Ko_n, Ko_v, vX_i, vX_r, vX_l, vX_j, reduceIte]
  have := loop 36 0 (by omega) (by omega)
  rw [bs_congr (q := fun _ => false), ← bs_none] at this
  · exact this
  · intro j h0 _
    unfold hgB
    rw [decide_eq_false (by omega : ¬ j < 0), Bool.and_false]
theorem c76 {d : Nat} {k n : Int} {r : Nat} {T : Tt} {σ : St} {Q : vmO → vmH → Prop} (hr : ob 7 r) (hk : kdOk (σ 700 r)) (hn0 : 0 ≤ n) (hn : n ≤ 36) : Ca d k 76 [.ref r, .int (i32 n)] (E T σ) Q = Q (.inl (some (.long (bs (opB (σ 700 r) n))))) (E T σ) := by
  have hr3 := ob_lt hr
  have loop : ∀ (m : Nat) (z : Int), 0 ≤ z → z + m = n → Wp d M_X7_openBits 5 [.ref r, .int (i32 n), .long (bs (opB (σ 700 r) z)), vmJ, .int (i32 z)] [] (E T σ) Q = Q (.inl (some (.long (bs (opB (σ 700 r) n))))) (E T σ) := by
    intro m
    induction m with
    | zero =>
      intro z h0 h1
      have hz : z = n := by omega
      subst hz
      simp (disch := (first | assumption | omega | exact Nat.le_of_ble_eq_true rfl | rfl)) only [w76_0, w76_1, w76_2, w76_3, w76_7, w76_8, w76_11, w76_12, w76_15, w76_17, w76_18, w76_19, w76_22, w76_23, w76_24, w76_26, w76_27, w76_28, w76_29, w76_32, w76_35, w76_36, Ko_n, Ko_v, vX_i, vX_r, vX_l, vX_j, reduceIte, w76_5, Int.le_refl]
    | succ m ih =>
      intro z h0 h1
      have hkz := hk z h0 (by omega)
      have ih' := ih (z + 1) (by omega) (by omega)
      rw [w76_5]
      simp (disch := (first | assumption | omega | exact Nat.le_of_ble_eq_true rfl | rfl)) only [w76_0, w76_1, w76_2, w76_3, w76_7, w76_8, w76_11, w76_12, w76_15, w76_17, w76_18, w76_19, w76_22, w76_23, w76_24, w76_26, w76_27, w76_28, w76_29, w76_32, w76_35, w76_36, Ko_n, Ko_v, vX_i, vX_r, vX_l, vX_j, reduceIte, show ¬ n ≤ z by omega]
      by_cases hh : σ 700 r z = 4
      · simp (disch := (first | assumption | omega | exact Nat.le_of_ble_eq_true rfl | rfl)) only [w76_0, w76_1, w76_2, w76_3, w76_7, w76_8, w76_11, w76_12, w76_15, w76_17, w76_18, w76_19, w76_22, w76_23, w76_24, w76_26, w76_27, w76_28, w76_29, w76_32, w76_35, w76_36, Ko_n, Ko_v, vX_i, vX_r, vX_l, vX_j, reduceIte, hh]
        rw [bs_congr (q := opB (σ 700 r) (z + 1))]
        · exact ih'
        · intro j _ _
          unfold opB
          by_cases h : j = z
          · subst h; simp [hh]
          · simp only [show (j < z + 1) ↔ j < z by omega]
      · simp (disch := (first | assumption | omega | exact Nat.le_of_ble_eq_true rfl | rfl)) only [w76_0, w76_1, w76_2, w76_3, w76_7, w76_8, w76_11, w76_12, w76_15, w76_17, w76_18, w76_19, w76_22, w76_23, w76_24, w76_26, w76_27, w76_28, w76_29, w76_32, w76_35, w76_36, Ko_n, Ko_v, vX_i, vX_r, vX_l, vX_j, reduceIte, hh, bs_add]
        rw [bs_congr (q := opB (σ 700 r) (z + 1))]
        · exact ih'
        · intro j hj _
          unfold opB
          by_cases h : j = z
          · subst h; simp [hh, hj]; omega
          · simp only [show (j < z + 1) ↔ j < z by omega, decide_eq_false h, Bool.or_false]
  rw [n76 _ _ _ _ _ _ _ hr]
  simp (disch := (first | assumption | omega | exact Nat.le_of_ble_eq_true rfl | rfl)) only [w76_0, w76_1, w76_2, w76_3, w76_7, w76_8, w76_11, w76_12, w76_15, w76_17, w76_18, w76_19, w76_22, w76_23, w76_24, w76_26, w76_27, w76_28, w76_29, w76_32, w76_35, w76_36, Ko_n, Ko_v, vX_i, vX_r, vX_l, vX_j, reduceIte]
  have := loop n.toNat 0 (by omega) (by omega)
  rw [bs_congr (q := fun _ => false), ← bs_none] at this
  · exact this
  · intro j h0 _
    unfold opB
    rw [decide_eq_false]
    omega
theorem wa_step : ∀ w : Fin 5, ∀ u : Fin 32, (u.val : Int) < 2 ^ w.val → oo (u.val : Int) (sl 1 (w.val : Int)) = u.val + 2 ^ w.val := by decide
theorem wa_oo {f : Int → Int} {k : Int} {n : Nat} (hn : n < 5) (h : f n = k) : oo (wa f k n) (sl 1 n) = wa f k (n + 1) := by
  have h1 := wa_nn (f := f) (k := k) n
  have hp : (2 : Int) ^ n ≤ 16 := by
    have : ∀ m : Fin 5, (2 : Int) ^ m.val ≤ 16 := by decide
    exact this ⟨n, hn⟩
  have := wa_step ⟨n, hn⟩ ⟨(wa f k n).toNat, by omega⟩
  dsimp only at this
  rw [show (((wa f k n).toNat : Nat) : Int) = wa f k n by omega] at this
  rw [this h1.2]
  simp only [wa, if_pos h]
theorem c77 {d : Nat} {k z : Int} {n r : Nat} {T : Tt} {σ : St} {Q : vmO → vmH → Prop} (hr : ob 7 r) (hn : n ≤ 5) (hz0 : 0 ≤ z) (hz1 : z < 36) (hat : ∀ w : Nat, w < n → 0 ≤ σ 702 r w ∧ σ 702 r w < 36) : Ca d k 77 [.ref r, .int (i32 n), .int (i32 z)] (E T σ) Q = Q (.inl (some (.int (i32 (wa (σ 702 r) z n))))) (E T σ) := by
  have hr3 := ob_lt hr
  have loop : ∀ (m w : Nat), w + m = n → Wp d M_X7_walkersAt 5 [.ref r, .int (i32 n), .int (i32 z), .int (i32 (wa (σ 702 r) z w)), .int (i32 w)] [] (E T σ) Q = Q (.inl (some (.int (i32 (wa (σ 702 r) z n))))) (E T σ) := by
    intro m
    induction m with
    | zero =>
      intro w h1
      have hz : w = n := by omega
      subst hz
      simp (disch := (first | assumption | omega | exact Nat.le_of_ble_eq_true rfl | rfl)) only [w77_0, w77_1, w77_2, w77_3, w77_7, w77_8, w77_11, w77_12, w77_15, w77_17, w77_18, w77_19, w77_22, w77_23, w77_24, w77_26, w77_27, w77_28, w77_29, w77_32, w77_35, w77_36, Ko_n, Ko_v, vX_i, vX_r, vX_l, vX_j, reduceIte, w77_5, Int.le_refl]
    | succ m ih =>
      intro w h1
      have ih' := ih (w + 1) (by omega)
      have hw := hat w (by omega)
      rw [w77_5]
      simp (disch := (first | assumption | omega | exact Nat.le_of_ble_eq_true rfl | rfl)) only [w77_0, w77_1, w77_2, w77_3, w77_7, w77_8, w77_11, w77_12, w77_15, w77_17, w77_18, w77_19, w77_22, w77_23, w77_24, w77_26, w77_27, w77_28, w77_29, w77_32, w77_35, w77_36, Ko_n, Ko_v, vX_i, vX_r, vX_l, vX_j, reduceIte, show ¬ (n : Int) ≤ w by omega]
      by_cases hh : σ 702 r w = z
      · simp (disch := (first | assumption | omega | exact Nat.le_of_ble_eq_true rfl | rfl)) only [w77_0, w77_1, w77_2, w77_3, w77_7, w77_8, w77_11, w77_12, w77_15, w77_17, w77_18, w77_19, w77_22, w77_23, w77_24, w77_26, w77_27, w77_28, w77_29, w77_32, w77_35, w77_36, Ko_n, Ko_v, vX_i, vX_r, vX_l, vX_j, reduceIte, hh, not_true, wa_oo (f := σ 702 r) (by omega : w < 5) hh]
        exact ih'
      · simp (disch := (first | assumption | omega | exact Nat.le_of_ble_eq_true rfl | rfl)) only [w77_0, w77_1, w77_2, w77_3, w77_7, w77_8, w77_11, w77_12, w77_15, w77_17, w77_18, w77_19, w77_22, w77_23, w77_24, w77_26, w77_27, w77_28, w77_29, w77_32, w77_35, w77_36, Ko_n, Ko_v, vX_i, vX_r, vX_l, vX_j, reduceIte, hh, not_false_eq_true]
        simp only [wa, if_neg hh, Int.add_zero] at ih'
        exact ih'
  rw [n77 _ _ _ _ _ _ _ _ hr]
  simp (disch := (first | assumption | omega | exact Nat.le_of_ble_eq_true rfl | rfl)) only [w77_0, w77_1, w77_2, w77_3, w77_7, w77_8, w77_11, w77_12, w77_15, w77_17, w77_18, w77_19, w77_22, w77_23, w77_24, w77_26, w77_27, w77_28, w77_29, w77_32, w77_35, w77_36, Ko_n, Ko_v, vX_i, vX_r, vX_l, vX_j, reduceIte]
  exact loop n 0 (by omega)
theorem c78 {d : Nat} {k z : Int} {n r : Nat} {T : Tt} {σ : St} {Q : vmO → vmH → Prop} (hr : ob 7 r) (hk : kdOk (σ 700 r)) (hn : n ≤ 5) (hz0 : 0 ≤ z) (hz1 : z < 36) (hat : ∀ w : Nat, w < n → 0 ≤ σ 702 r w ∧ σ 702 r w < 36) : Ca (d + 1) k 78 [.ref r, .int (i32 n), .int (i32 z)] (E T σ) Q = Q (.inl (some (.int (i32 (if σ 700 r z = 0 ∧ wa (σ 702 r) z n = 0 then 1 else 0))))) (E T σ) := by
  have hr3 := ob_lt hr
  have hkz := hk z hz0 hz1
  have hw := wa_nn (f := σ 702 r) (k := z) n
  have hp : (2 : Int) ^ n ≤ 32 := by
    have : ∀ m : Fin 6, (2 : Int) ^ m.val ≤ 32 := by decide
    exact this ⟨n, by omega⟩
  rw [n78 _ _ _ _ _ _ _ _ hr]
  simp (disch := (first | assumption | omega | exact Nat.le_of_ble_eq_true rfl | rfl)) only [w78_0, w78_1, w78_4, w78_5, w78_6, w78_9, w78_10, w78_11, w78_12, w78_15, w78_18, w78_19, w78_22, w78_23, Ko_n, Ko_v, vX_i, vX_r, vX_l, vX_j, reduceIte, c77 hr hn hz0 hz1 hat]
  by_cases a : σ 700 r z = 0
  · by_cases b : wa (σ 702 r) z n = 0
    · simp [a, b]
    · simp [a, b]
  · simp [a]
theorem c79 {d : Nat} {k z kd tk : Int} {r : Nat} {T : Tt} {σ : St} {Q : vmO → vmH → Prop} (hr : ob 7 r) (hz0 : 0 ≤ z) (hz1 : z < 36) : Ca d k 79 [.ref r, .int (i32 z), .int (i32 kd), .int (i32 tk)] (E T σ) Q = Q (.inl none) (E T (upA (upA σ 700 r (fu (σ 700 r) z kd)) 701 r (fu (σ 701 r) z tk))) := by
  have hr3 := ob_lt hr
  rw [n79 _ _ _ _ _ _ _ _ _ hr]
  simp (disch := (first | assumption | omega | exact Nat.le_of_ble_eq_true rfl | rfl)) only [w79_0, w79_1, w79_4, w79_5, w79_6, w79_7, w79_8, w79_11, w79_12, w79_13, w79_14, Ko_n, Ko_v, vX_i, vX_r, vX_l, vX_j, reduceIte, upA_t]
/-- a hedge is thinner -/
def shr (σ : St) (r : Nat) (z m : Int) : St := upA (upA (upA σ 706 r fun _ => σ 706 r 0 + m) 701 r (fu (σ 701 r) z (σ 701 r z - m))) 700 r (if σ 701 r z - m = 0 then fu (σ 700 r) z 0 else σ 700 r)
theorem c80 {d : Nat} {k z n : Int} {r : Nat} {T : Tt} {σ : St} {Q : vmO → vmH → Prop} (hr : ob 7 r) (ht : tkOk (σ 701 r)) (hz0 : 0 ≤ z) (hz1 : z < 36) (hn0 : 1 ≤ n) (hn1 : n ≤ 60) : Ca d k 80 [.ref r, .int (i32 z), .int (i32 n)] (E T σ) Q = Q (.inl none) (E T (shr σ r z (min n (σ 701 r z)))) := by
  have hr3 := ob_lt hr
  have htz := ht z hz0 hz1
  rw [n80 _ _ _ _ _ _ _ _ hr]
  unfold shr
  simp (disch := (first | assumption | omega | exact Nat.le_of_ble_eq_true rfl | rfl)) only [w80_0, w80_1, w80_2, w80_5, w80_6, w80_7, w80_10, w80_11, w80_12, w80_13, w80_16, w80_17, w80_18, w80_21, w80_22, w80_25, w80_26, w80_27, w80_28, w80_29, w80_30, w80_31, w80_32, w80_35, w80_36, w80_37, w80_40, w80_41, w80_44, w80_45, w80_46, w80_47, Ko_n, Ko_v, vX_i, vX_r, vX_l, vX_j, reduceIte, upA_t, upA_s, fu_s]
  by_cases h : σ 701 r z - min n (σ 701 r z) = 0
  · simp only [h, not_true, if_false, if_true]
  · simp only [h, not_false_eq_true, if_true, if_false]
    have : upA σ 700 r (σ 700 r) = σ := upA_self
    rw [upA_comm (t := 701) (t' := 700) (by omega), upA_comm (t := 706) (t' := 700) (by omega), this]
/-- one scene becomes as another -/
def scB (σ : St) (r o : Nat) : St := upA (upA (upA (upA (upA (upA (upA σ 700 r (cp (σ 700 o) (σ 700 r) 36)) 701 r (cp (σ 701 o) (σ 701 r) 36)) 702 r (cp (σ 702 o) (σ 702 r) 5)) 703 r (cp (σ 703 o) (σ 703 r) 5)) 704 r fun _ => σ 704 o 0) 705 r fun _ => σ 705 o 0) 706 r fun _ => σ 706 o 0
theorem c81 {d : Nat} {k : Int} {r o : Nat} {T : Tt} {σ : St} {Q : vmO → vmH → Prop} (hr : ob 7 r) (ho : ob 7 o) : Ca d k 81 [.ref r, .ref o] (E T σ) Q = Q (.inl none) (E T (scB σ r o)) := by
  have hr3 := ob_lt hr
  have ho3 := ob_lt ho
  rw [n81 _ _ _ _ _ _ _ hr]
  unfold scB
  simp (disch := (first | assumption | omega | exact Nat.le_of_ble_eq_true rfl | rfl)) only [w81_0, w81_1, w81_4, w81_5, w81_6, w81_9, w81_10, w81_11, w81_14, w81_15, w81_18, w81_19, w81_22, w81_23, w81_24, w81_27, w81_28, w81_29, w81_32, w81_33, w81_36, w81_37, w81_40, w81_41, w81_42, w81_45, w81_46, w81_47, w81_50, w81_51, w81_54, w81_55, w81_58, w81_59, w81_60, w81_63, w81_64, w81_65, w81_68, w81_69, w81_72, w81_73, w81_74, w81_77, w81_80, w81_81, w81_82, w81_85, w81_88, w81_89, w81_90, w81_93, w81_96, Ko_n, Ko_v, vX_i, vX_r, vX_l, vX_j, reduceIte, upA_t]
  rfl
def scC (σ : St) (r : Nat) : St := upA (upA (upA (upA (upA σ 700 r (fil (σ 700 r) 36 0)) 701 r (fil (σ 701 r) 36 0)) 704 r fun _ => 0) 705 r fun _ => 0) 706 r fun _ => 0
theorem c73 {d : Nat} {k : Int} {r : Nat} {T : Tt} {σ : St} {Q : vmO → vmH → Prop} (hr : ob 7 r) : Ca (d + 1) k 73 [.ref r] (E T σ) Q = Q (.inl none) (E T (scC σ r)) := by
  have hr3 := ob_lt hr
  rw [n73 _ _ _ _ _ _ hr]
  unfold scC
  simp (disch := (first | assumption | omega | exact Nat.le_of_ble_eq_true rfl | rfl)) only [w73_0, w73_1, w73_4, w73_5, w73_8, w73_9, w73_12, w73_13, w73_16, w73_17, w73_18, w73_21, w73_22, w73_23, w73_26, w73_27, w73_28, w73_31, Ko_n, Ko_v, vX_i, vX_r, vX_l, vX_j, reduceIte]
  rw [c320 (by omega) (ok_700 r hr)]
  simp (disch := (first | assumption | omega | exact Nat.le_of_ble_eq_true rfl | rfl)) only [w73_0, w73_1, w73_4, w73_5, w73_8, w73_9, w73_12, w73_13, w73_16, w73_17, w73_18, w73_21, w73_22, w73_23, w73_26, w73_27, w73_28, w73_31, Ko_n, Ko_v, vX_i, vX_r, vX_l, vX_j, reduceIte]
  rw [c320 (by omega) (ok_701 r hr)]
  simp (disch := (first | assumption | omega | exact Nat.le_of_ble_eq_true rfl | rfl)) only [w73_0, w73_1, w73_4, w73_5, w73_8, w73_9, w73_12, w73_13, w73_16, w73_17, w73_18, w73_21, w73_22, w73_23, w73_26, w73_27, w73_28, w73_31, Ko_n, Ko_v, vX_i, vX_r, vX_l, vX_j, reduceIte, upA_t]
  rfl
