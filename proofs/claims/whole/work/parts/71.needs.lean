/-! ===== HedgePark: what calls ask for; the small ones ===== -/
theorem ob_hp : ob 11 0 := (rfl : sh 0 = (2, 11, 0, 0, 0))
theorem ob_st : ob 8 2 := (rfl : sh 2 = (2, 8, 0, 0, 0))
theorem ob_p3 : ob 4 3 := (rfl : sh 3 = (2, 4, 0, 0, 0))
theorem ob_l7 : ob 3 7 := (rfl : sh 7 = (2, 3, 0, 0, 0))
theorem ob_n10 : ob 7 10 := (rfl : sh 10 = (2, 7, 0, 0, 0))
theorem ob_tr : ob 7 67 := (rfl : sh 67 = (2, 7, 0, 0, 0))
theorem ob_gr : ob 2 141 := (rfl : sh 141 = (2, 2, 0, 0, 0))
theorem ob_wy : ob 10 144 := (rfl : sh 144 = (2, 10, 0, 0, 0))
theorem c169 {d : Nat} {k u : Int} {T : Tt} {σ : St} {Q : vmO → vmH → Prop} (hk : 4 ≤ k) (hu : u = 0 ∨ u = 1) : Ca (d + 8) k 169 [.int (i32 u)] (E T σ) Q = if u = 0 then Q (.inr 1) (E (thr T) σ) else Q (.inl none) (E T σ) := by
  rw [n169 _ _ _ _ _ hk]
  rcases hu with rfl | rfl <;> simp (disch := (first | assumption | omega | exact Nat.le_of_ble_eq_true rfl | rfl)) only [w169_0, w169_1, w169_4, w169_12, Ko_n, Ko_v, vX_i, vX_r, vX_l, vX_j, reduceIte, not_true, not_false_eq_true, Int.reduceEq]
theorem c170 {d : Nat} {k u : Int} {T : Tt} {σ : St} {Q : vmO → vmH → Prop} (hk : 4 ≤ k) (hu : u = 0 ∨ u = 1) : Ca (d + 8) k 170 [.int (i32 u)] (E T σ) Q = if u = 0 then Q (.inr 2) (E (thr T) σ) else Q (.inl none) (E T σ) := by
  rw [n170 _ _ _ _ _ hk]
  rcases hu with rfl | rfl <;> simp (disch := (first | assumption | omega | exact Nat.le_of_ble_eq_true rfl | rfl)) only [w170_0, w170_1, w170_4, w170_12, Ko_n, Ko_v, vX_i, vX_r, vX_l, vX_j, reduceIte, not_true, not_false_eq_true, Int.reduceEq]
theorem c171 {d : Nat} {k u : Int} {h : vmH} {Q : vmO → vmH → Prop} (hk : 4 ≤ k) (u0 : 0 ≤ u) (u1 : u ≤ far) : Ca d k 171 [.int (i32 u)] h Q = Q (.inl (some (.int (i32 (if u < far then u else -1))))) h := by
  have hfar : far = 1000000000 := rfl
  rw [n171 _ _ _ _ _ hk]
  simp (disch := (first | assumption | omega | exact Nat.le_of_ble_eq_true rfl | rfl)) only [w171_0, w171_1, w171_4, w171_7, w171_8, w171_11, w171_12, Ko_n, Ko_v, vX_i, vX_r, vX_l, vX_j, reduceIte]
  by_cases hx : u < far
  · rw [if_neg (by omega), if_pos hx]
  · rw [if_pos (by omega), if_neg hx]
theorem c163 {d : Nat} {k z N : Int} {T : Tt} {σ : St} {Q : vmO → vmH → Prop} (hN : σ 401 3 0 * σ 402 3 0 = N) (N0 : 0 ≤ N) (N1 : N ≤ 36) (z0 : -2147483648 ≤ z) (z1 : z < 2147483648) : Ca (d + 8) k 163 [.ref 0, .int (i32 z)] (E T σ) Q = if 0 ≤ z ∧ z < N then Q (.inl none) (E T σ) else Q (.inr 0) (E (thr T) σ) := by
  have h0 := ob_hp; have h2 := ob_st; have h3 := ob_p3
  rw [n163 _ _ _ _ _ _ _ h0]
  by_cases a : z < 0
  · rw [if_neg (by omega)]
    simp (disch := (first | assumption | omega | exact Nat.le_of_ble_eq_true rfl | rfl)) only [w163_0, w163_1, w163_4, w163_5, w163_6, w163_9, w163_12, w163_15, w163_18, w163_26, Ko_n, Ko_v, vX_i, vX_r, vX_l, vX_j, reduceIte, a]
  · by_cases b : z < N
    · rw [if_pos ⟨by omega, b⟩]
      simp (disch := (first | assumption | omega | exact Nat.le_of_ble_eq_true rfl | rfl)) only [w163_0, w163_1, w163_4, w163_5, w163_6, w163_9, w163_12, w163_15, w163_18, w163_26, Ko_n, Ko_v, vX_i, vX_r, vX_l, vX_j, reduceIte, a, Nat.reduceAdd, c26, hN, b]
    · rw [if_neg (fun w => b w.2)]
      simp (disch := (first | assumption | omega | exact Nat.le_of_ble_eq_true rfl | rfl)) only [w163_0, w163_1, w163_4, w163_5, w163_6, w163_9, w163_12, w163_15, w163_18, w163_26, Ko_n, Ko_v, vX_i, vX_r, vX_l, vX_j, reduceIte, a, Nat.reduceAdd, c26, hN, b]
theorem c164 {d : Nat} {k z : Int} {T : Tt} {σ : St} {Q : vmO → vmH → Prop} (w0 : 0 ≤ σ 404 3 0) (w1 : σ 404 3 0 ≤ 5) (z0 : -2147483648 ≤ z) (z1 : z < 2147483648) : Ca (d + 8) k 164 [.ref 0, .int (i32 z)] (E T σ) Q = if 0 ≤ z ∧ z < σ 404 3 0 then Q (.inl none) (E T σ) else Q (.inr 0) (E (thr T) σ) := by
  have h0 := ob_hp; have h2 := ob_st; have h3 := ob_p3
  rw [n164 _ _ _ _ _ _ _ h0]
  by_cases a : z < 0
  · rw [if_neg (by omega)]
    simp (disch := (first | assumption | omega | exact Nat.le_of_ble_eq_true rfl | rfl)) only [w164_0, w164_1, w164_4, w164_5, w164_6, w164_9, w164_12, w164_15, w164_18, w164_26, Ko_n, Ko_v, vX_i, vX_r, vX_l, vX_j, reduceIte, a]
  · by_cases b : z < σ 404 3 0
    · rw [if_pos ⟨by omega, b⟩]
      simp (disch := (first | assumption | omega | exact Nat.le_of_ble_eq_true rfl | rfl)) only [w164_0, w164_1, w164_4, w164_5, w164_6, w164_9, w164_12, w164_15, w164_18, w164_26, Ko_n, Ko_v, vX_i, vX_r, vX_l, vX_j, reduceIte, a, Nat.reduceAdd, b]
    · rw [if_neg (fun w => b w.2)]
      simp (disch := (first | assumption | omega | exact Nat.le_of_ble_eq_true rfl | rfl)) only [w164_0, w164_1, w164_4, w164_5, w164_6, w164_9, w164_12, w164_15, w164_18, w164_26, Ko_n, Ko_v, vX_i, vX_r, vX_l, vX_j, reduceIte, a, Nat.reduceAdd, b]
theorem c165 {d : Nat} {k w z N : Int} {T : Tt} {σ : St} {Q : vmO → vmH → Prop} (hN : σ 401 3 0 * σ 402 3 0 = N) (N0 : 0 ≤ N) (N1 : N ≤ 36) (w0 : 0 ≤ σ 404 3 0) (w1 : σ 404 3 0 ≤ 5) (x0 : -2147483648 ≤ w) (x1 : w < 2147483648) (z0 : -2147483648 ≤ z) (z1 : z < 2147483648) : Ca (d + 9) k 165 [.ref 0, .int (i32 w), .int (i32 z)] (E T σ) Q = if (0 ≤ w ∧ w < σ 404 3 0) ∧ (0 ≤ z ∧ z < N) then Q (.inl none) (E T σ) else Q (.inr 0) (E (thr T) σ) := by
  have h0 := ob_hp
  rw [n165 _ _ _ _ _ _ _ _ h0]
  simp (disch := (first | assumption | omega | exact Nat.le_of_ble_eq_true rfl | rfl)) only [w165_0, w165_1, w165_2, w165_5, w165_6, w165_7, w165_10, Ko_n, Ko_v, vX_i, vX_r, vX_l, vX_j, reduceIte]
  rw [c164 w0 w1 x0 x1]
  by_cases a : 0 ≤ w ∧ w < σ 404 3 0
  · rw [if_pos a]
    simp (disch := (first | assumption | omega | exact Nat.le_of_ble_eq_true rfl | rfl)) only [w165_0, w165_1, w165_2, w165_5, w165_6, w165_7, w165_10, Ko_n, Ko_v, vX_i, vX_r, vX_l, vX_j, reduceIte]
    rw [c163 hN N0 N1 z0 z1]
    by_cases b : 0 ≤ z ∧ z < N
    · rw [if_pos b, if_pos ⟨a, b⟩]
      simp (disch := (first | assumption | omega | exact Nat.le_of_ble_eq_true rfl | rfl)) only [w165_0, w165_1, w165_2, w165_5, w165_6, w165_7, w165_10, Ko_n, Ko_v, vX_i, vX_r, vX_l, vX_j, reduceIte]
    · rw [if_neg b, if_neg (fun w => b w.2)]
      rw [Ko_x rfl]
  · rw [if_neg a, if_neg (fun w => a w.1)]
    rw [Ko_x rfl]
theorem c166 {d : Nat} {k z : Int} {T : Tt} {σ : St} {Q : vmO → vmH → Prop} (hk : 4 ≤ k) (z0 : -2147483648 ≤ z) (z1 : z < 2147483648) : Ca (d + 8) k 166 [.int (i32 z)] (E T σ) Q = if 0 ≤ z ∧ z < 4 then Q (.inl none) (E T σ) else Q (.inr 0) (E (thr T) σ) := by
  rw [n166 _ _ _ _ _ hk]
  by_cases a : z < 0
  · rw [if_neg (by omega)]
    simp (disch := (first | assumption | omega | exact Nat.le_of_ble_eq_true rfl | rfl)) only [w166_0, w166_1, w166_4, w166_5, w166_6, w166_9, w166_17, Ko_n, Ko_v, vX_i, vX_r, vX_l, vX_j, reduceIte, a]
  · by_cases b : z < 4
    · rw [if_pos ⟨by omega, b⟩]
      simp (disch := (first | assumption | omega | exact Nat.le_of_ble_eq_true rfl | rfl)) only [w166_0, w166_1, w166_4, w166_5, w166_6, w166_9, w166_17, Ko_n, Ko_v, vX_i, vX_r, vX_l, vX_j, reduceIte, a, b]
    · rw [if_neg (fun w => b w.2)]
      simp (disch := (first | assumption | omega | exact Nat.le_of_ble_eq_true rfl | rfl)) only [w166_0, w166_1, w166_4, w166_5, w166_6, w166_9, w166_17, Ko_n, Ko_v, vX_i, vX_r, vX_l, vX_j, reduceIte, a, b]
theorem c168 {d : Nat} {k z : Int} {T : Tt} {σ : St} {Q : vmO → vmH → Prop} (hk : 4 ≤ k) (z0 : -2147483648 ≤ z) (z1 : z < 2147483648) : Ca (d + 8) k 168 [.int (i32 z)] (E T σ) Q = if 0 ≤ z ∧ z < 3 then Q (.inl none) (E T σ) else Q (.inr 0) (E (thr T) σ) := by
  rw [n168 _ _ _ _ _ hk]
  by_cases a : z < 0
  · rw [if_neg (by omega)]
    simp (disch := (first | assumption | omega | exact Nat.le_of_ble_eq_true rfl | rfl)) only [w168_0, w168_1, w168_4, w168_5, w168_6, w168_9, w168_17, Ko_n, Ko_v, vX_i, vX_r, vX_l, vX_j, reduceIte, a]
  · by_cases b : z < 3
    · rw [if_pos ⟨by omega, b⟩]
      simp (disch := (first | assumption | omega | exact Nat.le_of_ble_eq_true rfl | rfl)) only [w168_0, w168_1, w168_4, w168_5, w168_6, w168_9, w168_17, Ko_n, Ko_v, vX_i, vX_r, vX_l, vX_j, reduceIte, a, b]
    · rw [if_neg (fun w => b w.2)]
      simp (disch := (first | assumption | omega | exact Nat.le_of_ble_eq_true rfl | rfl)) only [w168_0, w168_1, w168_4, w168_5, w168_6, w168_9, w168_17, Ko_n, Ko_v, vX_i, vX_r, vX_l, vX_j, reduceIte, a, b]
theorem c167 {d : Nat} {k z : Int} {T : Tt} {σ : St} {Q : vmO → vmH → Prop} (z0 : -2147483648 ≤ z) (z1 : z < 2147483648) (hs : ∀ j, 0 ≤ j → j < 4 → -1 ≤ σ 1108 0 j ∧ σ 1108 0 j ≤ 3) : Ca (d + 9) k 167 [.ref 0, .int (i32 z)] (E T σ) Q = if 0 ≤ z ∧ z < 4 then (if σ 1108 0 z = -1 then Q (.inr 2) (E (thr T) σ) else Q (.inl none) (E T σ)) else Q (.inr 0) (E (thr T) σ) := by
  have h0 := ob_hp
  rw [n167 _ _ _ _ _ _ _ h0]
  simp (disch := (first | assumption | omega | exact Nat.le_of_ble_eq_true rfl | rfl)) only [w167_0, w167_1, w167_4, w167_5, w167_8, w167_9, w167_10, w167_11, w167_14, w167_15, w167_18, w167_19, w167_22, Ko_n, Ko_v, vX_i, vX_r, vX_l, vX_j, reduceIte]
  rw [c166 (by omega) z0 z1]
  by_cases a : 0 ≤ z ∧ z < 4
  · rw [if_pos a, if_pos a]
    have hz := hs z a.1 a.2
    obtain ⟨a1, a2⟩ := a
    by_cases b : σ 1108 0 z = -1
    · rw [if_pos b]
      simp (disch := (first | assumption | omega | exact Nat.le_of_ble_eq_true rfl | rfl)) only [w167_0, w167_1, w167_4, w167_5, w167_8, w167_9, w167_10, w167_11, w167_14, w167_15, w167_18, w167_19, w167_22, Ko_n, Ko_v, vX_i, vX_r, vX_l, vX_j, reduceIte, b, Int.reduceNeg]
      rw [c170 (by omega) (Or.inl rfl), if_pos rfl]
      rw [Ko_x rfl]
    · rw [if_neg b]
      simp (disch := (first | assumption | omega | exact Nat.le_of_ble_eq_true rfl | rfl)) only [w167_0, w167_1, w167_4, w167_5, w167_8, w167_9, w167_10, w167_11, w167_14, w167_15, w167_18, w167_19, w167_22, Ko_n, Ko_v, vX_i, vX_r, vX_l, vX_j, reduceIte, b]
      rw [c170 (by omega) (Or.inr rfl), if_neg (by omega)]
      simp (disch := (first | assumption | omega | exact Nat.le_of_ble_eq_true rfl | rfl)) only [w167_0, w167_1, w167_4, w167_5, w167_8, w167_9, w167_10, w167_11, w167_14, w167_15, w167_18, w167_19, w167_22, Ko_n, Ko_v, vX_i, vX_r, vX_l, vX_j, reduceIte]
  · rw [if_neg a, if_neg a]
    rw [Ko_x rfl]
theorem c116 {d : Nat} {k z : Int} {T : Tt} {σ : St} {Q : vmO → vmH → Prop} (z0 : -2147483648 ≤ z) (z1 : z < 2147483648) : Ca d k 116 [.ref 0, .int (i32 z)] (E T σ) Q = Q (.inl (some (.int (i32 (if z = 0 then σ 1102 0 0 else if z = 1 then σ 1103 0 0 else -1))))) (E T σ) := by
  have h0 := ob_hp
  rw [n116 _ _ _ _ _ _ _ h0]
  by_cases a : z = 0
  · simp (disch := (first | assumption | omega | exact Nat.le_of_ble_eq_true rfl | rfl)) only [w116_0, w116_1, w116_4, w116_5, w116_8, w116_9, w116_10, w116_11, w116_14, w116_15, w116_18, w116_21, w116_22, Ko_n, Ko_v, vX_i, vX_r, vX_l, vX_j, reduceIte, a, not_true]
  · by_cases b : z = 1
    · simp (disch := (first | assumption | omega | exact Nat.le_of_ble_eq_true rfl | rfl)) only [w116_0, w116_1, w116_4, w116_5, w116_8, w116_9, w116_10, w116_11, w116_14, w116_15, w116_18, w116_21, w116_22, Ko_n, Ko_v, vX_i, vX_r, vX_l, vX_j, reduceIte, b, not_true, not_false_eq_true, Int.reduceEq]
    · simp (disch := (first | assumption | omega | exact Nat.le_of_ble_eq_true rfl | rfl)) only [w116_0, w116_1, w116_4, w116_5, w116_8, w116_9, w116_10, w116_11, w116_14, w116_15, w116_18, w116_21, w116_22, Ko_n, Ko_v, vX_i, vX_r, vX_l, vX_j, reduceIte, a, b, not_false_eq_true]
theorem c119 {d : Nat} {k : Int} {T : Tt} {σ : St} {Q : vmO → vmH → Prop} (hk : kdOk (σ 700 10)) : Ca (d + 2) k 119 [.ref 0] (E T σ) Q = Q (.inl (some (.long (bs (hgB (σ 700 10)))))) (E T σ) := by
  have h0 := ob_hp; have h2 := ob_st; have hn := ob_n10
  rw [n119 _ _ _ _ _ _ h0]
  simp (disch := (first | assumption | omega | exact Nat.le_of_ble_eq_true rfl | rfl)) only [w119_0, w119_1, w119_4, w119_7, w119_10, Ko_n, Ko_v, vX_i, vX_r, vX_l, vX_j, reduceIte, Nat.reduceAdd]
  rw [c75 hn hk]
  simp (disch := (first | assumption | omega | exact Nat.le_of_ble_eq_true rfl | rfl)) only [w119_0, w119_1, w119_4, w119_7, w119_10, Ko_n, Ko_v, vX_i, vX_r, vX_l, vX_j, reduceIte]
def smI (f : Int → Int) : Nat → Int
  | 0 => 0
  | n + 1 => smI f n + f n
theorem smI_in {f : Int → Int} (h : tkOk f) (n : Nat) (hn : n ≤ 36) : 0 ≤ smI f n ∧ smI f n ≤ 60 * n := by
  induction n with
  | zero => simp [smI]
  | succ n ih =>
    have := ih (by omega)
    have h2 := h n (by omega) (by omega)
    simp only [smI]
    omega
theorem c120 {d : Nat} {k : Int} {T : Tt} {σ : St} {Q : vmO → vmH → Prop} (hk : tkOk (σ 701 10)) : Ca d k 120 [.ref 0] (E T σ) Q = Q (.inl (some (.int (i32 (smI (σ 701 10) 36))))) (E T σ) := by
  have h0 := ob_hp; have h2 := ob_st; have hn := ob_n10
  have loop : ∀ (m n : Nat), n + m = 36 → Wp d M_X11_thickness 4 [.ref 0, .int (i32 (smI (σ 701 10) n)), .int (i32 n)] [] (E T σ) Q = Q (.inl (some (.int (i32 (smI (σ 701 10) 36))))) (E T σ) := by
    intro m
    induction m with
    | zero =>
      intro n hn
      have hn : n = 36 := by omega
      subst hn
      rw [w120_4]
      simp (disch := (first | assumption | omega | exact Nat.le_of_ble_eq_true rfl | rfl)) only [w120_0, w120_1, w120_2, w120_3, w120_5, w120_7, w120_10, w120_11, w120_12, w120_15, w120_18, w120_21, w120_22, w120_23, w120_24, w120_25, w120_28, w120_31, w120_32, Ko_n, Ko_v, vX_i, vX_r, vX_l, vX_j, reduceIte, show ((36 : Nat) : Int) = 36 from rfl, Int.le_refl]
    | succ m ih =>
      intro n hn2
      have ih' := ih (n + 1) (by omega)
      rw [w120_4]
      simp (disch := (first | assumption | omega | exact Nat.le_of_ble_eq_true rfl | rfl)) only [w120_0, w120_1, w120_2, w120_3, w120_5, w120_7, w120_10, w120_11, w120_12, w120_15, w120_18, w120_21, w120_22, w120_23, w120_24, w120_25, w120_28, w120_31, w120_32, Ko_n, Ko_v, vX_i, vX_r, vX_l, vX_j, reduceIte, show ¬ (36 : Int) ≤ (n : Int) by omega, Nat.reduceAdd]
      exact ih'
  rw [n120 _ _ _ _ _ _ h0]
  simp (disch := (first | assumption | omega | exact Nat.le_of_ble_eq_true rfl | rfl)) only [w120_0, w120_1, w120_2, w120_3, w120_5, w120_7, w120_10, w120_11, w120_12, w120_15, w120_18, w120_21, w120_22, w120_23, w120_24, w120_25, w120_28, w120_31, w120_32, Ko_n, Ko_v, vX_i, vX_r, vX_l, vX_j, reduceIte]
  exact loop 36 0 (by omega)
/-- bytes of an int, the highest first, behind those on a tape -/
def tpI (v : Int) (f : Int → Int) (n : Int) : Nat → Int → Int
  | 0 => f
  | j + 1 => fu (tpI v f n j) (n + j) (an (us v (24 - 8 * j)) 255)
theorem c114 {d : Nat} {k v n : Int} {f : Int → Int} {T : Tt} {σ : St} {Q : vmO → vmH → Prop} (n0 : 0 ≤ n) (n1 : n + 4 ≤ 900) : Ca d k 114 [.ref 0, .int (i32 v)] (E T (upA (upA σ 1100 0 f) 1101 0 fun _ => n)) Q = Q (.inl none) (E T (upA (upA σ 1100 0 (tpI v f n 4)) 1101 0 fun _ => n + 4)) := by
  have h0 := ob_hp
  have loop : ∀ (m j : Nat), j + m = 4 → Wp d M_X11_tapeInt 3 [.ref 0, .int (i32 v), .int (i32 (24 - 8 * j))] [] (E T (upA (upA σ 1100 0 (tpI v f n j)) 1101 0 fun _ => n + j)) Q = Q (.inl none) (E T (upA (upA σ 1100 0 (tpI v f n 4)) 1101 0 fun _ => n + 4)) := by
    intro m
    induction m with
    | zero =>
      intro j hj
      have hj : j = 4 := by omega
      subst hj
      rw [w114_3]
      simp (disch := (first | assumption | omega | exact Nat.le_of_ble_eq_true rfl | rfl)) only [w114_0, w114_2, w114_4, w114_7, w114_8, w114_11, w114_14, w114_17, w114_18, w114_21, w114_22, w114_25, w114_26, w114_27, w114_28, w114_31, w114_32, w114_33, w114_34, w114_35, w114_38, w114_39, w114_40, w114_43, w114_46, w114_49, Ko_n, Ko_v, vX_i, vX_r, vX_l, vX_j, reduceIte, show (24 - 8 * ((4 : Nat) : Int)) < 0 by omega]
      rfl
    | succ m ih =>
      intro j hj
      have ih' := ih (j + 1) (by omega)
      rw [show (24 - 8 * ((j + 1 : Nat) : Int)) = 24 - 8 * (j : Int) + -8 by omega, show (n + ((j + 1 : Nat) : Int)) = n + j + 1 by omega] at ih'
      simp only [tpI] at ih'
      have e1 : ∀ g, upA (upA (upA (upA σ 1100 0 (tpI v f n j)) 1101 0 fun _ => n + j) 1100 0 g) 1101 0 (fun _ => n + j + 1) = upA (upA σ 1100 0 g) 1101 0 fun _ => n + j + 1 := by
        intro g
        rw [upA_comm (t := 1101) (t' := 1100) (by omega), upA_upA, upA_upA]
      rw [w114_3]
      simp (disch := (first | assumption | omega | exact Nat.le_of_ble_eq_true rfl | rfl)) only [w114_0, w114_2, w114_4, w114_7, w114_8, w114_11, w114_14, w114_17, w114_18, w114_21, w114_22, w114_25, w114_26, w114_27, w114_28, w114_31, w114_32, w114_33, w114_34, w114_35, w114_38, w114_39, w114_40, w114_43, w114_46, w114_49, Ko_n, Ko_v, vX_i, vX_r, vX_l, vX_j, reduceIte, show ¬ (24 - 8 * (j : Int)) < 0 by omega, upA_s, upA_t, show ¬ (900 : Int) ≤ n + (j : Int) by omega, e1]
      exact ih'
  rw [n114 _ _ _ _ _ _ _ h0]
  simp (disch := (first | assumption | omega | exact Nat.le_of_ble_eq_true rfl | rfl)) only [w114_0, w114_2, w114_4, w114_7, w114_8, w114_11, w114_14, w114_17, w114_18, w114_21, w114_22, w114_25, w114_26, w114_27, w114_28, w114_31, w114_32, w114_33, w114_34, w114_35, w114_38, w114_39, w114_40, w114_43, w114_46, w114_49, Ko_n, Ko_v, vX_i, vX_r, vX_l, vX_j, reduceIte]
  have := loop 4 0 (by omega)
  rw [show (24 - 8 * ((0 : Nat) : Int)) = 24 by omega, show (n + ((0 : Nat) : Int)) = n by omega] at this
  exact this
