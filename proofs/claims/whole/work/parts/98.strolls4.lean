/-! ===== HedgePark: walks, been, through, tells, maybe ===== -/
/-- strolls are prepared -/
def skK (σ τ : St) (W H : Int) (c : Int → Int) (a z : Int) (t : Nat) : Prop := sg σ τ ∧ agr (W * H) (τ 1000 160) c ∧ τ 907 155 0 = t ∧ τ 906 155 0 = z ∧ τ 905 155 0 = a ∧ thU W H c a t (τ 901 155) ∧ tcU W H c z t (τ 902 155)
theorem skK_u {σ τ : St} {W H a z : Int} {c M : Int → Int} {t : Nat} (h : skK σ τ W H c a z t) : skK σ (upA τ 903 155 M) W H c a z t := by
  obtain ⟨h1, h2, h3, h4, h5, h6, h7⟩ := h
  refine ⟨sg_u h1 (by omega), ?_, ?_, ?_, ?_, ?_, ?_⟩
  · rw [upA_t (by omega)]; exact h2
  · rw [upA_t (by omega)]; exact h3
  · rw [upA_t (by omega)]; exact h4
  · rw [upA_t (by omega)]; exact h5
  · rw [upA_t (by omega)]; exact h6
  · rw [upA_t (by omega)]; exact h7
theorem c155 {d N : Nat} {k w z t W H : Int} {T : Tt} {σ : St} {Q : vmO → vmH → Prop} (hW : hpW σ W H N) (w0 : 0 ≤ w) (w1 : w < σ 404 3 0) (z0 : 0 ≤ z) (z1 : z < W * H) (y0 : -2147483648 ≤ t) (y1 : t < 2147483648)
    (hQ1 : ¬ (0 ≤ t ∧ t ≤ 30) → Q (.inr 1) (E (thr T) σ))
    (hQ2 : 0 ≤ t → t ≤ 30 → ∀ τ, skK σ τ W H (prc σ 3 10 (frB (σ 405 3 0) w)) (σ 702 10 w) z t.toNat → Q (.inl none) (E T τ)) : Ca (d + 9) k 155 [.ref 0, .int (i32 w), .int (i32 z), .int (i32 t)] (E T σ) Q := by
  have h0 := ob_hp; have h2 := ob_st; have h3 := ob_p3; have h10 := ob_n10; have hsk := ob_sk
  have hNw := hW.2.2.1
  obtain ⟨h, w5, a0, a1⟩ := hpW_w hW w0 w1
  have hm := wh_mul h
  obtain ⟨hP, hS⟩ := hpW_k hW w0 w1
  rw [n155 _ _ _ _ _ _ _ _ _ h0]
  by_cases hd : 0 ≤ t ∧ t ≤ 30
  · have hq := hQ2 hd.1 hd.2
    simp (disch := (first | assumption | omega | exact Nat.le_of_ble_eq_true rfl | rfl)) only [w155_0, w155_1, w155_4, w155_5, w155_7, w155_10, w155_11, w155_14, w155_15, w155_18, w155_19, w155_22, w155_23, w155_26, w155_29, w155_30, w155_33, w155_36, w155_37, w155_38, w155_39, w155_42, Ko_n, Ko_v, vX_i, vX_r, vX_l, vX_j, reduceIte, Nat.reduceAdd, show ¬ t < 0 by omega, show ¬ 30 < t by omega]
    rw [c169 (by omega) (Or.inr rfl), if_neg (by omega)]
    simp (disch := (first | assumption | omega | exact Nat.le_of_ble_eq_true rfl | rfl)) only [w155_0, w155_1, w155_4, w155_5, w155_7, w155_10, w155_11, w155_14, w155_15, w155_18, w155_19, w155_22, w155_23, w155_26, w155_29, w155_30, w155_33, w155_36, w155_37, w155_38, w155_39, w155_42, Ko_n, Ko_v, vX_i, vX_r, vX_l, vX_j, reduceIte, Nat.reduceAdd]
    obtain ⟨n, rfl⟩ : ∃ n : Nat, t = n := ⟨t.toNat, by omega⟩
    rw [show ((n : Int)).toNat = n by omega] at hq
    refine c88 (N := N) h3 h10 hP hS hNw w0 w5 a0 a1 z0 z1 (by omega) ?_
    intro C OC TH TC hC hTH hTC
    simp (disch := (first | assumption | omega | exact Nat.le_of_ble_eq_true rfl | rfl)) only [w155_0, w155_1, w155_4, w155_5, w155_7, w155_10, w155_11, w155_14, w155_15, w155_18, w155_19, w155_22, w155_23, w155_26, w155_29, w155_30, w155_33, w155_36, w155_37, w155_38, w155_39, w155_42, Ko_n, Ko_v, vX_i, vX_r, vX_l, vX_j, reduceIte, Nat.reduceAdd]
    refine hq _ ⟨?_, ?_, ?_, ?_, ?_, ?_, ?_⟩
    · unfold skS skT
      exact sg_u (sg_u (sg_u (sg_u (sg_u (sg_u (sg_u sg_r (by omega)) (by omega)) (by omega)) (by omega)) (by omega)) (by omega)) (by omega)
    · rw [skt (by omega) (by omega) (by omega)]
      unfold skT
      rw [upA_t (by omega), upA_t (by omega), upA_t (by omega), upA_s]
      exact hC
    · rw [skt (by omega) (by omega) (by omega)]
      unfold skT
      rw [upA_s]
    · rw [skt (by omega) (by omega) (by omega)]
      unfold skT
      rw [upA_t (by omega), upA_s]
    · rw [skt (by omega) (by omega) (by omega)]
      unfold skT
      rw [upA_t (by omega), upA_t (by omega), upA_s]
    · rw [sk1]; exact hTH
    · rw [sk2]; exact hTC
  · have hq := hQ1 hd
    by_cases d2 : t < 0
    · simp (disch := (first | assumption | omega | exact Nat.le_of_ble_eq_true rfl | rfl)) only [w155_0, w155_1, w155_4, w155_5, w155_7, w155_10, w155_11, w155_14, w155_15, w155_18, w155_19, w155_22, w155_23, w155_26, w155_29, w155_30, w155_33, w155_36, w155_37, w155_38, w155_39, w155_42, Ko_n, Ko_v, vX_i, vX_r, vX_l, vX_j, reduceIte, Nat.reduceAdd, d2]
      rw [c169 (by omega) (Or.inl rfl), if_pos rfl, Ko_x rfl]
      exact hq
    · simp (disch := (first | assumption | omega | exact Nat.le_of_ble_eq_true rfl | rfl)) only [w155_0, w155_1, w155_4, w155_5, w155_7, w155_10, w155_11, w155_14, w155_15, w155_18, w155_19, w155_22, w155_23, w155_26, w155_29, w155_30, w155_33, w155_36, w155_37, w155_38, w155_39, w155_42, Ko_n, Ko_v, vX_i, vX_r, vX_l, vX_j, reduceIte, Nat.reduceAdd, d2, show 30 < t by omega]
      rw [c169 (by omega) (Or.inl rfl), if_pos rfl, Ko_x rfl]
      exact hq
theorem cwZ {d N t : Nat} {k W H a z av : Int} {c : Int → Int} {T : Tt} {σ τ : St} {Q : vmO → vmH → Prop} (hW : hpW σ W H N) (h : wh2 W H) (hcs : csIn c (W * H)) (hK : skK σ τ W H c a z t) (ht : t ≤ 30) (z0 : 0 ≤ z) (z1 : z < W * H) (av0 : -1 ≤ av) (av1 : av < 36)
    (hQ : ∀ τ', skK σ τ' W H c a z t → Q (.inl (some (.long (cw W H c (lvB W H c a z t av) t z)))) (E T τ')) : Ca (d + 1) k 90 [.ref 155, .ref 3, .int (i32 av)] (E T τ) Q :=
  c90 (N := N) (a := a) ob_p3 (sg_hp hK.1 hW).1 h hW.2.2.1 hK.2.1 hcs ht hK.2.2.1 hK.2.2.2.1 z0 z1 hK.2.2.2.2.2.1 hK.2.2.2.2.2.2 av0 av1 (fun M => hQ _ (skK_u hK))
/-- how many come by a cell, of all -/
def cbA (W H : Int) (c : Int → Int) (a z : Int) (t : Nat) (all : Int64) (x : Int) : Int64 := if psI W H c a z t (t + 1) x then (if x = a ∨ x = z then all else all - cw W H c (lvB W H c a z t x) t z) else i64 0
theorem cbZ {d N t : Nat} {k W H a z x : Int} {all : Int64} {c : Int → Int} {T : Tt} {σ τ : St} {Q : vmO → vmH → Prop} (hW : hpW σ W H N) (h : wh2 W H) (hcs : csIn c (W * H)) (hK : skK σ τ W H c a z t) (ht : t ≤ 30) (a0 : 0 ≤ a) (a1 : a < W * H) (z0 : 0 ≤ z) (z1 : z < W * H) (x0 : 0 ≤ x) (x1 : x < W * H)
    (hQ : ∀ τ', skK σ τ' W H c a z t → Q (.inl (some (.long (cbA W H c a z t all x)))) (E T τ')) : Ca (d + 2) k 92 [.ref 155, .ref 3, .int (i32 x), .long all] (E T τ) Q :=
  c92 (N := N) ob_p3 (sg_hp hK.1 hW).1 h hW.2.2.1 hK.2.1 hcs ht hK.2.2.1 hK.2.2.2.1 hK.2.2.2.2.1 a0 a1 z0 z1 hK.2.2.2.2.2.1 hK.2.2.2.2.2.2 x0 x1 (fun M => hQ _ (skK_u hK))
theorem c150 {d N : Nat} {k w z t W H : Int} {T : Tt} {σ : St} {Q : vmO → vmH → Prop} (hW : hpW σ W H N) (x0 : -2147483648 ≤ w) (x1 : w < 2147483648) (z0 : -2147483648 ≤ z) (z1 : z < 2147483648) (y0 : -2147483648 ≤ t) (y1 : t < 2147483648)
    (hQ1 : ¬ ((0 ≤ w ∧ w < σ 404 3 0) ∧ (0 ≤ z ∧ z < N)) → Q (.inr 0) (E (thr T) σ))
    (hQ2 : 0 ≤ w → w < σ 404 3 0 → 0 ≤ z → z < N → ¬ (0 ≤ t ∧ t ≤ 30) → Q (.inr 1) (E (thr T) σ))
    (hQ3 : 0 ≤ w → w < σ 404 3 0 → 0 ≤ z → z < N → 0 ≤ t → t ≤ 30 → ∀ τ, sg σ τ → Q (.inl (some (.long (cw W H (prc σ 3 10 (frB (σ 405 3 0) w)) (lvB W H (prc σ 3 10 (frB (σ 405 3 0) w)) (σ 702 10 w) z t.toNat (-1)) t.toNat z)))) (E T τ)) : Ca (d + 10) k 150 [.ref 0, .int (i32 w), .int (i32 z), .int (i32 t)] (E T σ) Q := by
  have h0 := ob_hp; have h2 := ob_st; have h3 := ob_p3
  have hm := wh_mul0 hW.2.1
  have hNw := hW.2.2.1
  have hN : σ 401 3 0 * σ 402 3 0 = (N : Int) := by rw [hW.1.1, hW.1.2.1, hW.2.2.1]
  rw [n150 _ _ _ _ _ _ _ _ _ h0]
  simp (disch := (first | assumption | omega | exact Nat.le_of_ble_eq_true rfl | rfl)) only [w150_0, w150_1, w150_2, w150_3, w150_6, w150_7, w150_8, w150_9, w150_10, w150_13, w150_14, w150_17, w150_18, w150_21, w150_24, w150_25, w150_28, Ko_n, Ko_v, vX_i, vX_r, vX_l, vX_j, reduceIte]
  rw [c165 hN (by omega) (by omega) hW.2.2.2.2.2.1 hW.2.2.2.2.2.2.1 x0 x1 z0 z1]
  by_cases hv : (0 ≤ w ∧ w < σ 404 3 0) ∧ (0 ≤ z ∧ z < (N : Int))
  · rw [if_pos hv]
    obtain ⟨⟨w0, w1⟩, k0, k1⟩ := hv
    obtain ⟨h, w5, a0, a1⟩ := hpW_w hW w0 w1
    simp (disch := (first | assumption | omega | exact Nat.le_of_ble_eq_true rfl | rfl)) only [w150_0, w150_1, w150_2, w150_3, w150_6, w150_7, w150_8, w150_9, w150_10, w150_13, w150_14, w150_17, w150_18, w150_21, w150_24, w150_25, w150_28, Ko_n, Ko_v, vX_i, vX_r, vX_l, vX_j, reduceIte, Nat.reduceAdd]
    refine c155 hW w0 w1 k0 (by omega) y0 y1 (fun hd => by rw [Ko_x rfl]; exact hQ2 w0 w1 k0 k1 hd) ?_
    intro t0 t1 τ hK
    simp (disch := (first | assumption | omega | exact Nat.le_of_ble_eq_true rfl | rfl)) only [w150_0, w150_1, w150_2, w150_3, w150_6, w150_7, w150_8, w150_9, w150_10, w150_13, w150_14, w150_17, w150_18, w150_21, w150_24, w150_25, w150_28, Ko_n, Ko_v, vX_i, vX_r, vX_l, vX_j, reduceIte, Nat.reduceAdd]
    refine cwZ hW h (prc_cs hW) hK (by omega) k0 (by omega) (by omega) (by omega) ?_
    intro τ' hK'
    simp (disch := (first | assumption | omega | exact Nat.le_of_ble_eq_true rfl | rfl)) only [w150_0, w150_1, w150_2, w150_3, w150_6, w150_7, w150_8, w150_9, w150_10, w150_13, w150_14, w150_17, w150_18, w150_21, w150_24, w150_25, w150_28, Ko_n, Ko_v, vX_i, vX_r, vX_l, vX_j, reduceIte, Nat.reduceAdd]
    exact hQ3 w0 w1 k0 k1 t0 t1 τ' hK'.1
  · rw [if_neg hv, Ko_x rfl]
    exact hQ1 hv
theorem c151 {d N : Nat} {k w z t W H : Int} {T : Tt} {σ : St} {Q : vmO → vmH → Prop} (hW : hpW σ W H N) (x0 : -2147483648 ≤ w) (x1 : w < 2147483648) (z0 : -2147483648 ≤ z) (z1 : z < 2147483648) (y0 : -2147483648 ≤ t) (y1 : t < 2147483648)
    (hQ1 : ¬ ((0 ≤ w ∧ w < σ 404 3 0) ∧ (0 ≤ z ∧ z < N)) → Q (.inr 0) (E (thr T) σ))
    (hQ2 : 0 ≤ w → w < σ 404 3 0 → 0 ≤ z → z < N → ¬ (0 ≤ t ∧ t ≤ 30) → Q (.inr 1) (E (thr T) σ))
    (hQ3 : 0 ≤ w → w < σ 404 3 0 → 0 ≤ z → z < N → 0 ≤ t → t ≤ 30 → ∀ τ, sg σ τ → Q (.inl (some (.long (bs (psI W H (prc σ 3 10 (frB (σ 405 3 0) w)) (σ 702 10 w) z t.toNat (t.toNat + 1)))))) (E T τ)) : Ca (d + 10) k 151 [.ref 0, .int (i32 w), .int (i32 z), .int (i32 t)] (E T σ) Q := by
  have h0 := ob_hp; have h2 := ob_st; have h3 := ob_p3
  have hm := wh_mul0 hW.2.1
  have hNw := hW.2.2.1
  have hN : σ 401 3 0 * σ 402 3 0 = (N : Int) := by rw [hW.1.1, hW.1.2.1, hW.2.2.1]
  rw [n151 _ _ _ _ _ _ _ _ _ h0]
  simp (disch := (first | assumption | omega | exact Nat.le_of_ble_eq_true rfl | rfl)) only [w151_0, w151_1, w151_2, w151_3, w151_6, w151_7, w151_8, w151_9, w151_10, w151_13, w151_14, w151_17, w151_20, Ko_n, Ko_v, vX_i, vX_r, vX_l, vX_j, reduceIte]
  rw [c165 hN (by omega) (by omega) hW.2.2.2.2.2.1 hW.2.2.2.2.2.2.1 x0 x1 z0 z1]
  by_cases hv : (0 ≤ w ∧ w < σ 404 3 0) ∧ (0 ≤ z ∧ z < (N : Int))
  · rw [if_pos hv]
    obtain ⟨⟨w0, w1⟩, k0, k1⟩ := hv
    obtain ⟨h, w5, a0, a1⟩ := hpW_w hW w0 w1
    simp (disch := (first | assumption | omega | exact Nat.le_of_ble_eq_true rfl | rfl)) only [w151_0, w151_1, w151_2, w151_3, w151_6, w151_7, w151_8, w151_9, w151_10, w151_13, w151_14, w151_17, w151_20, Ko_n, Ko_v, vX_i, vX_r, vX_l, vX_j, reduceIte, Nat.reduceAdd]
    refine c155 hW w0 w1 k0 (by omega) y0 y1 (fun hd => by rw [Ko_x rfl]; exact hQ2 w0 w1 k0 k1 hd) ?_
    intro t0 t1 τ hK
    simp (disch := (first | assumption | omega | exact Nat.le_of_ble_eq_true rfl | rfl)) only [w151_0, w151_1, w151_2, w151_3, w151_6, w151_7, w151_8, w151_9, w151_10, w151_13, w151_14, w151_17, w151_20, Ko_n, Ko_v, vX_i, vX_r, vX_l, vX_j, reduceIte, Nat.reduceAdd]
    rw [c89 (by omega) hK.2.2.1 hK.2.2.2.2.2.1 hK.2.2.2.2.2.2]
    simp (disch := (first | assumption | omega | exact Nat.le_of_ble_eq_true rfl | rfl)) only [w151_0, w151_1, w151_2, w151_3, w151_6, w151_7, w151_8, w151_9, w151_10, w151_13, w151_14, w151_17, w151_20, Ko_n, Ko_v, vX_i, vX_r, vX_l, vX_j, reduceIte, Nat.reduceAdd]
    exact hQ3 w0 w1 k0 k1 t0 t1 τ hK.1
  · rw [if_neg hv, Ko_x rfl]
    exact hQ1 hv
theorem c152 {d N : Nat} {k w z t x W H : Int} {T : Tt} {σ : St} {Q : vmO → vmH → Prop} (hW : hpW σ W H N) (x0 : -2147483648 ≤ w) (x1 : w < 2147483648) (z0 : -2147483648 ≤ z) (z1 : z < 2147483648) (y0 : -2147483648 ≤ t) (y1 : t < 2147483648) (q0 : -2147483648 ≤ x) (q1 : x < 2147483648)
    (hQ1 : ¬ (((0 ≤ w ∧ w < σ 404 3 0) ∧ (0 ≤ z ∧ z < N)) ∧ (0 ≤ x ∧ x < N)) → Q (.inr 0) (E (thr T) σ))
    (hQ2 : 0 ≤ w → w < σ 404 3 0 → 0 ≤ z → z < N → 0 ≤ x → x < N → ¬ (0 ≤ t ∧ t ≤ 30) → Q (.inr 1) (E (thr T) σ))
    (hQ3 : 0 ≤ w → w < σ 404 3 0 → 0 ≤ z → z < N → 0 ≤ x → x < N → 0 ≤ t → t ≤ 30 → ∀ τ, sg σ τ → Q (.inl (some (.long (cbA W H (prc σ 3 10 (frB (σ 405 3 0) w)) (σ 702 10 w) z t.toNat (cw W H (prc σ 3 10 (frB (σ 405 3 0) w)) (lvB W H (prc σ 3 10 (frB (σ 405 3 0) w)) (σ 702 10 w) z t.toNat (-1)) t.toNat z) x)))) (E T τ)) : Ca (d + 10) k 152 [.ref 0, .int (i32 w), .int (i32 z), .int (i32 t), .int (i32 x)] (E T σ) Q := by
  have h0 := ob_hp; have h2 := ob_st; have h3 := ob_p3
  have hm := wh_mul0 hW.2.1
  have hNw := hW.2.2.1
  have hN : σ 401 3 0 * σ 402 3 0 = (N : Int) := by rw [hW.1.1, hW.1.2.1, hW.2.2.1]
  rw [n152 _ _ _ _ _ _ _ _ _ _ h0]
  simp (disch := (first | assumption | omega | exact Nat.le_of_ble_eq_true rfl | rfl)) only [w152_0, w152_1, w152_2, w152_3, w152_6, w152_7, w152_9, w152_12, w152_13, w152_14, w152_15, w152_16, w152_19, w152_20, w152_23, w152_24, w152_27, w152_30, w152_32, w152_33, w152_36, w152_37, w152_40, w152_43, w152_44, w152_47, w152_50, Ko_n, Ko_v, vX_i, vX_r, vX_l, vX_j, reduceIte]
  rw [c165 hN (by omega) (by omega) hW.2.2.2.2.2.1 hW.2.2.2.2.2.2.1 x0 x1 z0 z1]
  by_cases hv : (0 ≤ w ∧ w < σ 404 3 0) ∧ (0 ≤ z ∧ z < (N : Int))
  · rw [if_pos hv]
    simp (disch := (first | assumption | omega | exact Nat.le_of_ble_eq_true rfl | rfl)) only [w152_0, w152_1, w152_2, w152_3, w152_6, w152_7, w152_9, w152_12, w152_13, w152_14, w152_15, w152_16, w152_19, w152_20, w152_23, w152_24, w152_27, w152_30, w152_32, w152_33, w152_36, w152_37, w152_40, w152_43, w152_44, w152_47, w152_50, Ko_n, Ko_v, vX_i, vX_r, vX_l, vX_j, reduceIte, Nat.reduceAdd]
    rw [c163 hN (by omega) (by omega) q0 q1]
    by_cases hx : 0 ≤ x ∧ x < (N : Int)
    · rw [if_pos hx]
      obtain ⟨⟨w0, w1⟩, k0, k1⟩ := hv
      obtain ⟨h, w5, a0, a1⟩ := hpW_w hW w0 w1
      simp (disch := (first | assumption | omega | exact Nat.le_of_ble_eq_true rfl | rfl)) only [w152_0, w152_1, w152_2, w152_3, w152_6, w152_7, w152_9, w152_12, w152_13, w152_14, w152_15, w152_16, w152_19, w152_20, w152_23, w152_24, w152_27, w152_30, w152_32, w152_33, w152_36, w152_37, w152_40, w152_43, w152_44, w152_47, w152_50, Ko_n, Ko_v, vX_i, vX_r, vX_l, vX_j, reduceIte, Nat.reduceAdd]
      refine c155 hW w0 w1 k0 (by omega) y0 y1 (fun hd => by rw [Ko_x rfl]; exact hQ2 w0 w1 k0 k1 hx.1 hx.2 hd) ?_
      intro t0 t1 τ hK
      simp (disch := (first | assumption | omega | exact Nat.le_of_ble_eq_true rfl | rfl)) only [w152_0, w152_1, w152_2, w152_3, w152_6, w152_7, w152_9, w152_12, w152_13, w152_14, w152_15, w152_16, w152_19, w152_20, w152_23, w152_24, w152_27, w152_30, w152_32, w152_33, w152_36, w152_37, w152_40, w152_43, w152_44, w152_47, w152_50, Ko_n, Ko_v, vX_i, vX_r, vX_l, vX_j, reduceIte, Nat.reduceAdd]
      refine cwZ hW h (prc_cs hW) hK (by omega) k0 (by omega) (by omega) (by omega) ?_
      intro τ' hK'
      simp (disch := (first | assumption | omega | exact Nat.le_of_ble_eq_true rfl | rfl)) only [w152_0, w152_1, w152_2, w152_3, w152_6, w152_7, w152_9, w152_12, w152_13, w152_14, w152_15, w152_16, w152_19, w152_20, w152_23, w152_24, w152_27, w152_30, w152_32, w152_33, w152_36, w152_37, w152_40, w152_43, w152_44, w152_47, w152_50, Ko_n, Ko_v, vX_i, vX_r, vX_l, vX_j, reduceIte, Nat.reduceAdd]
      refine cbZ hW h (prc_cs hW) hK' (by omega) a0 a1 k0 (by omega) hx.1 (by omega) ?_
      intro τ2 hK2
      simp (disch := (first | assumption | omega | exact Nat.le_of_ble_eq_true rfl | rfl)) only [w152_0, w152_1, w152_2, w152_3, w152_6, w152_7, w152_9, w152_12, w152_13, w152_14, w152_15, w152_16, w152_19, w152_20, w152_23, w152_24, w152_27, w152_30, w152_32, w152_33, w152_36, w152_37, w152_40, w152_43, w152_44, w152_47, w152_50, Ko_n, Ko_v, vX_i, vX_r, vX_l, vX_j, reduceIte, Nat.reduceAdd]
      exact hQ3 w0 w1 k0 k1 hx.1 hx.2 t0 t1 τ2 hK2.1
    · rw [if_neg hx, Ko_x rfl]
      exact hQ1 (fun e => hx e.2)
  · rw [if_neg hv, Ko_x rfl]
    exact hQ1 (fun e => hv e.1)
theorem c154 {d N : Nat} {k w t W H : Int} {T : Tt} {σ : St} {Q : vmO → vmH → Prop} (hW : hpW σ W H N) (x0 : -2147483648 ≤ w) (x1 : w < 2147483648) (y0 : -2147483648 ≤ t) (y1 : t < 2147483648)
    (hQ1 : ¬ (0 ≤ w ∧ w < σ 404 3 0) → Q (.inr 0) (E (thr T) σ))
    (hQ2 : 0 ≤ w → w < σ 404 3 0 → ¬ (0 ≤ t ∧ t ≤ 30) → Q (.inr 1) (E (thr T) σ))
    (hQ3 : 0 ≤ w → w < σ 404 3 0 → 0 ≤ t → t ≤ 30 → ∀ τ, sg σ τ → Q (.inl (some (.long (bs (th W H (prc σ 3 10 (frB (σ 405 3 0) w)) (σ 702 10 w) t.toNat))))) (E T τ)) : Ca (d + 10) k 154 [.ref 0, .int (i32 w), .int (i32 t)] (E T σ) Q := by
  have h0 := ob_hp; have h2 := ob_st; have h3 := ob_p3; have h10 := ob_n10; have hsk := ob_sk
  have v0 := hW.2.2.2.2.2.1
  have v1 := hW.2.2.2.2.2.2.1
  rw [n154 _ _ _ _ _ _ _ _ h0]
  simp (disch := (first | assumption | omega | exact Nat.le_of_ble_eq_true rfl | rfl)) only [w154_0, w154_1, w154_2, w154_5, w154_6, w154_7, w154_8, w154_11, w154_14, w154_17, w154_18, w154_19, w154_20, w154_23, w154_24, w154_27, w154_30, w154_31, w154_32, Ko_n, Ko_v, vX_i, vX_r, vX_l, vX_j, reduceIte]
  rw [c164 v0 v1 x0 x1]
  by_cases hv : 0 ≤ w ∧ w < σ 404 3 0
  · rw [if_pos hv]
    obtain ⟨w0, w1⟩ := hv
    obtain ⟨h, w5, a0, a1⟩ := hpW_w hW w0 w1
    simp (disch := (first | assumption | omega | exact Nat.le_of_ble_eq_true rfl | rfl)) only [w154_0, w154_1, w154_2, w154_5, w154_6, w154_7, w154_8, w154_11, w154_14, w154_17, w154_18, w154_19, w154_20, w154_23, w154_24, w154_27, w154_30, w154_31, w154_32, Ko_n, Ko_v, vX_i, vX_r, vX_l, vX_j, reduceIte, Nat.reduceAdd]
    refine c155 hW w0 w1 a0 a1 y0 y1 (fun hd => by rw [Ko_x rfl]; exact hQ2 w0 w1 hd) ?_
    intro t0 t1 τ hK
    have e := hK.2.2.2.2.2.1 t.toNat (Nat.le_refl _)
    rw [show ((t.toNat : Nat) : Int) = t by omega] at e
    simp (disch := (first | assumption | omega | exact Nat.le_of_ble_eq_true rfl | rfl)) only [w154_0, w154_1, w154_2, w154_5, w154_6, w154_7, w154_8, w154_11, w154_14, w154_17, w154_18, w154_19, w154_20, w154_23, w154_24, w154_27, w154_30, w154_31, w154_32, Ko_n, Ko_v, vX_i, vX_r, vX_l, vX_j, reduceIte, Nat.reduceAdd]
    rw [e]
    exact hQ3 w0 w1 t0 t1 τ hK.1
  · rw [if_neg hv, Ko_x rfl]
    exact hQ1 hv
/-- the cell of the first n that tells most: how much, and which -/
def tlI (all : Int64) (g : Int → Int64) : Nat → Int64 × Int
  | 0 => (i64 (-1), -1)
  | n + 1 => if (if all - g n < g n then all - g n else g n) ≤ (tlI all g n).1 then tlI all g n else ((if all - g n < g n then all - g n else g n), (n : Int))
theorem c153 {d N : Nat} {k w z t W H : Int} {T : Tt} {σ : St} {Q : vmO → vmH → Prop} {all : Int64} (hW : hpW σ W H N) (x0 : -2147483648 ≤ w) (x1 : w < 2147483648) (z0 : -2147483648 ≤ z) (z1 : z < 2147483648) (y0 : -2147483648 ≤ t) (y1 : t < 2147483648) (hall : all = cw W H (prc σ 3 10 (frB (σ 405 3 0) w)) (lvB W H (prc σ 3 10 (frB (σ 405 3 0) w)) (σ 702 10 w) z t.toNat (-1)) t.toNat z)
    (hQ1 : ¬ ((0 ≤ w ∧ w < σ 404 3 0) ∧ (0 ≤ z ∧ z < N)) → Q (.inr 0) (E (thr T) σ))
    (hQ2 : 0 ≤ w → w < σ 404 3 0 → 0 ≤ z → z < N → ¬ (0 ≤ t ∧ t ≤ 30) → Q (.inr 1) (E (thr T) σ))
    (hQ3 : 0 ≤ w → w < σ 404 3 0 → 0 ≤ z → z < N → 0 ≤ t → t ≤ 30 → ∀ τ, sg σ τ → Q (.inl (some (.int (i32 (if all = i64 0 then -1 else (tlI all (cbA W H (prc σ 3 10 (frB (σ 405 3 0) w)) (σ 702 10 w) z t.toNat all) N).2))))) (E T τ)) : Ca (d + 10) k 153 [.ref 0, .int (i32 w), .int (i32 z), .int (i32 t)] (E T σ) Q := by
  have h0 := ob_hp; have h2 := ob_st; have h3 := ob_p3
  have hm := wh_mul0 hW.2.1
  have hNw := hW.2.2.1
  have hN : σ 401 3 0 * σ 402 3 0 = (N : Int) := by rw [hW.1.1, hW.1.2.1, hW.2.2.1]
  rw [n153 _ _ _ _ _ _ _ _ _ h0]
  simp (disch := (first | assumption | omega | exact Nat.le_of_ble_eq_true rfl | rfl)) only [w153_0, w153_1, w153_2, w153_3, w153_6, w153_7, w153_8, w153_9, w153_10, w153_13, w153_14, w153_17, w153_18, w153_21, w153_24, w153_25, w153_28, w153_30, w153_32, w153_33, w153_37, w153_38, w153_39, w153_42, w153_44, w153_45, w153_47, w153_48, w153_52, w153_53, w153_56, w153_59, w153_62, w153_65, w153_66, w153_69, w153_70, w153_73, w153_76, w153_78, w153_80, w153_83, w153_85, w153_87, w153_89, w153_91, w153_92, w153_95, w153_97, w153_99, w153_101, w153_105, w153_107, w153_109, w153_111, w153_113, w153_116, w153_119, w153_121, Ko_n, Ko_v, vX_i, vX_r, vX_l, vX_j, reduceIte]
  rw [c165 hN (by omega) (by omega) hW.2.2.2.2.2.1 hW.2.2.2.2.2.2.1 x0 x1 z0 z1]
  by_cases hv : (0 ≤ w ∧ w < σ 404 3 0) ∧ (0 ≤ z ∧ z < (N : Int))
  · rw [if_pos hv]
    obtain ⟨⟨w0, w1⟩, k0, k1⟩ := hv
    obtain ⟨h, w5, a0, a1⟩ := hpW_w hW w0 w1
    simp (disch := (first | assumption | omega | exact Nat.le_of_ble_eq_true rfl | rfl)) only [w153_0, w153_1, w153_2, w153_3, w153_6, w153_7, w153_8, w153_9, w153_10, w153_13, w153_14, w153_17, w153_18, w153_21, w153_24, w153_25, w153_28, w153_30, w153_32, w153_33, w153_37, w153_38, w153_39, w153_42, w153_44, w153_45, w153_47, w153_48, w153_52, w153_53, w153_56, w153_59, w153_62, w153_65, w153_66, w153_69, w153_70, w153_73, w153_76, w153_78, w153_80, w153_83, w153_85, w153_87, w153_89, w153_91, w153_92, w153_95, w153_97, w153_99, w153_101, w153_105, w153_107, w153_109, w153_111, w153_113, w153_116, w153_119, w153_121, Ko_n, Ko_v, vX_i, vX_r, vX_l, vX_j, reduceIte, Nat.reduceAdd]
    refine c155 hW w0 w1 k0 (by omega) y0 y1 (fun hd => by rw [Ko_x rfl]; exact hQ2 w0 w1 k0 k1 hd) ?_
    intro t0 t1 τ hK
    have hq := hQ3 w0 w1 k0 k1 t0 t1
    have hcs := prc_cs (b := frB (σ 405 3 0) w) hW
    simp (disch := (first | assumption | omega | exact Nat.le_of_ble_eq_true rfl | rfl)) only [w153_0, w153_1, w153_2, w153_3, w153_6, w153_7, w153_8, w153_9, w153_10, w153_13, w153_14, w153_17, w153_18, w153_21, w153_24, w153_25, w153_28, w153_30, w153_32, w153_33, w153_37, w153_38, w153_39, w153_42, w153_44, w153_45, w153_47, w153_48, w153_52, w153_53, w153_56, w153_59, w153_62, w153_65, w153_66, w153_69, w153_70, w153_73, w153_76, w153_78, w153_80, w153_83, w153_85, w153_87, w153_89, w153_91, w153_92, w153_95, w153_97, w153_99, w153_101, w153_105, w153_107, w153_109, w153_111, w153_113, w153_116, w153_119, w153_121, Ko_n, Ko_v, vX_i, vX_r, vX_l, vX_j, reduceIte, Nat.reduceAdd]
    refine cwZ hW h hcs hK (by omega) k0 (by omega) (by omega) (by omega) ?_
    rw [← hall]
    intro τ' hK'
    generalize hc : prc σ 3 10 (frB (σ 405 3 0) w) = c at *
    generalize ha : σ 702 10 w = a at *
    by_cases hz : all = i64 0
    · rw [if_pos hz] at hq
      simp (disch := (first | assumption | omega | exact Nat.le_of_ble_eq_true rfl | rfl)) only [w153_0, w153_1, w153_2, w153_3, w153_6, w153_7, w153_8, w153_9, w153_10, w153_13, w153_14, w153_17, w153_18, w153_21, w153_24, w153_25, w153_28, w153_30, w153_32, w153_33, w153_37, w153_38, w153_39, w153_42, w153_44, w153_45, w153_47, w153_48, w153_52, w153_53, w153_56, w153_59, w153_62, w153_65, w153_66, w153_69, w153_70, w153_73, w153_76, w153_78, w153_80, w153_83, w153_85, w153_87, w153_89, w153_91, w153_92, w153_95, w153_97, w153_99, w153_101, w153_105, w153_107, w153_109, w153_111, w153_113, w153_116, w153_119, w153_121, Ko_n, Ko_v, vX_i, vX_r, vX_l, vX_j, reduceIte, Nat.reduceAdd, eq_true hz, not_true_eq_false]
      exact hq τ' hK'.1
    · rw [if_neg hz] at hq
      have loop : ∀ (m n : Nat) (ρ : St) (l10 l11 l12 l13 : Value), n + m = N → skK σ ρ W H c a z t.toNat → Wp (d + 10) M_X11_tells 50 [.ref 0, .int (i32 w), .int (i32 z), .int (i32 t), .long all, vmJ, .long (tlI all (cbA W H c a z t.toNat all) n).1, vmJ, .int (i32 (tlI all (cbA W H c a z t.toNat all) n).2), .int (i32 n), l10, l11, l12, l13] [] (E T ρ) Q := by
        intro m
        induction m with
        | zero =>
          intro n ρ l10 l11 l12 l13 hn2 hKρ
          have hn2 : n = N := by omega
          subst hn2
          rw [w153_50]
          simp (disch := (first | assumption | omega | exact Nat.le_of_ble_eq_true rfl | rfl)) only [w153_0, w153_1, w153_2, w153_3, w153_6, w153_7, w153_8, w153_9, w153_10, w153_13, w153_14, w153_17, w153_18, w153_21, w153_24, w153_25, w153_28, w153_30, w153_32, w153_33, w153_37, w153_38, w153_39, w153_42, w153_44, w153_45, w153_47, w153_48, w153_52, w153_53, w153_56, w153_59, w153_62, w153_65, w153_66, w153_69, w153_70, w153_73, w153_76, w153_78, w153_80, w153_83, w153_85, w153_87, w153_89, w153_91, w153_92, w153_95, w153_97, w153_99, w153_101, w153_105, w153_107, w153_109, w153_111, w153_113, w153_116, w153_119, w153_121, Ko_n, Ko_v, vX_i, vX_r, vX_l, vX_j, reduceIte, Nat.reduceAdd, c26, hKρ.1 401 3 (by omega), hKρ.1 402 3 (by omega), hN, Int.le_refl]
          exact hq ρ hKρ.1
        | succ m ih =>
          intro n ρ l10 l11 l12 l13 hn2 hKρ
          have ih' := fun ρ l10 l11 l12 l13 => ih (n + 1) ρ l10 l11 l12 l13 (by omega)
          rw [w153_50]
          simp (disch := (first | assumption | omega | exact Nat.le_of_ble_eq_true rfl | rfl)) only [w153_0, w153_1, w153_2, w153_3, w153_6, w153_7, w153_8, w153_9, w153_10, w153_13, w153_14, w153_17, w153_18, w153_21, w153_24, w153_25, w153_28, w153_30, w153_32, w153_33, w153_37, w153_38, w153_39, w153_42, w153_44, w153_45, w153_47, w153_48, w153_52, w153_53, w153_56, w153_59, w153_62, w153_65, w153_66, w153_69, w153_70, w153_73, w153_76, w153_78, w153_80, w153_83, w153_85, w153_87, w153_89, w153_91, w153_92, w153_95, w153_97, w153_99, w153_101, w153_105, w153_107, w153_109, w153_111, w153_113, w153_116, w153_119, w153_121, Ko_n, Ko_v, vX_i, vX_r, vX_l, vX_j, reduceIte, Nat.reduceAdd, c26, hKρ.1 401 3 (by omega), hKρ.1 402 3 (by omega), hN, show ¬ (N : Int) ≤ (n : Int) by omega]
          refine cbZ hW h hcs hKρ (by omega) a0 a1 k0 (by omega) (by omega) (by omega) ?_
          intro τ2 hK2
          simp only [tlI] at ih'
          by_cases hl : (if all - cbA W H c a z t.toNat all n < cbA W H c a z t.toNat all n then all - cbA W H c a z t.toNat all n else cbA W H c a z t.toNat all n) ≤ (tlI all (cbA W H c a z t.toNat all) n).1
          · rw [if_pos hl] at ih'
            simp (disch := (first | assumption | omega | exact Nat.le_of_ble_eq_true rfl | rfl)) only [w153_0, w153_1, w153_2, w153_3, w153_6, w153_7, w153_8, w153_9, w153_10, w153_13, w153_14, w153_17, w153_18, w153_21, w153_24, w153_25, w153_28, w153_30, w153_32, w153_33, w153_37, w153_38, w153_39, w153_42, w153_44, w153_45, w153_47, w153_48, w153_52, w153_53, w153_56, w153_59, w153_62, w153_65, w153_66, w153_69, w153_70, w153_73, w153_76, w153_78, w153_80, w153_83, w153_85, w153_87, w153_89, w153_91, w153_92, w153_95, w153_97, w153_99, w153_101, w153_105, w153_107, w153_109, w153_111, w153_113, w153_116, w153_119, w153_121, Ko_n, Ko_v, vX_i, vX_r, vX_l, vX_j, reduceIte, Nat.reduceAdd, eq_true hl]
            exact ih' τ2 _ _ _ _ hK2
          · rw [if_neg hl] at ih'
            simp (disch := (first | assumption | omega | exact Nat.le_of_ble_eq_true rfl | rfl)) only [w153_0, w153_1, w153_2, w153_3, w153_6, w153_7, w153_8, w153_9, w153_10, w153_13, w153_14, w153_17, w153_18, w153_21, w153_24, w153_25, w153_28, w153_30, w153_32, w153_33, w153_37, w153_38, w153_39, w153_42, w153_44, w153_45, w153_47, w153_48, w153_52, w153_53, w153_56, w153_59, w153_62, w153_65, w153_66, w153_69, w153_70, w153_73, w153_76, w153_78, w153_80, w153_83, w153_85, w153_87, w153_89, w153_91, w153_92, w153_95, w153_97, w153_99, w153_101, w153_105, w153_107, w153_109, w153_111, w153_113, w153_116, w153_119, w153_121, Ko_n, Ko_v, vX_i, vX_r, vX_l, vX_j, reduceIte, Nat.reduceAdd, eq_false hl]
            exact ih' τ2 _ _ _ _ hK2
      simp (disch := (first | assumption | omega | exact Nat.le_of_ble_eq_true rfl | rfl)) only [w153_0, w153_1, w153_2, w153_3, w153_6, w153_7, w153_8, w153_9, w153_10, w153_13, w153_14, w153_17, w153_18, w153_21, w153_24, w153_25, w153_28, w153_30, w153_32, w153_33, w153_37, w153_38, w153_39, w153_42, w153_44, w153_45, w153_47, w153_48, w153_52, w153_53, w153_56, w153_59, w153_62, w153_65, w153_66, w153_69, w153_70, w153_73, w153_76, w153_78, w153_80, w153_83, w153_85, w153_87, w153_89, w153_91, w153_92, w153_95, w153_97, w153_99, w153_101, w153_105, w153_107, w153_109, w153_111, w153_113, w153_116, w153_119, w153_121, Ko_n, Ko_v, vX_i, vX_r, vX_l, vX_j, reduceIte, Nat.reduceAdd, hz, not_false_eq_true]
      exact loop N 0 τ' _ _ _ _ (by omega) hK'
  · rw [if_neg hv, Ko_x rfl]
    exact hQ1 hv
