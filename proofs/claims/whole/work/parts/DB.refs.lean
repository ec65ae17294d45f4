/-! ===== the reference: hedges, thickness, count, fault ===== -/
def bsN (p : Int → Bool) (n : Int) : Int64 := bs (fun z => p z && decide (z < n))
theorem bsN_0 {p : Int → Bool} : i64 0 = bsN p 0 := by
  rw [bs_none]
  exact bs_congr fun k k0 _ => by rw [decide_eq_false (by omega), Bool.and_false]
theorem bsN_t {p : Int → Bool} {n : Int} (n0 : 0 ≤ n) (n1 : n < 64) (h : p n = true) : bsN p n ||| ll (i64 1) n = bsN p (n + 1) := by
  unfold bsN
  rw [bs_add n0 n1]
  refine bs_congr fun k k0 k1 => ?_
  by_cases e : k = n
  · subst e
    rw [h, decide_eq_true rfl, Bool.or_true, decide_eq_true (show k < k + 1 by omega)]; rfl
  · rw [decide_eq_false e, Bool.or_false]
    by_cases a : k < n
    · rw [decide_eq_true a, decide_eq_true (show k < n + 1 by omega)]
    · rw [decide_eq_false a, decide_eq_false (show ¬ k < n + 1 by omega)]
theorem bsN_f {p : Int → Bool} {n : Int} (h : p n = false) : bsN p n ||| i64 0 = bsN p (n + 1) := by
  unfold bsN
  rw [bs_none, bs_or]
  refine bs_congr fun k k0 k1 => ?_
  rw [Bool.or_false]
  by_cases e : k = n
  · subst e
    rw [h, Bool.false_and, Bool.false_and]
  · by_cases a : k < n
    · rw [decide_eq_true a, decide_eq_true (show k < n + 1 by omega)]
    · rw [decide_eq_false a, decide_eq_false (show ¬ k < n + 1 by omega)]
theorem bsN_e {p : Int → Bool} {n : Int} (h : ∀ k : Int, n ≤ k → k < 64 → p k = false) : bsN p n = bs p := by
  refine bs_congr fun k k0 k1 => ?_
  by_cases a : k < n
  · rw [decide_eq_true a, Bool.and_true]
  · rw [h k (by omega) k1]; rfl
theorem hg_out {K : Int → Int} {B k : Int} (hv : scV K 7 B) (h : K 1 * K 2 ≤ k) : hgB (kdK K 7) k = false := by
  cases e : hgB (kdK K 7) k with
  | false => rfl
  | true =>
    have h3 := hgB_3.mp e
    exact absurd (((scV_W.mp hv).1 k (by omega) (by omega)).2.2.2.2 (by omega)) h3.2.2.1
theorem c229 {d : Nat} {k B : Int} {K : Int → Int} {T : Tt} {σ : St} {Q : vmO → vmH → Prop} (hK : σ 1200 382 = K) (hv : kV K B) : Ca (d + 2) k 229 [.ref 382] (E T σ) Q = Q (.inl (some (.long (bs (hgB (kdK K 7)))))) (E T (upA σ 1204 382 fun _ => 0)) := by
  have h0 := ob_md
  have hm := wh_mul0 hv.1.1
  have hn := nK_c hv.1
  have hK' : (upA σ 1204 382 fun _ => 0) 1200 382 = K := by rw [upA_t (by omega)]; exact hK
  rw [n229 _ _ _ _ _ _ h0]
  have loop : ∀ (m n : Nat), n + m = nK K → Wp (d + 2) M_X12_hedges 9 [.ref 382, .long (bsN (hgB (kdK K 7)) n), vmJ, .int (i32 n)] [] (E T (upA σ 1204 382 fun _ => 0)) Q = Q (.inl (some (.long (bs (hgB (kdK K 7)))))) (E T (upA σ 1204 382 fun _ => 0)) := by
    intro m
    induction m with
    | zero =>
      intro n hn2
      have hn2 : n = nK K := by omega
      subst hn2
      rw [w229_9]
      simp (disch := (first | assumption | omega | exact Nat.le_of_ble_eq_true rfl | rfl)) only [w229_0, w229_1, w229_2, w229_5, w229_6, w229_7, w229_8, w229_10, w229_11, w229_14, w229_17, w229_18, w229_19, w229_20, w229_23, w229_26, w229_27, w229_28, w229_29, w229_32, w229_33, w229_34, w229_35, w229_38, w229_41, w229_42, Ko_n, Ko_v, vX_i, vX_r, vX_l, vX_j, reduceIte]
      rw [c210 hK']
      simp (disch := (first | assumption | omega | exact Nat.le_of_ble_eq_true rfl | rfl)) only [w229_0, w229_1, w229_2, w229_5, w229_6, w229_7, w229_8, w229_10, w229_11, w229_14, w229_17, w229_18, w229_19, w229_20, w229_23, w229_26, w229_27, w229_28, w229_29, w229_32, w229_33, w229_34, w229_35, w229_38, w229_41, w229_42, Ko_n, Ko_v, vX_i, vX_r, vX_l, vX_j, reduceIte, hn, Int.le_refl]
      rw [bsN_e (fun k h _ => hg_out hv.2.1 h)]
    | succ m ih =>
      intro n hn2
      have ih' := ih (n + 1) (by omega)
      rw [w229_9]
      simp (disch := (first | assumption | omega | exact Nat.le_of_ble_eq_true rfl | rfl)) only [w229_0, w229_1, w229_2, w229_5, w229_6, w229_7, w229_8, w229_10, w229_11, w229_14, w229_17, w229_18, w229_19, w229_20, w229_23, w229_26, w229_27, w229_28, w229_29, w229_32, w229_33, w229_34, w229_35, w229_38, w229_41, w229_42, Ko_n, Ko_v, vX_i, vX_r, vX_l, vX_j, reduceIte]
      rw [c210 hK']
      simp (disch := (first | assumption | omega | exact Nat.le_of_ble_eq_true rfl | rfl)) only [w229_0, w229_1, w229_2, w229_5, w229_6, w229_7, w229_8, w229_10, w229_11, w229_14, w229_17, w229_18, w229_19, w229_20, w229_23, w229_26, w229_27, w229_28, w229_29, w229_32, w229_33, w229_34, w229_35, w229_38, w229_41, w229_42, Ko_n, Ko_v, vX_i, vX_r, vX_l, vX_j, reduceIte, show ¬ K 1 * K 2 ≤ (n : Int) by omega]
      rw [c213 hK' hv.2.1 (by omega) (by omega)]
      cases e : hgB (kdK K 7) n with
      | true =>
        simp (disch := (first | assumption | omega | exact Nat.le_of_ble_eq_true rfl | rfl)) only [w229_0, w229_1, w229_2, w229_5, w229_6, w229_7, w229_8, w229_10, w229_11, w229_14, w229_17, w229_18, w229_19, w229_20, w229_23, w229_26, w229_27, w229_28, w229_29, w229_32, w229_33, w229_34, w229_35, w229_38, w229_41, w229_42, Ko_n, Ko_v, vX_i, vX_r, vX_l, vX_j, reduceIte, Int.reduceEq, bsN_t (show (0 : Int) ≤ (n : Int) by omega) (show (n : Int) < 64 by omega) e]
        exact ih'
      | false =>
        simp (disch := (first | assumption | omega | exact Nat.le_of_ble_eq_true rfl | rfl)) only [w229_0, w229_1, w229_2, w229_5, w229_6, w229_7, w229_8, w229_10, w229_11, w229_14, w229_17, w229_18, w229_19, w229_20, w229_23, w229_26, w229_27, w229_28, w229_29, w229_32, w229_33, w229_34, w229_35, w229_38, w229_41, w229_42, Ko_n, Ko_v, vX_i, vX_r, vX_l, vX_j, reduceIte, Bool.false_eq_true, bsN_f e]
        exact ih'
  have l0 := loop (nK K) 0 (by omega)
  rw [show bsN (hgB (kdK K 7)) ((0 : Nat) : Int) = i64 0 from bsN_0.symm] at l0
  simp (disch := (first | assumption | omega | exact Nat.le_of_ble_eq_true rfl | rfl)) only [w229_0, w229_1, w229_2, w229_5, w229_6, w229_7, w229_8, w229_10, w229_11, w229_14, w229_17, w229_18, w229_19, w229_20, w229_23, w229_26, w229_27, w229_28, w229_29, w229_32, w229_33, w229_34, w229_35, w229_38, w229_41, w229_42, Ko_n, Ko_v, vX_i, vX_r, vX_l, vX_j, reduceIte]
  exact l0
theorem smI_e {f : Int → Int} {n : Nat} : ∀ m : Nat, (∀ k : Nat, n ≤ k → k < n + m → f k = 0) → smI f (n + m) = smI f n := by
  intro m
  induction m with
  | zero => intro _; rfl
  | succ m ih =>
    intro h
    show smI f (n + m) + f ((n + m : Nat) : Int) = _
    rw [ih (fun k h1 h2 => h k h1 (by omega)), h (n + m) (by omega) (by omega)]
    omega
theorem tk_off {K : Int → Int} {B z : Int} (hv : scV K 7 B) (z0 : 0 ≤ z) (z1 : z < 36) (h : hgB (kdK K 7) z = false) : K (43 + z) = 0 := by
  have hc := (scV_W.mp hv).1 z z0 z1
  have h3 : ¬ (0 ≤ z ∧ z < 36 ∧ kdK K 7 z ≠ 0 ∧ kdK K 7 z ≠ 4) := fun w => by rw [hgB_3.mpr w] at h; exact Bool.false_ne_true h.symm
  have hk : K (7 + z) = 0 ∨ K (7 + z) = 4 := by
    have : kdK K 7 z = K (7 + z) := rfl
    omega
  exact hc.2.2.1 hk
theorem c230 {d : Nat} {k B : Int} {K : Int → Int} {T : Tt} {σ : St} {Q : vmO → vmH → Prop} (hK : σ 1200 382 = K) (hv : kV K B) : Ca (d + 2) k 230 [.ref 382] (E T σ) Q = Q (.inl (some (.int (i32 (smI (tkK K 7) 36))))) (E T (upA σ 1204 382 fun _ => 0)) := by
  have h0 := ob_md
  have hm := wh_mul0 hv.1.1
  have hn := nK_c hv.1
  have hK' : (upA σ 1204 382 fun _ => 0) 1200 382 = K := by rw [upA_t (by omega)]; exact hK
  have hs : smI (tkK K 7) 36 = smI (tkK K 7) (nK K) := by
    have := smI_e (f := tkK K 7) (n := nK K) (36 - nK K) (fun k h1 h2 => tk_off hv.2.1 (by omega) (by omega) (hg_out hv.2.1 (by omega)))
    rw [show nK K + (36 - nK K) = 36 by omega] at this
    exact this
  rw [n230 _ _ _ _ _ _ h0, hs]
  have loop : ∀ (m n : Nat), n + m = nK K → Wp (d + 2) M_X12_thickness 9 [.ref 382, .int (i32 (smI (tkK K 7) n)), .int (i32 n)] [] (E T (upA σ 1204 382 fun _ => 0)) Q = Q (.inl (some (.int (i32 (smI (tkK K 7) (nK K)))))) (E T (upA σ 1204 382 fun _ => 0)) := by
    intro m
    induction m with
    | zero =>
      intro n hn2
      have hn2 : n = nK K := by omega
      subst hn2
      rw [w230_9]
      simp (disch := (first | assumption | omega | exact Nat.le_of_ble_eq_true rfl | rfl)) only [w230_0, w230_1, w230_2, w230_5, w230_6, w230_7, w230_8, w230_10, w230_11, w230_14, w230_17, w230_18, w230_19, w230_20, w230_23, w230_26, w230_27, w230_28, w230_31, w230_34, w230_35, w230_36, w230_37, w230_40, w230_43, w230_44, Ko_n, Ko_v, vX_i, vX_r, vX_l, vX_j, reduceIte]
      rw [c210 hK']
      simp (disch := (first | assumption | omega | exact Nat.le_of_ble_eq_true rfl | rfl)) only [w230_0, w230_1, w230_2, w230_5, w230_6, w230_7, w230_8, w230_10, w230_11, w230_14, w230_17, w230_18, w230_19, w230_20, w230_23, w230_26, w230_27, w230_28, w230_31, w230_34, w230_35, w230_36, w230_37, w230_40, w230_43, w230_44, Ko_n, Ko_v, vX_i, vX_r, vX_l, vX_j, reduceIte, hn, Int.le_refl]
    | succ m ih =>
      intro n hn2
      have ih' := ih (n + 1) (by omega)
      rw [show smI (tkK K 7) (n + 1) = smI (tkK K 7) n + K (43 + n) from rfl] at ih'
      rw [w230_9]
      simp (disch := (first | assumption | omega | exact Nat.le_of_ble_eq_true rfl | rfl)) only [w230_0, w230_1, w230_2, w230_5, w230_6, w230_7, w230_8, w230_10, w230_11, w230_14, w230_17, w230_18, w230_19, w230_20, w230_23, w230_26, w230_27, w230_28, w230_31, w230_34, w230_35, w230_36, w230_37, w230_40, w230_43, w230_44, Ko_n, Ko_v, vX_i, vX_r, vX_l, vX_j, reduceIte]
      rw [c210 hK']
      simp (disch := (first | assumption | omega | exact Nat.le_of_ble_eq_true rfl | rfl)) only [w230_0, w230_1, w230_2, w230_5, w230_6, w230_7, w230_8, w230_10, w230_11, w230_14, w230_17, w230_18, w230_19, w230_20, w230_23, w230_26, w230_27, w230_28, w230_31, w230_34, w230_35, w230_36, w230_37, w230_40, w230_43, w230_44, Ko_n, Ko_v, vX_i, vX_r, vX_l, vX_j, reduceIte, show ¬ K 1 * K 2 ≤ (n : Int) by omega]
      rw [c213 hK' hv.2.1 (by omega) (by omega)]
      cases e : hgB (kdK K 7) n with
      | true =>
        simp (disch := (first | assumption | omega | exact Nat.le_of_ble_eq_true rfl | rfl)) only [w230_0, w230_1, w230_2, w230_5, w230_6, w230_7, w230_8, w230_10, w230_11, w230_14, w230_17, w230_18, w230_19, w230_20, w230_23, w230_26, w230_27, w230_28, w230_31, w230_34, w230_35, w230_36, w230_37, w230_40, w230_43, w230_44, Ko_n, Ko_v, vX_i, vX_r, vX_l, vX_j, reduceIte, Int.reduceEq]
        rw [c212 hK' (by omega) (by omega)]
        simp (disch := (first | assumption | omega | exact Nat.le_of_ble_eq_true rfl | rfl)) only [w230_0, w230_1, w230_2, w230_5, w230_6, w230_7, w230_8, w230_10, w230_11, w230_14, w230_17, w230_18, w230_19, w230_20, w230_23, w230_26, w230_27, w230_28, w230_31, w230_34, w230_35, w230_36, w230_37, w230_40, w230_43, w230_44, Ko_n, Ko_v, vX_i, vX_r, vX_l, vX_j, reduceIte]
        exact ih'
      | false =>
        rw [tk_off hv.2.1 (by omega) (by omega) e] at ih'
        simp (disch := (first | assumption | omega | exact Nat.le_of_ble_eq_true rfl | rfl)) only [w230_0, w230_1, w230_2, w230_5, w230_6, w230_7, w230_8, w230_10, w230_11, w230_14, w230_17, w230_18, w230_19, w230_20, w230_23, w230_26, w230_27, w230_28, w230_31, w230_34, w230_35, w230_36, w230_37, w230_40, w230_43, w230_44, Ko_n, Ko_v, vX_i, vX_r, vX_l, vX_j, reduceIte, Bool.false_eq_true]
        exact ih'
  simp (disch := (first | assumption | omega | exact Nat.le_of_ble_eq_true rfl | rfl)) only [w230_0, w230_1, w230_2, w230_5, w230_6, w230_7, w230_8, w230_10, w230_11, w230_14, w230_17, w230_18, w230_19, w230_20, w230_23, w230_26, w230_27, w230_28, w230_31, w230_34, w230_35, w230_36, w230_37, w230_40, w230_43, w230_44, Ko_n, Ko_v, vX_i, vX_r, vX_l, vX_j, reduceIte]
  exact loop (nK K) 0 (by omega)
theorem c305 {d : Nat} {k B : Int} {K : Int → Int} {T : Tt} {σ : St} {Q : vmO → vmH → Prop} (hK : σ 1200 382 = K) (hv : kV K B) : Ca (d + 2) k 305 [.ref 382] (E T σ) Q = Q (.inl (some (.int (i32 (cnt (fun z => decide (K (7 + z) = 4)) (nK K)))))) (E T σ) := by
  have h0 := ob_md
  have hm := wh_mul0 hv.1.1
  have hn := nK_c hv.1
  rw [n305 _ _ _ _ _ _ h0]
  have loop : ∀ (m n : Nat), n + m = nK K → Wp (d + 2) M_X12_wallsMany 4 [.ref 382, .int (i32 (cnt (fun z => decide (K (7 + z) = 4)) n)), .int (i32 n)] [] (E T σ) Q = Q (.inl (some (.int (i32 (cnt (fun z => decide (K (7 + z) = 4)) (nK K)))))) (E T σ) := by
    intro m
    induction m with
    | zero =>
      intro n hn2
      have hn2 : n = nK K := by omega
      subst hn2
      rw [w305_4]
      simp (disch := (first | assumption | omega | exact Nat.le_of_ble_eq_true rfl | rfl)) only [w305_0, w305_1, w305_2, w305_3, w305_5, w305_6, w305_9, w305_12, w305_13, w305_14, w305_15, w305_18, w305_19, w305_22, w305_23, w305_26, w305_27, w305_28, w305_29, w305_32, w305_35, w305_36, Ko_n, Ko_v, vX_i, vX_r, vX_l, vX_j, reduceIte]
      rw [c210 hK]
      simp (disch := (first | assumption | omega | exact Nat.le_of_ble_eq_true rfl | rfl)) only [w305_0, w305_1, w305_2, w305_3, w305_5, w305_6, w305_9, w305_12, w305_13, w305_14, w305_15, w305_18, w305_19, w305_22, w305_23, w305_26, w305_27, w305_28, w305_29, w305_32, w305_35, w305_36, Ko_n, Ko_v, vX_i, vX_r, vX_l, vX_j, reduceIte, hn, Int.le_refl]
    | succ m ih =>
      intro n hn2
      have ih' := ih (n + 1) (by omega)
      have hc := (kV_c hv.2.1 (z := n) (by omega) (by omega)).1
      rw [show cnt (fun z => decide (K (7 + z) = 4)) (n + 1) = cnt (fun z => decide (K (7 + z) = 4)) n + (if decide (K (7 + n) = 4) = true then 1 else 0) from rfl] at ih'
      rw [w305_4]
      simp (disch := (first | assumption | omega | exact Nat.le_of_ble_eq_true rfl | rfl)) only [w305_0, w305_1, w305_2, w305_3, w305_5, w305_6, w305_9, w305_12, w305_13, w305_14, w305_15, w305_18, w305_19, w305_22, w305_23, w305_26, w305_27, w305_28, w305_29, w305_32, w305_35, w305_36, Ko_n, Ko_v, vX_i, vX_r, vX_l, vX_j, reduceIte]
      rw [c210 hK]
      simp (disch := (first | assumption | omega | exact Nat.le_of_ble_eq_true rfl | rfl)) only [w305_0, w305_1, w305_2, w305_3, w305_5, w305_6, w305_9, w305_12, w305_13, w305_14, w305_15, w305_18, w305_19, w305_22, w305_23, w305_26, w305_27, w305_28, w305_29, w305_32, w305_35, w305_36, Ko_n, Ko_v, vX_i, vX_r, vX_l, vX_j, reduceIte, show ¬ K 1 * K 2 ≤ (n : Int) by omega]
      rw [c211 hK (by omega) (by omega)]
      by_cases e : K (7 + n) = 4
      · rw [if_pos (decide_eq_true e)] at ih'
        simp (disch := (first | assumption | omega | exact Nat.le_of_ble_eq_true rfl | rfl)) only [w305_0, w305_1, w305_2, w305_3, w305_5, w305_6, w305_9, w305_12, w305_13, w305_14, w305_15, w305_18, w305_19, w305_22, w305_23, w305_26, w305_27, w305_28, w305_29, w305_32, w305_35, w305_36, Ko_n, Ko_v, vX_i, vX_r, vX_l, vX_j, reduceIte, e, not_true]
        exact ih'
      · rw [if_neg (fun w => e (of_decide_eq_true w))] at ih'
        simp (disch := (first | assumption | omega | exact Nat.le_of_ble_eq_true rfl | rfl)) only [w305_0, w305_1, w305_2, w305_3, w305_5, w305_6, w305_9, w305_12, w305_13, w305_14, w305_15, w305_18, w305_19, w305_22, w305_23, w305_26, w305_27, w305_28, w305_29, w305_32, w305_35, w305_36, Ko_n, Ko_v, vX_i, vX_r, vX_l, vX_j, reduceIte, e, not_false_eq_true]
        exact ih'
  simp (disch := (first | assumption | omega | exact Nat.le_of_ble_eq_true rfl | rfl)) only [w305_0, w305_1, w305_2, w305_3, w305_5, w305_6, w305_9, w305_12, w305_13, w305_14, w305_15, w305_18, w305_19, w305_22, w305_23, w305_26, w305_27, w305_28, w305_29, w305_32, w305_35, w305_36, Ko_n, Ko_v, vX_i, vX_r, vX_l, vX_j, reduceIte]
  exact loop (nK K) 0 (by omega)
theorem c209 {d : Nat} {k z : Int} {T : Tt} {σ : St} {Q : vmO → vmH → Prop} (z0 : -2147483648 ≤ z) (z1 : z < 2147483648) : Ca d k 209 [.ref 382, .int (i32 z)] (E T σ) Q = Q (.inl (some (.int (i32 (if z = 0 then σ 1214 382 0 else if z = 1 then σ 1215 382 0 else -1))))) (E T (upA σ 1204 382 fun _ => 0)) := by
  have h0 := ob_md
  rw [n209 _ _ _ _ _ _ _ h0]
  by_cases a : z = 0
  · simp (disch := (first | assumption | omega | exact Nat.le_of_ble_eq_true rfl | rfl)) only [w209_0, w209_1, w209_2, w209_5, w209_6, w209_9, w209_10, w209_13, w209_16, w209_17, w209_18, w209_21, w209_22, w209_25, w209_28, w209_29, Ko_n, Ko_v, vX_i, vX_r, vX_l, vX_j, reduceIte, a, not_true, upA_t]
  · by_cases b : z = 1
    · simp (disch := (first | assumption | omega | exact Nat.le_of_ble_eq_true rfl | rfl)) only [w209_0, w209_1, w209_2, w209_5, w209_6, w209_9, w209_10, w209_13, w209_16, w209_17, w209_18, w209_21, w209_22, w209_25, w209_28, w209_29, Ko_n, Ko_v, vX_i, vX_r, vX_l, vX_j, reduceIte, b, not_true, not_false_eq_true, Int.reduceEq, upA_t]
    · simp (disch := (first | assumption | omega | exact Nat.le_of_ble_eq_true rfl | rfl)) only [w209_0, w209_1, w209_2, w209_5, w209_6, w209_9, w209_10, w209_13, w209_16, w209_17, w209_18, w209_21, w209_22, w209_25, w209_28, w209_29, Ko_n, Ko_v, vX_i, vX_r, vX_l, vX_j, reduceIte, a, b, not_false_eq_true]
def ctR (K : Int → Int) (tp : Int) (z : Int) : Int := if z = 0 then K 0 else if z = 1 then K 1 else if z = 2 then K 2 else if z = 3 then K 3 else if z = 4 then K 90 else if z = 5 then K 89 else if z = 6 then K 91 else if z = 7 then cnt (hgB (kdK K 7)) 64 else if z = 8 then K 6 else if z = 9 then tp else if z = 10 then (if wiB (K 4) (K 90) then 1 else 0) else if z = 11 then cnt (fun z => decide (K (7 + z) = 4)) (nK K) else -1
theorem c306 {d : Nat} {k z B : Int} {K : Int → Int} {T : Tt} {σ : St} {Q : vmO → vmH → Prop} (hK : σ 1200 382 = K) (hv : kV K B) (hB : B < 900000000) (z0 : -2147483648 ≤ z) (z1 : z < 2147483648) : Ca (d + 4) k 306 [.ref 382, .int (i32 z)] (E T σ) Q = Q (.inl (some (.int (i32 (ctR K (σ 1206 382 0) z))))) (E T (upA σ 1204 382 fun _ => 0)) := by
  have h0 := ob_md
  have hK' : (upA σ 1204 382 fun _ => 0) 1200 382 = K := by rw [upA_t (by omega)]; exact hK
  have hT' : (upA σ 1204 382 fun _ => 0) 1206 382 = σ 1206 382 := by rw [upA_t (by omega)]
  have hp := hv.1.2.2.1
  have hn1 : 0 ≤ K 90 ∧ K 90 ≤ B := hv.2.1.2.2.2.1
  have hsw : z = 0 ∨ z = 1 ∨ z = 2 ∨ z = 3 ∨ z = 4 ∨ z = 5 ∨ z = 6 ∨ z = 7 ∨ z = 8 ∨ z = 9 ∨ z = 10 ∨ z = 11 ∨ (z < 0 ∨ 11 < z) := by omega
  rw [n306 _ _ _ _ _ _ _ h0]
  unfold ctR
  rcases hsw with rfl | rfl | rfl | rfl | rfl | rfl | rfl | rfl | rfl | rfl | rfl | rfl | hz
  · simp (disch := (first | assumption | omega | exact Nat.le_of_ble_eq_true rfl | rfl)) only [w306_0, w306_1, w306_2, w306_5, w306_6, w306_68, w306_69, w306_72, w306_73, w306_74, w306_75, w306_76, w306_79, w306_80, w306_81, w306_82, w306_83, w306_86, w306_87, w306_88, w306_89, w306_90, w306_93, w306_94, w306_95, w306_96, w306_97, w306_100, w306_102, w306_103, w306_104, w306_105, w306_108, w306_110, w306_111, w306_112, w306_113, w306_116, w306_118, w306_119, w306_120, w306_121, w306_124, w306_125, w306_126, w306_129, w306_131, w306_132, w306_133, w306_134, w306_137, w306_138, w306_139, w306_142, w306_145, w306_146, w306_149, w306_150, w306_151, w306_152, w306_155, w306_156, w306_157, Ko_n, Ko_v, vX_i, vX_r, vX_l, vX_j, reduceIte, vmSwitch, Int.reduceEq, hK']
  · simp (disch := (first | assumption | omega | exact Nat.le_of_ble_eq_true rfl | rfl)) only [w306_0, w306_1, w306_2, w306_5, w306_6, w306_68, w306_69, w306_72, w306_73, w306_74, w306_75, w306_76, w306_79, w306_80, w306_81, w306_82, w306_83, w306_86, w306_87, w306_88, w306_89, w306_90, w306_93, w306_94, w306_95, w306_96, w306_97, w306_100, w306_102, w306_103, w306_104, w306_105, w306_108, w306_110, w306_111, w306_112, w306_113, w306_116, w306_118, w306_119, w306_120, w306_121, w306_124, w306_125, w306_126, w306_129, w306_131, w306_132, w306_133, w306_134, w306_137, w306_138, w306_139, w306_142, w306_145, w306_146, w306_149, w306_150, w306_151, w306_152, w306_155, w306_156, w306_157, Ko_n, Ko_v, vX_i, vX_r, vX_l, vX_j, reduceIte, vmSwitch, Int.reduceEq, hK']
  · simp (disch := (first | assumption | omega | exact Nat.le_of_ble_eq_true rfl | rfl)) only [w306_0, w306_1, w306_2, w306_5, w306_6, w306_68, w306_69, w306_72, w306_73, w306_74, w306_75, w306_76, w306_79, w306_80, w306_81, w306_82, w306_83, w306_86, w306_87, w306_88, w306_89, w306_90, w306_93, w306_94, w306_95, w306_96, w306_97, w306_100, w306_102, w306_103, w306_104, w306_105, w306_108, w306_110, w306_111, w306_112, w306_113, w306_116, w306_118, w306_119, w306_120, w306_121, w306_124, w306_125, w306_126, w306_129, w306_131, w306_132, w306_133, w306_134, w306_137, w306_138, w306_139, w306_142, w306_145, w306_146, w306_149, w306_150, w306_151, w306_152, w306_155, w306_156, w306_157, Ko_n, Ko_v, vX_i, vX_r, vX_l, vX_j, reduceIte, vmSwitch, Int.reduceEq, hK']
  · simp (disch := (first | assumption | omega | exact Nat.le_of_ble_eq_true rfl | rfl)) only [w306_0, w306_1, w306_2, w306_5, w306_6, w306_68, w306_69, w306_72, w306_73, w306_74, w306_75, w306_76, w306_79, w306_80, w306_81, w306_82, w306_83, w306_86, w306_87, w306_88, w306_89, w306_90, w306_93, w306_94, w306_95, w306_96, w306_97, w306_100, w306_102, w306_103, w306_104, w306_105, w306_108, w306_110, w306_111, w306_112, w306_113, w306_116, w306_118, w306_119, w306_120, w306_121, w306_124, w306_125, w306_126, w306_129, w306_131, w306_132, w306_133, w306_134, w306_137, w306_138, w306_139, w306_142, w306_145, w306_146, w306_149, w306_150, w306_151, w306_152, w306_155, w306_156, w306_157, Ko_n, Ko_v, vX_i, vX_r, vX_l, vX_j, reduceIte, vmSwitch, Int.reduceEq, hK']
  · simp (disch := (first | assumption | omega | exact Nat.le_of_ble_eq_true rfl | rfl)) only [w306_0, w306_1, w306_2, w306_5, w306_6, w306_68, w306_69, w306_72, w306_73, w306_74, w306_75, w306_76, w306_79, w306_80, w306_81, w306_82, w306_83, w306_86, w306_87, w306_88, w306_89, w306_90, w306_93, w306_94, w306_95, w306_96, w306_97, w306_100, w306_102, w306_103, w306_104, w306_105, w306_108, w306_110, w306_111, w306_112, w306_113, w306_116, w306_118, w306_119, w306_120, w306_121, w306_124, w306_125, w306_126, w306_129, w306_131, w306_132, w306_133, w306_134, w306_137, w306_138, w306_139, w306_142, w306_145, w306_146, w306_149, w306_150, w306_151, w306_152, w306_155, w306_156, w306_157, Ko_n, Ko_v, vX_i, vX_r, vX_l, vX_j, reduceIte, vmSwitch, Int.reduceEq, hK']
  · simp (disch := (first | assumption | omega | exact Nat.le_of_ble_eq_true rfl | rfl)) only [w306_0, w306_1, w306_2, w306_5, w306_6, w306_68, w306_69, w306_72, w306_73, w306_74, w306_75, w306_76, w306_79, w306_80, w306_81, w306_82, w306_83, w306_86, w306_87, w306_88, w306_89, w306_90, w306_93, w306_94, w306_95, w306_96, w306_97, w306_100, w306_102, w306_103, w306_104, w306_105, w306_108, w306_110, w306_111, w306_112, w306_113, w306_116, w306_118, w306_119, w306_120, w306_121, w306_124, w306_125, w306_126, w306_129, w306_131, w306_132, w306_133, w306_134, w306_137, w306_138, w306_139, w306_142, w306_145, w306_146, w306_149, w306_150, w306_151, w306_152, w306_155, w306_156, w306_157, Ko_n, Ko_v, vX_i, vX_r, vX_l, vX_j, reduceIte, vmSwitch, Int.reduceEq, hK']
  · simp (disch := (first | assumption | omega | exact Nat.le_of_ble_eq_true rfl | rfl)) only [w306_0, w306_1, w306_2, w306_5, w306_6, w306_68, w306_69, w306_72, w306_73, w306_74, w306_75, w306_76, w306_79, w306_80, w306_81, w306_82, w306_83, w306_86, w306_87, w306_88, w306_89, w306_90, w306_93, w306_94, w306_95, w306_96, w306_97, w306_100, w306_102, w306_103, w306_104, w306_105, w306_108, w306_110, w306_111, w306_112, w306_113, w306_116, w306_118, w306_119, w306_120, w306_121, w306_124, w306_125, w306_126, w306_129, w306_131, w306_132, w306_133, w306_134, w306_137, w306_138, w306_139, w306_142, w306_145, w306_146, w306_149, w306_150, w306_151, w306_152, w306_155, w306_156, w306_157, Ko_n, Ko_v, vX_i, vX_r, vX_l, vX_j, reduceIte, vmSwitch, Int.reduceEq, hK']
  · simp (disch := (first | assumption | omega | exact Nat.le_of_ble_eq_true rfl | rfl)) only [w306_0, w306_1, w306_2, w306_5, w306_6, w306_68, w306_69, w306_72, w306_73, w306_74, w306_75, w306_76, w306_79, w306_80, w306_81, w306_82, w306_83, w306_86, w306_87, w306_88, w306_89, w306_90, w306_93, w306_94, w306_95, w306_96, w306_97, w306_100, w306_102, w306_103, w306_104, w306_105, w306_108, w306_110, w306_111, w306_112, w306_113, w306_116, w306_118, w306_119, w306_120, Ko_n, Ko_v, vX_i, vX_r, vX_l, vX_j, reduceIte, vmSwitch, Int.reduceEq]
    simp (disch := (first | assumption | omega | exact Nat.le_of_ble_eq_true rfl | rfl)) only [w306_0, w306_1, w306_2, w306_5, w306_6, w306_68, w306_69, w306_72, w306_73, w306_74, w306_75, w306_76, w306_79, w306_80, w306_81, w306_82, w306_83, w306_86, w306_87, w306_88, w306_89, w306_90, w306_93, w306_94, w306_95, w306_96, w306_97, w306_100, w306_102, w306_103, w306_104, w306_105, w306_108, w306_110, w306_111, w306_112, w306_113, w306_116, w306_118, w306_119, w306_120, w306_121, w306_124, w306_125, w306_126, w306_129, w306_131, w306_132, w306_133, w306_134, w306_137, w306_138, w306_139, w306_142, w306_145, w306_146, w306_149, w306_150, w306_151, w306_152, w306_155, w306_156, w306_157, Ko_n, Ko_v, vX_i, vX_r, vX_l, vX_j, reduceIte]
    rw [c247 hK' hv]
    simp (disch := (first | assumption | omega | exact Nat.le_of_ble_eq_true rfl | rfl)) only [w306_0, w306_1, w306_2, w306_5, w306_6, w306_68, w306_69, w306_72, w306_73, w306_74, w306_75, w306_76, w306_79, w306_80, w306_81, w306_82, w306_83, w306_86, w306_87, w306_88, w306_89, w306_90, w306_93, w306_94, w306_95, w306_96, w306_97, w306_100, w306_102, w306_103, w306_104, w306_105, w306_108, w306_110, w306_111, w306_112, w306_113, w306_116, w306_118, w306_119, w306_120, w306_121, w306_124, w306_125, w306_126, w306_129, w306_131, w306_132, w306_133, w306_134, w306_137, w306_138, w306_139, w306_142, w306_145, w306_146, w306_149, w306_150, w306_151, w306_152, w306_155, w306_156, w306_157, Ko_n, Ko_v, vX_i, vX_r, vX_l, vX_j, reduceIte]
  · simp (disch := (first | assumption | omega | exact Nat.le_of_ble_eq_true rfl | rfl)) only [w306_0, w306_1, w306_2, w306_5, w306_6, w306_68, w306_69, w306_72, w306_73, w306_74, w306_75, w306_76, w306_79, w306_80, w306_81, w306_82, w306_83, w306_86, w306_87, w306_88, w306_89, w306_90, w306_93, w306_94, w306_95, w306_96, w306_97, w306_100, w306_102, w306_103, w306_104, w306_105, w306_108, w306_110, w306_111, w306_112, w306_113, w306_116, w306_118, w306_119, w306_120, w306_121, w306_124, w306_125, w306_126, w306_129, w306_131, w306_132, w306_133, w306_134, w306_137, w306_138, w306_139, w306_142, w306_145, w306_146, w306_149, w306_150, w306_151, w306_152, w306_155, w306_156, w306_157, Ko_n, Ko_v, vX_i, vX_r, vX_l, vX_j, reduceIte, vmSwitch, Int.reduceEq, hK']
  · simp (disch := (first | assumption | omega | exact Nat.le_of_ble_eq_true rfl | rfl)) only [w306_0, w306_1, w306_2, w306_5, w306_6, w306_68, w306_69, w306_72, w306_73, w306_74, w306_75, w306_76, w306_79, w306_80, w306_81, w306_82, w306_83, w306_86, w306_87, w306_88, w306_89, w306_90, w306_93, w306_94, w306_95, w306_96, w306_97, w306_100, w306_102, w306_103, w306_104, w306_105, w306_108, w306_110, w306_111, w306_112, w306_113, w306_116, w306_118, w306_119, w306_120, w306_121, w306_124, w306_125, w306_126, w306_129, w306_131, w306_132, w306_133, w306_134, w306_137, w306_138, w306_139, w306_142, w306_145, w306_146, w306_149, w306_150, w306_151, w306_152, w306_155, w306_156, w306_157, Ko_n, Ko_v, vX_i, vX_r, vX_l, vX_j, reduceIte, vmSwitch, Int.reduceEq, hT']
  · simp (disch := (first | assumption | omega | exact Nat.le_of_ble_eq_true rfl | rfl)) only [w306_0, w306_1, w306_2, w306_5, w306_6, w306_68, w306_69, w306_72, w306_73, w306_74, w306_75, w306_76, w306_79, w306_80, w306_81, w306_82, w306_83, w306_86, w306_87, w306_88, w306_89, w306_90, w306_93, w306_94, w306_95, w306_96, w306_97, w306_100, w306_102, w306_103, w306_104, w306_105, w306_108, w306_110, w306_111, w306_112, w306_113, w306_116, w306_118, w306_119, w306_120, w306_121, w306_124, w306_125, w306_126, w306_129, w306_131, w306_132, w306_133, w306_134, w306_137, w306_138, w306_139, w306_142, w306_145, w306_146, w306_149, w306_150, w306_151, w306_152, w306_155, w306_156, w306_157, Ko_n, Ko_v, vX_i, vX_r, vX_l, vX_j, reduceIte, vmSwitch, Int.reduceEq]
    rw [c216 hK' (by omega) (by omega) (by omega) (by omega)]
    cases e : wiB (K 4) (K 90) with
    | true => simp (disch := (first | assumption | omega | exact Nat.le_of_ble_eq_true rfl | rfl)) only [w306_0, w306_1, w306_2, w306_5, w306_6, w306_68, w306_69, w306_72, w306_73, w306_74, w306_75, w306_76, w306_79, w306_80, w306_81, w306_82, w306_83, w306_86, w306_87, w306_88, w306_89, w306_90, w306_93, w306_94, w306_95, w306_96, w306_97, w306_100, w306_102, w306_103, w306_104, w306_105, w306_108, w306_110, w306_111, w306_112, w306_113, w306_116, w306_118, w306_119, w306_120, w306_121, w306_124, w306_125, w306_126, w306_129, w306_131, w306_132, w306_133, w306_134, w306_137, w306_138, w306_139, w306_142, w306_145, w306_146, w306_149, w306_150, w306_151, w306_152, w306_155, w306_156, w306_157, Ko_n, Ko_v, vX_i, vX_r, vX_l, vX_j, reduceIte, Int.reduceEq]
    | false => simp (disch := (first | assumption | omega | exact Nat.le_of_ble_eq_true rfl | rfl)) only [w306_0, w306_1, w306_2, w306_5, w306_6, w306_68, w306_69, w306_72, w306_73, w306_74, w306_75, w306_76, w306_79, w306_80, w306_81, w306_82, w306_83, w306_86, w306_87, w306_88, w306_89, w306_90, w306_93, w306_94, w306_95, w306_96, w306_97, w306_100, w306_102, w306_103, w306_104, w306_105, w306_108, w306_110, w306_111, w306_112, w306_113, w306_116, w306_118, w306_119, w306_120, w306_121, w306_124, w306_125, w306_126, w306_129, w306_131, w306_132, w306_133, w306_134, w306_137, w306_138, w306_139, w306_142, w306_145, w306_146, w306_149, w306_150, w306_151, w306_152, w306_155, w306_156, w306_157, Ko_n, Ko_v, vX_i, vX_r, vX_l, vX_j, reduceIte, Bool.false_eq_true]
  · simp (disch := (first | assumption | omega | exact Nat.le_of_ble_eq_true rfl | rfl)) only [w306_0, w306_1, w306_2, w306_5, w306_6, w306_68, w306_69, w306_72, w306_73, w306_74, w306_75, w306_76, w306_79, w306_80, w306_81, w306_82, w306_83, w306_86, w306_87, w306_88, w306_89, w306_90, w306_93, w306_94, w306_95, w306_96, w306_97, w306_100, w306_102, w306_103, w306_104, w306_105, w306_108, w306_110, w306_111, w306_112, w306_113, w306_116, w306_118, w306_119, w306_120, w306_121, w306_124, w306_125, w306_126, w306_129, w306_131, w306_132, w306_133, w306_134, w306_137, w306_138, w306_139, w306_142, w306_145, w306_146, w306_149, w306_150, w306_151, w306_152, w306_155, w306_156, w306_157, Ko_n, Ko_v, vX_i, vX_r, vX_l, vX_j, reduceIte, vmSwitch, Int.reduceEq]
    rw [c305 hK' hv]
    simp (disch := (first | assumption | omega | exact Nat.le_of_ble_eq_true rfl | rfl)) only [w306_0, w306_1, w306_2, w306_5, w306_6, w306_68, w306_69, w306_72, w306_73, w306_74, w306_75, w306_76, w306_79, w306_80, w306_81, w306_82, w306_83, w306_86, w306_87, w306_88, w306_89, w306_90, w306_93, w306_94, w306_95, w306_96, w306_97, w306_100, w306_102, w306_103, w306_104, w306_105, w306_108, w306_110, w306_111, w306_112, w306_113, w306_116, w306_118, w306_119, w306_120, w306_121, w306_124, w306_125, w306_126, w306_129, w306_131, w306_132, w306_133, w306_134, w306_137, w306_138, w306_139, w306_142, w306_145, w306_146, w306_149, w306_150, w306_151, w306_152, w306_155, w306_156, w306_157, Ko_n, Ko_v, vX_i, vX_r, vX_l, vX_j, reduceIte]
  · simp (disch := (first | assumption | omega | exact Nat.le_of_ble_eq_true rfl | rfl)) only [w306_0, w306_1, w306_2, w306_5, w306_6, w306_68, w306_69, w306_72, w306_73, w306_74, w306_75, w306_76, w306_79, w306_80, w306_81, w306_82, w306_83, w306_86, w306_87, w306_88, w306_89, w306_90, w306_93, w306_94, w306_95, w306_96, w306_97, w306_100, w306_102, w306_103, w306_104, w306_105, w306_108, w306_110, w306_111, w306_112, w306_113, w306_116, w306_118, w306_119, w306_120, w306_121, w306_124, w306_125, w306_126, w306_129, w306_131, w306_132, w306_133, w306_134, w306_137, w306_138, w306_139, w306_142, w306_145, w306_146, w306_149, w306_150, w306_151, w306_152, w306_155, w306_156, w306_157, Ko_n, Ko_v, vX_i, vX_r, vX_l, vX_j, reduceIte, vmSwitch, show ¬ z = 0 by omega, show ¬ z = 1 by omega, show ¬ z = 2 by omega, show ¬ z = 3 by omega, show ¬ z = 4 by omega, show ¬ z = 5 by omega, show ¬ z = 6 by omega, show ¬ z = 7 by omega, show ¬ z = 8 by omega, show ¬ z = 9 by omega, show ¬ z = 10 by omega, show ¬ z = 11 by omega]
