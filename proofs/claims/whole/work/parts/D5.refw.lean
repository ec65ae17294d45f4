/-! ===== the reference: soonest; what deeds need ===== -/
def fq (σ τ : St) : Prop := ∀ t o, (t < 1200 ∨ (1200 < t ∧ t < 1217) ∨ t = 1222 ∨ t = 1223 ∨ 1236 < t) → τ t o = σ t o
theorem fq_r {σ : St} : fq σ σ := fun _ _ _ => rfl
theorem fq_t {σ τ ρ : St} (h1 : fq σ τ) (h2 : fq τ ρ) : fq σ ρ := fun t o h => (h2 t o h).trans (h1 t o h)
theorem fq_u {σ τ : St} {t o : Nat} {f : Int → Int} (h : fq σ τ) (ht : t = 1200 ∨ (1217 ≤ t ∧ t ≤ 1236 ∧ t ≠ 1222 ∧ t ≠ 1223)) : fq σ (upA τ t o f) := fun t' o' h' => by rw [upA_t (by omega)]; exact h t' o' h'
theorem prR_rp {K : Int → Int} {B w z : Int} (hv : scV K 7 B) (hw : w ≠ -1) (z0 : 0 ≤ z) (z1 : z < 36) : prR K w z = rp (prK K w z) := by
  have p := prK_w (w := w) hv z0 z1
  unfold prR rp
  by_cases e : K (7 + z) = 4
  · rw [if_pos e, if_pos (p.mpr e)]
  · rw [if_neg e, if_neg (fun x => e (p.mp x)), cfR_pr e hw z0 z1]
/-- costs of a walker are laid -/
def laidW (σ : St) (K : Int → Int) (w : Int) : Prop := (∀ z, 0 ≤ z → z < K 1 * K 2 → σ 1219 382 z = rp (prK K w z)) ∧ ∀ z, 0 ≤ z → z < K 1 * K 2 → σ 1220 382 z = rf (dK K w z)
theorem c234 {d : Nat} {k w B : Int} {K : Int → Int} {T : Tt} {σ : St} {Q : vmO → vmH → Prop} (hK : σ 1200 382 = K) (hv : kV K B) (hB : B < 900000000) (w0 : 0 ≤ w) (w1 : w < K 3) (hQ : ∀ τ, fq σ τ → τ 1200 382 = K → laidW τ K w → Q (.inl none) (E T τ)) : Ca (d + 5) k 234 [.ref 382, .int (i32 w)] (E T σ) Q := by
  have h0 := ob_md
  obtain ⟨h2, h5, h6, h7⟩ := kV_w hv w0 w1
  have hm := wh_mul h2
  rw [n234 _ _ _ _ _ _ _ h0]
  simp (disch := (first | assumption | omega | exact Nat.le_of_ble_eq_true rfl | rfl)) only [w234_0, w234_1, w234_2, w234_5, w234_6, w234_7, w234_10, w234_12, w234_13, w234_14, w234_15, w234_18, Ko_n, Ko_v, vX_i, vX_r, vX_l, vX_j, reduceIte]
  rw [c231 hK hv hB (by omega) (by omega)]
  have hK2 : (upA σ 1219 382 (cp (prR K w) (σ 1219 382) (K 1 * K 2))) 1200 382 = K := by rw [upA_t (by omega)]; exact hK
  simp (disch := (first | assumption | omega | exact Nat.le_of_ble_eq_true rfl | rfl)) only [w234_0, w234_1, w234_2, w234_5, w234_6, w234_7, w234_10, w234_12, w234_13, w234_14, w234_15, w234_18, Ko_n, Ko_v, vX_i, vX_r, vX_l, vX_j, reduceIte, upA_t, hK]
  have hP : ∀ z, 0 ≤ z → z < K 1 * K 2 → (upA σ 1219 382 (cp (prR K w) (σ 1219 382) (K 1 * K 2))) 1219 382 z = rp (prK K w z) := fun z z0 z1 => by
    rw [upA_s]
    unfold cp
    rw [if_pos ⟨z0, z1⟩]
    exact prR_rp hv.2.1 (by omega) z0 (by omega)
  refine c232 (N := nK K) hK2 h2 (nK_c hv.1) (prK_cs hv.1 hv.2.1) hP h6.1 h6.2 (fun e => h7 ((prK_w hv.2.1 h6.1 (by omega)).mp e)) fun D hD => ?_
  simp (disch := (first | assumption | omega | exact Nat.le_of_ble_eq_true rfl | rfl)) only [w234_0, w234_1, w234_2, w234_5, w234_6, w234_7, w234_10, w234_12, w234_13, w234_14, w234_15, w234_18, Ko_n, Ko_v, vX_i, vX_r, vX_l, vX_j, reduceIte]
  refine hQ _ (fq_u (fq_u fq_r (by omega)) (by omega)) (by rw [upA_t (by omega)]; exact hK2) ⟨fun z z0 z1 => ?_, fun z z0 z1 => ?_⟩
  · rw [upA_t (by omega)]; exact hP z z0 z1
  · rw [upA_s]; exact hD z z0 z1
theorem c235 {d : Nat} {k x : Int} {h : vmH} {Q : vmO → vmH → Prop} (hk : 4 ≤ k) (x0 : -2147483648 ≤ x) (x1 : x < 2147483648) : Ca d k 235 [.int (i32 x)] h Q = Q (.inl (some (.int (i32 (if x < hiR then x else -1))))) h := by
  have hhi : hiR = 536870912 := rfl
  rw [n235 _ _ _ _ _ hk]
  by_cases e : x < 536870912
  · rw [if_pos (by omega)]
    simp (disch := (first | assumption | omega | exact Nat.le_of_ble_eq_true rfl | rfl)) only [w235_0, w235_1, w235_4, w235_7, w235_8, w235_11, w235_12, Ko_n, Ko_v, vX_i, vX_r, vX_l, vX_j, reduceIte, e]
  · rw [if_neg (by omega)]
    simp (disch := (first | assumption | omega | exact Nat.le_of_ble_eq_true rfl | rfl)) only [w235_0, w235_1, w235_4, w235_7, w235_8, w235_11, w235_12, Ko_n, Ko_v, vX_i, vX_r, vX_l, vX_j, reduceIte, e]
def orN (x : Int) : Int := if x < far then x else -1
theorem rf_or {x : Int} (h : (0 ≤ x ∧ x ≤ 6516) ∨ x = far) : (if rf x < hiR then rf x else -1) = orN x ∧ (0 ≤ rf x ∧ rf x ≤ hiR) ∧ (rf x < hiR ↔ x < far) := by
  have hfar : far = 1000000000 := rfl
  have hhi : hiR = 536870912 := rfl
  unfold rf orN
  rcases h with h | h
  · rw [if_pos (show x < far by omega), if_pos (show x < hiR by omega), if_pos (show x < far by omega)]
    exact ⟨rfl, by omega, by omega⟩
  · rw [h, if_neg (by omega), if_neg (by omega)]
    exact ⟨rfl, by omega, by omega⟩
theorem dK_b {K : Int → Int} {B w z : Int} (hv : kV K B) (w0 : 0 ≤ w) (w1 : w < K 3) (z0 : 0 ≤ z) (z1 : z < K 1 * K 2) : (0 ≤ dK K w z ∧ dK K w z ≤ 6516) ∨ dK K w z = far := by
  have h2 := (kV_w hv w0 w1).1
  have hm := wh_mul h2
  exact dD_bnd h2 (prK_cs hv.1 hv.2.1) (nK_c hv.1) z0 (by omega)
theorem c236 {d : Nat} {k w z B : Int} {K : Int → Int} {T : Tt} {σ : St} {Q : vmO → vmH → Prop} (hK : σ 1200 382 = K) (hv : kV K B) (hB : B < 900000000) (w0 : 0 ≤ w) (w1 : w < K 3) (z0 : 0 ≤ z) (z1 : z < K 1 * K 2) (hQ : ∀ τ, fq σ τ → τ 1200 382 = K → laidW τ K w → Q (.inl (some (.int (i32 (orN (dK K w z)))))) (E T τ)) : Ca (d + 6) k 236 [.ref 382, .int (i32 w), .int (i32 z)] (E T σ) Q := by
  have h0 := ob_md
  have hhi : hiR = 536870912 := rfl
  have hm := wh_mul (kV_w hv w0 w1).1
  have ro := rf_or (dK_b hv w0 w1 z0 z1)
  rw [n236 _ _ _ _ _ _ _ _ h0]
  simp (disch := (first | assumption | omega | exact Nat.le_of_ble_eq_true rfl | rfl)) only [w236_0, w236_1, w236_2, w236_5, w236_6, w236_9, w236_10, w236_11, w236_14, Ko_n, Ko_v, vX_i, vX_r, vX_l, vX_j, reduceIte]
  refine c234 hK hv hB w0 w1 fun τ h1 h2 h3 => ?_
  simp (disch := (first | assumption | omega | exact Nat.le_of_ble_eq_true rfl | rfl)) only [w236_0, w236_1, w236_2, w236_5, w236_6, w236_9, w236_10, w236_11, w236_14, Ko_n, Ko_v, vX_i, vX_r, vX_l, vX_j, reduceIte]
  rw [h3.2 z z0 z1, c235 (by omega) (by omega) (by omega), ro.1]
  simp (disch := (first | assumption | omega | exact Nat.le_of_ble_eq_true rfl | rfl)) only [w236_0, w236_1, w236_2, w236_5, w236_6, w236_9, w236_10, w236_11, w236_14, Ko_n, Ko_v, vX_i, vX_r, vX_l, vX_j, reduceIte]
  exact hQ τ h1 h2 h3
/-- a walker and a cell that are there -/
def wzI (K : Int → Int) (w z : Int) : Prop := (0 ≤ w ∧ w < K 3) ∧ 0 ≤ z ∧ z < K 1 * K 2
theorem c237 {d : Nat} {k w z B : Int} {K : Int → Int} {T : Tt} {σ : St} {Q : vmO → vmH → Prop} (hK : σ 1200 382 = K) (hv : kV K B) (x0 : -2147483648 ≤ w) (x1 : w < 2147483648) (y0 : -2147483648 ≤ z) (y1 : z < 2147483648) (hQ1 : wzI K w z → Q (.inl (some (.int (i32 0)))) (E T (upA σ 1204 382 fun _ => 0))) (hQ2 : ¬ wzI K w z → Q (.inl (some (.int (i32 1)))) (E T (upA σ 1204 382 fun _ => 1))) : Ca (d + 2) k 237 [.ref 382, .int (i32 w), .int (i32 z)] (E T σ) Q := by
  have h0 := ob_md
  rw [n237 _ _ _ _ _ _ _ _ h0]
  simp (disch := (first | assumption | omega | exact Nat.le_of_ble_eq_true rfl | rfl)) only [w237_0, w237_1, w237_2, w237_3, w237_4, w237_7, w237_10, w237_11, w237_12, w237_13, w237_16, w237_19, w237_20, w237_23, w237_24, w237_27, w237_28, w237_31, w237_34, w237_35, w237_38, w237_39, Ko_n, Ko_v, vX_i, vX_r, vX_l, vX_j, reduceIte]
  rw [c215 hK hv (by omega) (by omega)]
  by_cases a : 0 ≤ w ∧ w < K 3
  · rw [if_pos a]
    simp (disch := (first | assumption | omega | exact Nat.le_of_ble_eq_true rfl | rfl)) only [w237_0, w237_1, w237_2, w237_3, w237_4, w237_7, w237_10, w237_11, w237_12, w237_13, w237_16, w237_19, w237_20, w237_23, w237_24, w237_27, w237_28, w237_31, w237_34, w237_35, w237_38, w237_39, Ko_n, Ko_v, vX_i, vX_r, vX_l, vX_j, reduceIte, Int.reduceEq]
    rw [c214 hK hv (by omega) (by omega)]
    by_cases b : 0 ≤ z ∧ z < K 1 * K 2
    · rw [if_pos b]
      simp (disch := (first | assumption | omega | exact Nat.le_of_ble_eq_true rfl | rfl)) only [w237_0, w237_1, w237_2, w237_3, w237_4, w237_7, w237_10, w237_11, w237_12, w237_13, w237_16, w237_19, w237_20, w237_23, w237_24, w237_27, w237_28, w237_31, w237_34, w237_35, w237_38, w237_39, Ko_n, Ko_v, vX_i, vX_r, vX_l, vX_j, reduceIte, Int.reduceEq, upA_s, Int.le_refl]
      exact hQ1 ⟨a, b⟩
    · rw [if_neg b]
      simp (disch := (first | assumption | omega | exact Nat.le_of_ble_eq_true rfl | rfl)) only [w237_0, w237_1, w237_2, w237_3, w237_4, w237_7, w237_10, w237_11, w237_12, w237_13, w237_16, w237_19, w237_20, w237_23, w237_24, w237_27, w237_28, w237_31, w237_34, w237_35, w237_38, w237_39, Ko_n, Ko_v, vX_i, vX_r, vX_l, vX_j, reduceIte, upA_s, show ¬ (1 : Int) ≤ 0 by omega]
      exact hQ2 (fun w => b w.2)
  · rw [if_neg a]
    simp (disch := (first | assumption | omega | exact Nat.le_of_ble_eq_true rfl | rfl)) only [w237_0, w237_1, w237_2, w237_3, w237_4, w237_7, w237_10, w237_11, w237_12, w237_13, w237_16, w237_19, w237_20, w237_23, w237_24, w237_27, w237_28, w237_31, w237_34, w237_35, w237_38, w237_39, Ko_n, Ko_v, vX_i, vX_r, vX_l, vX_j, reduceIte, upA_s, show ¬ (1 : Int) ≤ 0 by omega]
    exact hQ2 (fun w => a w.1)
theorem oo_0 : ∀ u : Fin 32, oo (u.val : Int) 0 = u.val := by decide
theorem c226 {d : Nat} {k z B : Int} {K : Int → Int} {T : Tt} {σ : St} {Q : vmO → vmH → Prop} (hK : σ 1200 382 = K) (hv : kV K B) (z0 : 0 ≤ z) (z1 : z < 36) : Ca d k 226 [.ref 382, .int (i32 z)] (E T σ) Q = Q (.inl (some (.int (i32 (waK K z))))) (E T σ) := by
  have h0 := ob_md
  have h3 := hv.1.2.1
  rw [n226 _ _ _ _ _ _ _ h0]
  have loop : ∀ (m n : Nat), (n : Int) + m = K 3 → Wp d M_X12_standing 4 [.ref 382, .int (i32 z), .int (i32 (wa (fun w => K (79 + w)) z n)), .int (i32 n)] [] (E T σ) Q = Q (.inl (some (.int (i32 (waK K z))))) (E T σ) := by
    intro m
    induction m with
    | zero =>
      intro n hn
      have hn' : (n : Int) = K 3 := by omega
      rw [w226_4]
      simp (disch := (first | assumption | omega | exact Nat.le_of_ble_eq_true rfl | rfl)) only [w226_0, w226_1, w226_2, w226_3, w226_5, w226_6, w226_9, w226_10, w226_11, w226_14, w226_15, w226_16, w226_19, w226_21, w226_22, w226_23, w226_24, w226_25, w226_28, w226_29, w226_30, w226_31, w226_34, w226_35, w226_36, w226_37, w226_40, w226_43, w226_44, Ko_n, Ko_v, vX_i, vX_r, vX_l, vX_j, reduceIte, hK, hn', Int.le_refl]
      unfold waK
      rw [show (K 3).toNat = n by omega]
    | succ m ih =>
      intro n hn
      have ih' := ih (n + 1) (by omega)
      have hw := wa_nn (f := fun w => K (79 + w)) (k := z) n
      have h2n : (2 : Int) ^ n ≤ 32 := by
        have : n = 0 ∨ n = 1 ∨ n = 2 ∨ n = 3 ∨ n = 4 := by omega
        rcases this with rfl | rfl | rfl | rfl | rfl <;> decide
      have hat := ((scV_W.mp hv.2.1).2.1 n (by omega) (by omega)).1
      have hm := wh_mul0 hv.1.1
      rw [w226_4]
      by_cases e : K (79 + n) = z
      · rw [← wa_oo (f := fun w => K (79 + w)) (by omega) e] at ih'
        simp (disch := (first | assumption | omega | exact Nat.le_of_ble_eq_true rfl | rfl)) only [w226_0, w226_1, w226_2, w226_3, w226_5, w226_6, w226_9, w226_10, w226_11, w226_14, w226_15, w226_16, w226_19, w226_21, w226_22, w226_23, w226_24, w226_25, w226_28, w226_29, w226_30, w226_31, w226_34, w226_35, w226_36, w226_37, w226_40, w226_43, w226_44, Ko_n, Ko_v, vX_i, vX_r, vX_l, vX_j, reduceIte, hK, show ¬ K 3 ≤ (n : Int) by omega, e, not_true]
        exact ih'
      · rw [show wa (fun w => K (79 + w)) z (n + 1) = wa (fun w => K (79 + w)) z n + (if K (79 + n) = z then 2 ^ n else 0) from rfl, if_neg e, Int.add_zero] at ih'
        have h3 := oo_0 ⟨(wa (fun w => K (79 + w)) z n).toNat, by omega⟩
        dsimp only at h3
        rw [show (((wa (fun w => K (79 + w)) z n).toNat : Nat) : Int) = wa (fun w => K (79 + w)) z n by omega] at h3
        simp (disch := (first | assumption | omega | exact Nat.le_of_ble_eq_true rfl | rfl)) only [w226_0, w226_1, w226_2, w226_3, w226_5, w226_6, w226_9, w226_10, w226_11, w226_14, w226_15, w226_16, w226_19, w226_21, w226_22, w226_23, w226_24, w226_25, w226_28, w226_29, w226_30, w226_31, w226_34, w226_35, w226_36, w226_37, w226_40, w226_43, w226_44, Ko_n, Ko_v, vX_i, vX_r, vX_l, vX_j, reduceIte, hK, show ¬ K 3 ≤ (n : Int) by omega, e, not_false_eq_true, h3]
        exact ih'
  simp (disch := (first | assumption | omega | exact Nat.le_of_ble_eq_true rfl | rfl)) only [w226_0, w226_1, w226_2, w226_3, w226_5, w226_6, w226_9, w226_10, w226_11, w226_14, w226_15, w226_16, w226_19, w226_21, w226_22, w226_23, w226_24, w226_25, w226_28, w226_29, w226_30, w226_31, w226_34, w226_35, w226_36, w226_37, w226_40, w226_43, w226_44, Ko_n, Ko_v, vX_i, vX_r, vX_l, vX_j, reduceIte]
  exact loop (K 3).toNat 0 (by omega)
theorem c246 {d : Nat} {k z B : Int} {K : Int → Int} {T : Tt} {σ : St} {Q : vmO → vmH → Prop} (hK : σ 1200 382 = K) (hv : kV K B) (z0 : 0 ≤ z) (z1 : z < 36) : Ca (d + 1) k 246 [.ref 382, .int (i32 z)] (E T σ) Q = Q (.inl (some (.int (i32 (if K (7 + z) = 0 ∧ waK K z = 0 then 1 else 0))))) (E T σ) := by
  have h0 := ob_md
  have hc := (kV_c hv.2.1 z0 z1).1
  have hw := wa_nn (f := fun w => K (79 + w)) (k := z) (K 3).toNat
  have h3 := hv.1.2.1
  have h2n : (2 : Int) ^ (K 3).toNat ≤ 32 := by
    have : (K 3).toNat = 0 ∨ (K 3).toNat = 1 ∨ (K 3).toNat = 2 ∨ (K 3).toNat = 3 ∨ (K 3).toNat = 4 ∨ (K 3).toNat = 5 := by omega
    rcases this with e | e | e | e | e | e <;> rw [e] <;> decide
  have hw2 : 0 ≤ waK K z ∧ waK K z < 32 := by unfold waK; omega
  rw [n246 _ _ _ _ _ _ _ h0]
  simp (disch := (first | assumption | omega | exact Nat.le_of_ble_eq_true rfl | rfl)) only [w246_0, w246_1, w246_2, w246_5, w246_8, w246_9, w246_10, w246_13, w246_16, w246_17, w246_20, w246_21, Ko_n, Ko_v, vX_i, vX_r, vX_l, vX_j, reduceIte]
  rw [c211 hK z0 z1]
  by_cases a : K (7 + z) = 0
  · simp (disch := (first | assumption | omega | exact Nat.le_of_ble_eq_true rfl | rfl)) only [w246_0, w246_1, w246_2, w246_5, w246_8, w246_9, w246_10, w246_13, w246_16, w246_17, w246_20, w246_21, Ko_n, Ko_v, vX_i, vX_r, vX_l, vX_j, reduceIte, a, not_true]
    rw [c226 hK hv z0 z1]
    by_cases b : waK K z = 0
    · rw [if_pos ⟨trivial, b⟩]
      simp (disch := (first | assumption | omega | exact Nat.le_of_ble_eq_true rfl | rfl)) only [w246_0, w246_1, w246_2, w246_5, w246_8, w246_9, w246_10, w246_13, w246_16, w246_17, w246_20, w246_21, Ko_n, Ko_v, vX_i, vX_r, vX_l, vX_j, reduceIte, b, not_true]
    · rw [if_neg (fun w => b w.2)]
      simp (disch := (first | assumption | omega | exact Nat.le_of_ble_eq_true rfl | rfl)) only [w246_0, w246_1, w246_2, w246_5, w246_8, w246_9, w246_10, w246_13, w246_16, w246_17, w246_20, w246_21, Ko_n, Ko_v, vX_i, vX_r, vX_l, vX_j, reduceIte, b, not_false_eq_true]
  · rw [if_neg (fun w => a w.1)]
    simp (disch := (first | assumption | omega | exact Nat.le_of_ble_eq_true rfl | rfl)) only [w246_0, w246_1, w246_2, w246_5, w246_8, w246_9, w246_10, w246_13, w246_16, w246_17, w246_20, w246_21, Ko_n, Ko_v, vX_i, vX_r, vX_l, vX_j, reduceIte, a, not_false_eq_true]
/-- hedges counted -/
theorem hg_cnt {K : Int → Int} {B : Int} (hv : kV K B) : cnt (hgB (kdK K 7)) (nK K) = cnt (hgB (kdK K 7)) 64 := by
  have hm := wh_mul0 hv.1.1
  have hn := nK_c hv.1
  have := cnt_lim (p := hgB (kdK K 7)) (N := K 1 * K 2) hm.1 64 (by omega)
  rw [show (K 1 * K 2).toNat = nK K from rfl] at this
  rw [← this]
  refine cnt_cg 64 fun k hk => ?_
  by_cases e : (k : Int) < K 1 * K 2
  · rw [decide_eq_true e, Bool.and_true]
  · rw [decide_eq_false e, Bool.and_false]
    cases h : hgB (kdK K 7) k with
    | false => rfl
    | true =>
      have h3 := hgB_3.mp h
      have := ((scV_W.mp hv.2.1).1 k (by omega) (by omega)).2.2.2.2 (by omega)
      exact absurd this h3.2.2.1
theorem c247 {d : Nat} {k B : Int} {K : Int → Int} {T : Tt} {σ : St} {Q : vmO → vmH → Prop} (hK : σ 1200 382 = K) (hv : kV K B) : Ca (d + 2) k 247 [.ref 382] (E T σ) Q = Q (.inl (some (.int (i32 (cnt (hgB (kdK K 7)) 64))))) (E T σ) := by
  have h0 := ob_md
  have hm := wh_mul0 hv.1.1
  have hn := nK_c hv.1
  rw [n247 _ _ _ _ _ _ h0, ← hg_cnt hv]
  have loop : ∀ (m n : Nat), n + m = nK K → Wp (d + 2) M_X12_hedgesMany 4 [.ref 382, .int (i32 (cnt (hgB (kdK K 7)) n)), .int (i32 n)] [] (E T σ) Q = Q (.inl (some (.int (i32 (cnt (hgB (kdK K 7)) (nK K)))))) (E T σ) := by
    intro m
    induction m with
    | zero =>
      intro n hn2
      have hn2 : n = nK K := by omega
      subst hn2
      rw [w247_4]
      simp (disch := (first | assumption | omega | exact Nat.le_of_ble_eq_true rfl | rfl)) only [w247_0, w247_1, w247_2, w247_3, w247_5, w247_6, w247_9, w247_12, w247_13, w247_14, w247_15, w247_18, w247_21, w247_22, w247_25, w247_26, w247_27, w247_28, w247_31, w247_34, w247_35, Ko_n, Ko_v, vX_i, vX_r, vX_l, vX_j, reduceIte]
      rw [c210 hK]
      simp (disch := (first | assumption | omega | exact Nat.le_of_ble_eq_true rfl | rfl)) only [w247_0, w247_1, w247_2, w247_3, w247_5, w247_6, w247_9, w247_12, w247_13, w247_14, w247_15, w247_18, w247_21, w247_22, w247_25, w247_26, w247_27, w247_28, w247_31, w247_34, w247_35, Ko_n, Ko_v, vX_i, vX_r, vX_l, vX_j, reduceIte, hn, Int.le_refl]
    | succ m ih =>
      intro n hn2
      have ih' := ih (n + 1) (by omega)
      rw [show cnt (hgB (kdK K 7)) (n + 1) = cnt (hgB (kdK K 7)) n + (if hgB (kdK K 7) n = true then 1 else 0) from rfl] at ih'
      rw [w247_4]
      simp (disch := (first | assumption | omega | exact Nat.le_of_ble_eq_true rfl | rfl)) only [w247_0, w247_1, w247_2, w247_3, w247_5, w247_6, w247_9, w247_12, w247_13, w247_14, w247_15, w247_18, w247_21, w247_22, w247_25, w247_26, w247_27, w247_28, w247_31, w247_34, w247_35, Ko_n, Ko_v, vX_i, vX_r, vX_l, vX_j, reduceIte]
      rw [c210 hK]
      simp (disch := (first | assumption | omega | exact Nat.le_of_ble_eq_true rfl | rfl)) only [w247_0, w247_1, w247_2, w247_3, w247_5, w247_6, w247_9, w247_12, w247_13, w247_14, w247_15, w247_18, w247_21, w247_22, w247_25, w247_26, w247_27, w247_28, w247_31, w247_34, w247_35, Ko_n, Ko_v, vX_i, vX_r, vX_l, vX_j, reduceIte, show ¬ K 1 * K 2 ≤ (n : Int) by omega]
      rw [c213 hK hv.2.1 (by omega) (by omega)]
      cases e : hgB (kdK K 7) n with
      | true =>
        rw [e, if_pos rfl] at ih'
        simp (disch := (first | assumption | omega | exact Nat.le_of_ble_eq_true rfl | rfl)) only [w247_0, w247_1, w247_2, w247_3, w247_5, w247_6, w247_9, w247_12, w247_13, w247_14, w247_15, w247_18, w247_21, w247_22, w247_25, w247_26, w247_27, w247_28, w247_31, w247_34, w247_35, Ko_n, Ko_v, vX_i, vX_r, vX_l, vX_j, reduceIte, Int.reduceEq]
        exact ih'
      | false =>
        rw [e, if_neg Bool.false_ne_true] at ih'
        simp (disch := (first | assumption | omega | exact Nat.le_of_ble_eq_true rfl | rfl)) only [w247_0, w247_1, w247_2, w247_3, w247_5, w247_6, w247_9, w247_12, w247_13, w247_14, w247_15, w247_18, w247_21, w247_22, w247_25, w247_26, w247_27, w247_28, w247_31, w247_34, w247_35, Ko_n, Ko_v, vX_i, vX_r, vX_l, vX_j, reduceIte, Bool.false_eq_true]
        exact ih'
  simp (disch := (first | assumption | omega | exact Nat.le_of_ble_eq_true rfl | rfl)) only [w247_0, w247_1, w247_2, w247_3, w247_5, w247_6, w247_9, w247_12, w247_13, w247_14, w247_15, w247_18, w247_21, w247_22, w247_25, w247_26, w247_27, w247_28, w247_31, w247_34, w247_35, Ko_n, Ko_v, vX_i, vX_r, vX_l, vX_j, reduceIte]
  exact loop (nK K) 0 (by omega)
