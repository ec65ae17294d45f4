/-! ===== the reference: walks, been, through, tells, maybe ===== -/
theorem c290 {d : Nat} {k w z t B : Int} {K : Int → Int} {T : Tt} {σ : St} {Q : vmO → vmH → Prop} (hK : σ 1200 382 = K) (hv : kV K B) (x0 : -2147483648 ≤ w) (x1 : w < 2147483648) (y0 : -2147483648 ≤ z) (y1 : z < 2147483648) (u0 : -2147483648 ≤ t) (u1 : t < 2147483648)
    (hQ1 : ∀ u, ((¬ wzI K w z ∧ u = 1) ∨ (wzI K w z ∧ ¬ (0 ≤ t ∧ t ≤ 30) ∧ u = 2)) → Q (.inl (some (.int (i32 1)))) (E T (upA σ 1204 382 fun _ => u)))
    (hQ2 : wzI K w z → (0 ≤ t ∧ t ≤ 30) → Q (.inl (some (.int (i32 0)))) (E T (upA σ 1204 382 fun _ => 0))) : Ca (d + 3) k 290 [.ref 382, .int (i32 w), .int (i32 z), .int (i32 t)] (E T σ) Q := by
  have h0 := ob_md
  rw [n290 _ _ _ _ _ _ _ _ _ h0]
  simp (disch := (first | assumption | omega | exact Nat.le_of_ble_eq_true rfl | rfl)) only [w290_0, w290_1, w290_2, w290_3, Ko_n, Ko_v, vX_i, vX_r, vX_l, vX_j, reduceIte]
  refine c237 hK hv x0 x1 y0 y1 (fun a => ?_) (fun a => ?_)
  · simp (disch := (first | assumption | omega | exact Nat.le_of_ble_eq_true rfl | rfl)) only [w290_6, w290_9, w290_10, w290_11, w290_12, w290_15, Ko_n, Ko_v, vX_i, vX_r, vX_l, vX_j, reduceIte, not_true]
    rw [c176 (by omega) (by omega) (by omega) (by omega) (by omega) (by omega) (by omega)]
    by_cases b : 0 ≤ t ∧ t ≤ 30
    · simp (disch := (first | assumption | omega | exact Nat.le_of_ble_eq_true rfl | rfl)) only [w290_18, w290_21, w290_22, w290_23, w290_26, w290_27, w290_30, w290_33, w290_34, w290_37, w290_38, Ko_n, Ko_v, vX_i, vX_r, vX_l, vX_j, reduceIte, b, and_self, Int.reduceEq, not_false_eq_true, upA_s, Int.le_refl]
      exact hQ2 a b
    · simp (disch := (first | assumption | omega | exact Nat.le_of_ble_eq_true rfl | rfl)) only [w290_18, w290_21, w290_22, w290_23, w290_26, w290_27, w290_30, w290_33, w290_34, w290_37, w290_38, Ko_n, Ko_v, vX_i, vX_r, vX_l, vX_j, reduceIte, b, not_true, upA_s, upA_upA, show ¬ (2 : Int) ≤ 0 by omega]
      exact hQ1 2 (Or.inr ⟨a, b, rfl⟩)
  · simp (disch := (first | assumption | omega | exact Nat.le_of_ble_eq_true rfl | rfl)) only [w290_6, w290_9, w290_10, w290_11, w290_12, w290_15, w290_18, w290_21, w290_22, w290_23, w290_26, w290_27, w290_30, w290_33, w290_34, w290_37, w290_38, Ko_n, Ko_v, vX_i, vX_r, vX_l, vX_j, reduceIte, Int.reduceEq, not_false_eq_true, upA_s, show ¬ (1 : Int) ≤ 0 by omega]
    exact hQ1 1 (Or.inl ⟨a, rfl⟩)
theorem c291 {d t : Nat} {k w z av B : Int} {K : Int → Int} {T : Tt} {σ : St} {Q : vmO → vmH → Prop} (hK : σ 1200 382 = K) (hv : kV K B) (hB : B < 900000000) (w0 : 0 ≤ w) (w1 : w < K 3) (z0 : 0 ≤ z) (z1 : z < K 1 * K 2) (ht : t ≤ 30) (v0 : -1 ≤ av) (v1 : av < 36)
    (hQ : ∀ τ, fr88 σ τ → Q (.inl (some (.long (i64 (cmK K w av t z : Nat))))) (E T τ)) : Ca (d + 6) k 291 [.ref 382, .int (i32 w), .int (i32 z), .int (i32 t), .int (i32 av)] (E T σ) Q := by
  have h0 := ob_md
  have hm := wh_mul0 hv.1.1
  rw [n291 _ _ _ _ _ _ _ _ _ _ h0]
  simp (disch := (first | assumption | omega | exact Nat.le_of_ble_eq_true rfl | rfl)) only [w291_0, w291_1, w291_2, w291_3, w291_5, Ko_n, Ko_v, vX_i, vX_r, vX_l, vX_j, reduceIte]
  refine c288 hK hv hB w0 w1 ht v0 v1 fun τ f1 f2 f3 => ?_
  have g := f3 t (Nat.le_refl t) z z0 z1
  simp (disch := (first | assumption | omega | exact Nat.le_of_ble_eq_true rfl | rfl)) only [w291_8, w291_9, w291_12, w291_14, w291_15, w291_16, w291_17, w291_18, w291_19, Ko_n, Ko_v, vX_i, vX_r, vX_l, vX_j, reduceIte, g]
  exact hQ τ f1
theorem fr88_T {σ τ : St} (h : fr88 (upA σ 1204 382 fun _ => 0) τ) : fT σ τ ∧ τ 1204 382 0 = 0 := by
  refine ⟨fun t o ht => ?_, ?_⟩
  · rw [h t o (by omega) (by omega), upA_t (by omega)]
  · rw [h 1204 382 (by omega) (by omega), upA_s]
theorem c292 {d : Nat} {k w z t B : Int} {K : Int → Int} {T : Tt} {σ : St} {Q : vmO → vmH → Prop} (hK : σ 1200 382 = K) (hv : kV K B) (hB : B < 900000000) (x0 : -2147483648 ≤ w) (x1 : w < 2147483648) (y0 : -2147483648 ≤ z) (y1 : z < 2147483648) (u0 : -2147483648 ≤ t) (u1 : t < 2147483648)
    (hQ1 : ∀ u, ((¬ wzI K w z ∧ u = 1) ∨ (wzI K w z ∧ ¬ (0 ≤ t ∧ t ≤ 30) ∧ u = 2)) → ∀ τ, fT σ τ → τ 1200 382 = K → τ 1204 382 0 = u → Q (.inl (some (.long (i64 0)))) (E T τ))
    (hQ2 : wzI K w z → (0 ≤ t ∧ t ≤ 30) → ∀ τ, fT σ τ → τ 1200 382 = K → τ 1204 382 0 = 0 → Q (.inl (some (.long (i64 (cmK K w (-1) t.toNat z : Nat))))) (E T τ)) : Ca (d + 7) k 292 [.ref 382, .int (i32 w), .int (i32 z), .int (i32 t)] (E T σ) Q := by
  have h0 := ob_md
  have kU : ∀ u, (upA σ 1204 382 fun _ => u) 1200 382 = K := fun u => by rw [upA_t (by omega)]; exact hK
  have fU : ∀ u, fT σ (upA σ 1204 382 fun _ => u) := fun u => fT_u fT_r (by omega)
  have sU : ∀ u, (upA σ 1204 382 fun _ => u) 1204 382 0 = u := fun u => by rw [upA_s]
  rw [n292 _ _ _ _ _ _ _ _ _ h0]
  simp (disch := (first | assumption | omega | exact Nat.le_of_ble_eq_true rfl | rfl)) only [w292_0, w292_1, w292_2, w292_3, w292_4, Ko_n, Ko_v, vX_i, vX_r, vX_l, vX_j, reduceIte]
  refine c290 hK hv x0 x1 y0 y1 u0 u1 (fun u hu => ?_) (fun a b => ?_)
  · simp (disch := (first | assumption | omega | exact Nat.le_of_ble_eq_true rfl | rfl)) only [w292_7, w292_10, w292_11, w292_14, w292_15, w292_16, w292_17, w292_18, w292_19, w292_22, Ko_n, Ko_v, vX_i, vX_r, vX_l, vX_j, reduceIte, Int.reduceEq]
    exact hQ1 u hu _ (fU u) (kU u) (sU u)
  · simp (disch := (first | assumption | omega | exact Nat.le_of_ble_eq_true rfl | rfl)) only [w292_7, w292_10, w292_11, w292_14, w292_15, w292_16, w292_17, w292_18, w292_19, Ko_n, Ko_v, vX_i, vX_r, vX_l, vX_j, reduceIte]
    rw [show (i32 t) = i32 ((t.toNat : Nat) : Int) by rw [show ((t.toNat : Nat) : Int) = t by omega]]
    refine c291 (kU 0) hv hB a.1.1 a.1.2 a.2.1 a.2.2 (by omega) (by omega) (by omega) fun τ f => ?_
    have ft := fr88_T f
    simp (disch := (first | assumption | omega | exact Nat.le_of_ble_eq_true rfl | rfl)) only [w292_22, Ko_n, Ko_v, vX_i, vX_r, vX_l, vX_j, reduceIte]
    exact hQ2 a b τ ft.1 (by rw [f 1200 382 (by omega) (by omega)]; exact kU 0) ft.2
/-- where these may have been, behind the rows below n -/
def bwB (K : Int → Int) (w z : Int) (t s : Nat) : Int → Bool := fun k => decide ((0 ≤ k ∧ k < K 1 * K 2) ∧ 0 < cmK K w (-1) s k ∧ 0 < gmK K w z (t - s) k)
def bwN (K : Int → Int) (w z : Int) (t : Nat) : Nat → Int → Bool
  | 0 => fun _ => false
  | n + 1 => fun k => bwN K w z t n k || bwB K w z t n k
theorem c293 {d : Nat} {k w z t B : Int} {K : Int → Int} {T : Tt} {σ : St} {Q : vmO → vmH → Prop} (hK : σ 1200 382 = K) (hv : kV K B) (hB : B < 900000000) (x0 : -2147483648 ≤ w) (x1 : w < 2147483648) (y0 : -2147483648 ≤ z) (y1 : z < 2147483648) (u0 : -2147483648 ≤ t) (u1 : t < 2147483648)
    (hQ1 : ∀ u, ((¬ wzI K w z ∧ u = 1) ∨ (wzI K w z ∧ ¬ (0 ≤ t ∧ t ≤ 30) ∧ u = 2)) → ∀ τ, fT σ τ → τ 1200 382 = K → τ 1204 382 0 = u → Q (.inl (some (.long (i64 0)))) (E T τ))
    (hQ2 : wzI K w z → (0 ≤ t ∧ t ≤ 30) → ∀ τ, fT σ τ → τ 1200 382 = K → τ 1204 382 0 = 0 → Q (.inl (some (.long (bs (bwN K w z t.toNat (t.toNat + 1)))))) (E T τ)) : Ca (d + 7) k 293 [.ref 382, .int (i32 w), .int (i32 z), .int (i32 t)] (E T σ) Q := by
  have h0 := ob_md
  have hm := wh_mul0 hv.1.1
  have kU : ∀ u, (upA σ 1204 382 fun _ => u) 1200 382 = K := fun u => by rw [upA_t (by omega)]; exact hK
  have fU : ∀ u, fT σ (upA σ 1204 382 fun _ => u) := fun u => fT_u fT_r (by omega)
  have sU : ∀ u, (upA σ 1204 382 fun _ => u) 1204 382 0 = u := fun u => by rw [upA_s]
  rw [n293 _ _ _ _ _ _ _ _ _ h0]
  simp (disch := (first | assumption | omega | exact Nat.le_of_ble_eq_true rfl | rfl)) only [w293_0, w293_1, w293_2, w293_3, w293_4, Ko_n, Ko_v, vX_i, vX_r, vX_l, vX_j, reduceIte]
  refine c290 hK hv x0 x1 y0 y1 u0 u1 (fun u hu => ?_) (fun a b => ?_)
  · simp (disch := (first | assumption | omega | exact Nat.le_of_ble_eq_true rfl | rfl)) only [w293_7, w293_10, w293_11, Ko_n, Ko_v, vX_i, vX_r, vX_l, vX_j, reduceIte, Int.reduceEq]
    exact hQ1 u hu _ (fU u) (kU u) (sU u)
  · have hq := hQ2 a b
    obtain ⟨⟨w0, w1⟩, z0, z1⟩ := a
    obtain ⟨n, rfl⟩ : ∃ n : Nat, t = (n : Int) := ⟨t.toNat, by omega⟩
    rw [show ((n : Nat) : Int).toNat = n by omega] at hq
    have n30 : n ≤ 30 := by omega
    have h2 := (kV_w hv w0 w1).1
    simp (disch := (first | assumption | omega | exact Nat.le_of_ble_eq_true rfl | rfl)) only [w293_7, w293_10, w293_11, w293_12, w293_13, w293_14, w293_15, w293_16, Ko_n, Ko_v, vX_i, vX_r, vX_l, vX_j, reduceIte]
    conv => arg 1; rw [show d + 6 = (d + 1) + 5 from rfl]
    refine c288 (kU 0) hv hB w0 w1 n30 (by omega) (by omega) fun τ1 f1 f2 f3 => ?_
    have k1 : τ1 1200 382 = K := by rw [f1 1200 382 (by omega) (by omega)]; exact kU 0
    simp (disch := (first | assumption | omega | exact Nat.le_of_ble_eq_true rfl | rfl)) only [w293_19, w293_20, w293_21, w293_22, Ko_n, Ko_v, vX_i, vX_r, vX_l, vX_j, reduceIte]
    conv => arg 1; rw [show d + 6 = (d + 4) + 2 from rfl]
    refine c289 k1 hv w0 w1 f2 n30 z0 z1 fun G hG => ?_
    have ft := fr88_T f1
    have cT : ∀ s : Nat, s ≤ n → ∀ y, 0 ≤ y → y < K 1 * K 2 → i64 ((upA τ1 1236 382 G) 1235 382 (36 * s + y)) = i64 (cmK K w (-1) s y : Nat) := fun s hs y y0 y1 => by rw [upA_t (by omega)]; exact f3 s hs y y0 y1
    have k2 : (upA τ1 1236 382 G) 1200 382 = K := by rw [upA_t (by omega)]; exact k1
    have q := hq (upA τ1 1236 382 G) (fT_u ft.1 (by omega)) k2 (by rw [upA_t (by omega)]; exact ft.2)
    generalize upA τ1 1236 382 G = τ at hG cT k2 q ⊢
    have cells : ∀ (m i s : Nat), (i : Int) + m = K 1 * K 2 → s ≤ n → (∀ l7, Wp (d + 7) M_X12_been 106 [.ref 382, .int (i32 w), .int (i32 z), .int (i32 n), .long (bs (bwN K w z n (s + 1))), vmJ, .int (i32 s), l7] [] (E T τ) Q) → Wp (d + 7) M_X12_been 40 [.ref 382, .int (i32 w), .int (i32 z), .int (i32 n), .long (bs fun k => bwN K w z n s k || (bwB K w z n s k && decide (k < i))), vmJ, .int (i32 s), .int (i32 i)] [] (E T τ) Q := by
      intro m
      induction m with
      | zero =>
        intro i s hi hs hk
        have hi' : (i : Int) = K 1 * K 2 := by omega
        rw [w293_40]
        simp (disch := (first | assumption | omega | exact Nat.le_of_ble_eq_true rfl | rfl)) only [w293_42, w293_43, Ko_n, Ko_v, vX_i, vX_r, vX_l, vX_j, reduceIte]
        rw [c210 k2]
        simp (disch := (first | assumption | omega | exact Nat.le_of_ble_eq_true rfl | rfl)) only [w293_46, w293_49, w293_51, w293_52, w293_55, w293_57, w293_59, w293_60, w293_62, w293_63, w293_64, w293_65, w293_69, w293_70, w293_73, w293_75, w293_76, w293_78, w293_79, w293_80, w293_82, w293_83, w293_84, w293_85, w293_89, w293_90, w293_92, w293_93, w293_96, w293_97, w293_98, w293_100, w293_103, Ko_n, Ko_v, vX_i, vX_r, vX_l, vX_j, reduceIte, hi', Int.le_refl]
        rw [bs_congr (p := fun k => bwN K w z n s k || (bwB K w z n s k && decide (k < K 1 * K 2))) (q := bwN K w z n (s + 1)) (fun k _ _ => by
          show (bwN K w z n s k || (bwB K w z n s k && decide (k < K 1 * K 2))) = (bwN K w z n s k || bwB K w z n s k)
          congr 1
          cases e : bwB K w z n s k with
          | false => rfl
          | true =>
            have := (of_decide_eq_true e).1.2
            rw [decide_eq_true this]; rfl)]
        exact hk _
      | succ m ih =>
        intro i s hi hs hk
        have ih' := ih (i + 1) s (by omega) hs hk
        rw [show ((i + 1 : Nat) : Int) = (i : Int) + 1 by omega] at ih'
        have cI := cT s hs i (by omega) (by omega)
        have gI := hG (n - s) (by omega) i (by omega) (by omega)
        rw [show ((n - s : Nat) : Int) = (n : Int) - s by omega] at gI
        have cb := cm_30 (c := prK K w) (a := K (79 + w)) (av := -1) h2 (show s ≤ 30 by omega) (k := i) (by omega) (by omega)
        have gb := gm_30 (c := prK K w) (z := z) h2 (show n - s ≤ 30 by omega) (k := i) (by omega) (by omega)
        have cle := i64_le (u := (cmK K w (-1) s i : Nat)) (v := 0) (by omega) (by unfold cmK; omega) (by omega) (by omega)
        have gle := i64_le (u := (gmK K w z (n - s) i : Nat)) (v := 0) (by omega) (by unfold gmK; omega) (by omega) (by omega)
        have wB : bwB K w z n s i = decide ((0 ≤ (i : Int) ∧ (i : Int) < K 1 * K 2) ∧ 0 < cmK K w (-1) s i ∧ 0 < gmK K w z (n - s) i) := rfl
        have no : bwB K w z n s i = false → (bs fun k => bwN K w z n s k || (bwB K w z n s k && decide (k < i))) ||| i64 0 = bs fun k => bwN K w z n s k || (bwB K w z n s k && decide (k < (i : Int) + 1)) := fun hf => by
          rw [bs_none, bs_or]
          refine bs_congr fun k _ _ => ?_
          rw [Bool.or_false]
          congr 1
          by_cases ek : k = i
          · rw [ek, hf]; rfl
          · rw [show decide (k < (i : Int)) = decide (k < (i : Int) + 1) from decide_eq_decide.mpr (by omega)]
        have yes : bwB K w z n s i = true → (bs fun k => bwN K w z n s k || (bwB K w z n s k && decide (k < i))) ||| ll (i64 1) i = bs fun k => bwN K w z n s k || (bwB K w z n s k && decide (k < (i : Int) + 1)) := fun hf => by
          rw [bs_add (by omega) (by omega)]
          refine bs_congr fun k _ _ => ?_
          by_cases ek : k = i
          · rw [ek, hf, decide_eq_true (show (i : Int) = i from rfl), decide_eq_true (show (i : Int) < (i : Int) + 1 by omega)]
            simp
          · rw [decide_eq_false ek, show decide (k < (i : Int)) = decide (k < (i : Int) + 1) from decide_eq_decide.mpr (by omega), Bool.or_false]
        rw [w293_40]
        simp (disch := (first | assumption | omega | exact Nat.le_of_ble_eq_true rfl | rfl)) only [w293_42, w293_43, Ko_n, Ko_v, vX_i, vX_r, vX_l, vX_j, reduceIte]
        rw [c210 k2]
        by_cases e1 : cmK K w (-1) s i = 0
        · have hno := no (by rw [wB]; exact decide_eq_false (fun h => by omega))
          rw [← hno] at ih'
          simp (disch := (first | assumption | omega | exact Nat.le_of_ble_eq_true rfl | rfl)) only [w293_46, w293_49, w293_51, w293_52, w293_55, w293_57, w293_59, w293_60, w293_62, w293_63, w293_64, w293_65, w293_69, w293_70, w293_73, w293_75, w293_76, w293_78, w293_79, w293_80, w293_82, w293_83, w293_84, w293_85, w293_89, w293_90, w293_92, w293_93, w293_96, w293_97, w293_98, w293_100, w293_103, Ko_n, Ko_v, vX_i, vX_r, vX_l, vX_j, reduceIte, show ¬ K 1 * K 2 ≤ (i : Int) by omega, cI, cle.mpr (by omega)]
          exact ih'
        · by_cases e2 : gmK K w z (n - s) i = 0
          · have hno := no (by rw [wB]; exact decide_eq_false (fun h => by omega))
            rw [← hno] at ih'
            have nc : ¬ i64 (cmK K w (-1) s i : Nat) ≤ i64 0 := fun h => e1 (by have := cle.mp h; omega)
            simp (disch := (first | assumption | omega | exact Nat.le_of_ble_eq_true rfl | rfl)) only [w293_46, w293_49, w293_51, w293_52, w293_55, w293_57, w293_59, w293_60, w293_62, w293_63, w293_64, w293_65, w293_69, w293_70, w293_73, w293_75, w293_76, w293_78, w293_79, w293_80, w293_82, w293_83, w293_84, w293_85, w293_89, w293_90, w293_92, w293_93, w293_96, w293_97, w293_98, w293_100, w293_103, Ko_n, Ko_v, vX_i, vX_r, vX_l, vX_j, reduceIte, show ¬ K 1 * K 2 ≤ (i : Int) by omega, cI, nc, gI, gle.mpr (by omega)]
            exact ih'
          · have hye := yes (by rw [wB]; exact decide_eq_true ⟨⟨by omega, by omega⟩, by omega, by omega⟩)
            rw [← hye] at ih'
            have nc : ¬ i64 (cmK K w (-1) s i : Nat) ≤ i64 0 := fun h => e1 (by have := cle.mp h; omega)
            have ng : ¬ i64 (gmK K w z (n - s) i : Nat) ≤ i64 0 := fun h => e2 (by have := gle.mp h; omega)
            simp (disch := (first | assumption | omega | exact Nat.le_of_ble_eq_true rfl | rfl)) only [w293_46, w293_49, w293_51, w293_52, w293_55, w293_57, w293_59, w293_60, w293_62, w293_63, w293_64, w293_65, w293_69, w293_70, w293_73, w293_75, w293_76, w293_78, w293_79, w293_80, w293_82, w293_83, w293_84, w293_85, w293_89, w293_90, w293_92, w293_93, w293_96, w293_97, w293_98, w293_100, w293_103, Ko_n, Ko_v, vX_i, vX_r, vX_l, vX_j, reduceIte, show ¬ K 1 * K 2 ≤ (i : Int) by omega, cI, nc, gI, ng]
            exact ih'
    have rows : ∀ (m s : Nat) (l7 : Value), s + m = n + 1 → Wp (d + 7) M_X12_been 31 [.ref 382, .int (i32 w), .int (i32 z), .int (i32 n), .long (bs (bwN K w z n s)), vmJ, .int (i32 s), l7] [] (E T τ) Q := by
      intro m
      induction m with
      | zero =>
        intro s l7 hs
        have hs : s = n + 1 := by omega
        subst hs
        rw [w293_31]
        simp (disch := (first | assumption | omega | exact Nat.le_of_ble_eq_true rfl | rfl)) only [w293_33, w293_34, w293_37, w293_38, Ko_n, Ko_v, vX_i, vX_r, vX_l, vX_j, reduceIte, show (n : Int) < ((n + 1 : Nat) : Int) by omega]
        simp (disch := (first | assumption | omega | exact Nat.le_of_ble_eq_true rfl | rfl)) only [w293_112, w293_114, Ko_n, Ko_v, vX_i, vX_r, vX_l, vX_j, reduceIte]
        exact q
      | succ m ih =>
        intro s l7 hs
        have ih' := fun l7 => ih (s + 1) l7 (by omega)
        rw [show ((s + 1 : Nat) : Int) = (s : Int) + 1 by omega] at ih'
        have c := cells (K 1 * K 2).toNat 0 s (by omega) (by omega) (fun l7 => by
          simp (disch := (first | assumption | omega | exact Nat.le_of_ble_eq_true rfl | rfl)) only [w293_106, w293_109, Ko_n, Ko_v, vX_i, vX_r, vX_l, vX_j, reduceIte]
          exact ih' l7)
        rw [bs_congr (p := fun k => bwN K w z n s k || (bwB K w z n s k && decide (k < ((0 : Nat) : Int)))) (q := bwN K w z n s) (fun k k0 _ => by
          show (bwN K w z n s k || (bwB K w z n s k && decide (k < ((0 : Nat) : Int)))) = _
          rw [decide_eq_false (by omega), Bool.and_false, Bool.or_false])] at c
        rw [w293_31]
        simp (disch := (first | assumption | omega | exact Nat.le_of_ble_eq_true rfl | rfl)) only [w293_33, w293_34, w293_37, w293_38, Ko_n, Ko_v, vX_i, vX_r, vX_l, vX_j, reduceIte, show ¬ (n : Int) < (s : Int) by omega]
        exact c
    have r0 := rows (n + 1) 0 vmJ (by omega)
    rw [show bs (bwN K w z n 0) = i64 0 from bs_none.symm] at r0
    simp (disch := (first | assumption | omega | exact Nat.le_of_ble_eq_true rfl | rfl)) only [w293_25, w293_26, w293_28, w293_29, Ko_n, Ko_v, vX_i, vX_r, vX_l, vX_j, reduceIte]
    exact r0
