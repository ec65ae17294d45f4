/-! ===== questions: the law's wrappers and the reference (by program) ===== -/
theorem l323 {d : Nat} {B z wh : Int} {K : Int → Int} {T : Tt} {σ : St} {Q : vmO → vmH → Prop} (hI : Inv B σ) (hB : B < 790000000) (hK : σ 1200 382 = K) (lo0 : -2147483648 ≤ z) (hi0 : z < 2147483648) (lo1 : -2147483648 ≤ wh) (hi1 : wh < 2147483648) (hQ : ∀ kk T' τ, qM σ τ kk ((0 ≤ z ∧ z < K 1 * K 2)) ((0 ≤ wh ∧ wh ≤ 4)) (fun xx => xx = i64 ((i32 (ceR K z wh)).toInt)) → (T' = T ∨ T' = thr T) → Q (.inl (some (.int (i32 kk)))) (E T' τ)) : Ca (d + 40) 4 323 [.ref 0, .int (i32 z), .int (i32 wh), .ref 405] (E T σ) Q := by
  have ht : tie σ 2 K := by rw [← hK]; exact hI.1.1
  have hv : kV K B := by rw [← hK]; exact hI.1.2.1
  rw [n323 _ _ _ _ _ _ _ _ (by omega)]
  simp (disch := (first | assumption | omega | exact Nat.le_of_ble_eq_true rfl | rfl)) only [w323_0, w323_1, w323_2, w323_3, w323_4, w323_5, Ko_n, Ko_v, vX_i, vX_r, vX_l, vX_j, reduceIte]
  refine k117 ht hv (by omega) lo0 hi0 lo1 hi1 (fun h => ?_) (fun h1 h2 => ?_) (fun h1 h2 τ hs => ?_)
  · rw [Ko_c (v := 1) rfl rfl]; exact hQ 1 _ _ (qM_1 h) (Or.inr rfl)
  · rw [Ko_c (v := 2) rfl rfl]; exact hQ 2 _ _ (qM_2 h1 h2) (Or.inr rfl)
  · have hb1 := Int32.le_toInt (i32 (ceR K z wh))
    have hb2 := Int32.toInt_lt (i32 (ceR K z wh))
    rw [← i32_toInt (i32 (ceR K z wh))]
    generalize hu : (i32 (ceR K z wh)).toInt = u at hb1 hb2 ⊢
    simp (disch := (first | assumption | omega | exact Nat.le_of_ble_eq_true rfl | rfl)) only [w323_8, w323_9, w323_10, w323_21, w323_22, Ko_n, Ko_v, vX_i, vX_r, vX_l, vX_j, reduceIte]
    exact hQ 0 _ _ (qM_0 h1 h2 hs (by rw [hu])) (Or.inl rfl)
theorem r227 {d : Nat} {k B kk z wh : Int} {K : Int → Int} {T : Tt} {σ τ : St} {Q : vmO → vmH → Prop} (hI : Inv B σ) (hB : B < 790000000) (hK : σ 1200 382 = K) (lo0 : -2147483648 ≤ z) (hi0 : z < 2147483648) (lo1 : -2147483648 ≤ wh) (hi1 : wh < 2147483648) (hm : qM σ τ kk ((0 ≤ z ∧ z < K 1 * K 2)) ((0 ≤ wh ∧ wh ≤ 4)) (fun xx => xx = i64 ((i32 (ceR K z wh)).toInt))) (hQ : ∀ b ρ, rM ρ B kk (i64 ((i32 b).toInt)) → Q (.inl (some (.int (i32 b)))) (E T ρ)) : Ca (d + 40) k 227 [.ref 382, .int (i32 z), .int (i32 wh)] (E T τ) Q := by
  have hv : kV K B := by rw [← hK]; exact hI.1.2.1
  have e : τ 1200 382 = K := by rw [hm.1 1200 382 (by omega)]; exact hK
  have hl : lwV K := by rw [← hK]; exact hI.1.2.2.1
  have hr : rwK K := by rw [← hK]; exact hI.1.2.2.2
  exact c227 e hv (by omega) hl hr lo0 hi0 lo1 hi1 (fun u hu ρ f g1 g2 => hQ _ _ (rM_1 hI hm hu f (g1.trans hK.symm) g2)) (fun h1 h2 ρ f g1 g2 => hQ _ _ (rM_0 hI hm h1 h2 v_eq rfl f (g1.trans hK.symm) g2))
theorem l324 {d : Nat} {B w wh : Int} {K : Int → Int} {T : Tt} {σ : St} {Q : vmO → vmH → Prop} (hI : Inv B σ) (hB : B < 790000000) (hK : σ 1200 382 = K) (lo0 : -2147483648 ≤ w) (hi0 : w < 2147483648) (lo1 : -2147483648 ≤ wh) (hi1 : wh < 2147483648) (hQ : ∀ kk T' τ, qM σ τ kk ((0 ≤ w ∧ w < K 3)) (whV wh) (fun xx => xx = i64 ((i32 (wkR K w wh)).toInt)) → (T' = T ∨ T' = thr T) → Q (.inl (some (.int (i32 kk)))) (E T' τ)) : Ca (d + 40) 4 324 [.ref 0, .int (i32 w), .int (i32 wh), .ref 405] (E T σ) Q := by
  have ht : tie σ 2 K := by rw [← hK]; exact hI.1.1
  have hv : kV K B := by rw [← hK]; exact hI.1.2.1
  rw [n324 _ _ _ _ _ _ _ _ (by omega)]
  simp (disch := (first | assumption | omega | exact Nat.le_of_ble_eq_true rfl | rfl)) only [w324_0, w324_1, w324_2, w324_3, w324_4, w324_5, Ko_n, Ko_v, vX_i, vX_r, vX_l, vX_j, reduceIte]
  refine k118 ht hv (by omega) lo0 hi0 lo1 hi1 (fun h => ?_) (fun h1 h2 => ?_) (fun h1 h2 => ?_)
  · rw [Ko_c (v := 1) rfl rfl]; exact hQ 1 _ _ (qM_1 h) (Or.inr rfl)
  · rw [Ko_c (v := 2) rfl rfl]; exact hQ 2 _ _ (qM_2 h1 h2) (Or.inr rfl)
  · have hb1 := Int32.le_toInt (i32 (wkR K w wh))
    have hb2 := Int32.toInt_lt (i32 (wkR K w wh))
    rw [← i32_toInt (i32 (wkR K w wh))]
    generalize hu : (i32 (wkR K w wh)).toInt = u at hb1 hb2 ⊢
    simp (disch := (first | assumption | omega | exact Nat.le_of_ble_eq_true rfl | rfl)) only [w324_8, w324_9, w324_10, w324_21, w324_22, Ko_n, Ko_v, vX_i, vX_r, vX_l, vX_j, reduceIte]
    exact hQ 0 _ _ (qM_0 h1 h2 sg_r (by rw [hu])) (Or.inl rfl)
theorem r228 {d : Nat} {k B kk w wh : Int} {K : Int → Int} {T : Tt} {σ τ : St} {Q : vmO → vmH → Prop} (hI : Inv B σ) (hB : B < 790000000) (hK : σ 1200 382 = K) (lo0 : -2147483648 ≤ w) (hi0 : w < 2147483648) (lo1 : -2147483648 ≤ wh) (hi1 : wh < 2147483648) (hm : qM σ τ kk ((0 ≤ w ∧ w < K 3)) (whV wh) (fun xx => xx = i64 ((i32 (wkR K w wh)).toInt))) (hQ : ∀ b ρ, rM ρ B kk (i64 ((i32 b).toInt)) → Q (.inl (some (.int (i32 b)))) (E T ρ)) : Ca (d + 40) k 228 [.ref 382, .int (i32 w), .int (i32 wh)] (E T τ) Q := by
  have hv : kV K B := by rw [← hK]; exact hI.1.2.1
  have e : τ 1200 382 = K := by rw [hm.1 1200 382 (by omega)]; exact hK
  exact c228 e hv lo0 hi0 lo1 hi1 (fun u hu ρ f g1 g2 => hQ _ _ (rM_1 hI hm hu f (g1.trans hK.symm) g2)) (fun h1 h2 ρ f g1 g2 => hQ _ _ (rM_0 hI hm h1 h2 v_eq rfl f (g1.trans hK.symm) g2))
theorem l333 {d : Nat} {B w z : Int} {K : Int → Int} {T : Tt} {σ : St} {Q : vmO → vmH → Prop} (hI : Inv B σ) (hB : B < 790000000) (hK : σ 1200 382 = K) (lo0 : -2147483648 ≤ w) (hi0 : w < 2147483648) (lo1 : -2147483648 ≤ z) (hi1 : z < 2147483648) (hQ : ∀ kk T' τ, qM σ τ kk (wzI K w z) (True) (fun xx => xx = i64 ((i32 (orN (dK K w z))).toInt)) → (T' = T ∨ T' = thr T) → Q (.inl (some (.int (i32 kk)))) (E T' τ)) : Ca (d + 40) 4 333 [.ref 0, .int (i32 w), .int (i32 z), .ref 405] (E T σ) Q := by
  have ht : tie σ 2 K := by rw [← hK]; exact hI.1.1
  have hv : kV K B := by rw [← hK]; exact hI.1.2.1
  rw [n333 _ _ _ _ _ _ _ _ (by omega)]
  simp (disch := (first | assumption | omega | exact Nat.le_of_ble_eq_true rfl | rfl)) only [w333_0, w333_1, w333_2, w333_3, w333_4, w333_5, Ko_n, Ko_v, vX_i, vX_r, vX_l, vX_j, reduceIte]
  refine k130 ht hv (by omega) lo0 hi0 lo1 hi1 (fun h => ?_) (fun h1 τ hs => ?_)
  · rw [Ko_c (v := 1) rfl rfl]; exact hQ 1 _ _ (qM_1 h) (Or.inr rfl)
  · have hb1 := Int32.le_toInt (i32 (orN (dK K w z)))
    have hb2 := Int32.toInt_lt (i32 (orN (dK K w z)))
    rw [← i32_toInt (i32 (orN (dK K w z)))]
    generalize hu : (i32 (orN (dK K w z))).toInt = u at hb1 hb2 ⊢
    simp (disch := (first | assumption | omega | exact Nat.le_of_ble_eq_true rfl | rfl)) only [w333_8, w333_9, w333_10, w333_17, w333_18, Ko_n, Ko_v, vX_i, vX_r, vX_l, vX_j, reduceIte]
    exact hQ 0 _ _ (qM_0 h1 trivial hs (by rw [hu])) (Or.inl rfl)
theorem r258 {d : Nat} {k B kk w z : Int} {K : Int → Int} {T : Tt} {σ τ : St} {Q : vmO → vmH → Prop} (hI : Inv B σ) (hB : B < 790000000) (hK : σ 1200 382 = K) (lo0 : -2147483648 ≤ w) (hi0 : w < 2147483648) (lo1 : -2147483648 ≤ z) (hi1 : z < 2147483648) (hm : qM σ τ kk (wzI K w z) (True) (fun xx => xx = i64 ((i32 (orN (dK K w z))).toInt))) (hQ : ∀ b ρ, rM ρ B kk (i64 ((i32 b).toInt)) → Q (.inl (some (.int (i32 b)))) (E T ρ)) : Ca (d + 40) k 258 [.ref 382, .int (i32 w), .int (i32 z)] (E T τ) Q := by
  have hv : kV K B := by rw [← hK]; exact hI.1.2.1
  have e : τ 1200 382 = K := by rw [hm.1 1200 382 (by omega)]; exact hK
  exact c258 e hv (by omega) lo0 hi0 lo1 hi1 (fun h ρ f g1 g2 => hQ _ _ (rM_1 hI hm (Or.inl ⟨h, rfl⟩) f (g1.trans hK.symm) g2)) (fun h1 ρ f g1 g2 => hQ _ _ (rM_0 hI hm h1 trivial v_eq rfl f (g1.trans hK.symm) g2))
theorem l336 {d : Nat} {B w z s : Int} {K : Int → Int} {T : Tt} {σ : St} {Q : vmO → vmH → Prop} (hI : Inv B σ) (hB : B < 790000000) (hK : σ 1200 382 = K) (lo0 : -2147483648 ≤ w) (hi0 : w < 2147483648) (lo1 : -2147483648 ≤ z) (hi1 : z < 2147483648) (lo2 : -2147483648 ≤ s) (hi2 : s < 2147483648) (hQ : ∀ kk T' τ, qM σ τ kk (wzI K w z) ((0 ≤ s ∧ s ≤ 99)) (fun xx => xx = i64 ((i32 (orN (sfI K w s.toNat z))).toInt)) → (T' = T ∨ T' = thr T) → Q (.inl (some (.int (i32 kk)))) (E T' τ)) : Ca (d + 40) 4 336 [.ref 0, .int (i32 w), .int (i32 z), .int (i32 s), .ref 405] (E T σ) Q := by
  have ht : tie σ 2 K := by rw [← hK]; exact hI.1.1
  have hv : kV K B := by rw [← hK]; exact hI.1.2.1
  rw [n336 _ _ _ _ _ _ _ _ _ (by omega)]
  simp (disch := (first | assumption | omega | exact Nat.le_of_ble_eq_true rfl | rfl)) only [w336_0, w336_2, w336_3, w336_4, w336_5, w336_6, w336_7, Ko_n, Ko_v, vX_i, vX_r, vX_l, vX_j, reduceIte]
  refine k133 ht hv (by omega) lo0 hi0 lo1 hi1 lo2 hi2 (fun h => ?_) (fun h1 h2 => ?_) (fun h1 h2 τ hs => ?_)
  · rw [Ko_c (v := 1) rfl rfl]; exact hQ 1 _ _ (qM_1 h) (Or.inr rfl)
  · rw [Ko_c (v := 2) rfl rfl]; exact hQ 2 _ _ (qM_2 h1 h2) (Or.inr rfl)
  · have hb1 := Int32.le_toInt (i32 (orN (sfI K w s.toNat z)))
    have hb2 := Int32.toInt_lt (i32 (orN (sfI K w s.toNat z)))
    rw [← i32_toInt (i32 (orN (sfI K w s.toNat z)))]
    generalize hu : (i32 (orN (sfI K w s.toNat z))).toInt = u at hb1 hb2 ⊢
    simp (disch := (first | assumption | omega | exact Nat.le_of_ble_eq_true rfl | rfl)) only [w336_10, w336_11, w336_12, w336_23, w336_24, Ko_n, Ko_v, vX_i, vX_r, vX_l, vX_j, reduceIte]
    exact hQ 0 _ _ (qM_0 h1 h2 hs (by rw [hu])) (Or.inl rfl)
theorem r265 {d : Nat} {k B kk w z s : Int} {K : Int → Int} {T : Tt} {σ τ : St} {Q : vmO → vmH → Prop} (hI : Inv B σ) (hB : B < 790000000) (hK : σ 1200 382 = K) (lo0 : -2147483648 ≤ w) (hi0 : w < 2147483648) (lo1 : -2147483648 ≤ z) (hi1 : z < 2147483648) (lo2 : -2147483648 ≤ s) (hi2 : s < 2147483648) (hm : qM σ τ kk (wzI K w z) ((0 ≤ s ∧ s ≤ 99)) (fun xx => xx = i64 ((i32 (orN (sfI K w s.toNat z))).toInt))) (hQ : ∀ b ρ, rM ρ B kk (i64 ((i32 b).toInt)) → Q (.inl (some (.int (i32 b)))) (E T ρ)) : Ca (d + 40) k 265 [.ref 382, .int (i32 w), .int (i32 z), .int (i32 s)] (E T τ) Q := by
  have hv : kV K B := by rw [← hK]; exact hI.1.2.1
  have e : τ 1200 382 = K := by rw [hm.1 1200 382 (by omega)]; exact hK
  exact c265 e hv (by omega) lo0 hi0 lo1 hi1 lo2 hi2 (fun u hu ρ f g1 g2 => hQ _ _ (rM_1 hI hm hu f (g1.trans hK.symm) g2)) (fun h1 h2 ρ f g1 g2 => hQ _ _ (rM_0 hI hm h1 h2 v_eq rfl f (g1.trans hK.symm) g2))
theorem l337 {d : Nat} {B w z s : Int} {K : Int → Int} {T : Tt} {σ : St} {Q : vmO → vmH → Prop} (hI : Inv B σ) (hB : B < 790000000) (hK : σ 1200 382 = K) (lo0 : -2147483648 ≤ w) (hi0 : w < 2147483648) (lo1 : -2147483648 ≤ z) (hi1 : z < 2147483648) (lo2 : -2147483648 ≤ s) (hi2 : s < 2147483648) (hQ : ∀ kk T' τ, qM σ τ kk (wzI K w z) (0 ≤ s) (fun xx => xx = i64 ((i32 (fst1 (fun i => decide (sfI K w i z < far ∧ sfI K w i z ≤ s)) 37)).toInt)) → (T' = T ∨ T' = thr T) → Q (.inl (some (.int (i32 kk)))) (E T' τ)) : Ca (d + 40) 4 337 [.ref 0, .int (i32 w), .int (i32 z), .int (i32 s), .ref 405] (E T σ) Q := by
  have ht : tie σ 2 K := by rw [← hK]; exact hI.1.1
  have hv : kV K B := by rw [← hK]; exact hI.1.2.1
  rw [n337 _ _ _ _ _ _ _ _ _ (by omega)]
  simp (disch := (first | assumption | omega | exact Nat.le_of_ble_eq_true rfl | rfl)) only [w337_0, w337_2, w337_3, w337_4, w337_5, w337_6, w337_7, Ko_n, Ko_v, vX_i, vX_r, vX_l, vX_j, reduceIte]
  refine k134 ht hv (by omega) lo0 hi0 lo1 hi1 lo2 hi2 (fun h => ?_) (fun h1 h2 => ?_) (fun h1 h2 τ hs => ?_)
  · rw [Ko_c (v := 1) rfl rfl]; exact hQ 1 _ _ (qM_1 h) (Or.inr rfl)
  · rw [Ko_c (v := 2) rfl rfl]; exact hQ 2 _ _ (qM_2 h1 (by omega)) (Or.inr rfl)
  · have hb1 := Int32.le_toInt (i32 (fst1 (fun i => decide (sfI K w i z < far ∧ sfI K w i z ≤ s)) 37))
    have hb2 := Int32.toInt_lt (i32 (fst1 (fun i => decide (sfI K w i z < far ∧ sfI K w i z ≤ s)) 37))
    rw [← i32_toInt (i32 (fst1 (fun i => decide (sfI K w i z < far ∧ sfI K w i z ≤ s)) 37))]
    generalize hu : (i32 (fst1 (fun i => decide (sfI K w i z < far ∧ sfI K w i z ≤ s)) 37)).toInt = u at hb1 hb2 ⊢
    simp (disch := (first | assumption | omega | exact Nat.le_of_ble_eq_true rfl | rfl)) only [w337_10, w337_11, w337_12, w337_23, w337_24, Ko_n, Ko_v, vX_i, vX_r, vX_l, vX_j, reduceIte]
    exact hQ 0 _ _ (qM_0 h1 h2 hs (by rw [hu])) (Or.inl rfl)
theorem r266 {d : Nat} {k B kk w z s : Int} {K : Int → Int} {T : Tt} {σ τ : St} {Q : vmO → vmH → Prop} (hI : Inv B σ) (hB : B < 790000000) (hK : σ 1200 382 = K) (lo0 : -2147483648 ≤ w) (hi0 : w < 2147483648) (lo1 : -2147483648 ≤ z) (hi1 : z < 2147483648) (lo2 : -2147483648 ≤ s) (hi2 : s < 2147483648) (hm : qM σ τ kk (wzI K w z) (0 ≤ s) (fun xx => xx = i64 ((i32 (fst1 (fun i => decide (sfI K w i z < far ∧ sfI K w i z ≤ s)) 37)).toInt))) (hQ : ∀ b ρ, rM ρ B kk (i64 ((i32 b).toInt)) → Q (.inl (some (.int (i32 b)))) (E T ρ)) : Ca (d + 40) k 266 [.ref 382, .int (i32 w), .int (i32 z), .int (i32 s)] (E T τ) Q := by
  have hv : kV K B := by rw [← hK]; exact hI.1.2.1
  have e : τ 1200 382 = K := by rw [hm.1 1200 382 (by omega)]; exact hK
  exact c266 e hv (by omega) lo0 hi0 lo1 hi1 lo2 hi2 (fun u hu ρ f g1 g2 => hQ _ _ (rM_1 hI hm (by rcases hu with hu | hu; exact Or.inl hu; exact Or.inr ⟨hu.1, by omega, hu.2.2⟩) f (g1.trans hK.symm) g2)) (fun h1 h2 ρ f g1 g2 => hQ _ _ (rM_0 hI hm h1 h2 v_eq rfl f (g1.trans hK.symm) g2))
theorem l338 {d : Nat} {B w z s : Int} {K : Int → Int} {T : Tt} {σ : St} {Q : vmO → vmH → Prop} (hI : Inv B σ) (hB : B < 790000000) (hK : σ 1200 382 = K) (lo0 : -2147483648 ≤ w) (hi0 : w < 2147483648) (lo1 : -2147483648 ≤ z) (hi1 : z < 2147483648) (lo2 : -2147483648 ≤ s) (hi2 : s < 2147483648) (hQ : ∀ kk T' τ, qM σ τ kk (wzI K w z) ((0 ≤ s ∧ s ≤ 36)) (fun xx => xx = i64 ((i32 (orN (cdK2 K w s.toNat z))).toInt)) → (T' = T ∨ T' = thr T) → Q (.inl (some (.int (i32 kk)))) (E T' τ)) : Ca (d + 40) 4 338 [.ref 0, .int (i32 w), .int (i32 z), .int (i32 s), .ref 405] (E T σ) Q := by
  have ht : tie σ 2 K := by rw [← hK]; exact hI.1.1
  have hv : kV K B := by rw [← hK]; exact hI.1.2.1
  rw [n338 _ _ _ _ _ _ _ _ _ (by omega)]
  simp (disch := (first | assumption | omega | exact Nat.le_of_ble_eq_true rfl | rfl)) only [w338_0, w338_2, w338_3, w338_4, w338_5, w338_6, w338_7, Ko_n, Ko_v, vX_i, vX_r, vX_l, vX_j, reduceIte]
  refine k135 ht hv (by omega) lo0 hi0 lo1 hi1 lo2 hi2 (fun h => ?_) (fun h1 h2 => ?_) (fun h1 h2 τ hs => ?_)
  · rw [Ko_c (v := 1) rfl rfl]; exact hQ 1 _ _ (qM_1 h) (Or.inr rfl)
  · rw [Ko_c (v := 2) rfl rfl]; exact hQ 2 _ _ (qM_2 h1 h2) (Or.inr rfl)
  · have hb1 := Int32.le_toInt (i32 (orN (cdK2 K w s.toNat z)))
    have hb2 := Int32.toInt_lt (i32 (orN (cdK2 K w s.toNat z)))
    rw [← i32_toInt (i32 (orN (cdK2 K w s.toNat z)))]
    generalize hu : (i32 (orN (cdK2 K w s.toNat z))).toInt = u at hb1 hb2 ⊢
    simp (disch := (first | assumption | omega | exact Nat.le_of_ble_eq_true rfl | rfl)) only [w338_10, w338_11, w338_12, w338_23, w338_24, Ko_n, Ko_v, vX_i, vX_r, vX_l, vX_j, reduceIte]
    exact hQ 0 _ _ (qM_0 h1 h2 hs (by rw [hu])) (Or.inl rfl)
theorem r268 {d : Nat} {k B kk w z s : Int} {K : Int → Int} {T : Tt} {σ τ : St} {Q : vmO → vmH → Prop} (hI : Inv B σ) (hB : B < 790000000) (hK : σ 1200 382 = K) (lo0 : -2147483648 ≤ w) (hi0 : w < 2147483648) (lo1 : -2147483648 ≤ z) (hi1 : z < 2147483648) (lo2 : -2147483648 ≤ s) (hi2 : s < 2147483648) (hm : qM σ τ kk (wzI K w z) ((0 ≤ s ∧ s ≤ 36)) (fun xx => xx = i64 ((i32 (orN (cdK2 K w s.toNat z))).toInt))) (hQ : ∀ b ρ, rM ρ B kk (i64 ((i32 b).toInt)) → Q (.inl (some (.int (i32 b)))) (E T ρ)) : Ca (d + 40) k 268 [.ref 382, .int (i32 w), .int (i32 z), .int (i32 s)] (E T τ) Q := by
  have hv : kV K B := by rw [← hK]; exact hI.1.2.1
  have e : τ 1200 382 = K := by rw [hm.1 1200 382 (by omega)]; exact hK
  exact c268 e hv (by omega) lo0 hi0 lo1 hi1 lo2 hi2 (fun u hu ρ f g1 g2 => hQ _ _ (rM_1 hI hm hu f (g1.trans hK.symm) g2)) (fun h1 h2 ρ f g1 g2 => hQ _ _ (rM_0 hI hm h1 h2 v_eq rfl f (g1.trans hK.symm) g2))
theorem l339 {d : Nat} {B w z s wh : Int} {K : Int → Int} {T : Tt} {σ : St} {Q : vmO → vmH → Prop} (hI : Inv B σ) (hB : B < 790000000) (hK : σ 1200 382 = K) (lo0 : -2147483648 ≤ w) (hi0 : w < 2147483648) (lo1 : -2147483648 ≤ z) (hi1 : z < 2147483648) (lo2 : -2147483648 ≤ s) (hi2 : s < 2147483648) (lo3 : -2147483648 ≤ wh) (hi3 : wh < 2147483648) (hQ : ∀ kk T' τ, qM σ τ kk (wzI K w z) ((0 ≤ s ∧ 0 ≤ wh ∧ wh ≤ 1)) (fun xx => xx = i64 ((i32 (cfK K w z s wh)).toInt)) → (T' = T ∨ T' = thr T) → Q (.inl (some (.int (i32 kk)))) (E T' τ)) : Ca (d + 40) 4 339 [.ref 0, .int (i32 w), .int (i32 z), .int (i32 s), .int (i32 wh), .ref 405] (E T σ) Q := by
  have ht : tie σ 2 K := by rw [← hK]; exact hI.1.1
  have hv : kV K B := by rw [← hK]; exact hI.1.2.1
  rw [n339 _ _ _ _ _ _ _ _ _ _ (by omega)]
  simp (disch := (first | assumption | omega | exact Nat.le_of_ble_eq_true rfl | rfl)) only [w339_0, w339_2, w339_3, w339_4, w339_5, w339_6, w339_7, w339_9, Ko_n, Ko_v, vX_i, vX_r, vX_l, vX_j, reduceIte]
  refine k136 ht hv (by omega) lo0 hi0 lo1 hi1 lo2 hi2 lo3 hi3 (fun h => ?_) (fun h1 h2 => ?_) (fun h1 h2 τ hs => ?_)
  · rw [Ko_c (v := 1) rfl rfl]; exact hQ 1 _ _ (qM_1 h) (Or.inr rfl)
  · rw [Ko_c (v := 2) rfl rfl]; exact hQ 2 _ _ (qM_2 h1 h2) (Or.inr rfl)
  · have hb1 := Int32.le_toInt (i32 (cfK K w z s wh))
    have hb2 := Int32.toInt_lt (i32 (cfK K w z s wh))
    rw [← i32_toInt (i32 (cfK K w z s wh))]
    generalize hu : (i32 (cfK K w z s wh)).toInt = u at hb1 hb2 ⊢
    simp (disch := (first | assumption | omega | exact Nat.le_of_ble_eq_true rfl | rfl)) only [w339_12, w339_13, w339_14, w339_25, w339_26, Ko_n, Ko_v, vX_i, vX_r, vX_l, vX_j, reduceIte]
    exact hQ 0 _ _ (qM_0 h1 h2 hs (by rw [hu])) (Or.inl rfl)
theorem r269 {d : Nat} {k B kk w z s wh : Int} {K : Int → Int} {T : Tt} {σ τ : St} {Q : vmO → vmH → Prop} (hI : Inv B σ) (hB : B < 790000000) (hK : σ 1200 382 = K) (lo0 : -2147483648 ≤ w) (hi0 : w < 2147483648) (lo1 : -2147483648 ≤ z) (hi1 : z < 2147483648) (lo2 : -2147483648 ≤ s) (hi2 : s < 2147483648) (lo3 : -2147483648 ≤ wh) (hi3 : wh < 2147483648) (hm : qM σ τ kk (wzI K w z) ((0 ≤ s ∧ 0 ≤ wh ∧ wh ≤ 1)) (fun xx => xx = i64 ((i32 (cfK K w z s wh)).toInt))) (hQ : ∀ b ρ, rM ρ B kk (i64 ((i32 b).toInt)) → Q (.inl (some (.int (i32 b)))) (E T ρ)) : Ca (d + 40) k 269 [.ref 382, .int (i32 w), .int (i32 z), .int (i32 s), .int (i32 wh)] (E T τ) Q := by
  have hv : kV K B := by rw [← hK]; exact hI.1.2.1
  have e : τ 1200 382 = K := by rw [hm.1 1200 382 (by omega)]; exact hK
  exact c269 e hv (by omega) lo0 hi0 lo1 hi1 lo2 hi2 lo3 hi3 (fun u hu ρ f g1 g2 => hQ _ _ (rM_1 hI hm hu f (g1.trans hK.symm) g2)) (fun h1 h2 ρ f g1 g2 => hQ _ _ (rM_0 hI hm h1 h2 v_eq rfl f (g1.trans hK.symm) g2))
theorem l340 {d : Nat} {B w c : Int} {K : Int → Int} {T : Tt} {σ : St} {Q : vmO → vmH → Prop} (hI : Inv B σ) (hB : B < 790000000) (hK : σ 1200 382 = K) (lo0 : -2147483648 ≤ w) (hi0 : w < 2147483648) (lo1 : -2147483648 ≤ c) (hi1 : c < 2147483648) (hQ : ∀ kk T' τ, qM σ τ kk ((0 ≤ w ∧ w < K 3)) (0 ≤ c) (fun xx => xx = bs (rcB (dK K w) c (nK K))) → (T' = T ∨ T' = thr T) → Q (.inl (some (.int (i32 kk)))) (E T' τ)) : Ca (d + 40) 4 340 [.ref 0, .int (i32 w), .int (i32 c), .ref 405] (E T σ) Q := by
  have ht : tie σ 2 K := by rw [← hK]; exact hI.1.1
  have hv : kV K B := by rw [← hK]; exact hI.1.2.1
  rw [n340 _ _ _ _ _ _ _ _ (by omega)]
  simp (disch := (first | assumption | omega | exact Nat.le_of_ble_eq_true rfl | rfl)) only [w340_0, w340_1, w340_2, w340_3, w340_4, w340_5, Ko_n, Ko_v, vX_i, vX_r, vX_l, vX_j, reduceIte]
  refine k137 ht hv (by omega) lo0 hi0 lo1 hi1 (fun h => ?_) (fun h1 h2 => ?_) (fun h1 h2 τ hs => ?_)
  · rw [Ko_c (v := 1) rfl rfl]; exact hQ 1 _ _ (qM_1 h) (Or.inr rfl)
  · rw [Ko_c (v := 2) rfl rfl]; exact hQ 2 _ _ (qM_2 h1 (by omega)) (Or.inr rfl)
  · simp (disch := (first | assumption | omega | exact Nat.le_of_ble_eq_true rfl | rfl)) only [w340_8, w340_9, w340_20, w340_21, Ko_n, Ko_v, vX_i, vX_r, vX_l, vX_j, reduceIte]
    exact hQ 0 _ _ (qM_0 h1 h2 hs rfl) (Or.inl rfl)
theorem r270 {d : Nat} {k B kk w c : Int} {K : Int → Int} {T : Tt} {σ τ : St} {Q : vmO → vmH → Prop} (hI : Inv B σ) (hB : B < 790000000) (hK : σ 1200 382 = K) (lo0 : -2147483648 ≤ w) (hi0 : w < 2147483648) (lo1 : -2147483648 ≤ c) (hi1 : c < 2147483648) (hm : qM σ τ kk ((0 ≤ w ∧ w < K 3)) (0 ≤ c) (fun xx => xx = bs (rcB (dK K w) c (nK K)))) (hQ : ∀ b ρ, rM ρ B kk (b) → Q (.inl (some (.long b))) (E T ρ)) : Ca (d + 40) k 270 [.ref 382, .int (i32 w), .int (i32 c)] (E T τ) Q := by
  have hv : kV K B := by rw [← hK]; exact hI.1.2.1
  have e : τ 1200 382 = K := by rw [hm.1 1200 382 (by omega)]; exact hK
  exact c270 e hv (by omega) lo0 hi0 lo1 hi1 (fun u hu ρ f g1 g2 => hQ _ _ (rM_1 hI hm (by rcases hu with hu | hu; exact Or.inl hu; exact Or.inr ⟨hu.1, by omega, hu.2.2⟩) f (g1.trans hK.symm) g2)) (fun h1 h2 ρ f g1 g2 => hQ _ _ (rM_0 hI hm h1 h2 v_eq rfl f (g1.trans hK.symm) g2))
theorem l341 {d : Nat} {B w : Int} {K : Int → Int} {T : Tt} {σ : St} {Q : vmO → vmH → Prop} (hI : Inv B σ) (hB : B < 790000000) (hK : σ 1200 382 = K) (lo0 : -2147483648 ≤ w) (hi0 : w < 2147483648) (hQ : ∀ kk T' τ, qM σ τ kk ((0 ≤ w ∧ w < K 3)) (True) (fun xx => xx = i64 ((i32 ((ftI (dK K w) (K (79 + w)) (nK K)).2)).toInt)) → (T' = T ∨ T' = thr T) → Q (.inl (some (.int (i32 kk)))) (E T' τ)) : Ca (d + 40) 4 341 [.ref 0, .int (i32 w), .ref 405] (E T σ) Q := by
  have ht : tie σ 2 K := by rw [← hK]; exact hI.1.1
  have hv : kV K B := by rw [← hK]; exact hI.1.2.1
  rw [n341 _ _ _ _ _ _ _ (by omega)]
  simp (disch := (first | assumption | omega | exact Nat.le_of_ble_eq_true rfl | rfl)) only [w341_0, w341_1, w341_2, w341_3, w341_4, Ko_n, Ko_v, vX_i, vX_r, vX_l, vX_j, reduceIte]
  refine k138 ht hv (by omega) lo0 hi0 (fun h => ?_) (fun h1 τ hs => ?_)
  · rw [Ko_c (v := 1) rfl rfl]; exact hQ 1 _ _ (qM_1 h) (Or.inr rfl)
  · have hb1 := Int32.le_toInt (i32 ((ftI (dK K w) (K (79 + w)) (nK K)).2))
    have hb2 := Int32.toInt_lt (i32 ((ftI (dK K w) (K (79 + w)) (nK K)).2))
    rw [← i32_toInt (i32 ((ftI (dK K w) (K (79 + w)) (nK K)).2))]
    generalize hu : (i32 ((ftI (dK K w) (K (79 + w)) (nK K)).2)).toInt = u at hb1 hb2 ⊢
    simp (disch := (first | assumption | omega | exact Nat.le_of_ble_eq_true rfl | rfl)) only [w341_7, w341_8, w341_9, w341_15, w341_16, Ko_n, Ko_v, vX_i, vX_r, vX_l, vX_j, reduceIte]
    exact hQ 0 _ _ (qM_0 h1 trivial hs (by rw [hu])) (Or.inl rfl)
theorem r271 {d : Nat} {k B kk w : Int} {K : Int → Int} {T : Tt} {σ τ : St} {Q : vmO → vmH → Prop} (hI : Inv B σ) (hB : B < 790000000) (hK : σ 1200 382 = K) (lo0 : -2147483648 ≤ w) (hi0 : w < 2147483648) (hm : qM σ τ kk ((0 ≤ w ∧ w < K 3)) (True) (fun xx => xx = i64 ((i32 ((ftI (dK K w) (K (79 + w)) (nK K)).2)).toInt))) (hQ : ∀ b ρ, rM ρ B kk (i64 ((i32 b).toInt)) → Q (.inl (some (.int (i32 b)))) (E T ρ)) : Ca (d + 40) k 271 [.ref 382, .int (i32 w)] (E T τ) Q := by
  have hv : kV K B := by rw [← hK]; exact hI.1.2.1
  have e : τ 1200 382 = K := by rw [hm.1 1200 382 (by omega)]; exact hK
  exact c271 e hv (by omega) lo0 hi0 (fun h ρ f g1 g2 => hQ _ _ (rM_1 hI hm (Or.inl ⟨h, rfl⟩) f (g1.trans hK.symm) g2)) (fun h1 ρ f g1 g2 => hQ _ _ (rM_0 hI hm h1 trivial v_eq rfl f (g1.trans hK.symm) g2))
theorem l342 {d : Nat} {B w wh : Int} {K : Int → Int} {T : Tt} {σ : St} {Q : vmO → vmH → Prop} (hI : Inv B σ) (hB : B < 790000000) (hK : σ 1200 382 = K) (lo0 : -2147483648 ≤ w) (hi0 : w < 2147483648) (lo1 : -2147483648 ≤ wh) (hi1 : wh < 2147483648) (hQ : ∀ kk T' τ, qM σ τ kk ((0 ≤ w ∧ w < K 3)) ((0 ≤ wh ∧ wh ≤ 2)) (fun xx => xx = i64 ((i32 (rnA (rdK K w (fun i => i) (K (93 + w)).toNat) wh)).toInt)) → (T' = T ∨ T' = thr T) → Q (.inl (some (.int (i32 kk)))) (E T' τ)) : Ca (d + 40) 4 342 [.ref 0, .int (i32 w), .int (i32 wh), .ref 405] (E T σ) Q := by
  have ht : tie σ 2 K := by rw [← hK]; exact hI.1.1
  have hv : kV K B := by rw [← hK]; exact hI.1.2.1
  rw [n342 _ _ _ _ _ _ _ _ (by omega)]
  simp (disch := (first | assumption | omega | exact Nat.le_of_ble_eq_true rfl | rfl)) only [w342_0, w342_1, w342_2, w342_3, w342_4, w342_5, Ko_n, Ko_v, vX_i, vX_r, vX_l, vX_j, reduceIte]
  refine k139 ht hv (by omega) lo0 hi0 lo1 hi1 (fun h => ?_) (fun h1 h2 => ?_) (fun h1 h2 τ hs => ?_)
  · rw [Ko_c (v := 1) rfl rfl]; exact hQ 1 _ _ (qM_1 h) (Or.inr rfl)
  · rw [Ko_c (v := 2) rfl rfl]; exact hQ 2 _ _ (qM_2 h1 h2) (Or.inr rfl)
  · have hb1 := Int32.le_toInt (i32 (rnA (rdK K w (fun i => i) (K (93 + w)).toNat) wh))
    have hb2 := Int32.toInt_lt (i32 (rnA (rdK K w (fun i => i) (K (93 + w)).toNat) wh))
    rw [← i32_toInt (i32 (rnA (rdK K w (fun i => i) (K (93 + w)).toNat) wh))]
    generalize hu : (i32 (rnA (rdK K w (fun i => i) (K (93 + w)).toNat) wh)).toInt = u at hb1 hb2 ⊢
    simp (disch := (first | assumption | omega | exact Nat.le_of_ble_eq_true rfl | rfl)) only [w342_8, w342_9, w342_10, w342_21, w342_22, Ko_n, Ko_v, vX_i, vX_r, vX_l, vX_j, reduceIte]
    exact hQ 0 _ _ (qM_0 h1 h2 hs (by rw [hu])) (Or.inl rfl)
theorem r273 {d : Nat} {k B kk w wh : Int} {K : Int → Int} {T : Tt} {σ τ : St} {Q : vmO → vmH → Prop} (hI : Inv B σ) (hB : B < 790000000) (hK : σ 1200 382 = K) (lo0 : -2147483648 ≤ w) (hi0 : w < 2147483648) (lo1 : -2147483648 ≤ wh) (hi1 : wh < 2147483648) (hm : qM σ τ kk ((0 ≤ w ∧ w < K 3)) ((0 ≤ wh ∧ wh ≤ 2)) (fun xx => xx = i64 ((i32 (rnA (rdK K w (fun i => i) (K (93 + w)).toNat) wh)).toInt))) (hQ : ∀ b ρ, rM ρ B kk (i64 ((i32 b).toInt)) → Q (.inl (some (.int (i32 b)))) (E T ρ)) : Ca (d + 40) k 273 [.ref 382, .int (i32 w), .int (i32 wh)] (E T τ) Q := by
  have hv : kV K B := by rw [← hK]; exact hI.1.2.1
  have e : τ 1200 382 = K := by rw [hm.1 1200 382 (by omega)]; exact hK
  exact c273 e hv (by omega) lo0 hi0 lo1 hi1 (fun u hu ρ f g1 g2 => hQ _ _ (rM_1 hI hm hu f (g1.trans hK.symm) g2)) (fun h1 h2 ρ f g1 g2 => hQ _ _ (rM_0 hI hm h1 h2 v_eq rfl f (g1.trans hK.symm) g2))
theorem l343 {d : Nat} {B w wh : Int} {K : Int → Int} {T : Tt} {σ : St} {Q : vmO → vmH → Prop} (hI : Inv B σ) (hB : B < 790000000) (hK : σ 1200 382 = K) (lo0 : -2147483648 ≤ w) (hi0 : w < 2147483648) (lo1 : -2147483648 ≤ wh) (hi1 : wh < 2147483648) (hQ : ∀ kk T' τ, qM σ τ kk ((0 ≤ w ∧ w < K 3)) (boV wh) (fun xx => xx = i64 ((i32 (boA (boK K w) (K (93 + w)).toNat wh)).toInt)) → (T' = T ∨ T' = thr T) → Q (.inl (some (.int (i32 kk)))) (E T' τ)) : Ca (d + 40) 4 343 [.ref 0, .int (i32 w), .int (i32 wh), .ref 405] (E T σ) Q := by
  have ht : tie σ 2 K := by rw [← hK]; exact hI.1.1
  have hv : kV K B := by rw [← hK]; exact hI.1.2.1
  rw [n343 _ _ _ _ _ _ _ _ (by omega)]
  simp (disch := (first | assumption | omega | exact Nat.le_of_ble_eq_true rfl | rfl)) only [w343_0, w343_1, w343_2, w343_3, w343_4, w343_5, Ko_n, Ko_v, vX_i, vX_r, vX_l, vX_j, reduceIte]
  refine k140 ht hv (by omega) lo0 hi0 lo1 hi1 (fun h => ?_) (fun h1 h2 => ?_) (fun h1 h2 τ hs => ?_)
  · rw [Ko_c (v := 1) rfl rfl]; exact hQ 1 _ _ (qM_1 h) (Or.inr rfl)
  · rw [Ko_c (v := 2) rfl rfl]; exact hQ 2 _ _ (qM_2 h1 h2) (Or.inr rfl)
  · have hb1 := Int32.le_toInt (i32 (boA (boK K w) (K (93 + w)).toNat wh))
    have hb2 := Int32.toInt_lt (i32 (boA (boK K w) (K (93 + w)).toNat wh))
    rw [← i32_toInt (i32 (boA (boK K w) (K (93 + w)).toNat wh))]
    generalize hu : (i32 (boA (boK K w) (K (93 + w)).toNat wh)).toInt = u at hb1 hb2 ⊢
    simp (disch := (first | assumption | omega | exact Nat.le_of_ble_eq_true rfl | rfl)) only [w343_8, w343_9, w343_10, w343_21, w343_22, Ko_n, Ko_v, vX_i, vX_r, vX_l, vX_j, reduceIte]
    exact hQ 0 _ _ (qM_0 h1 h2 hs (by rw [hu])) (Or.inl rfl)
theorem r275 {d : Nat} {k B kk w wh : Int} {K : Int → Int} {T : Tt} {σ τ : St} {Q : vmO → vmH → Prop} (hI : Inv B σ) (hB : B < 790000000) (hK : σ 1200 382 = K) (lo0 : -2147483648 ≤ w) (hi0 : w < 2147483648) (lo1 : -2147483648 ≤ wh) (hi1 : wh < 2147483648) (hm : qM σ τ kk ((0 ≤ w ∧ w < K 3)) (boV wh) (fun xx => xx = i64 ((i32 (boA (boK K w) (K (93 + w)).toNat wh)).toInt))) (hQ : ∀ b ρ, rM ρ B kk (i64 ((i32 b).toInt)) → Q (.inl (some (.int (i32 b)))) (E T ρ)) : Ca (d + 40) k 275 [.ref 382, .int (i32 w), .int (i32 wh)] (E T τ) Q := by
  have hv : kV K B := by rw [← hK]; exact hI.1.2.1
  have e : τ 1200 382 = K := by rw [hm.1 1200 382 (by omega)]; exact hK
  exact c275 e hv (by omega) lo0 hi0 lo1 hi1 (fun u hu ρ f g1 g2 => hQ _ _ (rM_1 hI hm hu f (g1.trans hK.symm) g2)) (fun h1 h2 ρ f g1 g2 => hQ _ _ (rM_0 hI hm h1 h2 v_eq rfl f (g1.trans hK.symm) g2))
theorem l344 {d : Nat} {B w v z y : Int} {K : Int → Int} {T : Tt} {σ : St} {Q : vmO → vmH → Prop} (hI : Inv B σ) (hB : B < 790000000) (hK : σ 1200 382 = K) (lo0 : -2147483648 ≤ w) (hi0 : w < 2147483648) (lo1 : -2147483648 ≤ v) (hi1 : v < 2147483648) (hz : z = 0 ∨ z = 1) (lo3 : -2147483648 ≤ y) (hi3 : y < 2147483648) (hQ : ∀ kk T' τ, qM σ τ kk (((0 ≤ w ∧ w < K 3) ∧ 0 ≤ v ∧ v < K 3)) ((w ≠ v ∧ 0 ≤ y ∧ y ≤ 1)) (fun xx => xx = i64 ((i32 (mtR K w v z y)).toInt)) → (T' = T ∨ T' = thr T) → Q (.inl (some (.int (i32 kk)))) (E T' τ)) : Ca (d + 40) 4 344 [.ref 0, .int (i32 w), .int (i32 v), .int (i32 z), .int (i32 y), .ref 405] (E T σ) Q := by
  have ht : tie σ 2 K := by rw [← hK]; exact hI.1.1
  have hv : kV K B := by rw [← hK]; exact hI.1.2.1
  rw [n344 _ _ _ _ _ _ _ _ _ _ (by omega)]
  simp (disch := (first | assumption | omega | exact Nat.le_of_ble_eq_true rfl | rfl)) only [w344_0, w344_2, w344_3, w344_4, w344_5, w344_6, w344_7, w344_9, Ko_n, Ko_v, vX_i, vX_r, vX_l, vX_j, reduceIte]
  refine k141 ht hv (by omega) lo0 hi0 lo1 hi1 hz lo3 hi3 (fun h => ?_) (fun h1 h2 => ?_) (fun h1 h2 τ hs => ?_)
  · rw [Ko_c (v := 1) rfl rfl]; exact hQ 1 _ _ (qM_1 h) (Or.inr rfl)
  · rw [Ko_c (v := 2) rfl rfl]; exact hQ 2 _ _ (qM_2 h1 h2) (Or.inr rfl)
  · have hb1 := Int32.le_toInt (i32 (mtR K w v z y))
    have hb2 := Int32.toInt_lt (i32 (mtR K w v z y))
    rw [← i32_toInt (i32 (mtR K w v z y))]
    generalize hu : (i32 (mtR K w v z y)).toInt = u at hb1 hb2 ⊢
    simp (disch := (first | assumption | omega | exact Nat.le_of_ble_eq_true rfl | rfl)) only [w344_12, w344_13, w344_14, w344_25, w344_26, Ko_n, Ko_v, vX_i, vX_r, vX_l, vX_j, reduceIte]
    exact hQ 0 _ _ (qM_0 h1 h2 hs (by rw [hu])) (Or.inl rfl)
theorem r276 {d : Nat} {k B kk w v z y : Int} {K : Int → Int} {T : Tt} {σ τ : St} {Q : vmO → vmH → Prop} (hI : Inv B σ) (hB : B < 790000000) (hK : σ 1200 382 = K) (lo0 : -2147483648 ≤ w) (hi0 : w < 2147483648) (lo1 : -2147483648 ≤ v) (hi1 : v < 2147483648) (hz : z = 0 ∨ z = 1) (lo3 : -2147483648 ≤ y) (hi3 : y < 2147483648) (hm : qM σ τ kk (((0 ≤ w ∧ w < K 3) ∧ 0 ≤ v ∧ v < K 3)) ((w ≠ v ∧ 0 ≤ y ∧ y ≤ 1)) (fun xx => xx = i64 ((i32 (mtR K w v z y)).toInt))) (hQ : ∀ b ρ, rM ρ B kk (i64 ((i32 b).toInt)) → Q (.inl (some (.int (i32 b)))) (E T ρ)) : Ca (d + 40) k 276 [.ref 382, .int (i32 w), .int (i32 v), .int (i32 z), .int (i32 y)] (E T τ) Q := by
  have hv : kV K B := by rw [← hK]; exact hI.1.2.1
  have e : τ 1200 382 = K := by rw [hm.1 1200 382 (by omega)]; exact hK
  exact c276 e hv (by omega) lo0 hi0 lo1 hi1 hz lo3 hi3 (fun u hu ρ f g1 g2 => hQ _ _ (rM_1 hI hm hu f (g1.trans hK.symm) g2)) (fun h1 h2 ρ f g1 g2 => hQ _ _ (rM_0 hI hm h1 h2 v_eq rfl f (g1.trans hK.symm) g2))
theorem l345 {d : Nat} {B z : Int} {K : Int → Int} {T : Tt} {σ : St} {Q : vmO → vmH → Prop} (hI : Inv B σ) (hB : B < 790000000) (hK : σ 1200 382 = K) (lo0 : -2147483648 ≤ z) (hi0 : z < 2147483648) (hQ : ∀ kk T' τ, qM σ τ kk ((0 ≤ z ∧ z < K 1 * K 2)) (True) (fun xx => xx = i64 ((i32 ((fsI (fun w => dK K w z) (K 3).toNat).2)).toInt)) → (T' = T ∨ T' = thr T) → Q (.inl (some (.int (i32 kk)))) (E T' τ)) : Ca (d + 40) 4 345 [.ref 0, .int (i32 z), .ref 405] (E T σ) Q := by
  have ht : tie σ 2 K := by rw [← hK]; exact hI.1.1
  have hv : kV K B := by rw [← hK]; exact hI.1.2.1
  rw [n345 _ _ _ _ _ _ _ (by omega)]
  simp (disch := (first | assumption | omega | exact Nat.le_of_ble_eq_true rfl | rfl)) only [w345_0, w345_1, w345_2, w345_3, w345_4, Ko_n, Ko_v, vX_i, vX_r, vX_l, vX_j, reduceIte]
  refine k142 ht hv (by omega) lo0 hi0 (fun h => ?_) (fun h1 τ hs => ?_)
  · rw [Ko_c (v := 1) rfl rfl]; exact hQ 1 _ _ (qM_1 h) (Or.inr rfl)
  · have hb1 := Int32.le_toInt (i32 ((fsI (fun w => dK K w z) (K 3).toNat).2))
    have hb2 := Int32.toInt_lt (i32 ((fsI (fun w => dK K w z) (K 3).toNat).2))
    rw [← i32_toInt (i32 ((fsI (fun w => dK K w z) (K 3).toNat).2))]
    generalize hu : (i32 ((fsI (fun w => dK K w z) (K 3).toNat).2)).toInt = u at hb1 hb2 ⊢
    simp (disch := (first | assumption | omega | exact Nat.le_of_ble_eq_true rfl | rfl)) only [w345_7, w345_8, w345_9, w345_15, w345_16, Ko_n, Ko_v, vX_i, vX_r, vX_l, vX_j, reduceIte]
    exact hQ 0 _ _ (qM_0 h1 trivial hs (by rw [hu])) (Or.inl rfl)
theorem r277 {d : Nat} {k B kk z : Int} {K : Int → Int} {T : Tt} {σ τ : St} {Q : vmO → vmH → Prop} (hI : Inv B σ) (hB : B < 790000000) (hK : σ 1200 382 = K) (lo0 : -2147483648 ≤ z) (hi0 : z < 2147483648) (hm : qM σ τ kk ((0 ≤ z ∧ z < K 1 * K 2)) (True) (fun xx => xx = i64 ((i32 ((fsI (fun w => dK K w z) (K 3).toNat).2)).toInt))) (hQ : ∀ b ρ, rM ρ B kk (i64 ((i32 b).toInt)) → Q (.inl (some (.int (i32 b)))) (E T ρ)) : Ca (d + 40) k 277 [.ref 382, .int (i32 z)] (E T τ) Q := by
  have hv : kV K B := by rw [← hK]; exact hI.1.2.1
  have e : τ 1200 382 = K := by rw [hm.1 1200 382 (by omega)]; exact hK
  exact c277 e hv (by omega) lo0 hi0 (fun h ρ f g1 g2 => hQ _ _ (rM_1 hI hm (Or.inl ⟨h, rfl⟩) f (g1.trans hK.symm) g2)) (fun h1 ρ f g1 g2 => hQ _ _ (rM_0 hI hm h1 trivial v_eq rfl f (g1.trans hK.symm) g2))
theorem l346 {d : Nat} {B w : Int} {K : Int → Int} {T : Tt} {σ : St} {Q : vmO → vmH → Prop} (hI : Inv B σ) (hB : B < 790000000) (hK : σ 1200 382 = K) (lo0 : -2147483648 ≤ w) (hi0 : w < 2147483648) (hQ : ∀ kk T' τ, qM σ τ kk ((0 ≤ w ∧ w < K 3)) (True) (fun xx => xx = bs (owB (dK K w) (owI (dK K) w (K 3).toNat) (nK K))) → (T' = T ∨ T' = thr T) → Q (.inl (some (.int (i32 kk)))) (E T' τ)) : Ca (d + 40) 4 346 [.ref 0, .int (i32 w), .ref 405] (E T σ) Q := by
  have ht : tie σ 2 K := by rw [← hK]; exact hI.1.1
  have hv : kV K B := by rw [← hK]; exact hI.1.2.1
  rw [n346 _ _ _ _ _ _ _ (by omega)]
  simp (disch := (first | assumption | omega | exact Nat.le_of_ble_eq_true rfl | rfl)) only [w346_0, w346_1, w346_2, w346_3, w346_4, Ko_n, Ko_v, vX_i, vX_r, vX_l, vX_j, reduceIte]
  refine k143 ht hv (by omega) lo0 hi0 (fun h => ?_) (fun h1 τ hs => ?_)
  · rw [Ko_c (v := 1) rfl rfl]; exact hQ 1 _ _ (qM_1 h) (Or.inr rfl)
  · simp (disch := (first | assumption | omega | exact Nat.le_of_ble_eq_true rfl | rfl)) only [w346_7, w346_8, w346_14, w346_15, Ko_n, Ko_v, vX_i, vX_r, vX_l, vX_j, reduceIte]
    exact hQ 0 _ _ (qM_0 h1 trivial hs rfl) (Or.inl rfl)
theorem r278 {d : Nat} {k B kk w : Int} {K : Int → Int} {T : Tt} {σ τ : St} {Q : vmO → vmH → Prop} (hI : Inv B σ) (hB : B < 790000000) (hK : σ 1200 382 = K) (lo0 : -2147483648 ≤ w) (hi0 : w < 2147483648) (hm : qM σ τ kk ((0 ≤ w ∧ w < K 3)) (True) (fun xx => xx = bs (owB (dK K w) (owI (dK K) w (K 3).toNat) (nK K)))) (hQ : ∀ b ρ, rM ρ B kk (b) → Q (.inl (some (.long b))) (E T ρ)) : Ca (d + 40) k 278 [.ref 382, .int (i32 w)] (E T τ) Q := by
  have hv : kV K B := by rw [← hK]; exact hI.1.2.1
  have e : τ 1200 382 = K := by rw [hm.1 1200 382 (by omega)]; exact hK
  exact c278 e hv (by omega) lo0 hi0 (fun h ρ f g1 g2 => hQ _ _ (rM_1 hI hm (Or.inl ⟨h, rfl⟩) f (g1.trans hK.symm) g2)) (fun h1 ρ f g1 g2 => hQ _ _ (rM_0 hI hm h1 trivial v_eq rfl f (g1.trans hK.symm) g2))
theorem l348 {d : Nat} {B w z : Int} {K : Int → Int} {T : Tt} {σ : St} {Q : vmO → vmH → Prop} (hI : Inv B σ) (hB : B < 790000000) (hK : σ 1200 382 = K) (lo0 : -2147483648 ≤ w) (hi0 : w < 2147483648) (lo1 : -2147483648 ≤ z) (hi1 : z < 2147483648) (hQ : ∀ kk T' τ, qM σ τ kk (wzI K w z) (True) (fun xx => xx = (if dK K w z < far then bs (ndR K w z) else i64 0)) → (T' = T ∨ T' = thr T) → Q (.inl (some (.int (i32 kk)))) (E T' τ)) : Ca (d + 40) 4 348 [.ref 0, .int (i32 w), .int (i32 z), .ref 405] (E T σ) Q := by
  have ht : tie σ 2 K := by rw [← hK]; exact hI.1.1
  have hv : kV K B := by rw [← hK]; exact hI.1.2.1
  rw [n348 _ _ _ _ _ _ _ _ (by omega)]
  simp (disch := (first | assumption | omega | exact Nat.le_of_ble_eq_true rfl | rfl)) only [w348_0, w348_1, w348_2, w348_3, w348_4, w348_5, Ko_n, Ko_v, vX_i, vX_r, vX_l, vX_j, reduceIte]
  refine k145 ht hv (by omega) lo0 hi0 lo1 hi1 (fun h => ?_) (fun h1 => ?_)
  · rw [Ko_c (v := 1) rfl rfl]; exact hQ 1 _ _ (qM_1 h) (Or.inr rfl)
  · simp (disch := (first | assumption | omega | exact Nat.le_of_ble_eq_true rfl | rfl)) only [w348_8, w348_9, w348_16, w348_17, Ko_n, Ko_v, vX_i, vX_r, vX_l, vX_j, reduceIte]
    exact hQ 0 _ _ (qM_0 h1 trivial sg_r rfl) (Or.inl rfl)
theorem r283 {d : Nat} {k B kk w z : Int} {K : Int → Int} {T : Tt} {σ τ : St} {Q : vmO → vmH → Prop} (hI : Inv B σ) (hB : B < 790000000) (hK : σ 1200 382 = K) (lo0 : -2147483648 ≤ w) (hi0 : w < 2147483648) (lo1 : -2147483648 ≤ z) (hi1 : z < 2147483648) (hm : qM σ τ kk (wzI K w z) (True) (fun xx => xx = (if dK K w z < far then bs (ndR K w z) else i64 0))) (hQ : ∀ b ρ, rM ρ B kk (b) → Q (.inl (some (.long b))) (E T ρ)) : Ca (d + 40) k 283 [.ref 382, .int (i32 w), .int (i32 z)] (E T τ) Q := by
  have hv : kV K B := by rw [← hK]; exact hI.1.2.1
  have e : τ 1200 382 = K := by rw [hm.1 1200 382 (by omega)]; exact hK
  exact c283 e hv (by omega) lo0 hi0 lo1 hi1 (fun h ρ f g1 g2 => hQ _ _ (rM_1 hI hm (Or.inl ⟨h, rfl⟩) f (g1.trans hK.symm) g2)) (fun h1 ρ f g1 g2 => hQ _ _ (rM_0 hI hm h1 trivial v_eq rfl f (g1.trans hK.symm) g2))
theorem l349 {d : Nat} {B w z : Int} {K : Int → Int} {T : Tt} {σ : St} {Q : vmO → vmH → Prop} (hI : Inv B σ) (hB : B < 790000000) (hK : σ 1200 382 = K) (lo0 : -2147483648 ≤ w) (hi0 : w < 2147483648) (lo1 : -2147483648 ≤ z) (hi1 : z < 2147483648) (hQ : ∀ kk T' τ, qM σ τ kk (wzI K w z) (True) (fun xx => xx = i64 ((i32 ((if dK K w z < far then (dnI (shD K w z) (okR K w z) (dK K w z) (nK K)).2 else -1))).toInt)) → (T' = T ∨ T' = thr T) → Q (.inl (some (.int (i32 kk)))) (E T' τ)) : Ca (d + 40) 4 349 [.ref 0, .int (i32 w), .int (i32 z), .ref 405] (E T σ) Q := by
  have ht : tie σ 2 K := by rw [← hK]; exact hI.1.1
  have hv : kV K B := by rw [← hK]; exact hI.1.2.1
  rw [n349 _ _ _ _ _ _ _ _ (by omega)]
  simp (disch := (first | assumption | omega | exact Nat.le_of_ble_eq_true rfl | rfl)) only [w349_0, w349_1, w349_2, w349_3, w349_4, w349_5, Ko_n, Ko_v, vX_i, vX_r, vX_l, vX_j, reduceIte]
  refine k146 ht hv (by omega) lo0 hi0 lo1 hi1 (fun h => ?_) (fun h1 τ hs => ?_)
  · rw [Ko_c (v := 1) rfl rfl]; exact hQ 1 _ _ (qM_1 h) (Or.inr rfl)
  · have hb1 := Int32.le_toInt (i32 ((if dK K w z < far then (dnI (shD K w z) (okR K w z) (dK K w z) (nK K)).2 else -1)))
    have hb2 := Int32.toInt_lt (i32 ((if dK K w z < far then (dnI (shD K w z) (okR K w z) (dK K w z) (nK K)).2 else -1)))
    rw [← i32_toInt (i32 ((if dK K w z < far then (dnI (shD K w z) (okR K w z) (dK K w z) (nK K)).2 else -1)))]
    generalize hu : (i32 ((if dK K w z < far then (dnI (shD K w z) (okR K w z) (dK K w z) (nK K)).2 else -1))).toInt = u at hb1 hb2 ⊢
    simp (disch := (first | assumption | omega | exact Nat.le_of_ble_eq_true rfl | rfl)) only [w349_8, w349_9, w349_10, w349_17, w349_18, Ko_n, Ko_v, vX_i, vX_r, vX_l, vX_j, reduceIte]
    exact hQ 0 _ _ (qM_0 h1 trivial hs (by rw [hu])) (Or.inl rfl)
theorem r284 {d : Nat} {k B kk w z : Int} {K : Int → Int} {T : Tt} {σ τ : St} {Q : vmO → vmH → Prop} (hI : Inv B σ) (hB : B < 790000000) (hK : σ 1200 382 = K) (lo0 : -2147483648 ≤ w) (hi0 : w < 2147483648) (lo1 : -2147483648 ≤ z) (hi1 : z < 2147483648) (hm : qM σ τ kk (wzI K w z) (True) (fun xx => xx = i64 ((i32 ((if dK K w z < far then (dnI (shD K w z) (okR K w z) (dK K w z) (nK K)).2 else -1))).toInt))) (hQ : ∀ b ρ, rM ρ B kk (i64 ((i32 b).toInt)) → Q (.inl (some (.int (i32 b)))) (E T ρ)) : Ca (d + 40) k 284 [.ref 382, .int (i32 w), .int (i32 z)] (E T τ) Q := by
  have hv : kV K B := by rw [← hK]; exact hI.1.2.1
  have e : τ 1200 382 = K := by rw [hm.1 1200 382 (by omega)]; exact hK
  exact c284 e hv (by omega) lo0 hi0 lo1 hi1 (fun h ρ f g1 g2 => hQ _ _ (rM_1 hI hm (Or.inl ⟨h, rfl⟩) f (g1.trans hK.symm) g2)) (fun h1 ρ f g1 g2 => hQ _ _ (rM_0 hI hm h1 trivial v_eq rfl f (g1.trans hK.symm) g2))
theorem l350 {d : Nat} {B w z s : Int} {K : Int → Int} {T : Tt} {σ : St} {Q : vmO → vmH → Prop} (hI : Inv B σ) (hB : B < 790000000) (hK : σ 1200 382 = K) (lo0 : -2147483648 ≤ w) (hi0 : w < 2147483648) (lo1 : -2147483648 ≤ z) (hi1 : z < 2147483648) (lo2 : -2147483648 ≤ s) (hi2 : s < 2147483648) (hQ : ∀ kk T' τ, qM σ τ kk (wzI K w z) ((0 ≤ s ∧ s ≤ 99)) (fun xx => xx = i64 ((i32 (orN (dK (ngI K s.toNat) w z))).toInt)) → (T' = T ∨ T' = thr T) → Q (.inl (some (.int (i32 kk)))) (E T' τ)) : Ca (d + 40) 4 350 [.ref 0, .int (i32 w), .int (i32 z), .int (i32 s), .ref 405] (E T σ) Q := by
  have ht : tie σ 2 K := by rw [← hK]; exact hI.1.1
  have hv : kV K B := by rw [← hK]; exact hI.1.2.1
  rw [n350 _ _ _ _ _ _ _ _ _ (by omega)]
  simp (disch := (first | assumption | omega | exact Nat.le_of_ble_eq_true rfl | rfl)) only [w350_0, w350_2, w350_3, w350_4, w350_5, w350_6, w350_7, Ko_n, Ko_v, vX_i, vX_r, vX_l, vX_j, reduceIte]
  refine k147 ht hv (by omega) lo0 hi0 lo1 hi1 lo2 hi2 (fun h => ?_) (fun h1 h2 => ?_) (fun h1 h2 τ hs => ?_)
  · rw [Ko_c (v := 1) rfl rfl]; exact hQ 1 _ _ (qM_1 h) (Or.inr rfl)
  · rw [Ko_c (v := 2) rfl rfl]; exact hQ 2 _ _ (qM_2 h1 h2) (Or.inr rfl)
  · have hb1 := Int32.le_toInt (i32 (orN (dK (ngI K s.toNat) w z)))
    have hb2 := Int32.toInt_lt (i32 (orN (dK (ngI K s.toNat) w z)))
    rw [← i32_toInt (i32 (orN (dK (ngI K s.toNat) w z)))]
    generalize hu : (i32 (orN (dK (ngI K s.toNat) w z))).toInt = u at hb1 hb2 ⊢
    simp (disch := (first | assumption | omega | exact Nat.le_of_ble_eq_true rfl | rfl)) only [w350_10, w350_11, w350_12, w350_23, w350_24, Ko_n, Ko_v, vX_i, vX_r, vX_l, vX_j, reduceIte]
    exact hQ 0 _ _ (qM_0 h1 h2 hs (by rw [hu])) (Or.inl rfl)
theorem r285 {d : Nat} {k B kk w z s : Int} {K : Int → Int} {T : Tt} {σ τ : St} {Q : vmO → vmH → Prop} (hI : Inv B σ) (hB : B < 790000000) (hK : σ 1200 382 = K) (lo0 : -2147483648 ≤ w) (hi0 : w < 2147483648) (lo1 : -2147483648 ≤ z) (hi1 : z < 2147483648) (lo2 : -2147483648 ≤ s) (hi2 : s < 2147483648) (hm : qM σ τ kk (wzI K w z) ((0 ≤ s ∧ s ≤ 99)) (fun xx => xx = i64 ((i32 (orN (dK (ngI K s.toNat) w z))).toInt))) (hQ : ∀ b ρ, rM ρ B kk (i64 ((i32 b).toInt)) → Q (.inl (some (.int (i32 b)))) (E T ρ)) : Ca (d + 40) k 285 [.ref 382, .int (i32 w), .int (i32 z), .int (i32 s)] (E T τ) Q := by
  have hv : kV K B := by rw [← hK]; exact hI.1.2.1
  have e : τ 1200 382 = K := by rw [hm.1 1200 382 (by omega)]; exact hK
  have hl : lwV K := by rw [← hK]; exact hI.1.2.2.1
  have hr : rwK K := by rw [← hK]; exact hI.1.2.2.2
  exact c285 e hv (by omega) hl hr lo0 hi0 lo1 hi1 lo2 hi2 (fun u hu ρ f g1 g2 => hQ _ _ (rM_1 hI hm hu f (g1.trans hK.symm) g2)) (fun h1 h2 ρ f g1 g2 => hQ _ _ (rM_0 hI hm h1 h2 v_eq rfl f (g1.trans hK.symm) g2))
theorem l351 {d : Nat} {B w z s : Int} {K : Int → Int} {T : Tt} {σ : St} {Q : vmO → vmH → Prop} (hI : Inv B σ) (hB : B < 790000000) (hK : σ 1200 382 = K) (lo0 : -2147483648 ≤ w) (hi0 : w < 2147483648) (lo1 : -2147483648 ≤ z) (hi1 : z < 2147483648) (lo2 : -2147483648 ≤ s) (hi2 : s < 2147483648) (hQ : ∀ kk T' τ, qM σ τ kk (wzI K w z) ((0 ≤ s ∧ s ≤ 99)) (fun xx => xx = i64 ((i32 ((fsI (fun i => dK (ngI K i.toNat) w z) (s.toNat + 1)).2)).toInt)) → (T' = T ∨ T' = thr T) → Q (.inl (some (.int (i32 kk)))) (E T' τ)) : Ca (d + 40) 4 351 [.ref 0, .int (i32 w), .int (i32 z), .int (i32 s), .ref 405] (E T σ) Q := by
  have ht : tie σ 2 K := by rw [← hK]; exact hI.1.1
  have hv : kV K B := by rw [← hK]; exact hI.1.2.1
  rw [n351 _ _ _ _ _ _ _ _ _ (by omega)]
  simp (disch := (first | assumption | omega | exact Nat.le_of_ble_eq_true rfl | rfl)) only [w351_0, w351_2, w351_3, w351_4, w351_5, w351_6, w351_7, Ko_n, Ko_v, vX_i, vX_r, vX_l, vX_j, reduceIte]
  refine k148 ht hv (by omega) lo0 hi0 lo1 hi1 lo2 hi2 (fun h => ?_) (fun h1 h2 => ?_) (fun h1 h2 τ hs => ?_)
  · rw [Ko_c (v := 1) rfl rfl]; exact hQ 1 _ _ (qM_1 h) (Or.inr rfl)
  · rw [Ko_c (v := 2) rfl rfl]; exact hQ 2 _ _ (qM_2 h1 h2) (Or.inr rfl)
  · have hb1 := Int32.le_toInt (i32 ((fsI (fun i => dK (ngI K i.toNat) w z) (s.toNat + 1)).2))
    have hb2 := Int32.toInt_lt (i32 ((fsI (fun i => dK (ngI K i.toNat) w z) (s.toNat + 1)).2))
    rw [← i32_toInt (i32 ((fsI (fun i => dK (ngI K i.toNat) w z) (s.toNat + 1)).2))]
    generalize hu : (i32 ((fsI (fun i => dK (ngI K i.toNat) w z) (s.toNat + 1)).2)).toInt = u at hb1 hb2 ⊢
    simp (disch := (first | assumption | omega | exact Nat.le_of_ble_eq_true rfl | rfl)) only [w351_10, w351_11, w351_12, w351_23, w351_24, Ko_n, Ko_v, vX_i, vX_r, vX_l, vX_j, reduceIte]
    exact hQ 0 _ _ (qM_0 h1 h2 hs (by rw [hu])) (Or.inl rfl)
theorem r286 {d : Nat} {k B kk w z s : Int} {K : Int → Int} {T : Tt} {σ τ : St} {Q : vmO → vmH → Prop} (hI : Inv B σ) (hB : B < 790000000) (hK : σ 1200 382 = K) (lo0 : -2147483648 ≤ w) (hi0 : w < 2147483648) (lo1 : -2147483648 ≤ z) (hi1 : z < 2147483648) (lo2 : -2147483648 ≤ s) (hi2 : s < 2147483648) (hm : qM σ τ kk (wzI K w z) ((0 ≤ s ∧ s ≤ 99)) (fun xx => xx = i64 ((i32 ((fsI (fun i => dK (ngI K i.toNat) w z) (s.toNat + 1)).2)).toInt))) (hQ : ∀ b ρ, rM ρ B kk (i64 ((i32 b).toInt)) → Q (.inl (some (.int (i32 b)))) (E T ρ)) : Ca (d + 40) k 286 [.ref 382, .int (i32 w), .int (i32 z), .int (i32 s)] (E T τ) Q := by
  have hv : kV K B := by rw [← hK]; exact hI.1.2.1
  have e : τ 1200 382 = K := by rw [hm.1 1200 382 (by omega)]; exact hK
  have hl : lwV K := by rw [← hK]; exact hI.1.2.2.1
  have hr : rwK K := by rw [← hK]; exact hI.1.2.2.2
  exact c286 e hv (by omega) hl hr lo0 hi0 lo1 hi1 lo2 hi2 (fun u hu ρ f g1 g2 => hQ _ _ (rM_1 hI hm hu f (g1.trans hK.symm) g2)) (fun h1 h2 ρ f g1 g2 => hQ _ _ (rM_0 hI hm h1 h2 v_eq rfl f (g1.trans hK.symm) g2))
theorem l352 {d : Nat} {B w z s : Int} {K : Int → Int} {T : Tt} {σ : St} {Q : vmO → vmH → Prop} (hI : Inv B σ) (hB : B < 790000000) (hK : σ 1200 382 = K) (lo0 : -2147483648 ≤ w) (hi0 : w < 2147483648) (lo1 : -2147483648 ≤ z) (hi1 : z < 2147483648) (lo2 : -2147483648 ≤ s) (hi2 : s < 2147483648) (hQ : ∀ kk T' τ, qM σ τ kk (wzI K w z) (0 ≤ s) (fun xx => xx = i64 ((i32 (fst1 (fun i => decide (dK (ngI K i) w z < far ∧ s ≤ dK (ngI K i) w z)) 100)).toInt)) → (T' = T ∨ T' = thr T) → Q (.inl (some (.int (i32 kk)))) (E T' τ)) : Ca (d + 40) 4 352 [.ref 0, .int (i32 w), .int (i32 z), .int (i32 s), .ref 405] (E T σ) Q := by
  have ht : tie σ 2 K := by rw [← hK]; exact hI.1.1
  have hv : kV K B := by rw [← hK]; exact hI.1.2.1
  rw [n352 _ _ _ _ _ _ _ _ _ (by omega)]
  simp (disch := (first | assumption | omega | exact Nat.le_of_ble_eq_true rfl | rfl)) only [w352_0, w352_2, w352_3, w352_4, w352_5, w352_6, w352_7, Ko_n, Ko_v, vX_i, vX_r, vX_l, vX_j, reduceIte]
  refine k149 ht hv (by omega) lo0 hi0 lo1 hi1 lo2 hi2 (fun h => ?_) (fun h1 h2 => ?_) (fun h1 h2 τ hs => ?_)
  · rw [Ko_c (v := 1) rfl rfl]; exact hQ 1 _ _ (qM_1 h) (Or.inr rfl)
  · rw [Ko_c (v := 2) rfl rfl]; exact hQ 2 _ _ (qM_2 h1 (by omega)) (Or.inr rfl)
  · have hb1 := Int32.le_toInt (i32 (fst1 (fun i => decide (dK (ngI K i) w z < far ∧ s ≤ dK (ngI K i) w z)) 100))
    have hb2 := Int32.toInt_lt (i32 (fst1 (fun i => decide (dK (ngI K i) w z < far ∧ s ≤ dK (ngI K i) w z)) 100))
    rw [← i32_toInt (i32 (fst1 (fun i => decide (dK (ngI K i) w z < far ∧ s ≤ dK (ngI K i) w z)) 100))]
    generalize hu : (i32 (fst1 (fun i => decide (dK (ngI K i) w z < far ∧ s ≤ dK (ngI K i) w z)) 100)).toInt = u at hb1 hb2 ⊢
    simp (disch := (first | assumption | omega | exact Nat.le_of_ble_eq_true rfl | rfl)) only [w352_10, w352_11, w352_12, w352_23, w352_24, Ko_n, Ko_v, vX_i, vX_r, vX_l, vX_j, reduceIte]
    exact hQ 0 _ _ (qM_0 h1 h2 hs (by rw [hu])) (Or.inl rfl)
theorem r287 {d : Nat} {k B kk w z s : Int} {K : Int → Int} {T : Tt} {σ τ : St} {Q : vmO → vmH → Prop} (hI : Inv B σ) (hB : B < 790000000) (hK : σ 1200 382 = K) (lo0 : -2147483648 ≤ w) (hi0 : w < 2147483648) (lo1 : -2147483648 ≤ z) (hi1 : z < 2147483648) (lo2 : -2147483648 ≤ s) (hi2 : s < 2147483648) (hm : qM σ τ kk (wzI K w z) (0 ≤ s) (fun xx => xx = i64 ((i32 (fst1 (fun i => decide (dK (ngI K i) w z < far ∧ s ≤ dK (ngI K i) w z)) 100)).toInt))) (hQ : ∀ b ρ, rM ρ B kk (i64 ((i32 b).toInt)) → Q (.inl (some (.int (i32 b)))) (E T ρ)) : Ca (d + 40) k 287 [.ref 382, .int (i32 w), .int (i32 z), .int (i32 s)] (E T τ) Q := by
  have hv : kV K B := by rw [← hK]; exact hI.1.2.1
  have e : τ 1200 382 = K := by rw [hm.1 1200 382 (by omega)]; exact hK
  have hl : lwV K := by rw [← hK]; exact hI.1.2.2.1
  have hr : rwK K := by rw [← hK]; exact hI.1.2.2.2
  exact c287 e hv (by omega) hl hr lo0 hi0 lo1 hi1 lo2 hi2 (fun u hu ρ f g1 g2 => hQ _ _ (rM_1 hI hm (by rcases hu with hu | hu; exact Or.inl hu; exact Or.inr ⟨hu.1, by omega, hu.2.2⟩) f (g1.trans hK.symm) g2)) (fun h1 h2 ρ f g1 g2 => hQ _ _ (rM_0 hI hm h1 h2 v_eq rfl f (g1.trans hK.symm) g2))
theorem l353 {d : Nat} {B w z s : Int} {K : Int → Int} {T : Tt} {σ : St} {Q : vmO → vmH → Prop} (hI : Inv B σ) (hB : B < 790000000) (hK : σ 1200 382 = K) (lo0 : -2147483648 ≤ w) (hi0 : w < 2147483648) (lo1 : -2147483648 ≤ z) (hi1 : z < 2147483648) (lo2 : -2147483648 ≤ s) (hi2 : s < 2147483648) (hQ : ∀ kk T' τ, qM σ τ kk (wzI K w z) ((0 ≤ s ∧ s ≤ 30)) (fun xx => xx = i64 (cmK K w (-1) s.toNat z : Nat)) → (T' = T ∨ T' = thr T) → Q (.inl (some (.int (i32 kk)))) (E T' τ)) : Ca (d + 40) 4 353 [.ref 0, .int (i32 w), .int (i32 z), .int (i32 s), .ref 405] (E T σ) Q := by
  have ht : tie σ 2 K := by rw [← hK]; exact hI.1.1
  have hv : kV K B := by rw [← hK]; exact hI.1.2.1
  rw [n353 _ _ _ _ _ _ _ _ _ (by omega)]
  simp (disch := (first | assumption | omega | exact Nat.le_of_ble_eq_true rfl | rfl)) only [w353_0, w353_2, w353_3, w353_4, w353_5, w353_6, w353_7, Ko_n, Ko_v, vX_i, vX_r, vX_l, vX_j, reduceIte]
  refine k150 ht hv (by omega) lo0 hi0 lo1 hi1 lo2 hi2 (fun h => ?_) (fun h1 h2 => ?_) (fun h1 h2 τ hs => ?_)
  · rw [Ko_c (v := 1) rfl rfl]; exact hQ 1 _ _ (qM_1 h) (Or.inr rfl)
  · rw [Ko_c (v := 2) rfl rfl]; exact hQ 2 _ _ (qM_2 h1 h2) (Or.inr rfl)
  · simp (disch := (first | assumption | omega | exact Nat.le_of_ble_eq_true rfl | rfl)) only [w353_10, w353_11, w353_22, w353_23, Ko_n, Ko_v, vX_i, vX_r, vX_l, vX_j, reduceIte]
    exact hQ 0 _ _ (qM_0 h1 h2 hs rfl) (Or.inl rfl)
theorem r292 {d : Nat} {k B kk w z s : Int} {K : Int → Int} {T : Tt} {σ τ : St} {Q : vmO → vmH → Prop} (hI : Inv B σ) (hB : B < 790000000) (hK : σ 1200 382 = K) (lo0 : -2147483648 ≤ w) (hi0 : w < 2147483648) (lo1 : -2147483648 ≤ z) (hi1 : z < 2147483648) (lo2 : -2147483648 ≤ s) (hi2 : s < 2147483648) (hm : qM σ τ kk (wzI K w z) ((0 ≤ s ∧ s ≤ 30)) (fun xx => xx = i64 (cmK K w (-1) s.toNat z : Nat))) (hQ : ∀ b ρ, rM ρ B kk (b) → Q (.inl (some (.long b))) (E T ρ)) : Ca (d + 40) k 292 [.ref 382, .int (i32 w), .int (i32 z), .int (i32 s)] (E T τ) Q := by
  have hv : kV K B := by rw [← hK]; exact hI.1.2.1
  have e : τ 1200 382 = K := by rw [hm.1 1200 382 (by omega)]; exact hK
  exact c292 e hv (by omega) lo0 hi0 lo1 hi1 lo2 hi2 (fun u hu ρ f g1 g2 => hQ _ _ (rM_1 hI hm hu f (g1.trans hK.symm) g2)) (fun h1 h2 ρ f g1 g2 => hQ _ _ (rM_0 hI hm h1 h2 v_eq rfl f (g1.trans hK.symm) g2))
theorem l354 {d : Nat} {B w z s : Int} {K : Int → Int} {T : Tt} {σ : St} {Q : vmO → vmH → Prop} (hI : Inv B σ) (hB : B < 790000000) (hK : σ 1200 382 = K) (lo0 : -2147483648 ≤ w) (hi0 : w < 2147483648) (lo1 : -2147483648 ≤ z) (hi1 : z < 2147483648) (lo2 : -2147483648 ≤ s) (hi2 : s < 2147483648) (hQ : ∀ kk T' τ, qM σ τ kk (wzI K w z) ((0 ≤ s ∧ s ≤ 30)) (fun xx => xx = bs (bwN K w z s.toNat (s.toNat + 1))) → (T' = T ∨ T' = thr T) → Q (.inl (some (.int (i32 kk)))) (E T' τ)) : Ca (d + 40) 4 354 [.ref 0, .int (i32 w), .int (i32 z), .int (i32 s), .ref 405] (E T σ) Q := by
  have ht : tie σ 2 K := by rw [← hK]; exact hI.1.1
  have hv : kV K B := by rw [← hK]; exact hI.1.2.1
  rw [n354 _ _ _ _ _ _ _ _ _ (by omega)]
  simp (disch := (first | assumption | omega | exact Nat.le_of_ble_eq_true rfl | rfl)) only [w354_0, w354_2, w354_3, w354_4, w354_5, w354_6, w354_7, Ko_n, Ko_v, vX_i, vX_r, vX_l, vX_j, reduceIte]
  refine k151 ht hv (by omega) lo0 hi0 lo1 hi1 lo2 hi2 (fun h => ?_) (fun h1 h2 => ?_) (fun h1 h2 τ hs => ?_)
  · rw [Ko_c (v := 1) rfl rfl]; exact hQ 1 _ _ (qM_1 h) (Or.inr rfl)
  · rw [Ko_c (v := 2) rfl rfl]; exact hQ 2 _ _ (qM_2 h1 h2) (Or.inr rfl)
  · simp (disch := (first | assumption | omega | exact Nat.le_of_ble_eq_true rfl | rfl)) only [w354_10, w354_11, w354_22, w354_23, Ko_n, Ko_v, vX_i, vX_r, vX_l, vX_j, reduceIte]
    exact hQ 0 _ _ (qM_0 h1 h2 hs rfl) (Or.inl rfl)
theorem r293 {d : Nat} {k B kk w z s : Int} {K : Int → Int} {T : Tt} {σ τ : St} {Q : vmO → vmH → Prop} (hI : Inv B σ) (hB : B < 790000000) (hK : σ 1200 382 = K) (lo0 : -2147483648 ≤ w) (hi0 : w < 2147483648) (lo1 : -2147483648 ≤ z) (hi1 : z < 2147483648) (lo2 : -2147483648 ≤ s) (hi2 : s < 2147483648) (hm : qM σ τ kk (wzI K w z) ((0 ≤ s ∧ s ≤ 30)) (fun xx => xx = bs (bwN K w z s.toNat (s.toNat + 1)))) (hQ : ∀ b ρ, rM ρ B kk (b) → Q (.inl (some (.long b))) (E T ρ)) : Ca (d + 40) k 293 [.ref 382, .int (i32 w), .int (i32 z), .int (i32 s)] (E T τ) Q := by
  have hv : kV K B := by rw [← hK]; exact hI.1.2.1
  have e : τ 1200 382 = K := by rw [hm.1 1200 382 (by omega)]; exact hK
  exact c293 e hv (by omega) lo0 hi0 lo1 hi1 lo2 hi2 (fun u hu ρ f g1 g2 => hQ _ _ (rM_1 hI hm hu f (g1.trans hK.symm) g2)) (fun h1 h2 ρ f g1 g2 => hQ _ _ (rM_0 hI hm h1 h2 v_eq rfl f (g1.trans hK.symm) g2))
theorem l355 {d : Nat} {B w z s x : Int} {K : Int → Int} {T : Tt} {σ : St} {Q : vmO → vmH → Prop} (hI : Inv B σ) (hB : B < 790000000) (hK : σ 1200 382 = K) (lo0 : -2147483648 ≤ w) (hi0 : w < 2147483648) (lo1 : -2147483648 ≤ z) (hi1 : z < 2147483648) (lo2 : -2147483648 ≤ s) (hi2 : s < 2147483648) (lo3 : -2147483648 ≤ x) (hi3 : x < 2147483648) (hQ : ∀ kk T' τ, qM σ τ kk ((wzI K w z ∧ (0 ≤ x ∧ x < K 1 * K 2))) ((0 ≤ s ∧ s ≤ 30)) (fun xx => xx = thK K w z s.toNat x) → (T' = T ∨ T' = thr T) → Q (.inl (some (.int (i32 kk)))) (E T' τ)) : Ca (d + 40) 4 355 [.ref 0, .int (i32 w), .int (i32 z), .int (i32 s), .int (i32 x), .ref 405] (E T σ) Q := by
  have ht : tie σ 2 K := by rw [← hK]; exact hI.1.1
  have hv : kV K B := by rw [← hK]; exact hI.1.2.1
  rw [n355 _ _ _ _ _ _ _ _ _ _ (by omega)]
  simp (disch := (first | assumption | omega | exact Nat.le_of_ble_eq_true rfl | rfl)) only [w355_0, w355_2, w355_3, w355_4, w355_5, w355_6, w355_7, w355_9, Ko_n, Ko_v, vX_i, vX_r, vX_l, vX_j, reduceIte]
  refine k152 ht hv (by omega) lo0 hi0 lo1 hi1 lo2 hi2 lo3 hi3 (fun h => ?_) (fun h1 h2 => ?_) (fun h1 h2 τ hs => ?_)
  · rw [Ko_c (v := 1) rfl rfl]; exact hQ 1 _ _ (qM_1 h) (Or.inr rfl)
  · rw [Ko_c (v := 2) rfl rfl]; exact hQ 2 _ _ (qM_2 h1 h2) (Or.inr rfl)
  · simp (disch := (first | assumption | omega | exact Nat.le_of_ble_eq_true rfl | rfl)) only [w355_12, w355_13, w355_24, w355_25, Ko_n, Ko_v, vX_i, vX_r, vX_l, vX_j, reduceIte]
    exact hQ 0 _ _ (qM_0 h1 h2 hs rfl) (Or.inl rfl)
theorem r295 {d : Nat} {k B kk w z s x : Int} {K : Int → Int} {T : Tt} {σ τ : St} {Q : vmO → vmH → Prop} (hI : Inv B σ) (hB : B < 790000000) (hK : σ 1200 382 = K) (lo0 : -2147483648 ≤ w) (hi0 : w < 2147483648) (lo1 : -2147483648 ≤ z) (hi1 : z < 2147483648) (lo2 : -2147483648 ≤ s) (hi2 : s < 2147483648) (lo3 : -2147483648 ≤ x) (hi3 : x < 2147483648) (hm : qM σ τ kk ((wzI K w z ∧ (0 ≤ x ∧ x < K 1 * K 2))) ((0 ≤ s ∧ s ≤ 30)) (fun xx => xx = thK K w z s.toNat x)) (hQ : ∀ b ρ, rM ρ B kk (b) → Q (.inl (some (.long b))) (E T ρ)) : Ca (d + 40) k 295 [.ref 382, .int (i32 w), .int (i32 z), .int (i32 s), .int (i32 x)] (E T τ) Q := by
  have hv : kV K B := by rw [← hK]; exact hI.1.2.1
  have e : τ 1200 382 = K := by rw [hm.1 1200 382 (by omega)]; exact hK
  exact c295 e hv (by omega) lo0 hi0 lo1 hi1 lo2 hi2 lo3 hi3 (fun u hu ρ f g1 g2 => hQ _ _ (rM_1 hI hm hu f (g1.trans hK.symm) g2)) (fun h1 h2 ρ f g1 g2 => hQ _ _ (rM_0 hI hm h1 h2 v_eq rfl f (g1.trans hK.symm) g2))
theorem l356 {d : Nat} {B w z s : Int} {K : Int → Int} {T : Tt} {σ : St} {Q : vmO → vmH → Prop} (hI : Inv B σ) (hB : B < 790000000) (hK : σ 1200 382 = K) (lo0 : -2147483648 ≤ w) (hi0 : w < 2147483648) (lo1 : -2147483648 ≤ z) (hi1 : z < 2147483648) (lo2 : -2147483648 ≤ s) (hi2 : s < 2147483648) (hQ : ∀ kk T' τ, qM σ τ kk (wzI K w z) ((0 ≤ s ∧ s ≤ 30)) (fun xx => xx = i64 ((i32 ((if i64 (cmK K w (-1) s.toNat z : Nat) = i64 0 then -1 else (tlI (i64 (cmK K w (-1) s.toNat z : Nat)) (thK K w z s.toNat) (nK K)).2))).toInt)) → (T' = T ∨ T' = thr T) → Q (.inl (some (.int (i32 kk)))) (E T' τ)) : Ca (d + 40) 4 356 [.ref 0, .int (i32 w), .int (i32 z), .int (i32 s), .ref 405] (E T σ) Q := by
  have ht : tie σ 2 K := by rw [← hK]; exact hI.1.1
  have hv : kV K B := by rw [← hK]; exact hI.1.2.1
  rw [n356 _ _ _ _ _ _ _ _ _ (by omega)]
  simp (disch := (first | assumption | omega | exact Nat.le_of_ble_eq_true rfl | rfl)) only [w356_0, w356_2, w356_3, w356_4, w356_5, w356_6, w356_7, Ko_n, Ko_v, vX_i, vX_r, vX_l, vX_j, reduceIte]
  refine k153 ht hv (by omega) lo0 hi0 lo1 hi1 lo2 hi2 (fun h => ?_) (fun h1 h2 => ?_) (fun h1 h2 τ hs => ?_)
  · rw [Ko_c (v := 1) rfl rfl]; exact hQ 1 _ _ (qM_1 h) (Or.inr rfl)
  · rw [Ko_c (v := 2) rfl rfl]; exact hQ 2 _ _ (qM_2 h1 h2) (Or.inr rfl)
  · have hb1 := Int32.le_toInt (i32 ((if i64 (cmK K w (-1) s.toNat z : Nat) = i64 0 then -1 else (tlI (i64 (cmK K w (-1) s.toNat z : Nat)) (thK K w z s.toNat) (nK K)).2)))
    have hb2 := Int32.toInt_lt (i32 ((if i64 (cmK K w (-1) s.toNat z : Nat) = i64 0 then -1 else (tlI (i64 (cmK K w (-1) s.toNat z : Nat)) (thK K w z s.toNat) (nK K)).2)))
    rw [← i32_toInt (i32 ((if i64 (cmK K w (-1) s.toNat z : Nat) = i64 0 then -1 else (tlI (i64 (cmK K w (-1) s.toNat z : Nat)) (thK K w z s.toNat) (nK K)).2)))]
    generalize hu : (i32 ((if i64 (cmK K w (-1) s.toNat z : Nat) = i64 0 then -1 else (tlI (i64 (cmK K w (-1) s.toNat z : Nat)) (thK K w z s.toNat) (nK K)).2))).toInt = u at hb1 hb2 ⊢
    simp (disch := (first | assumption | omega | exact Nat.le_of_ble_eq_true rfl | rfl)) only [w356_10, w356_11, w356_12, w356_23, w356_24, Ko_n, Ko_v, vX_i, vX_r, vX_l, vX_j, reduceIte]
    exact hQ 0 _ _ (qM_0 h1 h2 hs (by rw [hu])) (Or.inl rfl)
theorem r296 {d : Nat} {k B kk w z s : Int} {K : Int → Int} {T : Tt} {σ τ : St} {Q : vmO → vmH → Prop} (hI : Inv B σ) (hB : B < 790000000) (hK : σ 1200 382 = K) (lo0 : -2147483648 ≤ w) (hi0 : w < 2147483648) (lo1 : -2147483648 ≤ z) (hi1 : z < 2147483648) (lo2 : -2147483648 ≤ s) (hi2 : s < 2147483648) (hm : qM σ τ kk (wzI K w z) ((0 ≤ s ∧ s ≤ 30)) (fun xx => xx = i64 ((i32 ((if i64 (cmK K w (-1) s.toNat z : Nat) = i64 0 then -1 else (tlI (i64 (cmK K w (-1) s.toNat z : Nat)) (thK K w z s.toNat) (nK K)).2))).toInt))) (hQ : ∀ b ρ, rM ρ B kk (i64 ((i32 b).toInt)) → Q (.inl (some (.int (i32 b)))) (E T ρ)) : Ca (d + 40) k 296 [.ref 382, .int (i32 w), .int (i32 z), .int (i32 s)] (E T τ) Q := by
  have hv : kV K B := by rw [← hK]; exact hI.1.2.1
  have e : τ 1200 382 = K := by rw [hm.1 1200 382 (by omega)]; exact hK
  exact c296 e hv (by omega) lo0 hi0 lo1 hi1 lo2 hi2 (fun u hu ρ f g1 g2 => hQ _ _ (rM_1 hI hm hu f (g1.trans hK.symm) g2)) (fun h1 h2 ρ f g1 g2 => hQ _ _ (rM_0 hI hm h1 h2 v_eq rfl f (g1.trans hK.symm) g2))
theorem l357 {d : Nat} {B w s : Int} {K : Int → Int} {T : Tt} {σ : St} {Q : vmO → vmH → Prop} (hI : Inv B σ) (hB : B < 790000000) (hK : σ 1200 382 = K) (lo0 : -2147483648 ≤ w) (hi0 : w < 2147483648) (lo1 : -2147483648 ≤ s) (hi1 : s < 2147483648) (hQ : ∀ kk T' τ, qM σ τ kk ((0 ≤ w ∧ w < K 3)) ((0 ≤ s ∧ s ≤ 30)) (fun xx => xx = bs (myB K w s.toNat)) → (T' = T ∨ T' = thr T) → Q (.inl (some (.int (i32 kk)))) (E T' τ)) : Ca (d + 40) 4 357 [.ref 0, .int (i32 w), .int (i32 s), .ref 405] (E T σ) Q := by
  have ht : tie σ 2 K := by rw [← hK]; exact hI.1.1
  have hv : kV K B := by rw [← hK]; exact hI.1.2.1
  rw [n357 _ _ _ _ _ _ _ _ (by omega)]
  simp (disch := (first | assumption | omega | exact Nat.le_of_ble_eq_true rfl | rfl)) only [w357_0, w357_1, w357_2, w357_3, w357_4, w357_5, Ko_n, Ko_v, vX_i, vX_r, vX_l, vX_j, reduceIte]
  refine k154 ht hv (by omega) lo0 hi0 lo1 hi1 (fun h => ?_) (fun h1 h2 => ?_) (fun h1 h2 τ hs => ?_)
  · rw [Ko_c (v := 1) rfl rfl]; exact hQ 1 _ _ (qM_1 h) (Or.inr rfl)
  · rw [Ko_c (v := 2) rfl rfl]; exact hQ 2 _ _ (qM_2 h1 h2) (Or.inr rfl)
  · simp (disch := (first | assumption | omega | exact Nat.le_of_ble_eq_true rfl | rfl)) only [w357_8, w357_9, w357_20, w357_21, Ko_n, Ko_v, vX_i, vX_r, vX_l, vX_j, reduceIte]
    exact hQ 0 _ _ (qM_0 h1 h2 hs rfl) (Or.inl rfl)
theorem r297 {d : Nat} {k B kk w s : Int} {K : Int → Int} {T : Tt} {σ τ : St} {Q : vmO → vmH → Prop} (hI : Inv B σ) (hB : B < 790000000) (hK : σ 1200 382 = K) (lo0 : -2147483648 ≤ w) (hi0 : w < 2147483648) (lo1 : -2147483648 ≤ s) (hi1 : s < 2147483648) (hm : qM σ τ kk ((0 ≤ w ∧ w < K 3)) ((0 ≤ s ∧ s ≤ 30)) (fun xx => xx = bs (myB K w s.toNat))) (hQ : ∀ b ρ, rM ρ B kk (b) → Q (.inl (some (.long b))) (E T ρ)) : Ca (d + 40) k 297 [.ref 382, .int (i32 w), .int (i32 s)] (E T τ) Q := by
  have hv : kV K B := by rw [← hK]; exact hI.1.2.1
  have e : τ 1200 382 = K := by rw [hm.1 1200 382 (by omega)]; exact hK
  exact c297 e hv (by omega) lo0 hi0 lo1 hi1 (fun u hu ρ f g1 g2 => hQ _ _ (rM_1 hI hm hu f (g1.trans hK.symm) g2)) (fun h1 h2 ρ f g1 g2 => hQ _ _ (rM_0 hI hm h1 h2 v_eq rfl f (g1.trans hK.symm) g2))
