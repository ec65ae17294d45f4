/-! ===== way, ways: the law's wrappers and the reference ===== -/
def wyV (K : Int → Int) (w z i : Int) (x : Int64) : Prop := (¬ yK K w z (K (79 + w)) < far ∧ x = i64 (-1)) ∨ (yK K w z (K (79 + w)) < far ∧ ∃ m : Nat, ptK (K 1) (K 2) (prK K w) (yK K w z) (K (79 + w)) z m ∧ x = i64 ((i32 (wyA m (pK2 K w z) i)).toInt))
theorem ptK_u {W H z t : Int} {c f : Int → Int} {m m' : Nat} (h : ptK W H c f z t m) (h' : ptK W H c f z t m') : m = m' := by
  by_cases e : m < m'
  · exact absurd h.2.2 (h'.2.1 m e)
  · by_cases e' : m' < m
    · exact absurd h'.2.2 (h.2.1 m' e')
    · omega
theorem wyV_u {K : Int → Int} {w z i : Int} : ∀ x y, wyV K w z i x → wyV K w z i y → x = y := by
  rintro x y (⟨a, hx⟩ | ⟨a, m, hm, hx⟩) (⟨b, hy⟩ | ⟨b, m', hm', hy⟩)
  · rw [hx, hy]
  · exact absurd b a
  · exact absurd a b
  · rw [hx, hy, ptK_u hm hm']
theorem l334 {d : Nat} {B w z i : Int} {K : Int → Int} {T : Tt} {σ : St} {Q : vmO → vmH → Prop} (hI : Inv B σ) (hB : B < 790000000) (hK : σ 1200 382 = K) (lo0 : -2147483648 ≤ w) (hi0 : w < 2147483648) (lo1 : -2147483648 ≤ z) (hi1 : z < 2147483648) (lo2 : -2147483648 ≤ i) (hi2 : i < 2147483648) (hQ : ∀ kk T' τ, qM σ τ kk (wzI K w z) True (wyV K w z i) → (T' = T ∨ T' = thr T) → Q (.inl (some (.int (i32 kk)))) (E T' τ)) : Ca (d + 40) 4 334 [.ref 0, .int (i32 w), .int (i32 z), .int (i32 i), .ref 405] (E T σ) Q := by
  have ht : tie σ 2 K := by rw [← hK]; exact hI.1.1
  have hv : kV K B := by rw [← hK]; exact hI.1.2.1
  rw [n334 _ _ _ _ _ _ _ _ _ (by omega)]
  simp (disch := (first | assumption | omega | exact Nat.le_of_ble_eq_true rfl | rfl)) only [w334_0, w334_2, w334_3, w334_4, w334_5, w334_6, w334_7, Ko_n, Ko_v, vX_i, vX_r, vX_l, vX_j, reduceIte]
  refine k131 ht hv (by omega) lo0 hi0 lo1 hi1 lo2 hi2 (fun h => ?_) (fun h1 h2 τ hs => ?_) (fun h1 h2 m m35 hm τ hs => ?_)
  · rw [Ko_c (v := 1) rfl rfl]; exact hQ 1 _ _ (qM_1 h) (Or.inr rfl)
  · simp (disch := (first | assumption | omega | exact Nat.le_of_ble_eq_true rfl | rfl)) only [w334_10, w334_11, w334_12, w334_19, w334_20, Ko_n, Ko_v, vX_i, vX_r, vX_l, vX_j, reduceIte]
    exact hQ 0 _ _ (qM_0 h1 trivial hs (Or.inl ⟨h2, rfl⟩)) (Or.inl rfl)
  · have hb1 := Int32.le_toInt (i32 (wyA m (pK2 K w z) i))
    have hb2 := Int32.toInt_lt (i32 (wyA m (pK2 K w z) i))
    rw [← i32_toInt (i32 (wyA m (pK2 K w z) i))]
    generalize hu : (i32 (wyA m (pK2 K w z) i)).toInt = u at hb1 hb2 ⊢
    simp (disch := (first | assumption | omega | exact Nat.le_of_ble_eq_true rfl | rfl)) only [w334_10, w334_11, w334_12, w334_19, w334_20, Ko_n, Ko_v, vX_i, vX_r, vX_l, vX_j, reduceIte]
    exact hQ 0 _ _ (qM_0 h1 trivial hs (Or.inr ⟨h2, m, hm, by rw [hu]⟩)) (Or.inl rfl)
theorem r260 {d : Nat} {k B kk w z i : Int} {K : Int → Int} {T : Tt} {σ τ : St} {Q : vmO → vmH → Prop} (hI : Inv B σ) (hB : B < 790000000) (hK : σ 1200 382 = K) (lo0 : -2147483648 ≤ w) (hi0 : w < 2147483648) (lo1 : -2147483648 ≤ z) (hi1 : z < 2147483648) (lo2 : -2147483648 ≤ i) (hi2 : i < 2147483648) (hm : qM σ τ kk (wzI K w z) True (wyV K w z i)) (hQ : ∀ b ρ, rM ρ B kk (i64 ((i32 b).toInt)) → Q (.inl (some (.int (i32 b)))) (E T ρ)) : Ca (d + 40) k 260 [.ref 382, .int (i32 w), .int (i32 z), .int (i32 i)] (E T τ) Q := by
  have hv : kV K B := by rw [← hK]; exact hI.1.2.1
  have e : τ 1200 382 = K := by rw [hm.1 1200 382 (by omega)]; exact hK
  refine c260 e hv (by omega) lo0 hi0 lo1 hi1 lo2 hi2 (fun h ρ f g1 g2 => hQ _ _ (rM_1 hI hm (Or.inl ⟨h, rfl⟩) f (g1.trans hK.symm) g2)) (fun h1 h2 ρ f g1 g2 => hQ _ _ (rM_0 hI hm h1 trivial wyV_u (Or.inl ⟨h2, ?_⟩) f (g1.trans hK.symm) g2)) (fun h1 h2 m m35 hp ρ f g1 g2 => hQ _ _ (rM_0 hI hm h1 trivial wyV_u (Or.inr ⟨h2, m, hp, rfl⟩) f (g1.trans hK.symm) g2))
  decide
theorem l335 {d : Nat} {B w z : Int} {K : Int → Int} {T : Tt} {σ : St} {Q : vmO → vmH → Prop} (hI : Inv B σ) (hB : B < 790000000) (hK : σ 1200 382 = K) (lo0 : -2147483648 ≤ w) (hi0 : w < 2147483648) (lo1 : -2147483648 ≤ z) (hi1 : z < 2147483648) (hQ : ∀ kk T' τ, qM σ τ kk (wzI K w z) True (fun x => ∃ M, wyC (K 1) (K 2) (prK K w) (dK K w) (K (79 + w)) M ∧ x = M z) → (T' = T ∨ T' = thr T) → Q (.inl (some (.int (i32 kk)))) (E T' τ)) : Ca (d + 40) 4 335 [.ref 0, .int (i32 w), .int (i32 z), .ref 405] (E T σ) Q := by
  have ht : tie σ 2 K := by rw [← hK]; exact hI.1.1
  have hv : kV K B := by rw [← hK]; exact hI.1.2.1
  rw [n335 _ _ _ _ _ _ _ _ (by omega)]
  simp (disch := (first | assumption | omega | exact Nat.le_of_ble_eq_true rfl | rfl)) only [w335_0, w335_1, w335_2, w335_3, w335_4, w335_5, Ko_n, Ko_v, vX_i, vX_r, vX_l, vX_j, reduceIte]
  refine k132 ht hv (by omega) lo0 hi0 lo1 hi1 (fun h => ?_) (fun h1 M hM τ hs => ?_)
  · rw [Ko_c (v := 1) rfl rfl]; exact hQ 1 _ _ (qM_1 h) (Or.inr rfl)
  · simp (disch := (first | assumption | omega | exact Nat.le_of_ble_eq_true rfl | rfl)) only [w335_8, w335_9, w335_16, w335_17, Ko_n, Ko_v, vX_i, vX_r, vX_l, vX_j, reduceIte]
    exact hQ 0 _ _ (qM_0 h1 trivial hs ⟨M, hM, rfl⟩) (Or.inl rfl)
theorem r261 {d : Nat} {k B kk w z : Int} {K : Int → Int} {T : Tt} {σ τ : St} {Q : vmO → vmH → Prop} (hI : Inv B σ) (hB : B < 790000000) (hK : σ 1200 382 = K) (lo0 : -2147483648 ≤ w) (hi0 : w < 2147483648) (lo1 : -2147483648 ≤ z) (hi1 : z < 2147483648) (hm : qM σ τ kk (wzI K w z) True (fun x => ∃ M, wyC (K 1) (K 2) (prK K w) (dK K w) (K (79 + w)) M ∧ x = M z)) (hQ : ∀ b ρ, rM ρ B kk b → Q (.inl (some (.long b))) (E T ρ)) : Ca (d + 40) k 261 [.ref 382, .int (i32 w), .int (i32 z)] (E T τ) Q := by
  have hv : kV K B := by rw [← hK]; exact hI.1.2.1
  have e : τ 1200 382 = K := by rw [hm.1 1200 382 (by omega)]; exact hK
  refine c261 e hv (by omega) lo0 hi0 lo1 hi1 (fun h ρ f g1 g2 => hQ _ _ (rM_1 hI hm (Or.inl ⟨h, rfl⟩) f (g1.trans hK.symm) g2)) (fun h1 M hM ρ f g1 g2 => hQ _ _ (rM_0 hI hm h1 trivial ?_ ⟨M, hM, rfl⟩ f (g1.trans hK.symm) g2))
  rintro x y ⟨M1, h1', e1⟩ ⟨M2, h2', e2⟩
  rw [e1, e2]
  exact wyC_1 hv h1 h1' h2'
