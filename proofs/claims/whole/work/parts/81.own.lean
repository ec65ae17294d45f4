/-! ===== HedgePark: own ===== -/
theorem wk_wd {σ : St} {C K K' : Int → Int} {X : Dj} : upA (wyD (upA (upA σ 1002 144 K) 1000 144 C) 144 X) 1002 144 K' = wyD (upA (upA σ 1002 144 K') 1000 144 C) 144 X := by
  unfold wyD wyS
  rw [upA_comm (t := 1006) (t' := 1002) (by omega), upA_comm (t := 1005) (t' := 1002) (by omega), upA_comm (t := 1004) (t' := 1002) (by omega), upA_comm (t := 1001) (t' := 1002) (by omega), upA_comm (t := 1000) (t' := 1002) (by omega), upA_upA]
theorem wk2 {σ : St} {C K : Int → Int} {X : Dj} : wyD (upA (upA σ 1002 144 K) 1000 144 C) 144 X 1002 144 = K := by
  unfold wyD
  rw [wyt (by omega) (by omega) (by omega) (by omega), upA_t (by omega), upA_s]
theorem hpW_k2 {σ : St} {W H : Int} {N : Nat} {K : Int → Int} (h : hpW σ W H N) : hpW (upA σ 1002 144 K) W H N := by
  have e : ∀ t o, t < 1000 → upA σ 1002 144 K t o = σ t o := fun t o ht => upA_t (by omega)
  obtain ⟨h1, h2, h3, h4, h5, h6, h7, h8, h9, h10, h11⟩ := h
  refine ⟨geo_t h1 (e _ _ (by omega)) (e _ _ (by omega)) (e _ _ (by omega)) (e _ _ (by omega)) (e _ _ (by omega)) (e _ _ (by omega)), h2, h3, ?_, ?_, ?_, ?_, ?_, ?_, ?_, ?_⟩
  · rw [e 403 _ (by omega)]; exact h4
  · rw [e 403 _ (by omega)]; exact h5
  · rw [e 404 _ (by omega)]; exact h6
  · rw [e 404 _ (by omega)]; exact h7
  · rw [e 405 _ (by omega)]; exact h8
  · rw [e 405 _ (by omega)]; exact h9
  · unfold scK
    rw [e 700 _ (by omega), e 701 _ (by omega), e 705 _ (by omega)]
    exact h10
  · rw [e 404 _ (by omega), e 702 _ (by omega)]; exact h11
theorem dW_k2 {σ : St} {W H w : Int} {N : Nat} {K : Int → Int} : dW (upA σ 1002 144 K) W H N w = dW σ W H N w := by
  have e : ∀ t o, t < 1000 → upA σ 1002 144 K t o = σ t o := fun t o ht => upA_t (by omega)
  unfold dW prc
  rw [e 700 _ (by omega), e 701 _ (by omega), e 403 _ (by omega), e 705 _ (by omega), e 405 _ (by omega), e 702 _ (by omega)]
/-- the least that the first n walkers, all but w, have to a cell -/
def owI (f : Int → Int → Int) (w : Int) : Nat → Int → Int
  | 0, _ => far
  | n + 1, k => if (n : Int) = w then owI f w n k else min (owI f w n k) (f n k)
def owB (f g : Int → Int) (n : Int) : Int → Bool := fun k => decide (0 ≤ k ∧ k < n ∧ f k < g k)
theorem owShA : sh (A 1002 144) = (0, 0, 36, 1002, 144) := by decide
