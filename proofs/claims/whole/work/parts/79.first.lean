/-! ===== HedgePark: first ===== -/
theorem wd_wd {σ : St} {C C' : Int → Int} {X X' : Dj} : wyD (upA (wyD (upA σ 1000 144 C) 144 X) 1000 144 C') 144 X' = wyD (upA σ 1000 144 C') 144 X' := by
  have e1 : upA (wyD (upA σ 1000 144 C) 144 X) 1000 144 C' = wyD (upA σ 1000 144 C') 144 X := by
    unfold wyD wyS
    rw [upA_comm (t := 1006) (t' := 1000) (by omega), upA_comm (t := 1005) (t' := 1000) (by omega), upA_comm (t := 1004) (t' := 1000) (by omega), upA_comm (t := 1001) (t' := 1000) (by omega), upA_upA]
  rw [e1]
  unfold wyD
  rw [wy_wy]
theorem hpW_wd {σ : St} {W H : Int} {N : Nat} {C : Int → Int} {X : Dj} (h : hpW σ W H N) : hpW (wyD (upA σ 1000 144 C) 144 X) W H N := by
  have e : ∀ t o, t < 1000 → wyD (upA σ 1000 144 C) 144 X t o = σ t o := fun t o ht => wdt (Or.inl ht)
  obtain ⟨h1, h2, h3, h4, h5, h6, h7, h8, h9, h10, h11⟩ := h
  refine ⟨geo_t h1 (e _ _ (by omega)) (e _ _ (by omega)) (e _ _ (by omega)) (e _ _ (by omega)) (e _ _ (by omega)) (e _ _ (by omega)), h2, h3, ?_, ?_, ?_, ?_, ?_, ?_, ?_, ?_⟩
  · rw [e 403 _ (by omega)]; exact h4
  · rw [e 403 _ (by omega)]; exact h5
  · rw [e 404 _ (by omega)]; exact h6
  · rw [e 404 _ (by omega)]; exact h7
  · rw [e 405 _ (by omega)]; exact h8
  · rw [e 405 _ (by omega)]; exact h9
  · unfold scK
    rw [e 700 _ (by omega), e 701 _ (by omega), e 705 _ (by omega)]
    exact h10
  · rw [e 404 _ (by omega), e 702 _ (by omega)]; exact h11
/-- the least costs of a walker -/
def dW (σ : St) (W H : Int) (N : Nat) (w : Int) : Int → Int := dD W H (prc σ 3 10 (frB (σ 405 3 0) w)) (σ 702 10 w) N
theorem dW_wd {σ : St} {W H w : Int} {N : Nat} {C : Int → Int} {X : Dj} : dW (wyD (upA σ 1000 144 C) 144 X) W H N w = dW σ W H N w := by
  have e : ∀ t o, t < 1000 → wyD (upA σ 1000 144 C) 144 X t o = σ t o := fun t o ht => wdt (Or.inl ht)
  unfold dW prc
  rw [e 700 _ (by omega), e 701 _ (by omega), e 403 _ (by omega), e 705 _ (by omega), e 405 _ (by omega), e 702 _ (by omega)]
/-- spread anew, from a store whose rows of ways are any -/
theorem sprX {d N : Nat} {k w W H : Int} {T : Tt} {σ : St} {Q : vmO → vmH → Prop} {C : Int → Int} {X : Dj} (hW : hpW σ W H N) (w0 : 0 ≤ w) (w1 : w < σ 404 3 0)
    (hQ : ∀ C X, agr 36 X.1 (dW σ W H N w) → frIn X.1 → Q (.inl none) (E T (wyD (upA σ 1000 144 C) 144 X))) : Ca (d + 4) k 96 [.ref 144, .ref 3, .ref 10, .int (i32 w)] (E T (wyD (upA σ 1000 144 C) 144 X)) Q := by
  refine sprW (σ := wyD (upA σ 1000 144 C) 144 X) (hpW_wd hW) w0 (by rw [wdt (by omega)]; exact w1) ?_
  intro C' X' hX hfr _
  rw [wd_wd]
  refine hQ C' X' ?_ hfr
  have := dW_wd (σ := σ) (W := W) (H := H) (w := w) (N := N) (C := C) (X := X)
  unfold dW at this ⊢
  rw [this] at hX
  exact hX
