/-! ===== one step further: the mathematics ===== -/
theorem lfb_up {W H z pr v : Int} {g : Int → Int} : ∀ n : Nat, (lfb W H g z pr v n ≤ v) ∧ ∀ d : Nat, d < n → nbC W H z d ≠ -1 → lfb W H g z pr v n ≤ g (nbC W H z d) + pr
  | 0 => ⟨Int.le_refl _, fun d hd => by omega⟩
  | n + 1 => by
    have ih := lfb_up (W := W) (H := H) (z := z) (pr := pr) (v := v) (g := g) n
    rw [show lfb W H g z pr v (n + 1) = if nbC W H z n = -1 then lfb W H g z pr v n else min (lfb W H g z pr v n) (g (nbC W H z n) + pr) from rfl]
    by_cases e : nbC W H z n = -1
    · rw [if_pos e]
      refine ⟨ih.1, fun d hd hn => ?_⟩
      by_cases ed : d = n
      · rw [ed] at hn; exact absurd e hn
      · exact ih.2 d (by omega) hn
    · rw [if_neg e]
      refine ⟨by have := ih.1; omega, fun d hd hn => ?_⟩
      by_cases ed : d = n
      · rw [ed]; omega
      · have := ih.2 d (by omega) hn; omega
theorem lfb_by {W H z pr v : Int} {g : Int → Int} : ∀ n : Nat, lfb W H g z pr v n = v ∨ ∃ d : Nat, d < n ∧ nbC W H z d ≠ -1 ∧ lfb W H g z pr v n = g (nbC W H z d) + pr
  | 0 => Or.inl rfl
  | n + 1 => by
    have ih := lfb_by (W := W) (H := H) (z := z) (pr := pr) (v := v) (g := g) n
    rw [show lfb W H g z pr v (n + 1) = if nbC W H z n = -1 then lfb W H g z pr v n else min (lfb W H g z pr v n) (g (nbC W H z n) + pr) from rfl]
    by_cases e : nbC W H z n = -1
    · rw [if_pos e]
      rcases ih with ih | ⟨d, a, b, c⟩
      · exact Or.inl ih
      · exact Or.inr ⟨d, by omega, b, c⟩
    · rw [if_neg e]
      by_cases m : lfb W H g z pr v n ≤ g (nbC W H z n) + pr
      · rw [show min (lfb W H g z pr v n) (g (nbC W H z n) + pr) = lfb W H g z pr v n by omega]
        rcases ih with ih | ⟨d, a, b, c⟩
        · exact Or.inl ih
        · exact Or.inr ⟨d, by omega, b, c⟩
      · exact Or.inr ⟨n, by omega, e, by omega⟩
/-- costs that are small or none -/
def smF (f : Int → Int) (N X : Int) : Prop := ∀ z, 0 ≤ z → z < N → (0 ≤ f z ∧ f z ≤ X) ∨ f z = far
def fuJ (W H : Int) (c f F : Int → Int) (k e : Int) : Prop := ∀ z, 0 ≤ z → z < W * H → (rf (stp W H c f z) ≤ F z ∧ F z ≤ rf (f z)) ∧ ∀ k' e' : Int, 0 ≤ k' → k' < W * H → 0 ≤ e' → e' < 4 → (k' < k ∨ (k' = k ∧ e' < e)) → bsC W H k' e' = z → c z ≠ -1 → f k' < far → F z ≤ f k' + c z
theorem stp_sm {W H X : Int} {c f : Int → Int} (h : wh2 W H) (hc : csIn c (W * H)) (hf : smF f (W * H) X) (X1 : X ≤ 100000) : ∀ z, 0 ≤ z → z < W * H → ((0 ≤ stp W H c f z ∧ stp W H c f z ≤ X + 181) ∨ stp W H c f z = far) ∧ stp W H c f z ≤ f z ∧ rf (stp W H c f z) ≤ rf (f z) := by
  intro z z0 z1
  have hm := wh_mul h
  have hfar : far = 1000000000 := rfl
  have hhi : hiR = 536870912 := rfl
  have fz := hf z z0 z1
  have cz := hc z z0 z1
  have key : (0 ≤ stp W H c f z ∧ stp W H c f z ≤ X + 181 ∨ stp W H c f z = far) ∧ stp W H c f z ≤ f z := by
    unfold stp
    by_cases e : c z = -1
    · rw [if_pos e]; omega
    · rw [if_neg e]
      have up := (lfb_up (W := W) (H := H) (z := z) (pr := c z) (v := f z) (g := f) 4).1
      rcases lfb_by (W := W) (H := H) (z := z) (pr := c z) (v := f z) (g := f) 4 with b | ⟨d, _, hn, b⟩
      · omega
      · have hi := nb_in h z0 z1 hn
        have fb := hf _ hi.1 hi.2.1
        omega
  refine ⟨key.1, key.2, ?_⟩
  unfold rf
  by_cases a : stp W H c f z < far
  · rw [if_pos a]
    by_cases b : f z < far
    · rw [if_pos b]; exact key.2
    · rw [if_neg b]; omega
  · rw [if_neg a]
    by_cases b : f z < far
    · have := key.2; omega
    · rw [if_neg b]; omega
theorem fuJ_end {W H X : Int} {c f F : Int → Int} (h : wh2 W H) (hc : csIn c (W * H)) (hf : smF f (W * H) X) (X1 : X ≤ 100000) (hJ : fuJ W H c f F (W * H) 0) : ∀ z, 0 ≤ z → z < W * H → F z = rf (stp W H c f z) := by
  intro z z0 z1
  have hm := wh_mul h
  have hfar : far = 1000000000 := rfl
  have hhi : hiR = 536870912 := rfl
  have j := hJ z z0 z1
  have s := stp_sm h hc hf X1 z z0 z1
  have fz := hf z z0 z1
  have cz := hc z z0 z1
  by_cases e : c z = -1
  · have : stp W H c f z = f z := by unfold stp; rw [if_pos e]
    rw [this] at j ⊢
    omega
  · have es : stp W H c f z = lfb W H f z (c z) (f z) 4 := by unfold stp; rw [if_neg e]
    rcases lfb_by (W := W) (H := H) (z := z) (pr := c z) (v := f z) (g := f) 4 with b | ⟨d, d4, hn, b⟩
    · rw [es, b] at j ⊢
      omega
    · have hi := nb_in h z0 z1 hn
      have fb := hf _ hi.1 hi.2.1
      rw [← es] at b
      have fl : f (nbC W H z d) < far := by omega
      obtain ⟨e', a1, a2, he⟩ := rd_inv (e := 3 - (d : Int)) (by omega) (by omega)
      have hb : bsC W H (nbC W H z d) e' = z := by
        unfold bsC
        rw [he]
        exact nb_sym h z0 z1 (by omega) (by omega) hn
      have q := j.2 (nbC W H z d) e' hi.1 hi.2.1 a1 a2 (Or.inl hi.2.1) hb e fl
      have r : rf (stp W H c f z) = stp W H c f z := if_pos (by omega)
      rw [r] at j ⊢
      omega
