/-! ===== the reference: the way ===== -/
theorem dD_nw {W H t z : Int} {c : Int → Int} {N : Nat} (h : wh2 W H) (hc : csIn c (W * H)) (hN : (N : Int) = W * H) (z0 : 0 ≤ z) (z1 : z < W * H) (hf : dD W H c t N z < far) : c z ≠ -1 := by
  by_cases e : z = t
  · rw [e]; exact dD_t h hc hN z0 z1 hf
  · obtain ⟨d, _, _, _, h4, _⟩ := dD_by h hc hN z0 z1 e hf
    exact h4
/-- the least of the four that will do, in the reference's order -/
abbrev gdP (W H : Int) (c f : Int → Int) (z d : Int) : Prop := nbC W H z d ≠ -1 ∧ f (nbC W H z d) + c z = f z
def bst (W H : Int) (c f : Int → Int) (z : Int) : Nat → Int
  | 0 => -1
  | e + 1 => if gdP W H c f z (rdD e) ∧ (bst W H c f z e = -1 ∨ nbC W H z (rdD e) < bst W H c f z e) then nbC W H z (rdD e) else bst W H c f z e
theorem stp5 {g : Prop} [Decidable g] {b A : Int} (h : g → b = -1 ∨ A < b) : (if g ∧ (b = -1 ∨ A < b) then A else b) = if g then A else b := by
  by_cases x : g
  · rw [if_pos ⟨x, h x⟩, if_pos x]
  · rw [if_neg (fun w => x w.1), if_neg x]
theorem stp6 {g : Prop} [Decidable g] {b A : Int} (h : g → ¬ (b = -1 ∨ A < b)) : (if g ∧ (b = -1 ∨ A < b) then A else b) = b := by
  rw [if_neg (fun w => h w.1 w.2)]
theorem mn4 {A0 A1 A2 A3 : Int} {g0 g1 g2 g3 : Prop} [Decidable g0] [Decidable g1] [Decidable g2] [Decidable g3] (h0 : g0 → 0 ≤ A0) (h1 : g1 → 0 ≤ A1) (h2 : g2 → 0 ≤ A2) (o01 : g0 → g1 → A0 < A1) (o02 : g0 → g2 → A0 < A2) (o03 : g0 → g3 → A0 < A3) (o12 : g1 → g2 → A1 < A2) (o13 : g1 → g3 → A1 < A3) (o23 : g2 → g3 → A2 < A3) :
    ∀ b1 b2 b3 b4 : Int, b1 = (if g1 ∧ ((-1 : Int) = -1 ∨ A1 < -1) then A1 else -1) → b2 = (if g2 ∧ (b1 = -1 ∨ A2 < b1) then A2 else b1) → b3 = (if g0 ∧ (b2 = -1 ∨ A0 < b2) then A0 else b2) → b4 = (if g3 ∧ (b3 = -1 ∨ A3 < b3) then A3 else b3) → b4 = (if g0 then A0 else if g1 then A1 else if g2 then A2 else if g3 then A3 else -1) := by
  intro b1 b2 b3 b4 e1 e2 e3 e4
  rw [stp5 (fun _ => Or.inl rfl)] at e1
  by_cases x1 : g1
  · rw [if_pos x1] at e1
    have p1 := h1 x1
    rw [stp6 (fun w => by have := o12 x1 w; rw [e1]; omega)] at e2
    rw [stp5 (fun w => Or.inr (by have := o01 w x1; rw [e2, e1]; exact this))] at e3
    by_cases x0 : g0
    · rw [if_pos x0] at e3
      have p0 := h0 x0
      rw [stp6 (fun w => by have := o03 x0 w; rw [e3]; omega)] at e4
      rw [if_pos x0, e4, e3]
    · rw [if_neg x0] at e3
      rw [stp6 (fun w => by have := o13 x1 w; rw [e3, e2, e1]; omega)] at e4
      rw [if_neg x0, if_pos x1, e4, e3, e2, e1]
  · rw [if_neg x1] at e1
    rw [stp5 (fun _ => Or.inl e1)] at e2
    by_cases x2 : g2
    · rw [if_pos x2] at e2
      have p2 := h2 x2
      rw [stp5 (fun w => Or.inr (by have := o02 w x2; rw [e2]; exact this))] at e3
      by_cases x0 : g0
      · rw [if_pos x0] at e3
        have p0 := h0 x0
        rw [stp6 (fun w => by have := o03 x0 w; rw [e3]; omega)] at e4
        rw [if_pos x0, e4, e3]
      · rw [if_neg x0] at e3
        rw [stp6 (fun w => by have := o23 x2 w; rw [e3, e2]; omega)] at e4
        rw [if_neg x0, if_neg x1, if_pos x2, e4, e3, e2]
    · rw [if_neg x2] at e2
      rw [stp5 (fun w => Or.inl (by rw [e2, e1]))] at e3
      by_cases x0 : g0
      · rw [if_pos x0] at e3
        have p0 := h0 x0
        rw [stp6 (fun w => by have := o03 x0 w; rw [e3]; omega)] at e4
        rw [if_pos x0, e4, e3]
      · rw [if_neg x0] at e3
        rw [stp5 (fun w => Or.inl (by rw [e3, e2, e1]))] at e4
        rw [if_neg x0, if_neg x1, if_neg x2, e4]
        by_cases x3 : g3
        · rw [if_pos x3, if_pos x3]
        · rw [if_neg x3, if_neg x3, e3, e2, e1]
theorem bst_on {W H z : Int} {c f : Int → Int} (h : wh2 W H) (z0 : 0 ≤ z) (z1 : z < W * H) : bst W H c f z 4 = onI W H c f z 4 := by
  have hm := wh_mul h
  have n0 := fun w => (nb_in (d := 0) h z0 z1 w)
  have n1 := fun w => (nb_in (d := 1) h z0 z1 w)
  have n2 := fun w => (nb_in (d := 2) h z0 z1 w)
  have n3 := fun w => (nb_in (d := 3) h z0 z1 w)
  have v0 : nbC W H z 0 ≠ -1 → nbC W H z 0 = z - W := fun w => by unfold nbC at w ⊢; rw [if_pos rfl] at w ⊢; by_cases q : 0 < z / W; rw [if_pos q]; rw [if_neg q] at w; exact absurd rfl w
  have v1 : nbC W H z 1 ≠ -1 → nbC W H z 1 = z - 1 := fun w => by unfold nbC at w ⊢; rw [if_neg (by omega), if_pos rfl] at w ⊢; by_cases q : 0 < z % W; rw [if_pos q]; rw [if_neg q] at w; exact absurd rfl w
  have v2 : nbC W H z 2 ≠ -1 → nbC W H z 2 = z + 1 := fun w => by unfold nbC at w ⊢; rw [if_neg (by omega), if_neg (by omega), if_pos rfl] at w ⊢; by_cases q : z % W < W - 1; rw [if_pos q]; rw [if_neg q] at w; exact absurd rfl w
  have v3 : nbC W H z 3 ≠ -1 → nbC W H z 3 = z + W := fun w => by unfold nbC at w ⊢; rw [if_neg (by omega), if_neg (by omega), if_neg (by omega)] at w ⊢; by_cases q : z / W < H - 1; rw [if_pos q]; rw [if_neg q] at w; exact absurd rfl w
  have hw := h.1
  exact mn4 (A0 := nbC W H z 0) (A1 := nbC W H z 1) (A2 := nbC W H z 2) (A3 := nbC W H z 3) (g0 := gdP W H c f z 0) (g1 := gdP W H c f z 1) (g2 := gdP W H c f z 2) (g3 := gdP W H c f z 3)
    (fun w => (n0 w.1).1) (fun w => (n1 w.1).1) (fun w => (n2 w.1).1)
    (fun a b => by rw [v0 a.1, v1 b.1]; omega) (fun a b => by rw [v0 a.1, v2 b.1]; omega) (fun a b => by rw [v0 a.1, v3 b.1]; omega) (fun a b => by rw [v1 a.1, v2 b.1]; omega) (fun a b => by rw [v1 a.1, v3 b.1]; omega) (fun a b => by rw [v2 a.1, v3 b.1]; omega)
    (bst W H c f z 1) (bst W H c f z 2) (bst W H c f z 3) (bst W H c f z 4) rfl rfl rfl rfl
