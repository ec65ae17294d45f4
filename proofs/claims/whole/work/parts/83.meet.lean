/-! ===== HedgePark: meet ===== -/
def bth (z a b : Int) : Int := if z = 0 then a + b else max a b
/-- the best place of the first n to meet at: how much, and where -/
def mtI (f g : Int → Int) (z : Int) : Nat → Int × Int
  | 0 => (far, -1)
  | n + 1 => if f n < far ∧ g n < far ∧ bth z (f n) (g n) < (mtI f g z n).1 then (bth z (f n) (g n), (n : Int)) else mtI f g z n
theorem mtI_in {f g : Int → Int} {z : Int} (hf : frIn f) (hg : frIn g) (n : Nat) (hn : n ≤ 36) : 0 ≤ (mtI f g z n).1 ∧ (mtI f g z n).1 ≤ far := by
  have hfar : far = 1000000000 := rfl
  induction n with
  | zero => exact ⟨by show (0 : Int) ≤ far; omega, Int.le_refl _⟩
  | succ n ih =>
    have := ih (by omega)
    have h1 := hf n (by omega) (by omega)
    have h2 := hg n (by omega) (by omega)
    simp only [mtI]
    split
    · rename_i v
      refine ⟨?_, Int.le_trans (Int.le_of_lt v.2.2) this.2⟩
      show 0 ≤ bth z (f n) (g n)
      unfold bth
      split <;> omega
    · exact this
theorem mtI_congr {f g f' g' : Int → Int} {z : Int} (h : agr 36 f f') (h' : agr 36 g g') (n : Nat) (hn : n ≤ 36) : mtI f g z n = mtI f' g' z n := by
  induction n with
  | zero => rfl
  | succ n ih =>
    simp only [mtI]
    rw [ih (by omega), h n (by omega) (by omega), h' n (by omega) (by omega)]
theorem wk_w0 {σ : St} {C K' : Int → Int} {X : Dj} : upA (wyD (upA σ 1000 144 C) 144 X) 1002 144 K' = wyD (upA (upA σ 1002 144 K') 1000 144 C) 144 X := by
  have := wk_wd (σ := σ) (C := C) (K := σ 1002 144) (K' := K') (X := X)
  rw [upA_self] at this
  exact this
