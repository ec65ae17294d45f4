/-! ===== HedgePark: within, steps: the pure side ===== -/
/-- the least costs with at most n steps -/
def stN (W H : Int) (N : Nat) (c f : Int → Int) : Nat → Int → Int
  | 0 => f
  | n + 1 => cp (stp W H c (stN W H N c f n)) (stN W H N c f n) N
theorem stN_in {W H : Int} {N : Nat} {c f : Int → Int} (h : wh2 W H) (hN : (N : Int) = W * H) (hc : csIn c (W * H)) (hf : frIn f) (n : Nat) : frIn (stN W H N c f n) := by
  induction n with
  | zero => exact hf
  | succ n ih => exact cp_fr ih (fun z z0 z1 => stp_in h hc ih z0 (by omega))
theorem ls_no {F f : Int → Int} {n : Nat} (h : ls F f n = false) (k : Nat) (hk : k < n) : ¬ F k < f k := by
  induction n with
  | zero => omega
  | succ n ih =>
    simp only [ls, Bool.or_eq_false_iff, decide_eq_false_iff_not] at h
    by_cases e : k = n
    · rw [e]; exact h.2
    · exact ih h.1 (by omega)
/-- no cell less: it stays so -/
theorem cp_no {W H : Int} {N : Nat} {c f : Int → Int} (h : wh2 W H) (hN : (N : Int) = W * H) (hc : csIn c (W * H)) (hf : frIn f) (hl : ls (stp W H c f) f N = false) : cp (stp W H c f) f N = f := by
  funext k
  unfold cp
  by_cases hk : 0 ≤ k ∧ k < (N : Int)
  · rw [if_pos hk]
    have a := stp_in h hc hf hk.1 (by omega : k < W * H)
    have b := ls_no hl k.toNat (by omega)
    rw [show ((k.toNat : Nat) : Int) = k by omega] at b
    omega
  · rw [if_neg hk]
theorem stN_no {W H : Int} {N : Nat} {c f : Int → Int} (h : wh2 W H) (hN : (N : Int) = W * H) (hc : csIn c (W * H)) (hf : frIn f) (n : Nat) (hl : ls (stp W H c (stN W H N c f n)) (stN W H N c f n) N = false) (m : Nat) : stN W H N c f (n + m) = stN W H N c f n := by
  induction m with
  | zero => rfl
  | succ m ih =>
    show cp (stp W H c (stN W H N c f (n + m))) (stN W H N c f (n + m)) N = _
    rw [ih]
    exact cp_no h hN hc (stN_in h hN hc hf n) hl
