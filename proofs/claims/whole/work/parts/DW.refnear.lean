/-! ===== the reference: the nearest cell that is not done ===== -/
def nrR (f : Int → Int) (p : Int → Bool) : Nat → Int
  | 0 => -1
  | n + 1 => if p n = false ∧ f n < far ∧ (nrR f p n = -1 ∨ f n < f (nrR f p n)) then (n : Int) else nrR f p n
theorem nrR_ok {f : Int → Int} {p : Int → Bool} (n : Nat) : (nrR f p n = -1 ∧ ∀ j : Int, 0 ≤ j → j < n → p j = false → ¬ f j < far) ∨ ((0 ≤ nrR f p n ∧ nrR f p n < n) ∧ p (nrR f p n) = false ∧ f (nrR f p n) < far ∧ ∀ j : Int, 0 ≤ j → j < n → p j = false → f (nrR f p n) ≤ f j) := by
  induction n with
  | zero => exact Or.inl ⟨rfl, fun j j0 j1 => by omega⟩
  | succ n ih =>
    rw [show nrR f p (n + 1) = if p n = false ∧ f n < far ∧ (nrR f p n = -1 ∨ f n < f (nrR f p n)) then (n : Int) else nrR f p n from rfl]
    by_cases e : p n = false ∧ f n < far ∧ (nrR f p n = -1 ∨ f n < f (nrR f p n))
    · rw [if_pos e]
      refine Or.inr ⟨by omega, e.1, e.2.1, fun j j0 j1 hj => ?_⟩
      by_cases ej : j = n
      · rw [ej]; exact Int.le_refl _
      · rcases ih with ih | ih
        · have := ih.2 j j0 (by omega) hj
          have := e.2.1
          omega
        · have := ih.2.2.2 j j0 (by omega) hj
          have := e.2.2
          omega
    · rw [if_neg e]
      rcases ih with ih | ih
      · refine Or.inl ⟨ih.1, fun j j0 j1 hj => ?_⟩
        by_cases ej : j = n
        · rw [ej] at hj ⊢; exact fun w => e ⟨hj, w, Or.inl ih.1⟩
        · exact ih.2 j j0 (by omega) hj
      · refine Or.inr ⟨by omega, ih.2.1, ih.2.2.1, fun j j0 j1 hj => ?_⟩
        by_cases ej : j = n
        · rw [ej] at hj ⊢
          by_cases w : f n < f (nrR f p n)
          · exact absurd ⟨hj, by have := ih.2.2.1; omega, Or.inr w⟩ e
          · omega
        · exact ih.2.2.2 j j0 (by omega) hj
theorem c262 {d : Nat} {k B : Int} {K f : Int → Int} {p : Int → Bool} {T : Tt} {σ : St} {Q : vmO → vmH → Prop} (hK : σ 1200 382 = K) (hv : kV K B) (hf : ∀ z, 0 ≤ z → z < K 1 * K 2 → (0 ≤ f z ∧ f z ≤ 6516) ∨ f z = far) (hD : ∀ z, 0 ≤ z → z < K 1 * K 2 → σ 1220 382 z = rf (f z)) : Ca (d + 1) k 262 [.ref 382, .long (bs p)] (E T σ) Q = Q (.inl (some (.int (i32 (nrR f p (nK K)))))) (E T σ) := by
  have h0 := ob_md
  have hfar : far = 1000000000 := rfl
  have hhi : hiR = 536870912 := rfl
  have hm := wh_mul0 hv.1.1
  have hn := nK_c hv.1
  rw [n262 _ _ _ _ _ _ _ h0]
  have loop : ∀ (m n : Nat), n + m = nK K → Wp (d + 1) M_X12_nearest 5 [.ref 382, .long (bs p), vmJ, .int (i32 (nrR f p n)), .int (i32 n)] [] (E T σ) Q = Q (.inl (some (.int (i32 (nrR f p (nK K)))))) (E T σ) := by
    intro m
    induction m with
    | zero =>
      intro n hn2
      have hn2 : n = nK K := by omega
      subst hn2
      rw [w262_5]
      simp (disch := (first | assumption | omega | exact Nat.le_of_ble_eq_true rfl | rfl)) only [w262_7, w262_8, Ko_n, Ko_v, vX_i, vX_r, vX_l, vX_j, reduceIte]
      rw [c210 hK]
      simp (disch := (first | assumption | omega | exact Nat.le_of_ble_eq_true rfl | rfl)) only [w262_11, w262_14, w262_15, w262_17, w262_20, w262_23, w262_24, w262_27, w262_29, w262_30, w262_33, w262_36, w262_37, w262_38, w262_41, w262_42, w262_45, w262_47, w262_48, w262_49, w262_52, w262_53, w262_54, w262_57, w262_59, w262_60, w262_63, w262_66, w262_67, Ko_n, Ko_v, vX_i, vX_r, vX_l, vX_j, reduceIte, hn, Int.le_refl]
    | succ m ih =>
      intro n hn2
      have ih' := ih (n + 1) (by omega)
      rw [show ((n + 1 : Nat) : Int) = (n : Int) + 1 by omega, show nrR f p (n + 1) = if p n = false ∧ f n < far ∧ (nrR f p n = -1 ∨ f n < f (nrR f p n)) then (n : Int) else nrR f p n from rfl] at ih'
      have ok := nrR_ok (f := f) (p := p) n
      have bn := rf_in (hf n (by omega) (by omega))
      have dn := hD n (by omega) (by omega)
      rw [w262_5]
      simp (disch := (first | assumption | omega | exact Nat.le_of_ble_eq_true rfl | rfl)) only [w262_7, w262_8, Ko_n, Ko_v, vX_i, vX_r, vX_l, vX_j, reduceIte]
      rw [c210 hK]
      simp (disch := (first | assumption | omega | exact Nat.le_of_ble_eq_true rfl | rfl)) only [w262_11, w262_14, w262_15, w262_17, Ko_n, Ko_v, vX_i, vX_r, vX_l, vX_j, reduceIte, show ¬ K 1 * K 2 ≤ (n : Int) by omega]
      rw [c178 (by omega) (by omega) (by omega)]
      cases e : p n with
      | true =>
        rw [if_neg (fun w => by rw [e] at w; exact Bool.noConfusion w.1)] at ih'
        simp (disch := (first | assumption | omega | exact Nat.le_of_ble_eq_true rfl | rfl)) only [w262_20, w262_23, w262_24, w262_27, w262_29, w262_30, w262_33, w262_36, w262_37, w262_38, w262_41, w262_42, w262_45, w262_47, w262_48, w262_49, w262_52, w262_53, w262_54, w262_57, w262_59, w262_60, w262_63, Ko_n, Ko_v, vX_i, vX_r, vX_l, vX_j, reduceIte, Int.reduceEq, not_false_eq_true]
        exact ih'
      | false =>
        by_cases e2 : f n < far
        · rw [show rf (f n) = f n from if_pos e2] at dn
          by_cases e3 : nrR f p n = -1
          · rw [if_pos ⟨e, e2, Or.inl e3⟩] at ih'
            simp (disch := (first | assumption | omega | exact Nat.le_of_ble_eq_true rfl | rfl)) only [w262_20, w262_23, w262_24, w262_27, w262_29, w262_30, w262_33, w262_36, w262_37, w262_38, w262_41, w262_42, w262_45, w262_47, w262_48, w262_49, w262_52, w262_53, w262_54, w262_57, w262_59, w262_60, w262_63, Ko_n, Ko_v, vX_i, vX_r, vX_l, vX_j, reduceIte, Bool.false_eq_true, not_true, dn, show ¬ (536870912 : Int) ≤ f n by omega, e3]
            exact ih'
          · have rk : (0 ≤ nrR f p n ∧ nrR f p n < n) ∧ f (nrR f p n) < far := by
              rcases ok with ok | ok
              · exact absurd ok.1 e3
              · exact ⟨ok.1, ok.2.2.1⟩
            have br := hf (nrR f p n) (by omega) (by omega)
            have dr := hD (nrR f p n) (by omega) (by omega)
            rw [show rf (f (nrR f p n)) = f (nrR f p n) from if_pos rk.2] at dr
            by_cases e4 : f n < f (nrR f p n)
            · rw [if_pos ⟨e, e2, Or.inr e4⟩] at ih'
              simp (disch := (first | assumption | omega | exact Nat.le_of_ble_eq_true rfl | rfl)) only [w262_20, w262_23, w262_24, w262_27, w262_29, w262_30, w262_33, w262_36, w262_37, w262_38, w262_41, w262_42, w262_45, w262_47, w262_48, w262_49, w262_52, w262_53, w262_54, w262_57, w262_59, w262_60, w262_63, Ko_n, Ko_v, vX_i, vX_r, vX_l, vX_j, reduceIte, Bool.false_eq_true, not_true, dn, dr, show ¬ (536870912 : Int) ≤ f n by omega, e3, show ¬ f (nrR f p n) ≤ f n by omega]
              exact ih'
            · rw [if_neg (fun w => by rcases w.2.2 with w | w; exact e3 w; exact e4 w)] at ih'
              simp (disch := (first | assumption | omega | exact Nat.le_of_ble_eq_true rfl | rfl)) only [w262_20, w262_23, w262_24, w262_27, w262_29, w262_30, w262_33, w262_36, w262_37, w262_38, w262_41, w262_42, w262_45, w262_47, w262_48, w262_49, w262_52, w262_53, w262_54, w262_57, w262_59, w262_60, w262_63, Ko_n, Ko_v, vX_i, vX_r, vX_l, vX_j, reduceIte, Bool.false_eq_true, not_true, dn, dr, show ¬ (536870912 : Int) ≤ f n by omega, e3, show f (nrR f p n) ≤ f n by omega]
              exact ih'
        · rw [if_neg (fun w => e2 w.2.1)] at ih'
          rw [show rf (f n) = 536870912 from if_neg e2] at dn
          simp (disch := (first | assumption | omega | exact Nat.le_of_ble_eq_true rfl | rfl)) only [w262_20, w262_23, w262_24, w262_27, w262_29, w262_30, w262_33, w262_36, w262_37, w262_38, w262_41, w262_42, w262_45, w262_47, w262_48, w262_49, w262_52, w262_53, w262_54, w262_57, w262_59, w262_60, w262_63, Ko_n, Ko_v, vX_i, vX_r, vX_l, vX_j, reduceIte, Bool.false_eq_true, not_true, dn, Int.le_refl]
          exact ih'
  simp (disch := (first | assumption | omega | exact Nat.le_of_ble_eq_true rfl | rfl)) only [w262_0, w262_1, w262_2, w262_3, Ko_n, Ko_v, vX_i, vX_r, vX_l, vX_j, reduceIte]
  exact loop (nK K) 0 (by omega)
