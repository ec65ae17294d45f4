/-! ===== HedgePark: first ===== -/
/-- the rows of ways may be other ones -/
def wdR (σ τ : St) : Prop := τ = σ ∨ ∃ C X, τ = wyD (upA σ 1000 144 C) 144 X
theorem wdR_t {σ τ : St} {t o : Nat} (h : wdR σ τ) (ht : t < 1000 ∨ 1006 < t) : τ t o = σ t o := by
  rcases h with rfl | ⟨C, X, rfl⟩
  · rfl
  · exact wdt ht
theorem sprR {d N : Nat} {k w W H : Int} {T : Tt} {σ τ : St} {Q : vmO → vmH → Prop} (hR : wdR σ τ) (hW : hpW σ W H N) (w0 : 0 ≤ w) (w1 : w < σ 404 3 0)
    (hQ : ∀ C X, agr 36 X.1 (dW σ W H N w) → frIn X.1 → Q (.inl none) (E T (wyD (upA σ 1000 144 C) 144 X))) : Ca (d + 4) k 96 [.ref 144, .ref 3, .ref 10, .int (i32 w)] (E T τ) Q := by
  rcases hR with rfl | ⟨C, X, rfl⟩
  · exact sprW hW w0 w1 (fun C X h1 h2 _ => hQ C X h1 h2)
  · exact sprX hW w0 w1 hQ
/-- the soonest of the first n walkers at a cell: when, and who -/
def fsI (f : Int → Int) : Nat → Int × Int
  | 0 => (far, -1)
  | n + 1 => if f n < (fsI f n).1 then (f n, (n : Int)) else fsI f n
theorem fsI_in {f : Int → Int} {m : Nat} (hf : ∀ w : Nat, w < m → 0 ≤ f w ∧ f w ≤ far) (n : Nat) (hn : n ≤ m) : 0 ≤ (fsI f n).1 ∧ (fsI f n).1 ≤ far := by
  have hfar : far = 1000000000 := rfl
  induction n with
  | zero => exact ⟨by show (0 : Int) ≤ far; omega, Int.le_refl _⟩
  | succ n ih =>
    have := ih (by omega)
    have h2 := hf n (by omega)
    simp only [fsI]
    split
    · exact h2
    · exact this
theorem c142 {d N : Nat} {k c W H : Int} {T : Tt} {σ : St} {Q : vmO → vmH → Prop} (hW : hpW σ W H N) (x0 : -2147483648 ≤ c) (x1 : c < 2147483648)
    (hQ1 : ¬ (0 ≤ c ∧ c < N) → Q (.inr 0) (E (thr T) σ))
    (hQ2 : 0 ≤ c → c < N → ∀ τ, wdR σ τ → Q (.inl (some (.int (i32 (fsI (fun w => dW σ W H N w c) (σ 404 3 0).toNat).2)))) (E T τ)) : Ca (d + 10) k 142 [.ref 0, .int (i32 c)] (E T σ) Q := by
  have h0 := ob_hp; have h2 := ob_st; have h3 := ob_p3; have hn := ob_n10; have hwy := ob_wy
  have hm := wh_mul0 hW.2.1
  have hNw := hW.2.2.1
  have hfar : far = 1000000000 := rfl
  have hN : σ 401 3 0 * σ 402 3 0 = (N : Int) := by rw [hW.1.1, hW.1.2.1, hW.2.2.1]
  have v0 := hW.2.2.2.2.2.1
  have v1 := hW.2.2.2.2.2.2.1
  rw [n142 _ _ _ _ _ _ _ h0]
  simp (disch := (first | assumption | omega | exact Nat.le_of_ble_eq_true rfl | rfl)) only [w142_0, w142_1, w142_2, w142_5, w142_8, w142_9, w142_10, w142_11, w142_12, w142_16, w142_17, w142_20, w142_23, w142_26, w142_29, w142_30, w142_33, w142_34, w142_37, w142_40, w142_41, w142_44, w142_47, w142_49, w142_52, w142_53, w142_56, w142_59, w142_60, w142_61, w142_62, w142_65, w142_66, w142_69, w142_72, w142_73, w142_74, w142_75, w142_77, w142_78, w142_81, w142_84, w142_85, Ko_n, Ko_v, vX_i, vX_r, vX_l, vX_j, reduceIte]
  rw [c163 hN (by omega) (by omega) x0 x1]
  by_cases hv : 0 ≤ c ∧ c < (N : Int)
  · rw [if_pos hv]
    obtain ⟨k0, k1⟩ := hv
    have loop : ∀ (m n : Nat) (τ : St), wdR σ τ → n + m = (σ 404 3 0).toNat → (0 ≤ (fsI (fun w => dW σ W H N w c) n).1 ∧ (fsI (fun w => dW σ W H N w c) n).1 ≤ far) → Wp (d + 10) M_X11_first 14 [.ref 0, .int (i32 c), .int (i32 (fsI (fun w => dW σ W H N w c) n).1), .int (i32 (fsI (fun w => dW σ W H N w c) n).2), .int (i32 n)] [] (E T τ) Q := by
      intro m
      induction m with
      | zero =>
        intro n τ hR hn2 hi
        have hn2 : n = (σ 404 3 0).toNat := by omega
        have hq := hQ2 k0 k1 τ hR
        rw [← hn2] at hq
        have e4 := wdR_t (t := 404) (o := 3) hR (by omega)
        rw [w142_14]
        simp (disch := (first | assumption | omega | exact Nat.le_of_ble_eq_true rfl | rfl)) only [w142_0, w142_1, w142_2, w142_5, w142_8, w142_9, w142_10, w142_11, w142_12, w142_16, w142_17, w142_20, w142_23, w142_26, w142_29, w142_30, w142_33, w142_34, w142_37, w142_40, w142_41, w142_44, w142_47, w142_49, w142_52, w142_53, w142_56, w142_59, w142_60, w142_61, w142_62, w142_65, w142_66, w142_69, w142_72, w142_73, w142_74, w142_75, w142_77, w142_78, w142_81, w142_84, w142_85, Ko_n, Ko_v, vX_i, vX_r, vX_l, vX_j, reduceIte, Nat.reduceAdd, e4, show σ 404 3 0 ≤ (n : Int) by omega]
        exact hq
      | succ m ih =>
        intro n τ hR hn2 hi
        have e4 := wdR_t (t := 404) (o := 3) hR (by omega)
        rw [w142_14]
        simp (disch := (first | assumption | omega | exact Nat.le_of_ble_eq_true rfl | rfl)) only [w142_0, w142_1, w142_2, w142_5, w142_8, w142_9, w142_10, w142_11, w142_12, w142_16, w142_17, w142_20, w142_23, w142_26, w142_29, w142_30, w142_33, w142_34, w142_37, w142_40, w142_41, w142_44, w142_47, w142_49, w142_52, w142_53, w142_56, w142_59, w142_60, w142_61, w142_62, w142_65, w142_66, w142_69, w142_72, w142_73, w142_74, w142_75, w142_77, w142_78, w142_81, w142_84, w142_85, Ko_n, Ko_v, vX_i, vX_r, vX_l, vX_j, reduceIte, Nat.reduceAdd, e4, show ¬ σ 404 3 0 ≤ (n : Int) by omega]
        refine sprR hR hW (by omega) (by omega) ?_
        intro C X hX hfr
        have hx := hX c k0 (by omega)
        have hf := hfr c k0 (by omega)
        have ih' := ih (n + 1) _ (Or.inr ⟨C, X, rfl⟩) (by omega)
        simp only [fsI] at ih'
        rw [← hx] at ih'
        by_cases c1 : X.1 c < (fsI (fun w => dW σ W H N w c) n).1
        · rw [if_pos c1] at ih'
          simp (disch := (first | assumption | omega | exact Nat.le_of_ble_eq_true rfl | rfl)) only [w142_0, w142_1, w142_2, w142_5, w142_8, w142_9, w142_10, w142_11, w142_12, w142_16, w142_17, w142_20, w142_23, w142_26, w142_29, w142_30, w142_33, w142_34, w142_37, w142_40, w142_41, w142_44, w142_47, w142_49, w142_52, w142_53, w142_56, w142_59, w142_60, w142_61, w142_62, w142_65, w142_66, w142_69, w142_72, w142_73, w142_74, w142_75, w142_77, w142_78, w142_81, w142_84, w142_85, Ko_n, Ko_v, vX_i, vX_r, vX_l, vX_j, reduceIte, Nat.reduceAdd, wd1, show ¬ (fsI (fun w => dW σ W H N w c) n).1 ≤ X.1 c by omega]
          exact ih' hf
        · rw [if_neg c1] at ih'
          simp (disch := (first | assumption | omega | exact Nat.le_of_ble_eq_true rfl | rfl)) only [w142_0, w142_1, w142_2, w142_5, w142_8, w142_9, w142_10, w142_11, w142_12, w142_16, w142_17, w142_20, w142_23, w142_26, w142_29, w142_30, w142_33, w142_34, w142_37, w142_40, w142_41, w142_44, w142_47, w142_49, w142_52, w142_53, w142_56, w142_59, w142_60, w142_61, w142_62, w142_65, w142_66, w142_69, w142_72, w142_73, w142_74, w142_75, w142_77, w142_78, w142_81, w142_84, w142_85, Ko_n, Ko_v, vX_i, vX_r, vX_l, vX_j, reduceIte, Nat.reduceAdd, wd1, show (fsI (fun w => dW σ W H N w c) n).1 ≤ X.1 c by omega]
          exact ih' hi
    simp (disch := (first | assumption | omega | exact Nat.le_of_ble_eq_true rfl | rfl)) only [w142_0, w142_1, w142_2, w142_5, w142_8, w142_9, w142_10, w142_11, w142_12, w142_16, w142_17, w142_20, w142_23, w142_26, w142_29, w142_30, w142_33, w142_34, w142_37, w142_40, w142_41, w142_44, w142_47, w142_49, w142_52, w142_53, w142_56, w142_59, w142_60, w142_61, w142_62, w142_65, w142_66, w142_69, w142_72, w142_73, w142_74, w142_75, w142_77, w142_78, w142_81, w142_84, w142_85, Ko_n, Ko_v, vX_i, vX_r, vX_l, vX_j, reduceIte, Nat.reduceAdd]
    exact loop _ 0 σ (Or.inl rfl) (Nat.zero_add _) ⟨by show (0 : Int) ≤ far; omega, Int.le_refl _⟩
  · rw [if_neg hv, Ko_x rfl]
    exact hQ1 hv
