/-! ===== Ways: one step more, one hedge more, the way ===== -/
/-- one step more: what is less from beside at its own price, where it isn't a wall -/
def stp (W H : Int) (c f : Int → Int) : Int → Int := fun z => if c z = -1 then f z else lfb W H f z (c z) (f z) 4
/-- whether some cell of the first n is less -/
def ls (F f : Int → Int) : Nat → Bool
  | 0 => false
  | n + 1 => ls F f n || decide (F n < f n)
theorem lfb_congr {W H z pr v : Int} {g g' : Int → Int} (h : wh2 W H) (he : ∀ k, 0 ≤ k → k < 36 → g k = g' k) (z0 : 0 ≤ z) (z1 : z < W * H) (n : Nat) : lfb W H g z pr v n = lfb W H g' z pr v n := by
  have hm := wh_mul h
  induction n with
  | zero => rfl
  | succ n ih =>
    simp only [lfb]
    rw [ih]
    by_cases hn : nbC W H z n = -1
    · rw [if_pos hn, if_pos hn]
    · rw [if_neg hn, if_neg hn]
      have hi := nb_in h z0 z1 hn
      rw [he _ hi.1 (by omega)]
theorem b01 (b : Bool) : (if b then (1 : Int) else 0) = 0 ∨ (if b then (1 : Int) else 0) = 1 := by cases b <;> simp
theorem stp_in {W H : Int} {c f : Int → Int} (h : wh2 W H) (hc : csIn c (W * H)) (hf : frIn f) {z : Int} (z0 : 0 ≤ z) (z1 : z < W * H) : 0 ≤ stp W H c f z ∧ stp W H c f z ≤ f z := by
  have hm := wh_mul h
  unfold stp
  have hfz := hf z z0 (by omega)
  have hcz := hc z z0 z1
  by_cases hx : c z = -1
  · rw [if_pos hx]; omega
  · rw [if_neg hx]; exact lfb_in h hf z0 z1 (by omega) hfz.1 4
theorem cp_fr {F f : Int → Int} {n : Int} (hf : frIn f) (hF : ∀ z, 0 ≤ z → z < n → 0 ≤ F z ∧ F z ≤ f z) : frIn (cp F f n) := by
  intro k k0 k1
  have a := hf k k0 k1
  unfold cp
  by_cases hk : 0 ≤ k ∧ k < n
  · rw [if_pos hk]
    have b := hF k hk.1 hk.2
    omega
  · rw [if_neg hk]; exact a
theorem c109 {d : Nat} {k W H : Int} {a p N : Nat} {T : Tt} {σ : St} {Q : vmO → vmH → Prop} (ha : ob 10 a) (hp : ob 4 p) (hg : geo σ p W H) (h : wh2 W H) (hN : (N : Int) = W * H) (hc : csIn (σ 1000 a) (W * H)) (hf : frIn (σ 1001 a)) :
    Ca (d + 1) k 109 [.ref a, .ref p] (E T σ) Q = Q (.inl (some (.int (i32 (if ls (stp W H (σ 1000 a) (σ 1001 a)) (σ 1001 a) N then 1 else 0))))) (E T (upA (upA σ 1002 a (cp (σ 1001 a) (σ 1002 a) 36)) 1001 a (cp (stp W H (σ 1000 a) (σ 1001 a)) (σ 1001 a) N))) := by
  have ha3 := ob_lt ha
  have hp3 := ob_lt hp
  have hm := wh_mul h
  have hfar : far = 1000000000 := rfl
  obtain ⟨g1, g2, g3, g4, g5, g6⟩ := id hg
  have hcell : σ 401 p 0 * σ 402 p 0 = N := by rw [g1, g2, hN]
  have hkp : ∀ k, 0 ≤ k → k < 36 → cp (σ 1001 a) (σ 1002 a) 36 k = σ 1001 a k := fun k k0 k1 => cp_lt k0 k1
  have hki : frIn (cp (σ 1001 a) (σ 1002 a) 36) := fun k k0 k1 => by rw [hkp k k0 k1]; exact hf k k0 k1
  have loop : ∀ (m n : Nat), n + m = N → Wp (d + 1) M_X10_stepOn 8 [.ref a, .ref p, .int (i32 (if ls (stp W H (σ 1000 a) (σ 1001 a)) (σ 1001 a) n then 1 else 0)), .int (i32 n)] [] (E T (upA (upA σ 1002 a (cp (σ 1001 a) (σ 1002 a) 36)) 1001 a (cp (stp W H (σ 1000 a) (σ 1001 a)) (σ 1001 a) n))) Q = Q (.inl (some (.int (i32 (if ls (stp W H (σ 1000 a) (σ 1001 a)) (σ 1001 a) N then 1 else 0))))) (E T (upA (upA σ 1002 a (cp (σ 1001 a) (σ 1002 a) 36)) 1001 a (cp (stp W H (σ 1000 a) (σ 1001 a)) (σ 1001 a) N))) := by
    intro m
    induction m with
    | zero =>
      intro n hn
      have hn : n = N := by omega
      subst hn
      rw [w109_8]
      simp (disch := (first | assumption | omega | exact Nat.le_of_ble_eq_true rfl | rfl)) only [w109_0, w109_1, w109_4, w109_5, w109_6, w109_7, w109_9, w109_10, w109_13, w109_16, w109_17, w109_20, w109_21, w109_22, w109_23, w109_26, w109_27, w109_28, w109_29, w109_30, w109_33, w109_34, w109_35, w109_38, w109_41, w109_42, w109_43, w109_46, w109_49, w109_50, Ko_n, Ko_v, vX_i, vX_r, vX_l, vX_j, reduceIte, c26, upA_t, hcell, Int.le_refl, b01]
    | succ m ih =>
      intro n hn
      have ih' := ih (n + 1) (by omega)
      have hcn := hc n (by omega) (by omega)
      have hFn := stp_in h hc hf (z := n) (by omega) (by omega)
      have hz : cp (stp W H (σ 1000 a) (σ 1001 a)) (σ 1001 a) n n = σ 1001 a n := cp_ge (by omega)
      have hfr : frIn (cp (stp W H (σ 1000 a) (σ 1001 a)) (σ 1001 a) n) := cp_fr hf (fun z z0 z1 => stp_in h hc hf z0 (by omega))
      have e1 : cp (stp W H (σ 1000 a) (σ 1001 a)) (σ 1001 a) ((n + 1 : Nat) : Int) = fu (cp (stp W H (σ 1000 a) (σ 1001 a)) (σ 1001 a) n) n (stp W H (σ 1000 a) (σ 1001 a) n) := by
        rw [cp_fu (by omega)]; rfl
      rw [e1, show ls (stp W H (σ 1000 a) (σ 1001 a)) (σ 1001 a) (n + 1) = (ls (stp W H (σ 1000 a) (σ 1001 a)) (σ 1001 a) n || decide (stp W H (σ 1000 a) (σ 1001 a) n < σ 1001 a n)) from rfl] at ih'
      rw [w109_8]
      by_cases hx : σ 1000 a n = -1
      · have hs : stp W H (σ 1000 a) (σ 1001 a) n = σ 1001 a n := by unfold stp; rw [if_pos hx]
        rw [hs, ← hz, fu_self] at ih'
        rw [hz, decide_eq_false (by omega : ¬ σ 1001 a n < σ 1001 a n), Bool.or_false] at ih'
        simp (disch := (first | assumption | omega | exact Nat.le_of_ble_eq_true rfl | rfl)) only [w109_0, w109_1, w109_4, w109_5, w109_6, w109_7, w109_9, w109_10, w109_13, w109_16, w109_17, w109_20, w109_21, w109_22, w109_23, w109_26, w109_27, w109_28, w109_29, w109_30, w109_33, w109_34, w109_35, w109_38, w109_41, w109_42, w109_43, w109_46, w109_49, w109_50, Ko_n, Ko_v, vX_i, vX_r, vX_l, vX_j, reduceIte, c26, upA_t, hcell, hx, show ¬ (N : Int) ≤ (n : Int) by omega]
        exact ih'
      · have hs : stp W H (σ 1000 a) (σ 1001 a) n = lfb W H (σ 1001 a) n (σ 1000 a n) (σ 1001 a n) 4 := by unfold stp; rw [if_neg hx]
        simp (disch := (first | assumption | omega | exact Nat.le_of_ble_eq_true rfl | rfl)) only [w109_0, w109_1, w109_4, w109_5, w109_6, w109_7, w109_9, w109_10, w109_13, w109_16, w109_17, w109_20, w109_21, w109_22, w109_23, w109_26, w109_27, w109_28, w109_29, w109_30, w109_33, w109_34, w109_35, w109_38, w109_41, w109_42, w109_43, w109_46, w109_49, w109_50, Ko_n, Ko_v, vX_i, vX_r, vX_l, vX_j, reduceIte, c26, upA_t, hcell, hx, show ¬ (N : Int) ≤ (n : Int) by omega]
        rw [c111 (σ := upA (upA σ 1002 a (cp (σ 1001 a) (σ 1002 a) 36)) 1001 a (cp (stp W H (σ 1000 a) (σ 1001 a)) (σ 1001 a) n)) ha hp (geo_t hg (by simp (disch := omega) only [upA_t]) (by simp (disch := omega) only [upA_t]) (by simp (disch := omega) only [upA_t]) (by simp (disch := omega) only [upA_t]) (by simp (disch := omega) only [upA_t]) (by simp (disch := omega) only [upA_t])) h (by rw [upA_s]; exact hfr) (by rw [upA_t (by omega), upA_s]; exact hki) (by omega) (by omega) (by omega) (by omega)]
        simp (disch := omega) only [upA_s, upA_t, hz, upA_upA]
        rw [lfb_congr h hkp (by omega) (by omega), ← hs]
        by_cases hl : stp W H (σ 1000 a) (σ 1001 a) n < σ 1001 a n
        · rw [decide_eq_true hl, Bool.or_true] at ih'
          rw [if_pos hl]
          simp (disch := (first | assumption | omega | exact Nat.le_of_ble_eq_true rfl | rfl)) only [w109_0, w109_1, w109_4, w109_5, w109_6, w109_7, w109_9, w109_10, w109_13, w109_16, w109_17, w109_20, w109_21, w109_22, w109_23, w109_26, w109_27, w109_28, w109_29, w109_30, w109_33, w109_34, w109_35, w109_38, w109_41, w109_42, w109_43, w109_46, w109_49, w109_50, Ko_n, Ko_v, vX_i, vX_r, vX_l, vX_j, reduceIte, Int.reduceEq]
          exact ih'
        · rw [decide_eq_false hl, Bool.or_false] at ih'
          rw [if_neg hl]
          simp (disch := (first | assumption | omega | exact Nat.le_of_ble_eq_true rfl | rfl)) only [w109_0, w109_1, w109_4, w109_5, w109_6, w109_7, w109_9, w109_10, w109_13, w109_16, w109_17, w109_20, w109_21, w109_22, w109_23, w109_26, w109_27, w109_28, w109_29, w109_30, w109_33, w109_34, w109_35, w109_38, w109_41, w109_42, w109_43, w109_46, w109_49, w109_50, Ko_n, Ko_v, vX_i, vX_r, vX_l, vX_j, reduceIte, Int.reduceEq]
          exact ih'
  rw [n109 _ _ _ _ _ _ _ ha]
  simp (disch := (first | assumption | omega | exact Nat.le_of_ble_eq_true rfl | rfl)) only [w109_0, w109_1, w109_4, w109_5, w109_6, w109_7, w109_9, w109_10, w109_13, w109_16, w109_17, w109_20, w109_21, w109_22, w109_23, w109_26, w109_27, w109_28, w109_29, w109_30, w109_33, w109_34, w109_35, w109_38, w109_41, w109_42, w109_43, w109_46, w109_49, w109_50, Ko_n, Ko_v, vX_i, vX_r, vX_l, vX_j, reduceIte, c103]
  have := loop N 0 (by omega)
  simp only [ls, Bool.false_eq_true, if_false] at this
  rw [show ((0 : Nat) : Int) = 0 from rfl, cp_0] at this
  have e0 : upA (upA σ 1002 a (cp (σ 1001 a) (σ 1002 a) 36)) 1001 a (σ 1001 a) = upA σ 1002 a (cp (σ 1001 a) (σ 1002 a) 36) := by
    rw [upA_comm (by omega), upA_self]
  rw [e0] at this
  exact this
/-- one hedge more: what is less from beside at 1, where a hedge is -/
def clr (W H : Int) (kd f : Int → Int) : Int → Int := fun z => if hgB kd z then lfb W H f z 1 (f z) 4 else f z
theorem clr_in {W H : Int} {kd f : Int → Int} (h : wh2 W H) (hf : frIn f) {z : Int} (z0 : 0 ≤ z) (z1 : z < W * H) : 0 ≤ clr W H kd f z ∧ clr W H kd f z ≤ f z := by
  have hm := wh_mul h
  unfold clr
  have hfz := hf z z0 (by omega)
  cases hgB kd z with
  | true => exact lfb_in h hf z0 z1 (by omega) hfz.1 4
  | false => exact ⟨hfz.1, Int.le_refl _⟩
/-- the store behind one hedge more -/
def clS (σ : St) (W H : Int) (a s N : Nat) : St := upA (upA σ 1002 a (cp (σ 1001 a) (σ 1002 a) 36)) 1001 a (cp (clr W H (σ 700 s) (σ 1001 a)) (σ 1001 a) N)
theorem c110 {d : Nat} {k W H : Int} {a p s N : Nat} {T : Tt} {σ : St} {Q : vmO → vmH → Prop} (ha : ob 10 a) (hp : ob 4 p) (hs : ob 7 s) (hg : geo σ p W H) (h : wh2 W H) (hN : (N : Int) = W * H) (hkd : kdOk (σ 700 s)) (hc : csIn (σ 1000 a) (W * H)) (hf : frIn (σ 1001 a)) :
    Ca (d + 3) k 110 [.ref a, .ref p, .ref s] (E T σ) Q = if ls (clr W H (σ 700 s) (σ 1001 a)) (σ 1001 a) N then Q (.inl (some (.int (i32 1)))) (E T (wyD (clS σ W H a s N) a (dj W H (σ 1000 a) N (cp (clr W H (σ 700 s) (σ 1001 a)) (σ 1001 a) N, (fun _ => false), σ 1005 a, 0) N))) else Q (.inl (some (.int (i32 0)))) (E T (clS σ W H a s N)) := by
  have ha3 := ob_lt ha
  have hp3 := ob_lt hp
  have hs3 := ob_lt hs
  have hm := wh_mul h
  have hfar : far = 1000000000 := rfl
  obtain ⟨g1, g2, g3, g4, g5, g6⟩ := id hg
  have hcell : σ 401 p 0 * σ 402 p 0 = N := by rw [g1, g2, hN]
  have hkp : ∀ k, 0 ≤ k → k < 36 → cp (σ 1001 a) (σ 1002 a) 36 k = σ 1001 a k := fun k k0 k1 => cp_lt k0 k1
  have hki : frIn (cp (σ 1001 a) (σ 1002 a) 36) := fun k k0 k1 => by rw [hkp k k0 k1]; exact hf k k0 k1
  have loop : ∀ (m n : Nat), n + m = N → Wp (d + 3) M_X10_clearOneMore 9 [.ref a, .ref p, .ref s, .int (i32 (if ls (clr W H (σ 700 s) (σ 1001 a)) (σ 1001 a) n then 1 else 0)), .int (i32 n)] [] (E T (upA (upA σ 1002 a (cp (σ 1001 a) (σ 1002 a) 36)) 1001 a (cp (clr W H (σ 700 s) (σ 1001 a)) (σ 1001 a) n))) Q = if ls (clr W H (σ 700 s) (σ 1001 a)) (σ 1001 a) N then Q (.inl (some (.int (i32 1)))) (E T (wyD (clS σ W H a s N) a (dj W H (σ 1000 a) N (cp (clr W H (σ 700 s) (σ 1001 a)) (σ 1001 a) N, (fun _ => false), σ 1005 a, 0) N))) else Q (.inl (some (.int (i32 0)))) (E T (clS σ W H a s N)) := by
    intro m
    induction m with
    | zero =>
      intro n hn
      have hn : n = N := by omega
      subst hn
      have hfr : frIn (cp (clr W H (σ 700 s) (σ 1001 a)) (σ 1001 a) n) := cp_fr hf (fun z z0 z1 => clr_in h hf z0 (by omega))
      rw [w110_9]
      simp (disch := (first | assumption | omega | exact Nat.le_of_ble_eq_true rfl | rfl)) only [w110_0, w110_1, w110_4, w110_5, w110_6, w110_7, w110_11, w110_12, w110_15, w110_18, w110_19, w110_21, w110_24, w110_27, w110_28, w110_29, w110_31, w110_32, w110_35, w110_38, w110_39, w110_40, w110_43, w110_46, w110_47, w110_50, w110_51, w110_52, w110_55, w110_56, Ko_n, Ko_v, vX_i, vX_r, vX_l, vX_j, reduceIte, c26, upA_t, hcell, Int.le_refl, b01]
      cases hl : ls (clr W H (σ 700 s) (σ 1001 a)) (σ 1001 a) n with
      | false => simp (disch := (first | assumption | omega | exact Nat.le_of_ble_eq_true rfl | rfl)) only [w110_0, w110_1, w110_4, w110_5, w110_6, w110_7, w110_11, w110_12, w110_15, w110_18, w110_19, w110_21, w110_24, w110_27, w110_28, w110_29, w110_31, w110_32, w110_35, w110_38, w110_39, w110_40, w110_43, w110_46, w110_47, w110_50, w110_51, w110_52, w110_55, w110_56, Ko_n, Ko_v, vX_i, vX_r, vX_l, vX_j, reduceIte, Int.reduceEq, Bool.false_eq_true]; rfl
      | true =>
        simp (disch := (first | assumption | omega | exact Nat.le_of_ble_eq_true rfl | rfl)) only [w110_0, w110_1, w110_4, w110_5, w110_6, w110_7, w110_11, w110_12, w110_15, w110_18, w110_19, w110_21, w110_24, w110_27, w110_28, w110_29, w110_31, w110_32, w110_35, w110_38, w110_39, w110_40, w110_43, w110_46, w110_47, w110_50, w110_51, w110_52, w110_55, w110_56, Ko_n, Ko_v, vX_i, vX_r, vX_l, vX_j, reduceIte, Int.reduceEq]
        rw [c100 (N := n) (σ := upA (upA σ 1002 a (cp (σ 1001 a) (σ 1002 a) 36)) 1001 a (cp (clr W H (σ 700 s) (σ 1001 a)) (σ 1001 a) n)) ha hp (geo_t hg (by simp (disch := omega) only [upA_t]) (by simp (disch := omega) only [upA_t]) (by simp (disch := omega) only [upA_t]) (by simp (disch := omega) only [upA_t]) (by simp (disch := omega) only [upA_t]) (by simp (disch := omega) only [upA_t])) h hN (by simp (disch := omega) only [upA_t]; exact hc) (by rw [upA_s]; exact hfr)]
        simp (disch := (first | assumption | omega | exact Nat.le_of_ble_eq_true rfl | rfl)) only [w110_0, w110_1, w110_4, w110_5, w110_6, w110_7, w110_11, w110_12, w110_15, w110_18, w110_19, w110_21, w110_24, w110_27, w110_28, w110_29, w110_31, w110_32, w110_35, w110_38, w110_39, w110_40, w110_43, w110_46, w110_47, w110_50, w110_51, w110_52, w110_55, w110_56, Ko_n, Ko_v, vX_i, vX_r, vX_l, vX_j, reduceIte, upA_s, upA_t]
        rfl
    | succ m ih =>
      intro n hn
      have ih' := ih (n + 1) (by omega)
      have hFn := clr_in (kd := σ 700 s) h hf (z := n) (by omega) (by omega)
      have hz : cp (clr W H (σ 700 s) (σ 1001 a)) (σ 1001 a) n n = σ 1001 a n := cp_ge (by omega)
      have hfr : frIn (cp (clr W H (σ 700 s) (σ 1001 a)) (σ 1001 a) n) := cp_fr hf (fun z z0 z1 => clr_in h hf z0 (by omega))
      have e1 : cp (clr W H (σ 700 s) (σ 1001 a)) (σ 1001 a) ((n + 1 : Nat) : Int) = fu (cp (clr W H (σ 700 s) (σ 1001 a)) (σ 1001 a) n) n (clr W H (σ 700 s) (σ 1001 a) n) := by
        rw [cp_fu (by omega)]; rfl
      rw [e1, show ls (clr W H (σ 700 s) (σ 1001 a)) (σ 1001 a) (n + 1) = (ls (clr W H (σ 700 s) (σ 1001 a)) (σ 1001 a) n || decide (clr W H (σ 700 s) (σ 1001 a) n < σ 1001 a n)) from rfl] at ih'
      rw [w110_9]
      simp (disch := (first | assumption | omega | exact Nat.le_of_ble_eq_true rfl | rfl)) only [w110_0, w110_1, w110_4, w110_5, w110_6, w110_7, w110_11, w110_12, w110_15, w110_18, w110_19, w110_21, w110_24, w110_27, w110_28, w110_29, w110_31, w110_32, w110_35, w110_38, w110_39, w110_40, w110_43, w110_46, w110_47, w110_50, w110_51, w110_52, w110_55, w110_56, Ko_n, Ko_v, vX_i, vX_r, vX_l, vX_j, reduceIte, c26, upA_t, hcell, show ¬ (N : Int) ≤ (n : Int) by omega]
      rw [c74 (σ := upA (upA σ 1002 a (cp (σ 1001 a) (σ 1002 a) 36)) 1001 a (cp (clr W H (σ 700 s) (σ 1001 a)) (σ 1001 a) n)) hs (by simp (disch := omega) only [upA_t]; exact hkd) (by omega) (by omega)]
      simp (disch := omega) only [upA_t]
      cases hx : hgB (σ 700 s) n with
      | false =>
        have hs2 : clr W H (σ 700 s) (σ 1001 a) n = σ 1001 a n := by unfold clr; rw [hx]; rfl
        rw [hs2, ← hz, fu_self] at ih'
        rw [hz, decide_eq_false (by omega : ¬ σ 1001 a n < σ 1001 a n), Bool.or_false] at ih'
        simp (disch := (first | assumption | omega | exact Nat.le_of_ble_eq_true rfl | rfl)) only [w110_0, w110_1, w110_4, w110_5, w110_6, w110_7, w110_11, w110_12, w110_15, w110_18, w110_19, w110_21, w110_24, w110_27, w110_28, w110_29, w110_31, w110_32, w110_35, w110_38, w110_39, w110_40, w110_43, w110_46, w110_47, w110_50, w110_51, w110_52, w110_55, w110_56, Ko_n, Ko_v, vX_i, vX_r, vX_l, vX_j, reduceIte, Int.reduceEq, Bool.false_eq_true]
        exact ih'
      | true =>
        have hs2 : clr W H (σ 700 s) (σ 1001 a) n = lfb W H (σ 1001 a) n 1 (σ 1001 a n) 4 := by unfold clr; rw [hx]; rfl
        simp (disch := (first | assumption | omega | exact Nat.le_of_ble_eq_true rfl | rfl)) only [w110_0, w110_1, w110_4, w110_5, w110_6, w110_7, w110_11, w110_12, w110_15, w110_18, w110_19, w110_21, w110_24, w110_27, w110_28, w110_29, w110_31, w110_32, w110_35, w110_38, w110_39, w110_40, w110_43, w110_46, w110_47, w110_50, w110_51, w110_52, w110_55, w110_56, Ko_n, Ko_v, vX_i, vX_r, vX_l, vX_j, reduceIte, Int.reduceEq]
        rw [c111 (σ := upA (upA σ 1002 a (cp (σ 1001 a) (σ 1002 a) 36)) 1001 a (cp (clr W H (σ 700 s) (σ 1001 a)) (σ 1001 a) n)) ha hp (geo_t hg (by simp (disch := omega) only [upA_t]) (by simp (disch := omega) only [upA_t]) (by simp (disch := omega) only [upA_t]) (by simp (disch := omega) only [upA_t]) (by simp (disch := omega) only [upA_t]) (by simp (disch := omega) only [upA_t])) h (by rw [upA_s]; exact hfr) (by rw [upA_t (by omega), upA_s]; exact hki) (by omega) (by omega) (by omega) (by omega)]
        simp (disch := omega) only [upA_s, upA_t, hz, upA_upA]
        rw [lfb_congr h hkp (by omega) (by omega), ← hs2]
        by_cases hl : clr W H (σ 700 s) (σ 1001 a) n < σ 1001 a n
        · rw [decide_eq_true hl, Bool.or_true] at ih'
          rw [if_pos hl]
          simp (disch := (first | assumption | omega | exact Nat.le_of_ble_eq_true rfl | rfl)) only [w110_0, w110_1, w110_4, w110_5, w110_6, w110_7, w110_11, w110_12, w110_15, w110_18, w110_19, w110_21, w110_24, w110_27, w110_28, w110_29, w110_31, w110_32, w110_35, w110_38, w110_39, w110_40, w110_43, w110_46, w110_47, w110_50, w110_51, w110_52, w110_55, w110_56, Ko_n, Ko_v, vX_i, vX_r, vX_l, vX_j, reduceIte, Int.reduceEq]
          exact ih'
        · rw [decide_eq_false hl, Bool.or_false] at ih'
          rw [if_neg hl]
          simp (disch := (first | assumption | omega | exact Nat.le_of_ble_eq_true rfl | rfl)) only [w110_0, w110_1, w110_4, w110_5, w110_6, w110_7, w110_11, w110_12, w110_15, w110_18, w110_19, w110_21, w110_24, w110_27, w110_28, w110_29, w110_31, w110_32, w110_35, w110_38, w110_39, w110_40, w110_43, w110_46, w110_47, w110_50, w110_51, w110_52, w110_55, w110_56, Ko_n, Ko_v, vX_i, vX_r, vX_l, vX_j, reduceIte, Int.reduceEq]
          exact ih'
  rw [n110 _ _ _ _ _ _ _ _ ha]
  simp (disch := (first | assumption | omega | exact Nat.le_of_ble_eq_true rfl | rfl)) only [w110_0, w110_1, w110_4, w110_5, w110_6, w110_7, w110_11, w110_12, w110_15, w110_18, w110_19, w110_21, w110_24, w110_27, w110_28, w110_29, w110_31, w110_32, w110_35, w110_38, w110_39, w110_40, w110_43, w110_46, w110_47, w110_50, w110_51, w110_52, w110_55, w110_56, Ko_n, Ko_v, vX_i, vX_r, vX_l, vX_j, reduceIte, c103]
  have := loop N 0 (by omega)
  simp only [ls, Bool.false_eq_true, if_false] at this
  rw [show ((0 : Nat) : Int) = 0 from rfl, cp_0] at this
  have e0 : upA (upA σ 1002 a (cp (σ 1001 a) (σ 1002 a) 36)) 1001 a (σ 1001 a) = upA σ 1002 a (cp (σ 1001 a) (σ 1002 a) 36) := by
    rw [upA_comm (by omega), upA_self]
  rw [e0] at this
  exact this
