/-! ===== HedgePark: cleared, clipFor ===== -/
theorem clr_agr {W H z : Int} {kd f f' : Int → Int} (h : wh2 W H) (he : agr 36 f f') (z0 : 0 ≤ z) (z1 : z < W * H) : clr W H kd f z = clr W H kd f' z := by
  have hm := wh_mul h
  unfold clr
  rw [he z z0 (by omega), lfb_congr h he z0 z1]
theorem ls_agr {F f F' f' : Int → Int} : ∀ n : Nat, (∀ k : Nat, k < n → F k = F' k ∧ f k = f' k) → ls F f n = ls F' f' n
  | 0, _ => rfl
  | n + 1, h => by
    simp only [ls]
    rw [ls_agr n (fun k hk => h k (by omega)), (h n (by omega)).1, (h n (by omega)).2]
theorem prc_cs {σ : St} {W H : Int} {N : Nat} {b : Bool} (hW : hpW σ W H N) : csIn (prc σ 3 10 b) (W * H) := by
  have hm := wh_mul0 hW.2.1
  have hS := hW.2.2.2.2.2.2.2.2.2.1
  intro k k0 k1
  exact cst_in hS.1 hS.2.1 k0 (by omega)
theorem agr_cs {W H : Int} {c c' : Int → Int} (h : agr (W * H) c c') (hc : csIn c' (W * H)) : csIn c (W * H) := fun k k0 k1 => by
  rw [h k k0 k1]
  exact hc k k0 k1
/-- the least costs with at most n hedges cleared -/
def clN (W H : Int) (N : Nat) (kd c f : Int → Int) : Nat → Int → Int
  | 0 => f
  | n + 1 => if ls (clr W H kd (clN W H N kd c f n)) (clN W H N kd c f n) N then (dj W H c N (cp (clr W H kd (clN W H N kd c f n)) (clN W H N kd c f n) N, (fun _ => false), (fun _ => 0), 0) N).1 else clN W H N kd c f n
theorem clN_no {W H : Int} {N : Nat} {kd c f : Int → Int} {n : Nat} (hl : ls (clr W H kd (clN W H N kd c f n)) (clN W H N kd c f n) N = false) (m : Nat) : clN W H N kd c f (n + m) = clN W H N kd c f n := by
  induction m with
  | zero => rfl
  | succ m ih =>
    show (if ls (clr W H kd (clN W H N kd c f (n + m))) (clN W H N kd c f (n + m)) N then (dj W H c N (cp (clr W H kd (clN W H N kd c f (n + m))) (clN W H N kd c f (n + m)) N, (fun _ => false), (fun _ => 0), 0) N).1 else clN W H N kd c f (n + m)) = _
    rw [ih, hl]
    rfl
/-- one hedge more, from a store whose rows of ways hold the costs with n cleared -/
theorem clOne {d N n : Nat} {k W H : Int} {T : Tt} {σ τ : St} {Q : vmO → vmH → Prop} {c f : Int → Int} (hW : hpW σ W H N) (h : wh2 W H) (hcs : csIn c (W * H)) (hs : sg σ τ) (hC : agr (W * H) (τ 1000 144) c) (hF : agr 36 (τ 1001 144) (clN W H N (σ 700 10) c f n)) (hfr : frIn (τ 1001 144))
    (hQ : ∀ τ', sg σ τ' → agr (W * H) (τ' 1000 144) c → agr 36 (τ' 1001 144) (clN W H N (σ 700 10) c f (n + 1)) → frIn (τ' 1001 144) → Q (.inl (some (.int (i32 (if ls (clr W H (σ 700 10) (clN W H N (σ 700 10) c f n)) (clN W H N (σ 700 10) c f n) N then 1 else 0))))) (E T τ')) : Ca (d + 3) k 110 [.ref 144, .ref 3, .ref 10] (E T τ) Q := by
  have h3 := ob_p3; have hn := ob_n10; have hwy := ob_wy
  have hm := wh_mul h
  have hNw := hW.2.2.1
  have hWt := sg_hp hs hW
  have e7 : τ 700 10 = σ 700 10 := hs 700 10 (by omega)
  have hct := agr_cs hC hcs
  rw [c110 (N := N) hwy h3 hn hWt.1 h hNw hWt.2.2.2.2.2.2.2.2.2.1.1 hct hfr, e7]
  have el : ls (clr W H (σ 700 10) (τ 1001 144)) (τ 1001 144) N = ls (clr W H (σ 700 10) (clN W H N (σ 700 10) c f n)) (clN W H N (σ 700 10) c f n) N := ls_agr N (fun k hk => ⟨clr_agr h hF (by omega) (by omega), hF k (by omega) (by omega)⟩)
  have ecp : agr 36 (cp (clr W H (σ 700 10) (τ 1001 144)) (τ 1001 144) N) (cp (clr W H (σ 700 10) (clN W H N (σ 700 10) c f n)) (clN W H N (σ 700 10) c f n) N) := fun j j0 j1 => by
    unfold cp
    by_cases hj : 0 ≤ j ∧ j < (N : Int)
    · rw [if_pos hj, if_pos hj]; exact clr_agr h hF j0 (by omega)
    · rw [if_neg hj, if_neg hj]; exact hF j j0 j1
  have hcf : frIn (cp (clr W H (σ 700 10) (τ 1001 144)) (τ 1001 144) N) := cp_fr hfr (fun z z0 z1 => clr_in h hfr z0 (by omega))
  rw [el]
  cases hl : ls (clr W H (σ 700 10) (clN W H N (σ 700 10) c f n)) (clN W H N (σ 700 10) c f n) N with
  | true =>
    rw [if_pos rfl]
    have q := hQ (wyD (clS τ W H 144 10 N) 144 (dj W H (τ 1000 144) N (cp (clr W H (σ 700 10) (τ 1001 144)) (τ 1001 144) N, (fun _ => false), τ 1005 144, 0) N)) (fun t o ht => by
      unfold wyD clS
      rw [wyt (by omega) (by omega) (by omega) (by omega), upA_t (by omega), upA_t (by omega)]
      exact hs t o ht) (by
      unfold wyD clS
      rw [wyt (by omega) (by omega) (by omega) (by omega), upA_t (by omega), upA_t (by omega)]
      exact hC) (by
      unfold wyD
      rw [wy1]
      show agr 36 _ (if ls (clr W H (σ 700 10) (clN W H N (σ 700 10) c f n)) (clN W H N (σ 700 10) c f n) N then (dj W H c N (cp (clr W H (σ 700 10) (clN W H N (σ 700 10) c f n)) (clN W H N (σ 700 10) c f n) N, (fun _ => false), (fun _ => 0), 0) N).1 else clN W H N (σ 700 10) c f n)
      rw [hl, if_pos rfl]
      exact (dj_congr (x := (cp (clr W H (σ 700 10) (τ 1001 144)) (τ 1001 144) N, (fun _ => false), τ 1005 144, 0)) (x' := (cp (clr W H (σ 700 10) (clN W H N (σ 700 10) c f n)) (clN W H N (σ 700 10) c f n) N, (fun _ => false), (fun _ => 0), 0)) h hC hct hNw ecp rfl rfl rfl hcf N).1) (by
      unfold wyD
      rw [wy1]
      exact (dj_in (x := (cp (clr W H (σ 700 10) (τ 1001 144)) (τ 1001 144) N, (fun _ => false), τ 1005 144, 0)) h hct hNw hcf rfl N).1)
    rw [hl] at q
    exact q
  | false =>
    rw [if_neg (by decide)]
    have q := hQ (clS τ W H 144 10 N) (fun t o ht => by
      unfold clS
      rw [upA_t (by omega), upA_t (by omega)]
      exact hs t o ht) (by
      unfold clS
      rw [upA_t (by omega), upA_t (by omega)]
      exact hC) (by
      unfold clS
      rw [upA_s, e7]
      show agr 36 _ (if ls (clr W H (σ 700 10) (clN W H N (σ 700 10) c f n)) (clN W H N (σ 700 10) c f n) N then (dj W H c N (cp (clr W H (σ 700 10) (clN W H N (σ 700 10) c f n)) (clN W H N (σ 700 10) c f n) N, (fun _ => false), (fun _ => 0), 0) N).1 else clN W H N (σ 700 10) c f n)
      rw [hl, if_neg (by decide)]
      intro j j0 j1
      rw [ecp j j0 j1]
      unfold cp
      by_cases hj : 0 ≤ j ∧ j < (N : Int)
      · rw [if_pos hj]
        have b := ls_no hl j.toNat (by omega)
        rw [show ((j.toNat : Nat) : Int) = j by omega] at b
        have a := clr_in (kd := σ 700 10) h (agr_fr hF hfr) j0 (by omega : j < W * H)
        omega
      · rw [if_neg hj]) (by
      unfold clS
      rw [upA_s, e7]
      exact hcf)
    rw [hl] at q
    exact q
theorem L135 {d N : Nat} {w z s W H : Int} {T : Tt} {σ : St} {Q : vmO → vmH → Prop} {c f : Int → Int} (hW : hpW σ W H N) (h : wh2 W H) (hcs : csIn c (W * H)) (k0 : 0 ≤ z) (k1 : z < N) (s0 : 0 ≤ s) (s1 : s ≤ 36)
    (hQ : ∀ τ, sg σ τ → Q (.inl (some (.int (i32 (if clN W H N (σ 700 10) c f s.toNat z < far then clN W H N (σ 700 10) c f s.toNat z else -1))))) (E T τ)) :
    ∀ (m n : Nat) (b : Bool) (τ : St), n + m = s.toNat → sg σ τ → agr (W * H) (τ 1000 144) c → agr 36 (τ 1001 144) (clN W H N (σ 700 10) c f n) → frIn (τ 1001 144) → (b = false → clN W H N (σ 700 10) c f s.toNat = clN W H N (σ 700 10) c f n) → Wp (d + 10) M_X11_cleared 52 [.ref 0, .int (i32 w), .int (i32 z), .int (i32 s), .int (i32 (if b then 1 else 0)), .int (i32 n)] [] (E T τ) Q := by
  have h0 := ob_hp; have h2 := ob_st; have h3 := ob_p3; have hn := ob_n10; have hwy := ob_wy
  have hm := wh_mul h
  have hNw := hW.2.2.1
  have hfar : far = 1000000000 := rfl
  have fin : ∀ (n : Nat) (τ : St), sg σ τ → agr 36 (τ 1001 144) (clN W H N (σ 700 10) c f n) → clN W H N (σ 700 10) c f s.toNat = clN W H N (σ 700 10) c f n → Q (.inl (some (.int (i32 (if τ 1001 144 z < far then τ 1001 144 z else -1))))) (E T τ) := by
    intro n τ hs hF e
    have := hQ τ hs
    rw [e] at this
    rw [hF z k0 (by omega)]
    exact this
  intro m
  induction m with
  | zero =>
    intro n b τ hn2 hs hC hF hfr hb
    have hn2 : n = s.toNat := by omega
    have hi := hfr z k0 (by omega)
    rw [w135_52]
    simp (disch := (first | assumption | omega | exact Nat.le_of_ble_eq_true rfl | rfl)) only [w135_0, w135_1, w135_2, w135_3, w135_6, w135_7, w135_10, w135_11, w135_13, w135_16, w135_17, w135_20, w135_21, w135_24, w135_25, w135_28, w135_29, w135_32, w135_35, w135_36, w135_39, w135_42, w135_43, w135_46, w135_47, w135_49, w135_50, w135_54, w135_55, w135_58, w135_60, w135_63, w135_64, w135_67, w135_68, w135_71, w135_74, w135_75, w135_78, w135_81, w135_84, w135_86, w135_89, w135_92, w135_93, w135_96, w135_99, w135_100, w135_101, w135_104, Ko_n, Ko_v, vX_i, vX_r, vX_l, vX_j, reduceIte, Nat.reduceAdd, show s ≤ (n : Int) by omega]
    rw [c171 (by omega) hi.1 hi.2]
    simp (disch := (first | assumption | omega | exact Nat.le_of_ble_eq_true rfl | rfl)) only [w135_0, w135_1, w135_2, w135_3, w135_6, w135_7, w135_10, w135_11, w135_13, w135_16, w135_17, w135_20, w135_21, w135_24, w135_25, w135_28, w135_29, w135_32, w135_35, w135_36, w135_39, w135_42, w135_43, w135_46, w135_47, w135_49, w135_50, w135_54, w135_55, w135_58, w135_60, w135_63, w135_64, w135_67, w135_68, w135_71, w135_74, w135_75, w135_78, w135_81, w135_84, w135_86, w135_89, w135_92, w135_93, w135_96, w135_99, w135_100, w135_101, w135_104, Ko_n, Ko_v, vX_i, vX_r, vX_l, vX_j, reduceIte, Nat.reduceAdd]
    exact fin n τ hs hF (by rw [hn2])
  | succ m ih =>
    intro n b τ hn2 hs hC hF hfr hb
    have hi := hfr z k0 (by omega)
    rw [w135_52]
    cases b with
    | false =>
      simp (disch := (first | assumption | omega | exact Nat.le_of_ble_eq_true rfl | rfl)) only [w135_0, w135_1, w135_2, w135_3, w135_6, w135_7, w135_10, w135_11, w135_13, w135_16, w135_17, w135_20, w135_21, w135_24, w135_25, w135_28, w135_29, w135_32, w135_35, w135_36, w135_39, w135_42, w135_43, w135_46, w135_47, w135_49, w135_50, w135_54, w135_55, w135_58, w135_60, w135_63, w135_64, w135_67, w135_68, w135_71, w135_74, w135_75, w135_78, w135_81, w135_84, w135_86, w135_89, w135_92, w135_93, w135_96, w135_99, w135_100, w135_101, w135_104, Ko_n, Ko_v, vX_i, vX_r, vX_l, vX_j, reduceIte, Nat.reduceAdd, show ¬ s ≤ (n : Int) by omega, Bool.false_eq_true]
      rw [c171 (by omega) hi.1 hi.2]
      simp (disch := (first | assumption | omega | exact Nat.le_of_ble_eq_true rfl | rfl)) only [w135_0, w135_1, w135_2, w135_3, w135_6, w135_7, w135_10, w135_11, w135_13, w135_16, w135_17, w135_20, w135_21, w135_24, w135_25, w135_28, w135_29, w135_32, w135_35, w135_36, w135_39, w135_42, w135_43, w135_46, w135_47, w135_49, w135_50, w135_54, w135_55, w135_58, w135_60, w135_63, w135_64, w135_67, w135_68, w135_71, w135_74, w135_75, w135_78, w135_81, w135_84, w135_86, w135_89, w135_92, w135_93, w135_96, w135_99, w135_100, w135_101, w135_104, Ko_n, Ko_v, vX_i, vX_r, vX_l, vX_j, reduceIte, Nat.reduceAdd]
      exact fin n τ hs hF (hb rfl)
    | true =>
      simp (disch := (first | assumption | omega | exact Nat.le_of_ble_eq_true rfl | rfl)) only [w135_0, w135_1, w135_2, w135_3, w135_6, w135_7, w135_10, w135_11, w135_13, w135_16, w135_17, w135_20, w135_21, w135_24, w135_25, w135_28, w135_29, w135_32, w135_35, w135_36, w135_39, w135_42, w135_43, w135_46, w135_47, w135_49, w135_50, w135_54, w135_55, w135_58, w135_60, w135_63, w135_64, w135_67, w135_68, w135_71, w135_74, w135_75, w135_78, w135_81, w135_84, w135_86, w135_89, w135_92, w135_93, w135_96, w135_99, w135_100, w135_101, w135_104, Ko_n, Ko_v, vX_i, vX_r, vX_l, vX_j, reduceIte, Nat.reduceAdd, show ¬ s ≤ (n : Int) by omega, Int.reduceEq]
      refine clOne hW h hcs hs hC hF hfr ?_
      intro τ' hs' hC' hF' hfr'
      simp (disch := (first | assumption | omega | exact Nat.le_of_ble_eq_true rfl | rfl)) only [w135_0, w135_1, w135_2, w135_3, w135_6, w135_7, w135_10, w135_11, w135_13, w135_16, w135_17, w135_20, w135_21, w135_24, w135_25, w135_28, w135_29, w135_32, w135_35, w135_36, w135_39, w135_42, w135_43, w135_46, w135_47, w135_49, w135_50, w135_54, w135_55, w135_58, w135_60, w135_63, w135_64, w135_67, w135_68, w135_71, w135_74, w135_75, w135_78, w135_81, w135_84, w135_86, w135_89, w135_92, w135_93, w135_96, w135_99, w135_100, w135_101, w135_104, Ko_n, Ko_v, vX_i, vX_r, vX_l, vX_j, reduceIte, Nat.reduceAdd]
      refine ih (n + 1) _ τ' (by omega) hs' hC' hF' hfr' ?_
      intro e
      have a1 := clN_no e
      rw [show s.toNat = n + (s.toNat - n) by omega, a1, a1 1]
theorem c135 {d N : Nat} {k w z s W H : Int} {T : Tt} {σ : St} {Q : vmO → vmH → Prop} (hW : hpW σ W H N) (x0 : -2147483648 ≤ w) (x1 : w < 2147483648) (z0 : -2147483648 ≤ z) (z1 : z < 2147483648) (y0 : -2147483648 ≤ s) (y1 : s < 2147483648)
    (hQ1 : ¬ ((0 ≤ w ∧ w < σ 404 3 0) ∧ (0 ≤ z ∧ z < N)) → Q (.inr 0) (E (thr T) σ))
    (hQ2 : 0 ≤ w → w < σ 404 3 0 → 0 ≤ z → z < N → ¬ (0 ≤ s ∧ s ≤ 36) → Q (.inr 1) (E (thr T) σ))
    (hQ3 : 0 ≤ w → w < σ 404 3 0 → 0 ≤ z → z < N → 0 ≤ s → s ≤ 36 → ∀ τ, sg σ τ → Q (.inl (some (.int (i32 (if clN W H N (σ 700 10) (prc σ 3 10 (frB (σ 405 3 0) w)) (dW σ W H N w) s.toNat z < far then clN W H N (σ 700 10) (prc σ 3 10 (frB (σ 405 3 0) w)) (dW σ W H N w) s.toNat z else -1))))) (E T τ)) : Ca (d + 10) k 135 [.ref 0, .int (i32 w), .int (i32 z), .int (i32 s)] (E T σ) Q := by
  have h0 := ob_hp; have h2 := ob_st; have h3 := ob_p3; have hn := ob_n10; have hwy := ob_wy
  have hm := wh_mul0 hW.2.1
  have hNw := hW.2.2.1
  have hN : σ 401 3 0 * σ 402 3 0 = (N : Int) := by rw [hW.1.1, hW.1.2.1, hW.2.2.1]
  have v0 := hW.2.2.2.2.2.1
  have v1 := hW.2.2.2.2.2.2.1
  rw [n135 _ _ _ _ _ _ _ _ _ h0]
  simp (disch := (first | assumption | omega | exact Nat.le_of_ble_eq_true rfl | rfl)) only [w135_0, w135_1, w135_2, w135_3, w135_6, w135_7, w135_10, w135_11, w135_13, w135_16, w135_17, w135_20, w135_21, w135_24, w135_25, w135_28, w135_29, w135_32, w135_35, w135_36, w135_39, w135_42, w135_43, w135_46, w135_47, w135_49, w135_50, w135_54, w135_55, w135_58, w135_60, w135_63, w135_64, w135_67, w135_68, w135_71, w135_74, w135_75, w135_78, w135_81, w135_84, w135_86, w135_89, w135_92, w135_93, w135_96, w135_99, w135_100, w135_101, w135_104, Ko_n, Ko_v, vX_i, vX_r, vX_l, vX_j, reduceIte]
  rw [c165 hN (by omega) (by omega) v0 v1 x0 x1 z0 z1]
  by_cases hv : (0 ≤ w ∧ w < σ 404 3 0) ∧ (0 ≤ z ∧ z < (N : Int))
  · rw [if_pos hv]
    obtain ⟨⟨w0, w1⟩, k0, k1⟩ := hv
    obtain ⟨h, w5, a0, a1⟩ := hpW_w hW w0 w1
    by_cases hd : 0 ≤ s ∧ s ≤ 36
    · simp (disch := (first | assumption | omega | exact Nat.le_of_ble_eq_true rfl | rfl)) only [w135_0, w135_1, w135_2, w135_3, w135_6, w135_7, w135_10, w135_11, w135_13, w135_16, w135_17, w135_20, w135_21, w135_24, w135_25, w135_28, w135_29, w135_32, w135_35, w135_36, w135_39, w135_42, w135_43, w135_46, w135_47, w135_49, w135_50, w135_54, w135_55, w135_58, w135_60, w135_63, w135_64, w135_67, w135_68, w135_71, w135_74, w135_75, w135_78, w135_81, w135_84, w135_86, w135_89, w135_92, w135_93, w135_96, w135_99, w135_100, w135_101, w135_104, Ko_n, Ko_v, vX_i, vX_r, vX_l, vX_j, reduceIte, Nat.reduceAdd, show ¬ s < 0 by omega, show ¬ 36 < s by omega]
      rw [c169 (by omega) (Or.inr rfl), if_neg (by omega)]
      simp (disch := (first | assumption | omega | exact Nat.le_of_ble_eq_true rfl | rfl)) only [w135_0, w135_1, w135_2, w135_3, w135_6, w135_7, w135_10, w135_11, w135_13, w135_16, w135_17, w135_20, w135_21, w135_24, w135_25, w135_28, w135_29, w135_32, w135_35, w135_36, w135_39, w135_42, w135_43, w135_46, w135_47, w135_49, w135_50, w135_54, w135_55, w135_58, w135_60, w135_63, w135_64, w135_67, w135_68, w135_71, w135_74, w135_75, w135_78, w135_81, w135_84, w135_86, w135_89, w135_92, w135_93, w135_96, w135_99, w135_100, w135_101, w135_104, Ko_n, Ko_v, vX_i, vX_r, vX_l, vX_j, reduceIte, Nat.reduceAdd]
      refine sprW hW w0 w1 ?_
      intro C X hX hfr hC
      simp (disch := (first | assumption | omega | exact Nat.le_of_ble_eq_true rfl | rfl)) only [w135_0, w135_1, w135_2, w135_3, w135_6, w135_7, w135_10, w135_11, w135_13, w135_16, w135_17, w135_20, w135_21, w135_24, w135_25, w135_28, w135_29, w135_32, w135_35, w135_36, w135_39, w135_42, w135_43, w135_46, w135_47, w135_49, w135_50, w135_54, w135_55, w135_58, w135_60, w135_63, w135_64, w135_67, w135_68, w135_71, w135_74, w135_75, w135_78, w135_81, w135_84, w135_86, w135_89, w135_92, w135_93, w135_96, w135_99, w135_100, w135_101, w135_104, Ko_n, Ko_v, vX_i, vX_r, vX_l, vX_j, reduceIte, Nat.reduceAdd]
      have e0 : ∀ j, wyD (upA σ 1000 144 C) 144 X 1000 144 j = C j := fun j => by unfold wyD; rw [wyt (by omega) (by omega) (by omega) (by omega), upA_s]
      exact L135 (c := prc σ 3 10 (frB (σ 405 3 0) w)) (f := dW σ W H N w) hW h (prc_cs hW) k0 k1 hd.1 hd.2 (hQ3 w0 w1 k0 k1 hd.1 hd.2) s.toNat 0 true _ (by omega) sg_wd (fun j j0 j1 => by rw [e0]; exact hC j j0 j1) (by rw [wd1]; exact hX) (by rw [wd1]; exact hfr) (fun e => by cases e)
    · have hq := hQ2 w0 w1 k0 k1 hd
      by_cases d2 : s < 0
      · simp (disch := (first | assumption | omega | exact Nat.le_of_ble_eq_true rfl | rfl)) only [w135_0, w135_1, w135_2, w135_3, w135_6, w135_7, w135_10, w135_11, w135_13, w135_16, w135_17, w135_20, w135_21, w135_24, w135_25, w135_28, w135_29, w135_32, w135_35, w135_36, w135_39, w135_42, w135_43, w135_46, w135_47, w135_49, w135_50, w135_54, w135_55, w135_58, w135_60, w135_63, w135_64, w135_67, w135_68, w135_71, w135_74, w135_75, w135_78, w135_81, w135_84, w135_86, w135_89, w135_92, w135_93, w135_96, w135_99, w135_100, w135_101, w135_104, Ko_n, Ko_v, vX_i, vX_r, vX_l, vX_j, reduceIte, Nat.reduceAdd, d2]
        rw [c169 (by omega) (Or.inl rfl), if_pos rfl, Ko_x rfl]
        exact hq
      · simp (disch := (first | assumption | omega | exact Nat.le_of_ble_eq_true rfl | rfl)) only [w135_0, w135_1, w135_2, w135_3, w135_6, w135_7, w135_10, w135_11, w135_13, w135_16, w135_17, w135_20, w135_21, w135_24, w135_25, w135_28, w135_29, w135_32, w135_35, w135_36, w135_39, w135_42, w135_43, w135_46, w135_47, w135_49, w135_50, w135_54, w135_55, w135_58, w135_60, w135_63, w135_64, w135_67, w135_68, w135_71, w135_74, w135_75, w135_78, w135_81, w135_84, w135_86, w135_89, w135_92, w135_93, w135_96, w135_99, w135_100, w135_101, w135_104, Ko_n, Ko_v, vX_i, vX_r, vX_l, vX_j, reduceIte, Nat.reduceAdd, d2, show 36 < s by omega]
        rw [c169 (by omega) (Or.inl rfl), if_pos rfl, Ko_x rfl]
        exact hq
  · rw [if_neg hv, Ko_x rfl]
    exact hQ1 hv
def clP (W H : Int) (N : Nat) (kd c f : Int → Int) (z s : Int) : Nat → Bool := fun n => decide (clN W H N kd c f n z < far ∧ clN W H N kd c f n z ≤ s)
/-- what clipFor answers -/
def cfA (W H : Int) (N : Nat) (kd c f : Int → Int) (z s wh : Int) : Int := if fst1 (clP W H N kd c f z s) 37 = -1 then -1 else if wh = 0 then fst1 (clP W H N kd c f z s) 37 else clN W H N kd c f (fst1 (clP W H N kd c f z s) 37).toNat z
theorem L136 {d N : Nat} {w z s wh W H : Int} {T : Tt} {σ : St} {Q : vmO → vmH → Prop} {c f : Int → Int} (hW : hpW σ W H N) (h : wh2 W H) (hcs : csIn c (W * H)) (k0 : 0 ≤ z) (k1 : z < N) (s0 : 0 ≤ s) (s1 : s < 2147483648) (g0 : 0 ≤ wh) (g1 : wh ≤ 1)
    (hQ : ∀ τ, sg σ τ → Q (.inl (some (.int (i32 (cfA W H N (σ 700 10) c f z s wh))))) (E T τ)) :
    ∀ (m n : Nat) (τ : St), n + m = 37 → sg σ τ → agr (W * H) (τ 1000 144) c → agr 36 (τ 1001 144) (clN W H N (σ 700 10) c f n) → frIn (τ 1001 144) → (∀ i, i < n → clP W H N (σ 700 10) c f z s i = false) → Wp (d + 10) M_X11_clipFor 54 [.ref 0, .int (i32 w), .int (i32 z), .int (i32 s), .int (i32 wh), .int (i32 n)] [] (E T τ) Q := by
  have h0 := ob_hp; have h2 := ob_st; have h3 := ob_p3; have hn := ob_n10; have hwy := ob_wy
  have hm := wh_mul h
  have hNw := hW.2.2.1
  have hfar : far = 1000000000 := rfl
  intro m
  induction m with
  | zero =>
    intro n τ hn2 hs hC hF hfr hb
    have hn2 : n = 37 := by omega
    subst hn2
    have hq := hQ τ hs
    unfold cfA at hq
    rw [fst1_no 37 hb, if_pos rfl] at hq
    rw [w136_54]
    simp (disch := (first | assumption | omega | exact Nat.le_of_ble_eq_true rfl | rfl)) only [w136_0, w136_1, w136_2, w136_3, w136_6, w136_7, w136_10, w136_12, w136_15, w136_17, w136_18, w136_21, w136_22, w136_25, w136_26, w136_29, w136_30, w136_33, w136_34, w136_37, w136_40, w136_41, w136_44, w136_47, w136_48, w136_51, w136_52, w136_56, w136_58, w136_61, w136_62, w136_65, w136_66, w136_67, w136_70, w136_73, w136_75, w136_78, w136_80, w136_83, w136_84, w136_87, w136_90, w136_91, w136_92, w136_93, w136_94, w136_97, w136_98, w136_101, w136_104, w136_105, w136_108, w136_111, w136_114, w136_117, w136_118, w136_119, w136_122, w136_125, w136_126, Ko_n, Ko_v, vX_i, vX_r, vX_l, vX_j, reduceIte, Nat.reduceAdd, show (36 : Int) < ((37 : Nat) : Int) by omega]
    exact hq
  | succ m ih =>
    intro n τ hn2 hs hC hF hfr hb
    have hi := hfr z k0 (by omega)
    rw [w136_54]
    simp (disch := (first | assumption | omega | exact Nat.le_of_ble_eq_true rfl | rfl)) only [w136_0, w136_1, w136_2, w136_3, w136_6, w136_7, w136_10, w136_12, w136_15, w136_17, w136_18, w136_21, w136_22, w136_25, w136_26, w136_29, w136_30, w136_33, w136_34, w136_37, w136_40, w136_41, w136_44, w136_47, w136_48, w136_51, w136_52, w136_56, w136_58, w136_61, w136_62, w136_65, w136_66, w136_67, w136_70, w136_73, w136_75, w136_78, w136_80, w136_83, w136_84, w136_87, w136_90, w136_91, w136_92, w136_93, w136_94, w136_97, w136_98, w136_101, w136_104, w136_105, w136_108, w136_111, w136_114, w136_117, w136_118, w136_119, w136_122, w136_125, w136_126, Ko_n, Ko_v, vX_i, vX_r, vX_l, vX_j, reduceIte, Nat.reduceAdd, show ¬ (36 : Int) < (n : Int) by omega]
    rw [c102 (σ := τ) hwy k0 (by omega) (by omega) s1 hi.1 hi.2, hF z k0 (by omega)]
    by_cases hx : clN W H N (σ 700 10) c f n z < far ∧ clN W H N (σ 700 10) c f n z ≤ s
    · rw [if_pos hx]
      have hq := hQ τ hs
      have ef := fst1_at (P := clP W H N (σ 700 10) c f z s) (n := n) (decide_eq_true hx) hb 37 (by omega)
      unfold cfA at hq
      rw [ef, if_neg (by omega)] at hq
      by_cases hw : wh = 0
      · rw [if_pos hw] at hq
        simp (disch := (first | assumption | omega | exact Nat.le_of_ble_eq_true rfl | rfl)) only [w136_0, w136_1, w136_2, w136_3, w136_6, w136_7, w136_10, w136_12, w136_15, w136_17, w136_18, w136_21, w136_22, w136_25, w136_26, w136_29, w136_30, w136_33, w136_34, w136_37, w136_40, w136_41, w136_44, w136_47, w136_48, w136_51, w136_52, w136_56, w136_58, w136_61, w136_62, w136_65, w136_66, w136_67, w136_70, w136_73, w136_75, w136_78, w136_80, w136_83, w136_84, w136_87, w136_90, w136_91, w136_92, w136_93, w136_94, w136_97, w136_98, w136_101, w136_104, w136_105, w136_108, w136_111, w136_114, w136_117, w136_118, w136_119, w136_122, w136_125, w136_126, Ko_n, Ko_v, vX_i, vX_r, vX_l, vX_j, reduceIte, Nat.reduceAdd, Int.reduceEq, hw]
        exact hq
      · rw [if_neg hw] at hq
        simp (disch := (first | assumption | omega | exact Nat.le_of_ble_eq_true rfl | rfl)) only [w136_0, w136_1, w136_2, w136_3, w136_6, w136_7, w136_10, w136_12, w136_15, w136_17, w136_18, w136_21, w136_22, w136_25, w136_26, w136_29, w136_30, w136_33, w136_34, w136_37, w136_40, w136_41, w136_44, w136_47, w136_48, w136_51, w136_52, w136_56, w136_58, w136_61, w136_62, w136_65, w136_66, w136_67, w136_70, w136_73, w136_75, w136_78, w136_80, w136_83, w136_84, w136_87, w136_90, w136_91, w136_92, w136_93, w136_94, w136_97, w136_98, w136_101, w136_104, w136_105, w136_108, w136_111, w136_114, w136_117, w136_118, w136_119, w136_122, w136_125, w136_126, Ko_n, Ko_v, vX_i, vX_r, vX_l, vX_j, reduceIte, Nat.reduceAdd, Int.reduceEq, hw]
        rw [hF z k0 (by omega)]
        rw [show ((n : Int)).toNat = n by omega] at hq
        exact hq
    · rw [if_neg hx]
      have hb' : ∀ i, i < n + 1 → clP W H N (σ 700 10) c f z s i = false := fun i hi => by
        by_cases e : i = n
        · rw [e]; exact decide_eq_false hx
        · exact hb i (by omega)
      simp (disch := (first | assumption | omega | exact Nat.le_of_ble_eq_true rfl | rfl)) only [w136_0, w136_1, w136_2, w136_3, w136_6, w136_7, w136_10, w136_12, w136_15, w136_17, w136_18, w136_21, w136_22, w136_25, w136_26, w136_29, w136_30, w136_33, w136_34, w136_37, w136_40, w136_41, w136_44, w136_47, w136_48, w136_51, w136_52, w136_56, w136_58, w136_61, w136_62, w136_65, w136_66, w136_67, w136_70, w136_73, w136_75, w136_78, w136_80, w136_83, w136_84, w136_87, w136_90, w136_91, w136_92, w136_93, w136_94, w136_97, w136_98, w136_101, w136_104, w136_105, w136_108, w136_111, w136_114, w136_117, w136_118, w136_119, w136_122, w136_125, w136_126, Ko_n, Ko_v, vX_i, vX_r, vX_l, vX_j, reduceIte, Nat.reduceAdd]
      refine clOne hW h hcs hs hC hF hfr ?_
      intro τ' hs' hC' hF' hfr'
      cases hl : ls (clr W H (σ 700 10) (clN W H N (σ 700 10) c f n)) (clN W H N (σ 700 10) c f n) N with
      | false =>
        have a1 := clN_no hl
        have hq := hQ τ' hs'
        unfold cfA at hq
        rw [fst1_no 37 (fun i hi => by
          by_cases e : i < n
          · exact hb i e
          · unfold clP
            rw [show i = n + (i - n) by omega, a1]
            exact decide_eq_false hx), if_pos rfl] at hq
        simp (disch := (first | assumption | omega | exact Nat.le_of_ble_eq_true rfl | rfl)) only [w136_0, w136_1, w136_2, w136_3, w136_6, w136_7, w136_10, w136_12, w136_15, w136_17, w136_18, w136_21, w136_22, w136_25, w136_26, w136_29, w136_30, w136_33, w136_34, w136_37, w136_40, w136_41, w136_44, w136_47, w136_48, w136_51, w136_52, w136_56, w136_58, w136_61, w136_62, w136_65, w136_66, w136_67, w136_70, w136_73, w136_75, w136_78, w136_80, w136_83, w136_84, w136_87, w136_90, w136_91, w136_92, w136_93, w136_94, w136_97, w136_98, w136_101, w136_104, w136_105, w136_108, w136_111, w136_114, w136_117, w136_118, w136_119, w136_122, w136_125, w136_126, Ko_n, Ko_v, vX_i, vX_r, vX_l, vX_j, reduceIte, Nat.reduceAdd, Bool.false_eq_true]
        exact hq
      | true =>
        simp (disch := (first | assumption | omega | exact Nat.le_of_ble_eq_true rfl | rfl)) only [w136_0, w136_1, w136_2, w136_3, w136_6, w136_7, w136_10, w136_12, w136_15, w136_17, w136_18, w136_21, w136_22, w136_25, w136_26, w136_29, w136_30, w136_33, w136_34, w136_37, w136_40, w136_41, w136_44, w136_47, w136_48, w136_51, w136_52, w136_56, w136_58, w136_61, w136_62, w136_65, w136_66, w136_67, w136_70, w136_73, w136_75, w136_78, w136_80, w136_83, w136_84, w136_87, w136_90, w136_91, w136_92, w136_93, w136_94, w136_97, w136_98, w136_101, w136_104, w136_105, w136_108, w136_111, w136_114, w136_117, w136_118, w136_119, w136_122, w136_125, w136_126, Ko_n, Ko_v, vX_i, vX_r, vX_l, vX_j, reduceIte, Nat.reduceAdd, Int.reduceEq]
        exact ih (n + 1) τ' (by omega) hs' hC' hF' hfr' hb'
theorem c136 {d N : Nat} {k w z s wh W H : Int} {T : Tt} {σ : St} {Q : vmO → vmH → Prop} (hW : hpW σ W H N) (x0 : -2147483648 ≤ w) (x1 : w < 2147483648) (z0 : -2147483648 ≤ z) (z1 : z < 2147483648) (y0 : -2147483648 ≤ s) (y1 : s < 2147483648) (q0 : -2147483648 ≤ wh) (q1 : wh < 2147483648)
    (hQ1 : ¬ ((0 ≤ w ∧ w < σ 404 3 0) ∧ (0 ≤ z ∧ z < N)) → Q (.inr 0) (E (thr T) σ))
    (hQ2 : 0 ≤ w → w < σ 404 3 0 → 0 ≤ z → z < N → ¬ (0 ≤ s ∧ 0 ≤ wh ∧ wh ≤ 1) → Q (.inr 1) (E (thr T) σ))
    (hQ3 : 0 ≤ w → w < σ 404 3 0 → 0 ≤ z → z < N → 0 ≤ s → 0 ≤ wh → wh ≤ 1 → ∀ τ, sg σ τ → Q (.inl (some (.int (i32 (cfA W H N (σ 700 10) (prc σ 3 10 (frB (σ 405 3 0) w)) (dW σ W H N w) z s wh))))) (E T τ)) : Ca (d + 10) k 136 [.ref 0, .int (i32 w), .int (i32 z), .int (i32 s), .int (i32 wh)] (E T σ) Q := by
  have h0 := ob_hp; have h2 := ob_st; have h3 := ob_p3; have hn := ob_n10; have hwy := ob_wy
  have hm := wh_mul0 hW.2.1
  have hNw := hW.2.2.1
  have hN : σ 401 3 0 * σ 402 3 0 = (N : Int) := by rw [hW.1.1, hW.1.2.1, hW.2.2.1]
  have v0 := hW.2.2.2.2.2.1
  have v1 := hW.2.2.2.2.2.2.1
  rw [n136 _ _ _ _ _ _ _ _ _ _ h0]
  simp (disch := (first | assumption | omega | exact Nat.le_of_ble_eq_true rfl | rfl)) only [w136_0, w136_1, w136_2, w136_3, w136_6, w136_7, w136_10, w136_12, w136_15, w136_17, w136_18, w136_21, w136_22, w136_25, w136_26, w136_29, w136_30, w136_33, w136_34, w136_37, w136_40, w136_41, w136_44, w136_47, w136_48, w136_51, w136_52, w136_56, w136_58, w136_61, w136_62, w136_65, w136_66, w136_67, w136_70, w136_73, w136_75, w136_78, w136_80, w136_83, w136_84, w136_87, w136_90, w136_91, w136_92, w136_93, w136_94, w136_97, w136_98, w136_101, w136_104, w136_105, w136_108, w136_111, w136_114, w136_117, w136_118, w136_119, w136_122, w136_125, w136_126, Ko_n, Ko_v, vX_i, vX_r, vX_l, vX_j, reduceIte]
  rw [c165 hN (by omega) (by omega) v0 v1 x0 x1 z0 z1]
  by_cases hv : (0 ≤ w ∧ w < σ 404 3 0) ∧ (0 ≤ z ∧ z < (N : Int))
  · rw [if_pos hv]
    obtain ⟨⟨w0, w1⟩, k0, k1⟩ := hv
    obtain ⟨h, w5, a0, a1⟩ := hpW_w hW w0 w1
    by_cases hd : 0 ≤ s ∧ 0 ≤ wh ∧ wh ≤ 1
    · simp (disch := (first | assumption | omega | exact Nat.le_of_ble_eq_true rfl | rfl)) only [w136_0, w136_1, w136_2, w136_3, w136_6, w136_7, w136_10, w136_12, w136_15, w136_17, w136_18, w136_21, w136_22, w136_25, w136_26, w136_29, w136_30, w136_33, w136_34, w136_37, w136_40, w136_41, w136_44, w136_47, w136_48, w136_51, w136_52, w136_56, w136_58, w136_61, w136_62, w136_65, w136_66, w136_67, w136_70, w136_73, w136_75, w136_78, w136_80, w136_83, w136_84, w136_87, w136_90, w136_91, w136_92, w136_93, w136_94, w136_97, w136_98, w136_101, w136_104, w136_105, w136_108, w136_111, w136_114, w136_117, w136_118, w136_119, w136_122, w136_125, w136_126, Ko_n, Ko_v, vX_i, vX_r, vX_l, vX_j, reduceIte, Nat.reduceAdd, show ¬ s < 0 by omega, show ¬ wh < 0 by omega, show ¬ 1 < wh by omega]
      rw [c169 (by omega) (Or.inr rfl), if_neg (by omega)]
      simp (disch := (first | assumption | omega | exact Nat.le_of_ble_eq_true rfl | rfl)) only [w136_0, w136_1, w136_2, w136_3, w136_6, w136_7, w136_10, w136_12, w136_15, w136_17, w136_18, w136_21, w136_22, w136_25, w136_26, w136_29, w136_30, w136_33, w136_34, w136_37, w136_40, w136_41, w136_44, w136_47, w136_48, w136_51, w136_52, w136_56, w136_58, w136_61, w136_62, w136_65, w136_66, w136_67, w136_70, w136_73, w136_75, w136_78, w136_80, w136_83, w136_84, w136_87, w136_90, w136_91, w136_92, w136_93, w136_94, w136_97, w136_98, w136_101, w136_104, w136_105, w136_108, w136_111, w136_114, w136_117, w136_118, w136_119, w136_122, w136_125, w136_126, Ko_n, Ko_v, vX_i, vX_r, vX_l, vX_j, reduceIte, Nat.reduceAdd]
      refine sprW hW w0 w1 ?_
      intro C X hX hfr hC
      simp (disch := (first | assumption | omega | exact Nat.le_of_ble_eq_true rfl | rfl)) only [w136_0, w136_1, w136_2, w136_3, w136_6, w136_7, w136_10, w136_12, w136_15, w136_17, w136_18, w136_21, w136_22, w136_25, w136_26, w136_29, w136_30, w136_33, w136_34, w136_37, w136_40, w136_41, w136_44, w136_47, w136_48, w136_51, w136_52, w136_56, w136_58, w136_61, w136_62, w136_65, w136_66, w136_67, w136_70, w136_73, w136_75, w136_78, w136_80, w136_83, w136_84, w136_87, w136_90, w136_91, w136_92, w136_93, w136_94, w136_97, w136_98, w136_101, w136_104, w136_105, w136_108, w136_111, w136_114, w136_117, w136_118, w136_119, w136_122, w136_125, w136_126, Ko_n, Ko_v, vX_i, vX_r, vX_l, vX_j, reduceIte, Nat.reduceAdd]
      have e0 : ∀ j, wyD (upA σ 1000 144 C) 144 X 1000 144 j = C j := fun j => by unfold wyD; rw [wyt (by omega) (by omega) (by omega) (by omega), upA_s]
      exact L136 (c := prc σ 3 10 (frB (σ 405 3 0) w)) (f := dW σ W H N w) hW h (prc_cs hW) k0 k1 hd.1 y1 hd.2.1 hd.2.2 (hQ3 w0 w1 k0 k1 hd.1 hd.2.1 hd.2.2) 37 0 _ (by omega) sg_wd (fun j j0 j1 => by rw [e0]; exact hC j j0 j1) (by rw [wd1]; exact hX) (by rw [wd1]; exact hfr) (fun i hi => by omega)
    · have hq := hQ2 w0 w1 k0 k1 hd
      by_cases d2 : s < 0
      · simp (disch := (first | assumption | omega | exact Nat.le_of_ble_eq_true rfl | rfl)) only [w136_0, w136_1, w136_2, w136_3, w136_6, w136_7, w136_10, w136_12, w136_15, w136_17, w136_18, w136_21, w136_22, w136_25, w136_26, w136_29, w136_30, w136_33, w136_34, w136_37, w136_40, w136_41, w136_44, w136_47, w136_48, w136_51, w136_52, w136_56, w136_58, w136_61, w136_62, w136_65, w136_66, w136_67, w136_70, w136_73, w136_75, w136_78, w136_80, w136_83, w136_84, w136_87, w136_90, w136_91, w136_92, w136_93, w136_94, w136_97, w136_98, w136_101, w136_104, w136_105, w136_108, w136_111, w136_114, w136_117, w136_118, w136_119, w136_122, w136_125, w136_126, Ko_n, Ko_v, vX_i, vX_r, vX_l, vX_j, reduceIte, Nat.reduceAdd, d2]
        rw [c169 (by omega) (Or.inl rfl), if_pos rfl, Ko_x rfl]
        exact hq
      · by_cases d3 : wh < 0
        · simp (disch := (first | assumption | omega | exact Nat.le_of_ble_eq_true rfl | rfl)) only [w136_0, w136_1, w136_2, w136_3, w136_6, w136_7, w136_10, w136_12, w136_15, w136_17, w136_18, w136_21, w136_22, w136_25, w136_26, w136_29, w136_30, w136_33, w136_34, w136_37, w136_40, w136_41, w136_44, w136_47, w136_48, w136_51, w136_52, w136_56, w136_58, w136_61, w136_62, w136_65, w136_66, w136_67, w136_70, w136_73, w136_75, w136_78, w136_80, w136_83, w136_84, w136_87, w136_90, w136_91, w136_92, w136_93, w136_94, w136_97, w136_98, w136_101, w136_104, w136_105, w136_108, w136_111, w136_114, w136_117, w136_118, w136_119, w136_122, w136_125, w136_126, Ko_n, Ko_v, vX_i, vX_r, vX_l, vX_j, reduceIte, Nat.reduceAdd, d2, d3]
          rw [c169 (by omega) (Or.inl rfl), if_pos rfl, Ko_x rfl]
          exact hq
        · simp (disch := (first | assumption | omega | exact Nat.le_of_ble_eq_true rfl | rfl)) only [w136_0, w136_1, w136_2, w136_3, w136_6, w136_7, w136_10, w136_12, w136_15, w136_17, w136_18, w136_21, w136_22, w136_25, w136_26, w136_29, w136_30, w136_33, w136_34, w136_37, w136_40, w136_41, w136_44, w136_47, w136_48, w136_51, w136_52, w136_56, w136_58, w136_61, w136_62, w136_65, w136_66, w136_67, w136_70, w136_73, w136_75, w136_78, w136_80, w136_83, w136_84, w136_87, w136_90, w136_91, w136_92, w136_93, w136_94, w136_97, w136_98, w136_101, w136_104, w136_105, w136_108, w136_111, w136_114, w136_117, w136_118, w136_119, w136_122, w136_125, w136_126, Ko_n, Ko_v, vX_i, vX_r, vX_l, vX_j, reduceIte, Nat.reduceAdd, d2, d3, show 1 < wh by omega]
          rw [c169 (by omega) (Or.inl rfl), if_pos rfl, Ko_x rfl]
          exact hq
  · rw [if_neg hv, Ko_x rfl]
    exact hQ1 hv
