/-! ===== Strolls: by a cell; Cut ===== -/
theorem c92 {d t N : Nat} {k W H a z x : Int} {p : Nat} {all : Int64} {c : Int → Int} {T : Tt} {σ : St} {Q : vmO → vmH → Prop} (hp : ob 4 p) (hg : geo σ p W H) (h : wh2 W H) (hN : (N : Int) = W * H) (hagr : agr (W * H) (σ 1000 160) c) (hcs : csIn c (W * H)) (ht : t ≤ 30) (h7 : σ 907 155 0 = t) (h6 : σ 906 155 0 = z) (h5 : σ 905 155 0 = a) (a0 : 0 ≤ a) (a1 : a < W * H) (z0 : 0 ≤ z) (z1 : z < W * H) (hTH : thU W H c a t (σ 901 155)) (hTC : tcU W H c z t (σ 902 155)) (x0 : 0 ≤ x) (x1 : x < W * H)
    (hQ : ∀ M, Q (.inl (some (.long (if psI W H c a z t (t + 1) x then (if x = a ∨ x = z then all else all - cw W H c (lvB W H c a z t x) t z) else i64 0)))) (E T (upA σ 903 155 M))) : Ca (d + 2) k 92 [.ref 155, .ref p, .int (i32 x), .long all] (E T σ) Q := by
  have hp3 := ob_lt hp
  have hr := ob_sk
  have hm := wh_mul h
  have hq0 := hQ (σ 903 155)
  rw [upA_self] at hq0
  rw [n92 _ _ _ _ _ _ _ _ _ hr]
  simp (disch := (first | assumption | omega | exact Nat.le_of_ble_eq_true rfl | rfl)) only [w92_0, w92_1, w92_4, w92_5, w92_8, w92_11, w92_12, w92_13, w92_14, w92_15, w92_18, w92_21, w92_22, w92_23, w92_26, w92_29, w92_30, w92_33, w92_34, w92_35, w92_36, w92_37, w92_40, w92_41, Ko_n, Ko_v, vX_i, vX_r, vX_l, vX_j, reduceIte]
  rw [c89 ht h7 hTH hTC]
  simp (disch := (first | assumption | omega | exact Nat.le_of_ble_eq_true rfl | rfl)) only [w92_0, w92_1, w92_4, w92_5, w92_8, w92_11, w92_12, w92_13, w92_14, w92_15, w92_18, w92_21, w92_22, w92_23, w92_26, w92_29, w92_30, w92_33, w92_34, w92_35, w92_36, w92_37, w92_40, w92_41, Ko_n, Ko_v, vX_i, vX_r, vX_l, vX_j, reduceIte]
  rw [c172 (by omega) x0 (by omega)]
  cases hps : psI W H c a z t (t + 1) x with
  | false =>
    rw [hps] at hq0
    simp (disch := (first | assumption | omega | exact Nat.le_of_ble_eq_true rfl | rfl)) only [w92_0, w92_1, w92_4, w92_5, w92_8, w92_11, w92_12, w92_13, w92_14, w92_15, w92_18, w92_21, w92_22, w92_23, w92_26, w92_29, w92_30, w92_33, w92_34, w92_35, w92_36, w92_37, w92_40, w92_41, Ko_n, Ko_v, vX_i, vX_r, vX_l, vX_j, reduceIte, Int.reduceEq, Bool.false_eq_true, not_true]
    exact hq0
  | true =>
    by_cases hxa : x = a
    · rw [hps, if_pos rfl, if_pos (Or.inl hxa)] at hq0
      simp (disch := (first | assumption | omega | exact Nat.le_of_ble_eq_true rfl | rfl)) only [w92_0, w92_1, w92_4, w92_5, w92_8, w92_11, w92_12, w92_13, w92_14, w92_15, w92_18, w92_21, w92_22, w92_23, w92_26, w92_29, w92_30, w92_33, w92_34, w92_35, w92_36, w92_37, w92_40, w92_41, Ko_n, Ko_v, vX_i, vX_r, vX_l, vX_j, reduceIte, Int.reduceEq, not_false_eq_true, h5, show (x = a) = True from eq_true hxa]
      exact hq0
    · by_cases hxz : x = z
      · rw [hps, if_pos rfl, if_pos (Or.inr hxz)] at hq0
        simp (disch := (first | assumption | omega | exact Nat.le_of_ble_eq_true rfl | rfl)) only [w92_0, w92_1, w92_4, w92_5, w92_8, w92_11, w92_12, w92_13, w92_14, w92_15, w92_18, w92_21, w92_22, w92_23, w92_26, w92_29, w92_30, w92_33, w92_34, w92_35, w92_36, w92_37, w92_40, w92_41, Ko_n, Ko_v, vX_i, vX_r, vX_l, vX_j, reduceIte, Int.reduceEq, not_false_eq_true, h5, h6, hxa, show (x = z) = True from eq_true hxz, not_true]
        exact hq0
      · simp (disch := (first | assumption | omega | exact Nat.le_of_ble_eq_true rfl | rfl)) only [w92_0, w92_1, w92_4, w92_5, w92_8, w92_11, w92_12, w92_13, w92_14, w92_15, w92_18, w92_21, w92_22, w92_23, w92_26, w92_29, w92_30, w92_33, w92_34, w92_35, w92_36, w92_37, w92_40, w92_41, Ko_n, Ko_v, vX_i, vX_r, vX_l, vX_j, reduceIte, Int.reduceEq, not_false_eq_true, h5, h6, hxa, hxz]
        refine c90 (c := c) (a := a) (z := z) (t := t) (N := N) hp hg h hN hagr hcs ht h7 h6 z0 z1 hTH hTC (by omega) (by omega) ?_
        intro M
        have hq := hQ M
        rw [hps, if_pos rfl, if_neg (fun w => w.elim hxa hxz)] at hq
        simp (disch := (first | assumption | omega | exact Nat.le_of_ble_eq_true rfl | rfl)) only [w92_0, w92_1, w92_4, w92_5, w92_8, w92_11, w92_12, w92_13, w92_14, w92_15, w92_18, w92_21, w92_22, w92_23, w92_26, w92_29, w92_30, w92_33, w92_34, w92_35, w92_36, w92_37, w92_40, w92_41, Ko_n, Ko_v, vX_i, vX_r, vX_l, vX_j, reduceIte]
        exact hq
theorem ob_cu : ob 0 151 := (rfl : sh 151 = (2, 0, 0, 0, 0))
def sdI (W H c n : Int) : Nat → Int
  | 0 => -1
  | m + 1 => if nbC W H c (3 - m) = n then 4 * c + (3 - m) else sdI W H c n m
def sdT (W H c n : Int) : Int := if c = -1 then -1 else sdI W H c n 4
theorem nb_rng {W H k d : Int} (h : wh2 W H) (k0 : 0 ≤ k) (k1 : k < W * H) : -1 ≤ nbC W H k d ∧ nbC W H k d < 36 := by
  have hm := wh_mul h
  by_cases hn : nbC W H k d = -1
  · omega
  · have := nb_in h k0 k1 hn
    omega
theorem c6 {d : Nat} {k W H c n : Int} {p : Nat} {T : Tt} {σ : St} {Q : vmO → vmH → Prop} (hk : 4 ≤ k) (hp : ob 4 p) (hg : geo σ p W H) (h : wh2 W H) (c0 : -1 ≤ c) (c1 : c < W * H) (n0 : -1 ≤ n) (n1 : n < 100) : Ca d k 6 [.ref p, .int (i32 c), .int (i32 n)] (E T σ) Q = Q (.inl (some (.int (i32 (sdT W H c n))))) (E T σ) := by
  have hp3 := ob_lt hp
  have hm := wh_mul h
  obtain ⟨g1, g2, g3, g4, g5, g6⟩ := hg
  rw [n6 _ _ _ _ _ _ _ hk]
  unfold sdT
  by_cases hc : c = -1
  · simp (disch := (first | assumption | omega | exact Nat.le_of_ble_eq_true rfl | rfl)) only [w6_0, w6_1, w6_2, w6_5, w6_6, w6_7, w6_8, w6_9, w6_10, w6_12, w6_13, w6_14, w6_15, w6_16, w6_17, w6_20, w6_21, w6_24, w6_25, w6_26, w6_27, w6_30, w6_31, w6_32, w6_35, w6_38, w6_39, Ko_n, Ko_v, vX_i, vX_r, vX_l, vX_j, reduceIte, hc, not_true, Int.reduceNeg]
  rw [if_neg hc]
  have loop : ∀ (m : Nat), m ≤ 4 → Wp d M_X0_sideTo 11 [.ref p, .int (i32 c), .int (i32 n), .int (i32 (4 * c + (4 - m)))] [] (E T σ) Q = Q (.inl (some (.int (i32 (sdI W H c n m))))) (E T σ) := by
    intro m
    induction m with
    | zero =>
      intro _
      rw [w6_11]
      simp (disch := (first | assumption | omega | exact Nat.le_of_ble_eq_true rfl | rfl)) only [w6_0, w6_1, w6_2, w6_5, w6_6, w6_7, w6_8, w6_9, w6_10, w6_12, w6_13, w6_14, w6_15, w6_16, w6_17, w6_20, w6_21, w6_24, w6_25, w6_26, w6_27, w6_30, w6_31, w6_32, w6_35, w6_38, w6_39, Ko_n, Ko_v, vX_i, vX_r, vX_l, vX_j, reduceIte, show (4 * c + (4 - ((0 : Nat) : Int))) = 4 * c + 4 by omega, Int.le_refl]
      rfl
    | succ m ih =>
      intro hm4
      have hb := g6 c (3 - m) (by omega) c1 (by omega) (by omega)
      have hnr := nb_rng (d := 3 - (m : Int)) h (by omega : 0 ≤ c) c1
      have e0 : (4 * c + (4 - ((m + 1 : Nat) : Int))) = 4 * c + (3 - (m : Int)) := by omega
      have e1 : (4 * c + (3 - (m : Int)) + 1) = 4 * c + (4 - (m : Int)) := by omega
      have ih' := ih (by omega)
      rw [e0, w6_11]
      simp only [sdI]
      by_cases hn : nbC W H c (3 - m) = n
      · simp (disch := (first | assumption | omega | exact Nat.le_of_ble_eq_true rfl | rfl)) only [w6_0, w6_1, w6_2, w6_5, w6_6, w6_7, w6_8, w6_9, w6_10, w6_12, w6_13, w6_14, w6_15, w6_16, w6_17, w6_20, w6_21, w6_24, w6_25, w6_26, w6_27, w6_30, w6_31, w6_32, w6_35, w6_38, w6_39, Ko_n, Ko_v, vX_i, vX_r, vX_l, vX_j, reduceIte, show ¬ (4 * c + 4 ≤ 4 * c + (3 - (m : Int))) by omega, hb, hn, not_true]
      · simp (disch := (first | assumption | omega | exact Nat.le_of_ble_eq_true rfl | rfl)) only [w6_0, w6_1, w6_2, w6_5, w6_6, w6_7, w6_8, w6_9, w6_10, w6_12, w6_13, w6_14, w6_15, w6_16, w6_17, w6_20, w6_21, w6_24, w6_25, w6_26, w6_27, w6_30, w6_31, w6_32, w6_35, w6_38, w6_39, Ko_n, Ko_v, vX_i, vX_r, vX_l, vX_j, reduceIte, show ¬ (4 * c + 4 ≤ 4 * c + (3 - (m : Int))) by omega, hb, hn, not_false_eq_true, e1]
        exact ih'
  simp (disch := (first | assumption | omega | exact Nat.le_of_ble_eq_true rfl | rfl)) only [w6_0, w6_1, w6_2, w6_5, w6_6, w6_7, w6_8, w6_9, w6_10, w6_12, w6_13, w6_14, w6_15, w6_16, w6_17, w6_20, w6_21, w6_24, w6_25, w6_26, w6_27, w6_30, w6_31, w6_32, w6_35, w6_38, w6_39, Ko_n, Ko_v, vX_i, vX_r, vX_l, vX_j, reduceIte, hc, not_false_eq_true]
  have := loop 4 (by omega)
  rw [show (4 * c + (4 - ((4 : Nat) : Int))) = 4 * c by omega] at this
  exact this
/-! what is found: by whom each node is come to, the row of nodes, how many -/
abbrev Ct : Type := (Int → Int) × (Int → Int) × Int
def ctS (σ : St) (x : Ct) : St := upA (upA (upA σ 3 151 x.1) 2 151 x.2.1) 4 151 fun _ => x.2.2
theorem ct3 {σ : St} {x : Ct} : ctS σ x 3 151 = x.1 := by unfold ctS; simp (disch := omega) only [upA_t, upA_s]
theorem ct2 {σ : St} {x : Ct} : ctS σ x 2 151 = x.2.1 := by unfold ctS; simp (disch := omega) only [upA_t, upA_s]
theorem ct4 {σ : St} {x : Ct} : ctS σ x 4 151 = fun _ => x.2.2 := by unfold ctS; simp (disch := omega) only [upA_s]
theorem ctt {σ : St} {x : Ct} {t o : Nat} (h2 : t ≠ 2) (h3 : t ≠ 3) (h4 : t ≠ 4) : ctS σ x t o = σ t o := by unfold ctS; rw [upA_t h4, upA_t h2, upA_t h3]
theorem cu3 {σ : St} {f g : Int → Int} {n : Int} {f' : Int → Int} : upA (ctS σ (f, g, n)) 3 151 f' = ctS σ (f', g, n) := by unfold ctS; rw [upA_comm (t := 4) (t' := 3) (by omega), upA_comm (t := 2) (t' := 3) (by omega), upA_upA]
theorem cu2 {σ : St} {f g : Int → Int} {n : Int} {g' : Int → Int} : upA (ctS σ (f, g, n)) 2 151 g' = ctS σ (f, g', n) := by unfold ctS; rw [upA_comm (t := 4) (t' := 2) (by omega), upA_upA]
theorem cu4 {σ : St} {f g : Int → Int} {n n' : Int} : upA (ctS σ (f, g, n)) 4 151 (fun _ => n') = ctS σ (f, g, n') := by unfold ctS; rw [upA_upA]
def visC (x : Ct) (nd by' : Int) : Ct := if x.1 nd = -1 ∧ x.2.2 < 72 then (fu x.1 nd by', fu x.2.1 x.2.2 nd, x.2.2 + 1) else x
def ctIn (N : Int) (x : Ct) : Prop := (∀ j, 0 ≤ j → j < 72 → -1 ≤ x.1 j ∧ x.1 j < 2 * N) ∧ 0 ≤ x.2.2 ∧ x.2.2 ≤ 72 ∧ ∀ i, 0 ≤ i → i < x.2.2 → 0 ≤ x.2.1 i ∧ x.2.1 i < 2 * N
theorem visC_in {N nd by' : Int} {x : Ct} (h : ctIn N x) (n0 : 0 ≤ nd) (n1 : nd < 2 * N) (b0 : 0 ≤ by') (b1 : by' < 2 * N) : ctIn N (visC x nd by') := by
  obtain ⟨h1, h2, h3, h4⟩ := h
  unfold visC
  by_cases hc : x.1 nd = -1 ∧ x.2.2 < 72
  · rw [if_pos hc]
    refine ⟨fun j j0 j1 => ?_, ?_, ?_, fun i i0 i1 => ?_⟩
    · show -1 ≤ fu x.1 nd by' j ∧ fu x.1 nd by' j < 2 * N
      by_cases hj : j = nd
      · rw [hj, fu_s]; omega
      · rw [fu_n hj]; exact h1 j j0 j1
    · show 0 ≤ x.2.2 + 1; omega
    · show x.2.2 + 1 ≤ 72; omega
    · have i1' : i < x.2.2 + 1 := i1
      show 0 ≤ fu x.2.1 x.2.2 nd i ∧ fu x.2.1 x.2.2 nd i < 2 * N
      by_cases hi : i = x.2.2
      · rw [hi, fu_s]; omega
      · rw [fu_n hi]; exact h4 i i0 (by omega)
  · rw [if_neg hc]; exact ⟨h1, h2, h3, h4⟩
theorem c3 {d : Nat} {k N nd by' : Int} {x : Ct} {T : Tt} {σ : St} {Q : vmO → vmH → Prop} (hN : N ≤ 36) (hx : ctIn N x) (n0 : 0 ≤ nd) (n1 : nd < 2 * N) : Ca d k 3 [.ref 151, .int (i32 nd), .int (i32 by')] (E T (ctS σ x)) Q = Q (.inl none) (E T (ctS σ (visC x nd by'))) := by
  have hr := ob_cu
  obtain ⟨h1, h2, h3, h4⟩ := hx
  have hn := h1 nd n0 (by omega)
  rw [n3 _ _ _ _ _ _ _ _ hr]
  obtain ⟨f, g, n⟩ := x
  dsimp only at *
  unfold visC
  by_cases a : f nd = -1
  · by_cases b : n < 72
    · rw [if_pos ⟨a, b⟩]
      simp (disch := (first | assumption | omega | exact Nat.le_of_ble_eq_true rfl | rfl)) only [w3_0, w3_1, w3_4, w3_5, w3_6, w3_7, w3_10, w3_11, w3_14, w3_15, w3_18, w3_19, w3_22, w3_23, w3_26, w3_27, w3_28, w3_29, w3_30, w3_33, w3_34, w3_37, w3_38, w3_39, w3_40, w3_41, w3_44, w3_45, w3_46, w3_49, Ko_n, Ko_v, vX_i, vX_r, vX_l, vX_j, reduceIte, ct3, ct2, ct4, a, not_true, show ¬ ((72 : Nat) : Int) ≤ n by omega, cu3, cu2, cu4]
    · rw [if_neg (fun w => b w.2)]
      simp (disch := (first | assumption | omega | exact Nat.le_of_ble_eq_true rfl | rfl)) only [w3_0, w3_1, w3_4, w3_5, w3_6, w3_7, w3_10, w3_11, w3_14, w3_15, w3_18, w3_19, w3_22, w3_23, w3_26, w3_27, w3_28, w3_29, w3_30, w3_33, w3_34, w3_37, w3_38, w3_39, w3_40, w3_41, w3_44, w3_45, w3_46, w3_49, Ko_n, Ko_v, vX_i, vX_r, vX_l, vX_j, reduceIte, ct3, ct2, ct4, a, not_true, show ((72 : Nat) : Int) ≤ n by omega]
  · rw [if_neg (fun w => a w.1)]
    simp (disch := (first | assumption | omega | exact Nat.le_of_ble_eq_true rfl | rfl)) only [w3_0, w3_1, w3_4, w3_5, w3_6, w3_7, w3_10, w3_11, w3_14, w3_15, w3_18, w3_19, w3_22, w3_23, w3_26, w3_27, w3_28, w3_29, w3_30, w3_33, w3_34, w3_37, w3_38, w3_39, w3_40, w3_41, w3_44, w3_45, w3_46, w3_49, Ko_n, Ko_v, vX_i, vX_r, vX_l, vX_j, reduceIte, ct3, ct2, ct4, a, not_false_eq_true]
def lvC (W H : Int) (pq op : Int → Bool) (al : Int → Int) (nd : Int) (x : Ct) : Nat → Ct
  | 0 => if pq (nd / 2) then visC x (2 * (nd / 2)) nd else x
  | j + 1 => if nbC W H (nd / 2) j ≠ -1 ∧ op (nbC W H (nd / 2) j) = true ∧ al (4 * (nd / 2) + j) = 0 then visC (lvC W H pq op al nd x j) (2 * nbC W H (nd / 2) j) nd else lvC W H pq op al nd x j
theorem lvC_in {W H nd : Int} {pq op : Int → Bool} {al : Int → Int} {x : Ct} (h : wh2 W H) (hx : ctIn (W * H) x) (n0 : 0 ≤ nd) (n1 : nd < 2 * (W * H)) (j : Nat) : ctIn (W * H) (lvC W H pq op al nd x j) := by
  induction j with
  | zero =>
    simp only [lvC]
    cases pq (nd / 2) with
    | true => exact visC_in hx (by omega) (by omega) n0 n1
    | false => exact hx
  | succ j ih =>
    simp only [lvC]
    by_cases hc : nbC W H (nd / 2) j ≠ -1 ∧ op (nbC W H (nd / 2) j) = true ∧ al (4 * (nd / 2) + j) = 0
    · rw [if_pos hc]
      have hi := nb_in h (by omega : 0 ≤ nd / 2) (by omega) hc.1
      exact visC_in ih (by omega) (by omega) n0 n1
    · rw [if_neg hc]; exact ih
def alIn (al : Int → Int) : Prop := ∀ j, 0 ≤ j → j < 144 → al j = 0 ∨ al j = 1
theorem c4 {d : Nat} {k W H nd : Int} {p : Nat} {pq op : Int → Bool} {x : Ct} {T : Tt} {σ : St} {Q : vmO → vmH → Prop} (hp : ob 4 p) (hg : geo σ p W H) (h : wh2 W H) (hpq : i64 (σ 0 151 0) = bs pq) (hal : alIn (σ 1 151)) (hx : ctIn (W * H) x) (n0 : 0 ≤ nd) (n1 : nd < 2 * (W * H)) : Ca (d + 1) k 4 [.ref 151, .ref p, .long (bs op), .int (i32 nd)] (E T (ctS σ x)) Q = Q (.inl none) (E T (ctS σ (lvC W H pq op (σ 1 151) nd x 4))) := by
  have hp3 := ob_lt hp
  have hr := ob_cu
  have hm := wh_mul h
  obtain ⟨g1, g2, g3, g4, g5, g6⟩ := hg
  have loop : ∀ (m j : Nat) (l7 : Value), j + m = 4 → Wp (d + 1) M_X0_leave 34 [.ref 151, .ref p, .long (bs op), vmJ, .int (i32 nd), .int (i32 (nd / 2)), .int (i32 (4 * (nd / 2) + j)), l7] [] (E T (ctS σ (lvC W H pq op (σ 1 151) nd x j))) Q = Q (.inl none) (E T (ctS σ (lvC W H pq op (σ 1 151) nd x 4))) := by
    intro m
    induction m with
    | zero =>
      intro j l7 hj
      have hj : j = 4 := by omega
      subst hj
      rw [w4_34]
      simp (disch := (first | assumption | omega | exact Nat.le_of_ble_eq_true rfl | rfl)) only [w4_0, w4_2, w4_3, w4_4, w4_6, w4_7, w4_10, w4_12, w4_15, w4_18, w4_19, w4_20, w4_22, w4_23, w4_25, w4_28, w4_29, w4_31, w4_32, w4_36, w4_37, w4_39, w4_40, w4_41, w4_42, w4_45, w4_46, w4_49, w4_51, w4_52, w4_54, w4_56, w4_57, w4_60, w4_61, w4_63, w4_66, w4_69, w4_70, w4_73, w4_75, w4_76, w4_79, w4_80, w4_81, w4_83, w4_84, w4_86, w4_89, w4_92, w4_95, Ko_n, Ko_v, vX_i, vX_r, vX_l, vX_j, reduceIte, show (4 * (nd / 2) + ((4 : Nat) : Int)) = 4 * (nd / 2) + 4 by omega, Int.le_refl]
    | succ m ih =>
      intro j l7 hj
      have hb := g6 (nd / 2) j (by omega) (by omega) (by omega) (by omega)
      have ha := hal (4 * (nd / 2) + j) (by omega) (by omega)
      have hxi := lvC_in (pq := pq) (op := op) (al := σ 1 151) h hx n0 n1 j
      have e1 : (4 * (nd / 2) + (j : Int) + 1) = 4 * (nd / 2) + ((j + 1 : Nat) : Int) := by omega
      have ih' := fun l => ih (j + 1) l (by omega)
      rw [show lvC W H pq op (σ 1 151) nd x (j + 1) = if nbC W H (nd / 2) j ≠ -1 ∧ op (nbC W H (nd / 2) j) = true ∧ σ 1 151 (4 * (nd / 2) + j) = 0 then visC (lvC W H pq op (σ 1 151) nd x j) (2 * nbC W H (nd / 2) j) nd else lvC W H pq op (σ 1 151) nd x j from rfl] at ih'
      rw [w4_34]
      by_cases hn : nbC W H (nd / 2) j = -1
      · rw [if_neg (fun w => w.1 hn)] at ih'
        simp (disch := (first | assumption | omega | exact Nat.le_of_ble_eq_true rfl | rfl)) only [w4_0, w4_2, w4_3, w4_4, w4_6, w4_7, w4_10, w4_12, w4_15, w4_18, w4_19, w4_20, w4_22, w4_23, w4_25, w4_28, w4_29, w4_31, w4_32, w4_36, w4_37, w4_39, w4_40, w4_41, w4_42, w4_45, w4_46, w4_49, w4_51, w4_52, w4_54, w4_56, w4_57, w4_60, w4_61, w4_63, w4_66, w4_69, w4_70, w4_73, w4_75, w4_76, w4_79, w4_80, w4_81, w4_83, w4_84, w4_86, w4_89, w4_92, w4_95, Ko_n, Ko_v, vX_i, vX_r, vX_l, vX_j, reduceIte, show ¬ (4 * (nd / 2) + 4 ≤ 4 * (nd / 2) + (j : Int)) by omega, ctt, hb, hn, e1]
        exact ih' _
      · have hi := nb_in h (by omega : 0 ≤ nd / 2) (by omega) hn
        cases ho : op (nbC W H (nd / 2) j) with
        | false =>
          rw [if_neg (fun w => by rw [ho] at w; exact absurd w.2.1 (by decide))] at ih'
          simp (disch := (first | assumption | omega | exact Nat.le_of_ble_eq_true rfl | rfl)) only [w4_0, w4_2, w4_3, w4_4, w4_6, w4_7, w4_10, w4_12, w4_15, w4_18, w4_19, w4_20, w4_22, w4_23, w4_25, w4_28, w4_29, w4_31, w4_32, w4_36, w4_37, w4_39, w4_40, w4_41, w4_42, w4_45, w4_46, w4_49, w4_51, w4_52, w4_54, w4_56, w4_57, w4_60, w4_61, w4_63, w4_66, w4_69, w4_70, w4_73, w4_75, w4_76, w4_79, w4_80, w4_81, w4_83, w4_84, w4_86, w4_89, w4_92, w4_95, Ko_n, Ko_v, vX_i, vX_r, vX_l, vX_j, reduceIte, show ¬ (4 * (nd / 2) + 4 ≤ 4 * (nd / 2) + (j : Int)) by omega, ctt, hb, hn, e1, c172, ho, Bool.false_eq_true]
          exact ih' _
        | true =>
          by_cases hz : σ 1 151 (4 * (nd / 2) + j) = 0
          · rw [if_pos ⟨hn, ho, hz⟩] at ih'
            simp (disch := (first | assumption | omega | exact Nat.le_of_ble_eq_true rfl | rfl)) only [w4_0, w4_2, w4_3, w4_4, w4_6, w4_7, w4_10, w4_12, w4_15, w4_18, w4_19, w4_20, w4_22, w4_23, w4_25, w4_28, w4_29, w4_31, w4_32, w4_36, w4_37, w4_39, w4_40, w4_41, w4_42, w4_45, w4_46, w4_49, w4_51, w4_52, w4_54, w4_56, w4_57, w4_60, w4_61, w4_63, w4_66, w4_69, w4_70, w4_73, w4_75, w4_76, w4_79, w4_80, w4_81, w4_83, w4_84, w4_86, w4_89, w4_92, w4_95, Ko_n, Ko_v, vX_i, vX_r, vX_l, vX_j, reduceIte, show ¬ (4 * (nd / 2) + 4 ≤ 4 * (nd / 2) + (j : Int)) by omega, ctt, hb, hn, e1, c172, ho, hz, not_true, Int.reduceEq]
            rw [c3 (by omega) hxi (by omega) (by omega)]
            simp (disch := (first | assumption | omega | exact Nat.le_of_ble_eq_true rfl | rfl)) only [w4_0, w4_2, w4_3, w4_4, w4_6, w4_7, w4_10, w4_12, w4_15, w4_18, w4_19, w4_20, w4_22, w4_23, w4_25, w4_28, w4_29, w4_31, w4_32, w4_36, w4_37, w4_39, w4_40, w4_41, w4_42, w4_45, w4_46, w4_49, w4_51, w4_52, w4_54, w4_56, w4_57, w4_60, w4_61, w4_63, w4_66, w4_69, w4_70, w4_73, w4_75, w4_76, w4_79, w4_80, w4_81, w4_83, w4_84, w4_86, w4_89, w4_92, w4_95, Ko_n, Ko_v, vX_i, vX_r, vX_l, vX_j, reduceIte, e1]
            exact ih' _
          · rw [if_neg (fun w => hz w.2.2)] at ih'
            simp (disch := (first | assumption | omega | exact Nat.le_of_ble_eq_true rfl | rfl)) only [w4_0, w4_2, w4_3, w4_4, w4_6, w4_7, w4_10, w4_12, w4_15, w4_18, w4_19, w4_20, w4_22, w4_23, w4_25, w4_28, w4_29, w4_31, w4_32, w4_36, w4_37, w4_39, w4_40, w4_41, w4_42, w4_45, w4_46, w4_49, w4_51, w4_52, w4_54, w4_56, w4_57, w4_60, w4_61, w4_63, w4_66, w4_69, w4_70, w4_73, w4_75, w4_76, w4_79, w4_80, w4_81, w4_83, w4_84, w4_86, w4_89, w4_92, w4_95, Ko_n, Ko_v, vX_i, vX_r, vX_l, vX_j, reduceIte, show ¬ (4 * (nd / 2) + 4 ≤ 4 * (nd / 2) + (j : Int)) by omega, ctt, hb, hn, e1, c172, ho, hz, not_false_eq_true, Int.reduceEq]
            exact ih' _
  rw [n4 _ _ _ _ _ _ _ _ _ hr]
  have l0 := loop 4 0 vmJ rfl
  rw [show (4 * (nd / 2) + ((0 : Nat) : Int)) = 4 * (nd / 2) by omega, show lvC W H pq op (σ 1 151) nd x 0 = if pq (nd / 2) then visC x (2 * (nd / 2)) nd else x from rfl] at l0
  cases hb : pq (nd / 2) with
  | true =>
    rw [hb] at l0
    simp (disch := (first | assumption | omega | exact Nat.le_of_ble_eq_true rfl | rfl)) only [w4_0, w4_2, w4_3, w4_4, w4_6, w4_7, w4_10, w4_12, w4_15, w4_18, w4_19, w4_20, w4_22, w4_23, w4_25, w4_28, w4_29, w4_31, w4_32, w4_36, w4_37, w4_39, w4_40, w4_41, w4_42, w4_45, w4_46, w4_49, w4_51, w4_52, w4_54, w4_56, w4_57, w4_60, w4_61, w4_63, w4_66, w4_69, w4_70, w4_73, w4_75, w4_76, w4_79, w4_80, w4_81, w4_83, w4_84, w4_86, w4_89, w4_92, w4_95, Ko_n, Ko_v, vX_i, vX_r, vX_l, vX_j, reduceIte, ctt, hpq, c172, hb, Int.reduceEq]
    rw [c3 (by omega) hx (by omega) (by omega)]
    simp (disch := (first | assumption | omega | exact Nat.le_of_ble_eq_true rfl | rfl)) only [w4_0, w4_2, w4_3, w4_4, w4_6, w4_7, w4_10, w4_12, w4_15, w4_18, w4_19, w4_20, w4_22, w4_23, w4_25, w4_28, w4_29, w4_31, w4_32, w4_36, w4_37, w4_39, w4_40, w4_41, w4_42, w4_45, w4_46, w4_49, w4_51, w4_52, w4_54, w4_56, w4_57, w4_60, w4_61, w4_63, w4_66, w4_69, w4_70, w4_73, w4_75, w4_76, w4_79, w4_80, w4_81, w4_83, w4_84, w4_86, w4_89, w4_92, w4_95, Ko_n, Ko_v, vX_i, vX_r, vX_l, vX_j, reduceIte]
    exact l0
  | false =>
    rw [hb] at l0
    simp (disch := (first | assumption | omega | exact Nat.le_of_ble_eq_true rfl | rfl)) only [w4_0, w4_2, w4_3, w4_4, w4_6, w4_7, w4_10, w4_12, w4_15, w4_18, w4_19, w4_20, w4_22, w4_23, w4_25, w4_28, w4_29, w4_31, w4_32, w4_36, w4_37, w4_39, w4_40, w4_41, w4_42, w4_45, w4_46, w4_49, w4_51, w4_52, w4_54, w4_56, w4_57, w4_60, w4_61, w4_63, w4_66, w4_69, w4_70, w4_73, w4_75, w4_76, w4_79, w4_80, w4_81, w4_83, w4_84, w4_86, w4_89, w4_92, w4_95, Ko_n, Ko_v, vX_i, vX_r, vX_l, vX_j, reduceIte, ctt, hpq, c172, hb, Bool.false_eq_true]
    exact l0
