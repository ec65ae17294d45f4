/-! ===== Cut: a way more ===== -/
theorem sdT_in {W H c n : Int} (h : wh2 W H) (c0 : -1 ≤ c) (c1 : c < W * H) : sdT W H c n = -1 ∨ (0 ≤ sdT W H c n ∧ sdT W H c n < 144 ∧ c ≠ -1) := by
  have hm := wh_mul h
  unfold sdT
  by_cases hc : c = -1
  · rw [if_pos hc]; exact Or.inl rfl
  · rw [if_neg hc]
    have : ∀ m : Nat, m ≤ 4 → sdI W H c n m = -1 ∨ (0 ≤ sdI W H c n m ∧ sdI W H c n m < 144) := by
      intro m
      induction m with
      | zero => intro _; exact Or.inl rfl
      | succ m ih =>
        intro hm4
        simp only [sdI]
        by_cases hn : nbC W H c (3 - m) = n
        · rw [if_pos hn]; exact Or.inr ⟨by omega, by omega⟩
        · rw [if_neg hn]; exact ih (by omega)
    rcases this 4 (Nat.le_refl _) with h1 | h1
    · exact Or.inl h1
    · exact Or.inr ⟨h1.1, h1.2, hc⟩
def enC (W H : Int) (pq : Int → Bool) (al : Int → Int) (nd : Int) (x : Ct) : Nat → Ct
  | 0 => if pq (nd / 2) then x else visC x (2 * (nd / 2) + 1) nd
  | j + 1 => if sdT W H (nbC W H (nd / 2) j) (nd / 2) ≠ -1 ∧ al (sdT W H (nbC W H (nd / 2) j) (nd / 2)) ≠ 0 then visC (enC W H pq al nd x j) (2 * nbC W H (nd / 2) j + 1) nd else enC W H pq al nd x j
theorem enC_in {W H nd : Int} {pq : Int → Bool} {al : Int → Int} {x : Ct} (h : wh2 W H) (hx : ctIn (W * H) x) (n0 : 0 ≤ nd) (n1 : nd < 2 * (W * H)) (j : Nat) : ctIn (W * H) (enC W H pq al nd x j) := by
  induction j with
  | zero =>
    simp only [enC]
    cases pq (nd / 2) with
    | true => exact hx
    | false => exact visC_in hx (by omega) (by omega) n0 n1
  | succ j ih =>
    simp only [enC]
    by_cases hc : sdT W H (nbC W H (nd / 2) j) (nd / 2) ≠ -1 ∧ al (sdT W H (nbC W H (nd / 2) j) (nd / 2)) ≠ 0
    · rw [if_pos hc]
      have hnn : nbC W H (nd / 2) j ≠ -1 := fun w => hc.1 (by unfold sdT; rw [if_pos w])
      have hi := nb_in h (by omega : 0 ≤ nd / 2) (by omega) hnn
      exact visC_in ih (by omega) (by omega) n0 n1
    · rw [if_neg hc]; exact ih
theorem c5 {d : Nat} {k W H nd : Int} {p : Nat} {pq : Int → Bool} {x : Ct} {T : Tt} {σ : St} {Q : vmO → vmH → Prop} (hp : ob 4 p) (hg : geo σ p W H) (h : wh2 W H) (hpq : i64 (σ 0 151 0) = bs pq) (hal : alIn (σ 1 151)) (hx : ctIn (W * H) x) (n0 : 0 ≤ nd) (n1 : nd < 2 * (W * H)) : Ca (d + 1) k 5 [.ref 151, .ref p, .int (i32 nd)] (E T (ctS σ x)) Q = Q (.inl none) (E T (ctS σ (enC W H pq (σ 1 151) nd x 4))) := by
  have hp3 := ob_lt hp
  have hr := ob_cu
  have hm := wh_mul h
  have hgx : ∀ x, geo (ctS σ x) p W H := fun x => geo_t hg (ctt (by omega) (by omega) (by omega)) (ctt (by omega) (by omega) (by omega)) (ctt (by omega) (by omega) (by omega)) (ctt (by omega) (by omega) (by omega)) (ctt (by omega) (by omega) (by omega)) (ctt (by omega) (by omega) (by omega))
  obtain ⟨g1, g2, g3, g4, g5, g6⟩ := id hg
  have loop : ∀ (m j : Nat) (l5 l6 : Value), j + m = 4 → Wp (d + 1) M_X0_enter 30 [.ref 151, .ref p, .int (i32 nd), .int (i32 (nd / 2)), .int (i32 (4 * (nd / 2) + j)), l5, l6] [] (E T (ctS σ (enC W H pq (σ 1 151) nd x j))) Q = Q (.inl none) (E T (ctS σ (enC W H pq (σ 1 151) nd x 4))) := by
    intro m
    induction m with
    | zero =>
      intro j l5 l6 hj
      have hj : j = 4 := by omega
      subst hj
      rw [w5_30]
      simp (disch := (first | assumption | omega | exact Nat.le_of_ble_eq_true rfl | rfl)) only [w5_0, w5_1, w5_2, w5_3, w5_4, w5_5, w5_8, w5_9, w5_12, w5_15, w5_16, w5_17, w5_18, w5_19, w5_20, w5_21, w5_22, w5_25, w5_26, w5_27, w5_28, w5_32, w5_33, w5_34, w5_35, w5_36, w5_37, w5_40, w5_41, w5_44, w5_46, w5_47, w5_49, w5_50, w5_52, w5_53, w5_56, w5_58, w5_60, w5_61, w5_64, w5_65, w5_68, w5_70, w5_71, w5_74, w5_75, w5_76, w5_78, w5_79, w5_80, w5_81, w5_82, w5_85, w5_88, w5_91, Ko_n, Ko_v, vX_i, vX_r, vX_l, vX_j, reduceIte, show (4 * (nd / 2) + ((4 : Nat) : Int)) = 4 * (nd / 2) + 4 by omega, Int.le_refl]
    | succ m ih =>
      intro j l5 l6 hj
      have hb := g6 (nd / 2) j (by omega) (by omega) (by omega) (by omega)
      have hxi := enC_in (pq := pq) (al := σ 1 151) h hx n0 n1 j
      have hnr := nb_rng (d := (j : Int)) h (by omega : 0 ≤ nd / 2) (by omega)
      have hnr2 : nbC W H (nd / 2) j < W * H := by
        by_cases hn : nbC W H (nd / 2) j = -1
        · omega
        · exact (nb_in h (by omega : 0 ≤ nd / 2) (by omega) hn).2.1
      have hsd := sdT_in (n := nd / 2) h hnr.1 hnr2
      have e1 : (4 * (nd / 2) + (j : Int) + 1) = 4 * (nd / 2) + ((j + 1 : Nat) : Int) := by omega
      have ih' := fun l l' => ih (j + 1) l l' (by omega)
      rw [show enC W H pq (σ 1 151) nd x (j + 1) = if sdT W H (nbC W H (nd / 2) j) (nd / 2) ≠ -1 ∧ σ 1 151 (sdT W H (nbC W H (nd / 2) j) (nd / 2)) ≠ 0 then visC (enC W H pq (σ 1 151) nd x j) (2 * nbC W H (nd / 2) j + 1) nd else enC W H pq (σ 1 151) nd x j from rfl] at ih'
      rw [w5_30]
      simp (disch := (first | assumption | omega | exact Nat.le_of_ble_eq_true rfl | rfl)) only [w5_0, w5_1, w5_2, w5_3, w5_4, w5_5, w5_8, w5_9, w5_12, w5_15, w5_16, w5_17, w5_18, w5_19, w5_20, w5_21, w5_22, w5_25, w5_26, w5_27, w5_28, w5_32, w5_33, w5_34, w5_35, w5_36, w5_37, w5_40, w5_41, w5_44, w5_46, w5_47, w5_49, w5_50, w5_52, w5_53, w5_56, w5_58, w5_60, w5_61, w5_64, w5_65, w5_68, w5_70, w5_71, w5_74, w5_75, w5_76, w5_78, w5_79, w5_80, w5_81, w5_82, w5_85, w5_88, w5_91, Ko_n, Ko_v, vX_i, vX_r, vX_l, vX_j, reduceIte, show ¬ (4 * (nd / 2) + 4 ≤ 4 * (nd / 2) + (j : Int)) by omega, ctt, hb]
      rw [c6 (σ := ctS σ (enC W H pq (σ 1 151) nd x j)) (by omega) hp (hgx _) h hnr.1 hnr2 (by omega) (by omega)]
      rcases hsd with hs | ⟨hs0, hs1, hs2⟩
      · rw [if_neg (fun w => w.1 hs)] at ih'
        simp (disch := (first | assumption | omega | exact Nat.le_of_ble_eq_true rfl | rfl)) only [w5_0, w5_1, w5_2, w5_3, w5_4, w5_5, w5_8, w5_9, w5_12, w5_15, w5_16, w5_17, w5_18, w5_19, w5_20, w5_21, w5_22, w5_25, w5_26, w5_27, w5_28, w5_32, w5_33, w5_34, w5_35, w5_36, w5_37, w5_40, w5_41, w5_44, w5_46, w5_47, w5_49, w5_50, w5_52, w5_53, w5_56, w5_58, w5_60, w5_61, w5_64, w5_65, w5_68, w5_70, w5_71, w5_74, w5_75, w5_76, w5_78, w5_79, w5_80, w5_81, w5_82, w5_85, w5_88, w5_91, Ko_n, Ko_v, vX_i, vX_r, vX_l, vX_j, reduceIte, hs, e1, Int.reduceNeg]
        exact ih' _ _
      · have ha := hal _ hs0 hs1
        have hi := nb_in h (by omega : 0 ≤ nd / 2) (by omega) hs2
        generalize sdT W H (nbC W H (nd / 2) j) (nd / 2) = sd at *
        by_cases hz : σ 1 151 sd = 0
        · rw [if_neg (fun w => w.2 hz)] at ih'
          simp (disch := (first | assumption | omega | exact Nat.le_of_ble_eq_true rfl | rfl)) only [w5_0, w5_1, w5_2, w5_3, w5_4, w5_5, w5_8, w5_9, w5_12, w5_15, w5_16, w5_17, w5_18, w5_19, w5_20, w5_21, w5_22, w5_25, w5_26, w5_27, w5_28, w5_32, w5_33, w5_34, w5_35, w5_36, w5_37, w5_40, w5_41, w5_44, w5_46, w5_47, w5_49, w5_50, w5_52, w5_53, w5_56, w5_58, w5_60, w5_61, w5_64, w5_65, w5_68, w5_70, w5_71, w5_74, w5_75, w5_76, w5_78, w5_79, w5_80, w5_81, w5_82, w5_85, w5_88, w5_91, Ko_n, Ko_v, vX_i, vX_r, vX_l, vX_j, reduceIte, show ¬ sd = -1 by omega, ctt, hz, e1]
          exact ih' _ _
        · rw [if_pos ⟨by omega, hz⟩] at ih'
          simp (disch := (first | assumption | omega | exact Nat.le_of_ble_eq_true rfl | rfl)) only [w5_0, w5_1, w5_2, w5_3, w5_4, w5_5, w5_8, w5_9, w5_12, w5_15, w5_16, w5_17, w5_18, w5_19, w5_20, w5_21, w5_22, w5_25, w5_26, w5_27, w5_28, w5_32, w5_33, w5_34, w5_35, w5_36, w5_37, w5_40, w5_41, w5_44, w5_46, w5_47, w5_49, w5_50, w5_52, w5_53, w5_56, w5_58, w5_60, w5_61, w5_64, w5_65, w5_68, w5_70, w5_71, w5_74, w5_75, w5_76, w5_78, w5_79, w5_80, w5_81, w5_82, w5_85, w5_88, w5_91, Ko_n, Ko_v, vX_i, vX_r, vX_l, vX_j, reduceIte, show ¬ sd = -1 by omega, ctt, hz, e1]
          rw [c3 (by omega) hxi (by omega) (by omega)]
          simp (disch := (first | assumption | omega | exact Nat.le_of_ble_eq_true rfl | rfl)) only [w5_0, w5_1, w5_2, w5_3, w5_4, w5_5, w5_8, w5_9, w5_12, w5_15, w5_16, w5_17, w5_18, w5_19, w5_20, w5_21, w5_22, w5_25, w5_26, w5_27, w5_28, w5_32, w5_33, w5_34, w5_35, w5_36, w5_37, w5_40, w5_41, w5_44, w5_46, w5_47, w5_49, w5_50, w5_52, w5_53, w5_56, w5_58, w5_60, w5_61, w5_64, w5_65, w5_68, w5_70, w5_71, w5_74, w5_75, w5_76, w5_78, w5_79, w5_80, w5_81, w5_82, w5_85, w5_88, w5_91, Ko_n, Ko_v, vX_i, vX_r, vX_l, vX_j, reduceIte, e1]
          exact ih' _ _
  rw [n5 _ _ _ _ _ _ _ _ hr]
  have l0 := loop 4 0 vmJ vmJ rfl
  rw [show (4 * (nd / 2) + ((0 : Nat) : Int)) = 4 * (nd / 2) by omega, show enC W H pq (σ 1 151) nd x 0 = if pq (nd / 2) then x else visC x (2 * (nd / 2) + 1) nd from rfl] at l0
  cases hb : pq (nd / 2) with
  | false =>
    rw [hb] at l0
    simp (disch := (first | assumption | omega | exact Nat.le_of_ble_eq_true rfl | rfl)) only [w5_0, w5_1, w5_2, w5_3, w5_4, w5_5, w5_8, w5_9, w5_12, w5_15, w5_16, w5_17, w5_18, w5_19, w5_20, w5_21, w5_22, w5_25, w5_26, w5_27, w5_28, w5_32, w5_33, w5_34, w5_35, w5_36, w5_37, w5_40, w5_41, w5_44, w5_46, w5_47, w5_49, w5_50, w5_52, w5_53, w5_56, w5_58, w5_60, w5_61, w5_64, w5_65, w5_68, w5_70, w5_71, w5_74, w5_75, w5_76, w5_78, w5_79, w5_80, w5_81, w5_82, w5_85, w5_88, w5_91, Ko_n, Ko_v, vX_i, vX_r, vX_l, vX_j, reduceIte, ctt, hpq, c172, hb, Bool.false_eq_true, not_true]
    rw [c3 (by omega) hx (by omega) (by omega)]
    simp (disch := (first | assumption | omega | exact Nat.le_of_ble_eq_true rfl | rfl)) only [w5_0, w5_1, w5_2, w5_3, w5_4, w5_5, w5_8, w5_9, w5_12, w5_15, w5_16, w5_17, w5_18, w5_19, w5_20, w5_21, w5_22, w5_25, w5_26, w5_27, w5_28, w5_32, w5_33, w5_34, w5_35, w5_36, w5_37, w5_40, w5_41, w5_44, w5_46, w5_47, w5_49, w5_50, w5_52, w5_53, w5_56, w5_58, w5_60, w5_61, w5_64, w5_65, w5_68, w5_70, w5_71, w5_74, w5_75, w5_76, w5_78, w5_79, w5_80, w5_81, w5_82, w5_85, w5_88, w5_91, Ko_n, Ko_v, vX_i, vX_r, vX_l, vX_j, reduceIte]
    exact l0
  | true =>
    rw [hb] at l0
    simp (disch := (first | assumption | omega | exact Nat.le_of_ble_eq_true rfl | rfl)) only [w5_0, w5_1, w5_2, w5_3, w5_4, w5_5, w5_8, w5_9, w5_12, w5_15, w5_16, w5_17, w5_18, w5_19, w5_20, w5_21, w5_22, w5_25, w5_26, w5_27, w5_28, w5_32, w5_33, w5_34, w5_35, w5_36, w5_37, w5_40, w5_41, w5_44, w5_46, w5_47, w5_49, w5_50, w5_52, w5_53, w5_56, w5_58, w5_60, w5_61, w5_64, w5_65, w5_68, w5_70, w5_71, w5_74, w5_75, w5_76, w5_78, w5_79, w5_80, w5_81, w5_82, w5_85, w5_88, w5_91, Ko_n, Ko_v, vX_i, vX_r, vX_l, vX_j, reduceIte, ctt, hpq, c172, hb, Int.reduceEq, not_false_eq_true]
    exact l0
/-- the search: so many nodes of the row looked at (it stands still once the end is come to, or no node is left) -/
def fnS (W H : Int) (pq op : Int → Bool) (al : Int → Int) (to i : Int) (x : Ct) : Ct := if x.2.2 ≤ i ∨ x.1 (2 * to) ≠ -1 then x else if x.2.1 i % 2 = 1 then lvC W H pq op al (x.2.1 i) x 4 else enC W H pq al (x.2.1 i) x 4
def fnI (W H : Int) (pq op : Int → Bool) (al : Int → Int) (to : Int) (x : Ct) : Nat → Ct
  | 0 => x
  | n + 1 => fnS W H pq op al to n (fnI W H pq op al to x n)
theorem fnI_in {W H to : Int} {pq op : Int → Bool} {al : Int → Int} {x : Ct} (h : wh2 W H) (hx : ctIn (W * H) x) (n : Nat) : ctIn (W * H) (fnI W H pq op al to x n) := by
  induction n with
  | zero => exact hx
  | succ n ih =>
    simp only [fnI]
    unfold fnS
    by_cases hc : (fnI W H pq op al to x n).2.2 ≤ n ∨ (fnI W H pq op al to x n).1 (2 * to) ≠ -1
    · rw [if_pos hc]; exact ih
    · rw [if_neg hc]
      have hq := ih.2.2.2 n (by omega) (by omega)
      by_cases h1 : (fnI W H pq op al to x n).2.1 n % 2 = 1
      · rw [if_pos h1]; exact lvC_in h ih hq.1 hq.2 4
      · rw [if_neg h1]; exact enC_in h ih hq.1 hq.2 4
theorem fnI_fix {W H to : Int} {pq op : Int → Bool} {al : Int → Int} {x : Ct} {n : Nat} (hc : (fnI W H pq op al to x n).2.2 ≤ n ∨ (fnI W H pq op al to x n).1 (2 * to) ≠ -1) (m : Nat) : fnI W H pq op al to x (n + m) = fnI W H pq op al to x n := by
  induction m with
  | zero => rfl
  | succ m ih =>
    show fnS W H pq op al to ((n + m : Nat) : Int) (fnI W H pq op al to x (n + m)) = _
    rw [ih]
    unfold fnS
    rw [if_pos]
    rcases hc with h | h
    · exact Or.inl (by omega)
    · exact Or.inr h
def fn0 (fr : Int) (g f : Int → Int) : Ct := visC (fu (fil g 72 (-1)) (2 * fr) (2 * fr + 1), f, 0) (2 * fr + 1) (2 * fr + 1)
theorem fn0_in {W H fr : Int} {g f : Int → Int} (h : wh2 W H) (f0 : 0 ≤ fr) (f1 : fr < W * H) : ctIn (W * H) (fn0 fr g f) := by
  unfold fn0
  refine visC_in ⟨fun j j0 j1 => ?_, Int.le_refl _, by show (0 : Int) ≤ 72; omega, fun i i0 i1 => ?_⟩ (by omega) (by omega) (by omega) (by omega)
  · show -1 ≤ fu (fil g 72 (-1)) (2 * fr) (2 * fr + 1) j ∧ fu (fil g 72 (-1)) (2 * fr) (2 * fr + 1) j < 2 * (W * H)
    by_cases hj : j = 2 * fr
    · rw [hj, fu_s]; omega
    · rw [fu_n hj]
      unfold fil
      rw [if_pos ⟨j0, j1⟩]
      omega
  · have : i < (0 : Int) := i1
    omega
theorem c2 {d : Nat} {k W H fr to : Int} {p : Nat} {pq op : Int → Bool} {T : Tt} {σ : St} {Q : vmO → vmH → Prop} (hp : ob 4 p) (hg : geo σ p W H) (h : wh2 W H) (hpq : i64 (σ 0 151 0) = bs pq) (hal : alIn (σ 1 151)) (f0 : 0 ≤ fr) (f1 : fr < W * H) (t0 : 0 ≤ to) (t1 : to < W * H) : Ca (d + 2) k 2 [.ref 151, .ref p, .long (bs op), .int (i32 fr), .int (i32 to)] (E T σ) Q = Q (.inl (some (.int (i32 (if (fnI W H pq op (σ 1 151) to (fn0 fr (σ 3 151) (σ 2 151)) 72).1 (2 * to) = -1 then 0 else 1))))) (E T (ctS σ (fnI W H pq op (σ 1 151) to (fn0 fr (σ 3 151) (σ 2 151)) 72))) := by
  have hp3 := ob_lt hp
  have hr := ob_cu
  have hm := wh_mul h
  have hx0 := fn0_in (g := σ 3 151) (f := σ 2 151) h f0 f1
  have fin : ∀ (n : Nat) (l8 : Value), (72 ≤ n ∨ (fnI W H pq op (σ 1 151) to (fn0 fr (σ 3 151) (σ 2 151)) n).2.2 ≤ n ∨ (fnI W H pq op (σ 1 151) to (fn0 fr (σ 3 151) (σ 2 151)) n).1 (2 * to) ≠ -1) → n ≤ 72 → Wp (d + 2) M_X0_findOne 116 [.ref 151, .ref p, .long (bs op), vmJ, .int (i32 fr), .int (i32 to), .int (i32 (2 * fr + 1)), .int (i32 n), l8] [] (E T (ctS σ (fnI W H pq op (σ 1 151) to (fn0 fr (σ 3 151) (σ 2 151)) n))) Q = Q (.inl (some (.int (i32 (if (fnI W H pq op (σ 1 151) to (fn0 fr (σ 3 151) (σ 2 151)) 72).1 (2 * to) = -1 then 0 else 1))))) (E T (ctS σ (fnI W H pq op (σ 1 151) to (fn0 fr (σ 3 151) (σ 2 151)) 72))) := by
    intro n l8 hn hn72
    have e : fnI W H pq op (σ 1 151) to (fn0 fr (σ 3 151) (σ 2 151)) 72 = fnI W H pq op (σ 1 151) to (fn0 fr (σ 3 151) (σ 2 151)) n := by
      rcases hn with hn | hn
      · rw [show n = 72 by omega]
      · have := fnI_fix hn (72 - n)
        rwa [show n + (72 - n) = 72 by omega] at this
    rw [e]
    have hin := (fnI_in (pq := pq) (op := op) (al := σ 1 151) (to := to) h hx0 n).1 (2 * to) (by omega) (by omega)
    generalize fnI W H pq op (σ 1 151) to (fn0 fr (σ 3 151) (σ 2 151)) n = x at *
    simp (disch := (first | assumption | omega | exact Nat.le_of_ble_eq_true rfl | rfl)) only [w2_0, w2_1, w2_4, w2_5, w2_8, w2_9, w2_10, w2_13, w2_14, w2_16, w2_17, w2_18, w2_19, w2_21, w2_22, w2_25, w2_26, w2_28, w2_29, w2_31, w2_32, w2_33, w2_35, w2_37, w2_40, w2_41, w2_45, w2_46, w2_49, w2_50, w2_53, w2_55, w2_56, w2_59, w2_62, w2_63, w2_66, w2_67, w2_69, w2_70, w2_71, w2_72, w2_75, w2_76, w2_79, w2_81, w2_82, w2_84, w2_86, w2_87, w2_88, w2_89, w2_92, w2_93, w2_94, w2_95, w2_97, w2_100, w2_103, w2_104, w2_105, w2_107, w2_110, w2_113, w2_116, w2_117, w2_120, w2_121, w2_123, w2_124, w2_125, w2_126, w2_129, w2_130, w2_133, w2_134, Ko_n, Ko_v, vX_i, vX_r, vX_l, vX_j, reduceIte, ct3]
    by_cases hz : x.1 (2 * to) = -1
    · simp only [hz, if_true]
    · simp only [hz, if_false]
  have loop : ∀ (m n : Nat) (l8 : Value), n + m = 72 → Wp (d + 2) M_X0_findOne 43 [.ref 151, .ref p, .long (bs op), vmJ, .int (i32 fr), .int (i32 to), .int (i32 (2 * fr + 1)), .int (i32 n), l8] [] (E T (ctS σ (fnI W H pq op (σ 1 151) to (fn0 fr (σ 3 151) (σ 2 151)) n))) Q = Q (.inl (some (.int (i32 (if (fnI W H pq op (σ 1 151) to (fn0 fr (σ 3 151) (σ 2 151)) 72).1 (2 * to) = -1 then 0 else 1))))) (E T (ctS σ (fnI W H pq op (σ 1 151) to (fn0 fr (σ 3 151) (σ 2 151)) 72))) := by
    intro m
    induction m with
    | zero =>
      intro n l8 hn
      have hn : n = 72 := by omega
      subst hn
      have hf := fin 72 l8 (Or.inl (by omega)) (by omega)
      rw [← hf, w2_43]
      simp (disch := (first | assumption | omega | exact Nat.le_of_ble_eq_true rfl | rfl)) only [w2_45, w2_46, w2_49, w2_50, Int.le_refl, if_true]
    | succ m ih =>
      intro n l8 hn
      have hin := fnI_in (pq := pq) (op := op) (al := σ 1 151) (to := to) h hx0 n
      have hin1 := hin.1 (2 * to) (by omega) (by omega)
      have ih' := fun l => ih (n + 1) l (by omega)
      have hf := fin n l8
      rw [show fnI W H pq op (σ 1 151) to (fn0 fr (σ 3 151) (σ 2 151)) (n + 1) = fnS W H pq op (σ 1 151) to n (fnI W H pq op (σ 1 151) to (fn0 fr (σ 3 151) (σ 2 151)) n) from rfl] at ih'
      unfold fnS at ih'
      by_cases hq : (fnI W H pq op (σ 1 151) to (fn0 fr (σ 3 151) (σ 2 151)) n).2.2 ≤ n
      · rw [← hf (Or.inr (Or.inl hq)) (by omega), w2_43]
        have h3 := hin.2.1
        have h4 := hin.2.2.1
        simp (disch := (first | assumption | omega | exact Nat.le_of_ble_eq_true rfl | rfl)) only [w2_45, w2_46, w2_49, w2_50, w2_53, w2_55, w2_56, w2_59, ct4, hq, show ¬ ((72 : Nat) : Int) ≤ (n : Int) by omega, if_true, if_false]
      · by_cases hz : (fnI W H pq op (σ 1 151) to (fn0 fr (σ 3 151) (σ 2 151)) n).1 (2 * to) = -1
        · rw [if_neg (fun w => w.elim hq (fun v => v hz))] at ih'
          have hqn := hin.2.2.2 n (by omega) (by omega)
          have h3 := hin.2.1
          have h4 := hin.2.2.1
          have e0 := Int.emod_nonneg ((fnI W H pq op (σ 1 151) to (fn0 fr (σ 3 151) (σ 2 151)) n).2.1 n) (show (2 : Int) ≠ 0 by omega)
          have e1 := Int.emod_lt_of_pos ((fnI W H pq op (σ 1 151) to (fn0 fr (σ 3 151) (σ 2 151)) n).2.1 n) (show (0 : Int) < 2 by omega)
          generalize fnI W H pq op (σ 1 151) to (fn0 fr (σ 3 151) (σ 2 151)) n = x at *
          rw [w2_43]
          by_cases h1 : x.2.1 n % 2 = 1
          · rw [if_pos h1] at ih'
            simp (disch := (first | assumption | omega | exact Nat.le_of_ble_eq_true rfl | rfl)) only [w2_45, w2_46, w2_49, w2_50, w2_53, w2_55, w2_56, w2_59, w2_62, w2_63, w2_66, w2_67, w2_69, w2_70, w2_71, w2_72, w2_75, w2_76, w2_79, w2_81, w2_82, w2_84, w2_86, w2_87, w2_88, w2_89, w2_92, w2_93, w2_94, w2_95, w2_97, ct2, ct3, ct4, hq, hz, h1, not_true, show ¬ ((72 : Nat) : Int) ≤ (n : Int) by omega, if_true, if_false, vX_i]
            rw [c4 (pq := pq) hp hg h hpq hal hin hqn.1 hqn.2]
            simp (disch := (first | assumption | omega | exact Nat.le_of_ble_eq_true rfl | rfl)) only [Ko_n, w2_100, w2_110, w2_113, vX_i]
            exact ih' _
          · rw [if_neg h1] at ih'
            simp (disch := (first | assumption | omega | exact Nat.le_of_ble_eq_true rfl | rfl)) only [w2_45, w2_46, w2_49, w2_50, w2_53, w2_55, w2_56, w2_59, w2_62, w2_63, w2_66, w2_67, w2_69, w2_70, w2_71, w2_72, w2_75, w2_76, w2_79, w2_81, w2_82, w2_84, w2_86, w2_87, w2_88, w2_89, w2_103, w2_104, w2_105, w2_107, ct2, ct3, ct4, hq, hz, h1, not_true, not_false_eq_true, show ¬ ((72 : Nat) : Int) ≤ (n : Int) by omega, if_true, if_false, vX_i]
            rw [c5 (pq := pq) hp hg h hpq hal hin hqn.1 hqn.2]
            simp (disch := (first | assumption | omega | exact Nat.le_of_ble_eq_true rfl | rfl)) only [Ko_n, w2_110, w2_113, vX_i]
            exact ih' _
        · rw [← hf (Or.inr (Or.inr hz)) (by omega), w2_43]
          have h3 := hin.2.1
          have h4 := hin.2.2.1
          simp (disch := (first | assumption | omega | exact Nat.le_of_ble_eq_true rfl | rfl)) only [w2_45, w2_46, w2_49, w2_50, w2_53, w2_55, w2_56, w2_59, w2_62, w2_63, w2_66, w2_67, w2_69, w2_70, w2_71, w2_72, ct3, ct4, hq, hz, not_false_eq_true, show ¬ ((72 : Nat) : Int) ≤ (n : Int) by omega, if_true, if_false]
  rw [n2 _ _ _ _ _ _ _ _ _ _ hr]
  simp (disch := (first | assumption | omega | exact Nat.le_of_ble_eq_true rfl | rfl)) only [w2_0, w2_1, w2_4, w2_5, w2_8, w2_9, w2_10, w2_13, w2_14, w2_16, w2_17, w2_18, w2_19, w2_21, w2_22, w2_25, w2_26, w2_28, w2_29, w2_31, w2_32, w2_33, w2_35, w2_37, w2_40, w2_41, w2_45, w2_46, w2_49, w2_50, w2_53, w2_55, w2_56, w2_59, w2_62, w2_63, w2_66, w2_67, w2_69, w2_70, w2_71, w2_72, w2_75, w2_76, w2_79, w2_81, w2_82, w2_84, w2_86, w2_87, w2_88, w2_89, w2_92, w2_93, w2_94, w2_95, w2_97, w2_100, w2_103, w2_104, w2_105, w2_107, w2_110, w2_113, w2_116, w2_117, w2_120, w2_121, w2_123, w2_124, w2_125, w2_126, w2_129, w2_130, w2_133, w2_134, Ko_n, Ko_v, vX_i, vX_r, vX_l, vX_j, reduceIte]
  rw [c320 (by omega) (ok_3 151 hr)]
  simp (disch := (first | assumption | omega | exact Nat.le_of_ble_eq_true rfl | rfl)) only [w2_0, w2_1, w2_4, w2_5, w2_8, w2_9, w2_10, w2_13, w2_14, w2_16, w2_17, w2_18, w2_19, w2_21, w2_22, w2_25, w2_26, w2_28, w2_29, w2_31, w2_32, w2_33, w2_35, w2_37, w2_40, w2_41, w2_45, w2_46, w2_49, w2_50, w2_53, w2_55, w2_56, w2_59, w2_62, w2_63, w2_66, w2_67, w2_69, w2_70, w2_71, w2_72, w2_75, w2_76, w2_79, w2_81, w2_82, w2_84, w2_86, w2_87, w2_88, w2_89, w2_92, w2_93, w2_94, w2_95, w2_97, w2_100, w2_103, w2_104, w2_105, w2_107, w2_110, w2_113, w2_116, w2_117, w2_120, w2_121, w2_123, w2_124, w2_125, w2_126, w2_129, w2_130, w2_133, w2_134, Ko_n, Ko_v, vX_i, vX_r, vX_l, vX_j, reduceIte, upA_t, upA_s]
  have e0 : upA (upA (upA σ 3 151 (fil (σ 3 151) ((72 : Nat) : Int) (-1))) 4 151 fun _ => 0) 3 151 (fu (fil (σ 3 151) ((72 : Nat) : Int) (-1)) (2 * fr) (2 * fr + 1)) = ctS σ (fu (fil (σ 3 151) 72 (-1)) (2 * fr) (2 * fr + 1), σ 2 151, 0) := by
    unfold ctS
    rw [upA_comm (t := 4) (t' := 3) (by omega), upA_upA]
    have : upA (upA σ 3 151 (fu (fil (σ 3 151) 72 (-1)) (2 * fr) (2 * fr + 1))) 2 151 (σ 2 151) = upA σ 3 151 (fu (fil (σ 3 151) 72 (-1)) (2 * fr) (2 * fr + 1)) := by
      rw [upA_comm (by omega), upA_self]
    dsimp only
    rw [this]
    rfl
  rw [e0]
  rw [c3 (N := W * H) (by omega) ⟨fun j j0 j1 => by
    show -1 ≤ fu (fil (σ 3 151) 72 (-1)) (2 * fr) (2 * fr + 1) j ∧ fu (fil (σ 3 151) 72 (-1)) (2 * fr) (2 * fr + 1) j < 2 * (W * H)
    by_cases hj : j = 2 * fr
    · rw [hj, fu_s]; omega
    · rw [fu_n hj]
      unfold fil
      rw [if_pos ⟨j0, j1⟩]
      omega, Int.le_refl _, by show (0 : Int) ≤ 72; omega, fun i i0 i1 => by
    have : i < (0 : Int) := i1
    omega⟩ (by omega) (by omega)]
  simp (disch := (first | assumption | omega | exact Nat.le_of_ble_eq_true rfl | rfl)) only [w2_0, w2_1, w2_4, w2_5, w2_8, w2_9, w2_10, w2_13, w2_14, w2_16, w2_17, w2_18, w2_19, w2_21, w2_22, w2_25, w2_26, w2_28, w2_29, w2_31, w2_32, w2_33, w2_35, w2_37, w2_40, w2_41, w2_45, w2_46, w2_49, w2_50, w2_53, w2_55, w2_56, w2_59, w2_62, w2_63, w2_66, w2_67, w2_69, w2_70, w2_71, w2_72, w2_75, w2_76, w2_79, w2_81, w2_82, w2_84, w2_86, w2_87, w2_88, w2_89, w2_92, w2_93, w2_94, w2_95, w2_97, w2_100, w2_103, w2_104, w2_105, w2_107, w2_110, w2_113, w2_116, w2_117, w2_120, w2_121, w2_123, w2_124, w2_125, w2_126, w2_129, w2_130, w2_133, w2_134, Ko_n, Ko_v, vX_i, vX_r, vX_l, vX_j, reduceIte]
  exact loop 72 0 _ (by omega)
