/-! ===== Ways: prices, the nearest ===== -/
theorem c172 {d : Nat} {k z : Int} {q : Int → Bool} {h : vmH} {Q : vmO → vmH → Prop} (hk : 4 ≤ k) (h0 : 0 ≤ z) (h1 : z < 64) : Ca d k 172 [.long (bs q), .int (i32 z)] h Q = Q (.inl (some (.int (i32 (if q z then 1 else 0))))) h := by
  rw [n172 _ _ _ _ _ _ hk]
  simp (disch := (first | assumption | omega | exact Nat.le_of_ble_eq_true rfl | rfl)) only [w172_0, w172_1, w172_2, w172_3, w172_4, w172_5, w172_6, w172_10, w172_11, w172_14, w172_15, Ko_n, Ko_v, vX_i, vX_r, vX_l, vX_j, reduceIte, bs_has]
  cases q z <;> simp
/-- what it costs to go to a cell -/
def cst (f g : Int → Int) (wi fr : Bool) (z : Int) : Int := if f z = 4 then -1 else if fr = true ∨ f z = 0 then 1 else 1 + (if wi then g z * f z / 2 else g z * f z)
theorem cst_in {f g : Int → Int} {wi fr : Bool} {z : Int} (hf : kdOk f) (hg : tkOk g) (h0 : 0 ≤ z) (h1 : z < 36) : -1 ≤ cst f g wi fr z ∧ cst f g wi fr z ≤ 181 ∧ cst f g wi fr z ≠ 0 := by
  have a := hf z h0 h1
  have b := hg z h0 h1
  unfold cst
  have hc : f z = 0 ∨ f z = 1 ∨ f z = 2 ∨ f z = 3 ∨ f z = 4 := by omega
  rcases hc with hc | hc | hc | hc | hc <;> rw [hc] <;> cases fr <;> cases wi <;> simp <;> omega
theorem c94 {d : Nat} {k z : Int} {p s : Nat} {fr : Bool} {T : Tt} {σ : St} {Q : vmO → vmH → Prop} (hk : 4 ≤ k) (hp : ob 4 p) (hs : ob 7 s) (hf : kdOk (σ 700 s)) (hg : tkOk (σ 701 s)) (m0 : 0 ≤ σ 403 p 0) (m1 : σ 403 p 0 ≤ 9) (n0 : 0 ≤ σ 705 s 0) (n1 : σ 705 s 0 < 2147483648) (h0 : 0 ≤ z) (h1 : z < 36) : Ca (d + 1) k 94 [.ref p, .ref s, .int (i32 z), .int (i32 (if fr then 1 else 0))] (E T σ) Q = Q (.inl (some (.int (i32 (cst (σ 700 s) (σ 701 s) (wiB (σ 403 p 0) (σ 705 s 0)) fr z))))) (E T σ) := by
  have hp3 := ob_lt hp
  have hs3 := ob_lt hs
  have a := hf z h0 h1
  have b := hg z h0 h1
  rw [n94 _ _ _ _ _ _ _ _ hk]
  unfold cst
  have hc : σ 700 s z = 0 ∨ σ 700 s z = 1 ∨ σ 700 s z = 2 ∨ σ 700 s z = 3 ∨ σ 700 s z = 4 := by omega
  cases fr <;> rcases hc with hc | hc | hc | hc | hc <;> simp (disch := (first | assumption | omega | exact Nat.le_of_ble_eq_true rfl | rfl)) only [w94_0, w94_1, w94_4, w94_5, w94_6, w94_8, w94_10, w94_11, w94_14, w94_15, w94_16, w94_17, w94_20, w94_22, w94_25, w94_26, w94_27, w94_28, w94_31, w94_32, w94_33, w94_35, w94_36, w94_38, w94_39, w94_40, w94_41, w94_44, w94_47, w94_50, w94_52, w94_53, w94_54, w94_57, w94_59, w94_60, Ko_n, Ko_v, vX_i, vX_r, vX_l, vX_j, reduceIte, hc, Int.reduceEq, not_false_eq_true, not_true, c28 hp m0 m1 n0 n1, Bool.false_eq_true, or_true, true_or, false_or, or_false] <;> cases wiB (σ 403 p 0) (σ 705 s 0) <;> simp (disch := (first | assumption | omega | exact Nat.le_of_ble_eq_true rfl | rfl)) only [w94_0, w94_1, w94_4, w94_5, w94_6, w94_8, w94_10, w94_11, w94_14, w94_15, w94_16, w94_17, w94_20, w94_22, w94_25, w94_26, w94_27, w94_28, w94_31, w94_32, w94_33, w94_35, w94_36, w94_38, w94_39, w94_40, w94_41, w94_44, w94_47, w94_50, w94_52, w94_53, w94_54, w94_57, w94_59, w94_60, Ko_n, Ko_v, vX_i, vX_r, vX_l, vX_j, reduceIte, Int.reduceEq, Bool.false_eq_true]
theorem cp_fu {f g : Int → Int} {z : Int} (h0 : 0 ≤ z) : fu (cp f g z) z (f z) = cp f g (z + 1) := by
  funext j
  unfold fu cp
  by_cases h : j = z
  · subst h; rw [if_pos rfl, if_pos (by omega)]
  · rw [if_neg h]
    by_cases h2 : 0 ≤ j ∧ j < z
    · rw [if_pos h2, if_pos (by omega)]
    · rw [if_neg h2, if_neg (by omega)]
theorem cp_0 {f g : Int → Int} : cp f g 0 = g := by
  funext j
  unfold cp
  rw [if_neg (by omega)]
theorem cp_lt {f g : Int → Int} {n j : Int} (h0 : 0 ≤ j) (h1 : j < n) : cp f g n j = f j := by unfold cp; rw [if_pos ⟨h0, h1⟩]
theorem cp_ge {f g : Int → Int} {n j : Int} (h1 : ¬ j < n) : cp f g n j = g j := by unfold cp; rw [if_neg (fun z => h1 z.2)]
theorem c95 {d : Nat} {k N : Int} {a p s : Nat} {fr : Bool} {T : Tt} {σ : St} {Q : vmO → vmH → Prop} (ha : ob 10 a) (hp : ob 4 p) (hs : ob 7 s) (hf : kdOk (σ 700 s)) (hg : tkOk (σ 701 s)) (m0 : 0 ≤ σ 403 p 0) (m1 : σ 403 p 0 ≤ 9) (n0 : 0 ≤ σ 705 s 0) (n1 : σ 705 s 0 < 2147483648) (hN : σ 401 p 0 * σ 402 p 0 = N) (N0 : 0 ≤ N) (N1 : N ≤ 36) : Ca (d + 2) k 95 [.ref a, .ref p, .ref s, .int (i32 (if fr then 1 else 0))] (E T σ) Q = Q (.inl none) (E T (upA σ 1000 a (cp (cst (σ 700 s) (σ 701 s) (wiB (σ 403 p 0) (σ 705 s 0)) fr) (σ 1000 a) N))) := by
  have ha3 := ob_lt ha
  have hp3 := ob_lt hp
  have hs3 := ob_lt hs
  have loop : ∀ (m : Nat) (z : Int), 0 ≤ z → z + m = N → Wp (d + 2) M_X10_price 3 [.ref a, .ref p, .ref s, .int (i32 (if fr then 1 else 0)), .int (i32 z)] [] (E T (upA σ 1000 a (cp (cst (σ 700 s) (σ 701 s) (wiB (σ 403 p 0) (σ 705 s 0)) fr) (σ 1000 a) z))) Q = Q (.inl none) (E T (upA σ 1000 a (cp (cst (σ 700 s) (σ 701 s) (wiB (σ 403 p 0) (σ 705 s 0)) fr) (σ 1000 a) N))) := by
    intro m
    induction m with
    | zero =>
      intro z h0 h1
      have hz : z = N := by omega
      subst hz
      rw [w95_3]
      simp (disch := (first | assumption | omega | exact Nat.le_of_ble_eq_true rfl | rfl)) only [w95_0, w95_1, w95_5, w95_6, w95_9, w95_12, w95_13, w95_16, w95_18, w95_19, w95_20, w95_22, w95_23, w95_26, w95_27, w95_30, w95_33, Ko_n, Ko_v, vX_i, vX_r, vX_l, vX_j, reduceIte, c26, upA_t, hN, Int.le_refl]
    | succ m ih =>
      intro z h0 h1
      rw [w95_3]
      simp (disch := (first | assumption | omega | exact Nat.le_of_ble_eq_true rfl | rfl)) only [w95_0, w95_1, w95_5, w95_6, w95_9, w95_12, w95_13, w95_16, w95_18, w95_19, w95_20, w95_22, w95_23, w95_26, w95_27, w95_30, w95_33, Ko_n, Ko_v, vX_i, vX_r, vX_l, vX_j, reduceIte, c26, upA_t, hN, show ¬ N ≤ z by omega]
      rw [c94 (by omega) hp hs (by simp (disch := omega) only [upA_t]; exact hf) (by simp (disch := omega) only [upA_t]; exact hg) (by simp (disch := omega) only [upA_t]; exact m0) (by simp (disch := omega) only [upA_t]; exact m1) (by simp (disch := omega) only [upA_t]; exact n0) (by simp (disch := omega) only [upA_t]; exact n1) h0 (by omega)]
      simp (disch := (first | assumption | omega | exact Nat.le_of_ble_eq_true rfl | rfl)) only [w95_0, w95_1, w95_5, w95_6, w95_9, w95_12, w95_13, w95_16, w95_18, w95_19, w95_20, w95_22, w95_23, w95_26, w95_27, w95_30, w95_33, Ko_n, Ko_v, vX_i, vX_r, vX_l, vX_j, reduceIte, upA_t, upA_s, upA_upA, cp_fu]
      exact ih (z + 1) (by omega) (by omega)
  rw [n95 _ _ _ _ _ _ _ _ _ ha]
  simp (disch := (first | assumption | omega | exact Nat.le_of_ble_eq_true rfl | rfl)) only [w95_0, w95_1, w95_5, w95_6, w95_9, w95_12, w95_13, w95_16, w95_18, w95_19, w95_20, w95_22, w95_23, w95_26, w95_27, w95_30, w95_33, Ko_n, Ko_v, vX_i, vX_r, vX_l, vX_j, reduceIte]
  have := loop N.toNat 0 (by omega) (by omega)
  rw [cp_0, upA_self] at this
  exact this
def far : Int := 1000000000
def std (c : Int → Int) (z : Int) (g : Int → Int) : Int → Int := if c z = -1 then fil g 36 far else fu (fil g 36 far) z 0
theorem c97 {d : Nat} {k z : Int} {a : Nat} {T : Tt} {σ : St} {Q : vmO → vmH → Prop} (ha : ob 10 a) (h0 : 0 ≤ z) (h1 : z < 36) (hc0 : -1 ≤ σ 1000 a z) (hc1 : σ 1000 a z ≤ 181) : Ca (d + 1) k 97 [.ref a, .int (i32 z)] (E T σ) Q = Q (.inl none) (E T (upA σ 1001 a (std (σ 1000 a) z (σ 1001 a)))) := by
  have ha3 := ob_lt ha
  rw [n97 _ _ _ _ _ _ _ ha]
  unfold std
  simp (disch := (first | assumption | omega | exact Nat.le_of_ble_eq_true rfl | rfl)) only [w97_0, w97_1, w97_4, w97_6, w97_9, w97_10, w97_13, w97_14, w97_15, w97_16, w97_19, w97_20, w97_23, w97_24, w97_25, w97_26, Ko_n, Ko_v, vX_i, vX_r, vX_l, vX_j, reduceIte]
  rw [c320 (by omega) (ok_1001 a ha)]
  simp (disch := (first | assumption | omega | exact Nat.le_of_ble_eq_true rfl | rfl)) only [w97_0, w97_1, w97_4, w97_6, w97_9, w97_10, w97_13, w97_14, w97_15, w97_16, w97_19, w97_20, w97_23, w97_24, w97_25, w97_26, Ko_n, Ko_v, vX_i, vX_r, vX_l, vX_j, reduceIte, upA_t, upA_s, upA_upA]
  by_cases h : σ 1000 a z = -1
  · simp only [h, if_true]; rfl
  · simp only [h, if_false]; rfl
/-- the nearest that isn't settled: how far, which -/
def nr (f : Int → Int) (q : Int → Bool) : Nat → Int × Int
  | 0 => (far, -1)
  | n + 1 => if f n < (nr f q n).1 ∧ q n = false then (f n, (n : Int)) else nr f q n
theorem nr_ok {f : Int → Int} {q : Int → Bool} (hf : ∀ k, 0 ≤ k → k < 36 → 0 ≤ f k ∧ f k ≤ far) (n : Nat) : n ≤ 36 → 0 ≤ (nr f q n).1 ∧ (nr f q n).1 ≤ far ∧ -1 ≤ (nr f q n).2 ∧ (nr f q n).2 < n ∧
    ((nr f q n).2 = -1 → (nr f q n).1 = far) ∧ ((nr f q n).2 ≠ -1 → (nr f q n).1 < far ∧ f (nr f q n).2 = (nr f q n).1 ∧ q (nr f q n).2 = false) ∧ ∀ k, 0 ≤ k → k < n → q k = false → (nr f q n).1 ≤ f k := by
  induction n with
  | zero =>
    intro _
    have hfar : far = 1000000000 := rfl
    refine ⟨?_, Int.le_refl _, Int.le_refl _, ?_, fun _ => rfl, fun h => absurd rfl h, fun k h0 h1 => ?_⟩
    · show 0 ≤ far; omega
    · show (-1 : Int) < ((0 : Nat) : Int); omega
    · omega
  | succ n ih =>
    intro hn
    have hfn := hf n (by omega) (by omega)
    obtain ⟨i1, i2, i3, i4, i5, i6, i7⟩ := ih (by omega)
    simp only [nr]
    by_cases h : f n < (nr f q n).1 ∧ q n = false
    · rw [if_pos h]
      refine ⟨hfn.1, hfn.2, ?_, ?_, fun z => ?_, fun _ => ⟨?_, rfl, h.2⟩, ?_⟩
      · show (-1 : Int) ≤ (n : Int); omega
      · show (n : Int) < ((n + 1 : Nat) : Int); omega
      · have : (n : Int) = -1 := z
        omega
      · show f n < far; omega
      · intro k h0 h1 hk
        show f n ≤ f k
        by_cases hkn : k = n
        · rw [hkn]; exact Int.le_refl _
        · have := i7 k h0 (by omega) hk
          omega
    · rw [if_neg h]
      refine ⟨i1, i2, i3, by omega, i5, i6, ?_⟩
      intro k h0 h1 hk
      by_cases hkn : k = n
      · rw [hkn]
        rw [hkn] at hk
        rcases Int.lt_or_le (f n) (nr f q n).1 with hz | hz
        · exact absurd ⟨hz, hk⟩ h
        · exact hz
      · exact i7 k h0 (by omega) hk
theorem c101 {d : Nat} {k : Int} {a N : Nat} {q : Int → Bool} {T : Tt} {σ : St} {Q : vmO → vmH → Prop} (ha : ob 10 a) (hN : N ≤ 36) (hq : i64 (σ 1004 a 0) = bs q) (hf : ∀ k, 0 ≤ k → k < 36 → 0 ≤ σ 1001 a k ∧ σ 1001 a k ≤ far) : Ca (d + 1) k 101 [.ref a, .int (i32 N)] (E T σ) Q = Q (.inl (some (.int (i32 (nr (σ 1001 a) q N).2)))) (E T σ) := by
  have ha3 := ob_lt ha
  have hfar : far = 1000000000 := rfl
  have loop : ∀ (m n : Nat), n + m = N → Wp (d + 1) M_X10_nearest 8 [.ref a, .int (i32 N), .int (i32 (nr (σ 1001 a) q n).1), .int (i32 (nr (σ 1001 a) q n).2), .int (i32 n)] [] (E T σ) Q = Q (.inl (some (.int (i32 (nr (σ 1001 a) q N).2)))) (E T σ) := by
    intro m
    induction m with
    | zero =>
      intro n hn
      have hn : n = N := by omega
      subst hn
      rw [w101_8]
      simp (disch := (first | assumption | omega | exact Nat.le_of_ble_eq_true rfl | rfl)) only [w101_0, w101_2, w101_3, w101_4, w101_5, w101_6, w101_10, w101_11, w101_14, w101_15, w101_18, w101_20, w101_21, w101_22, w101_25, w101_26, w101_29, w101_31, w101_34, w101_37, w101_38, w101_41, w101_43, w101_44, w101_45, w101_47, w101_48, w101_51, w101_54, w101_55, Ko_n, Ko_v, vX_i, vX_r, vX_l, vX_j, reduceIte, Int.le_refl]
    | succ m ih =>
      intro n hn
      have ih' := ih (n + 1) (by omega)
      have ok := nr_ok hf (q := q) n (by omega)
      have hfn := hf n (by omega) (by omega)
      rw [w101_8]
      simp (disch := (first | assumption | omega | exact Nat.le_of_ble_eq_true rfl | rfl)) only [w101_0, w101_2, w101_3, w101_4, w101_5, w101_6, w101_10, w101_11, w101_14, w101_15, w101_18, w101_20, w101_21, w101_22, w101_25, w101_26, w101_29, w101_31, w101_34, w101_37, w101_38, w101_41, w101_43, w101_44, w101_45, w101_47, w101_48, w101_51, w101_54, w101_55, Ko_n, Ko_v, vX_i, vX_r, vX_l, vX_j, reduceIte, show ¬ (N : Int) ≤ n by omega, hq, c172]
      simp only [nr] at ih'
      by_cases h1 : (nr (σ 1001 a) q n).1 ≤ σ 1001 a n
      · rw [if_pos h1]
        rw [if_neg (fun z => by omega)] at ih'
        exact ih'
      · rw [if_neg h1]
        cases hqn : q n with
        | true =>
          rw [if_neg (fun z => by rw [hqn] at z; exact absurd z.2 (by decide))] at ih'
          simp (disch := (first | assumption | omega | exact Nat.le_of_ble_eq_true rfl | rfl)) only [w101_0, w101_2, w101_3, w101_4, w101_5, w101_6, w101_10, w101_11, w101_14, w101_15, w101_18, w101_20, w101_21, w101_22, w101_25, w101_26, w101_29, w101_31, w101_34, w101_37, w101_38, w101_41, w101_43, w101_44, w101_45, w101_47, w101_48, w101_51, w101_54, w101_55, Ko_n, Ko_v, vX_i, vX_r, vX_l, vX_j, reduceIte, Int.reduceEq, not_false_eq_true]
          exact ih'
        | false =>
          rw [if_pos ⟨by omega, hqn⟩] at ih'
          simp (disch := (first | assumption | omega | exact Nat.le_of_ble_eq_true rfl | rfl)) only [w101_0, w101_2, w101_3, w101_4, w101_5, w101_6, w101_10, w101_11, w101_14, w101_15, w101_18, w101_20, w101_21, w101_22, w101_25, w101_26, w101_29, w101_31, w101_34, w101_37, w101_38, w101_41, w101_43, w101_44, w101_45, w101_47, w101_48, w101_51, w101_54, w101_55, Ko_n, Ko_v, vX_i, vX_r, vX_l, vX_j, reduceIte, Int.reduceEq, not_true, Bool.false_eq_true]
          exact ih'
  rw [n101 _ _ _ _ _ _ _ ha]
  simp (disch := (first | assumption | omega | exact Nat.le_of_ble_eq_true rfl | rfl)) only [w101_0, w101_2, w101_3, w101_4, w101_5, w101_6, w101_10, w101_11, w101_14, w101_15, w101_18, w101_20, w101_21, w101_22, w101_25, w101_26, w101_29, w101_31, w101_34, w101_37, w101_38, w101_41, w101_43, w101_44, w101_45, w101_47, w101_48, w101_51, w101_54, w101_55, Ko_n, Ko_v, vX_i, vX_r, vX_l, vX_j, reduceIte]
  exact loop N 0 (by omega)
theorem c102 {d : Nat} {k z c : Int} {a : Nat} {T : Tt} {σ : St} {Q : vmO → vmH → Prop} (ha : ob 10 a) (h0 : 0 ≤ z) (h1 : z < 36) (c0 : -2147483648 ≤ c) (c1 : c < 2147483648) (f0 : 0 ≤ σ 1001 a z) (f1 : σ 1001 a z ≤ far) : Ca d k 102 [.ref a, .int (i32 z), .int (i32 c)] (E T σ) Q = Q (.inl (some (.int (i32 (if σ 1001 a z < far ∧ σ 1001 a z ≤ c then 1 else 0))))) (E T σ) := by
  have ha3 := ob_lt ha
  have hfar : far = 1000000000 := rfl
  rw [n102 _ _ _ _ _ _ _ _ ha]
  simp (disch := (first | assumption | omega | exact Nat.le_of_ble_eq_true rfl | rfl)) only [w102_0, w102_1, w102_4, w102_5, w102_6, w102_8, w102_11, w102_12, w102_15, w102_16, w102_17, w102_18, w102_21, w102_22, w102_25, w102_26, Ko_n, Ko_v, vX_i, vX_r, vX_l, vX_j, reduceIte]
  by_cases x : 1000000000 ≤ σ 1001 a z
  · rw [if_pos x, if_neg (by omega)]
  · rw [if_neg x]
    by_cases y : c < σ 1001 a z
    · rw [if_pos y, if_neg (by omega)]
    · rw [if_neg y, if_pos (by omega)]
theorem c103 {d : Nat} {k : Int} {a : Nat} {T : Tt} {σ : St} {Q : vmO → vmH → Prop} (ha : ob 10 a) : Ca d k 103 [.ref a] (E T σ) Q = Q (.inl none) (E T (upA σ 1002 a (cp (σ 1001 a) (σ 1002 a) 36))) := by
  have ha3 := ob_lt ha
  rw [n103 _ _ _ _ _ _ ha]
  simp (disch := (first | assumption | omega | exact Nat.le_of_ble_eq_true rfl | rfl)) only [w103_0, w103_1, w103_4, w103_5, w103_6, w103_9, w103_10, w103_12, w103_15, Ko_n, Ko_v, vX_i, vX_r, vX_l, vX_j, reduceIte]
theorem c104 {d : Nat} {k : Int} {a : Nat} {T : Tt} {σ : St} {Q : vmO → vmH → Prop} (ha : ob 10 a) (hf : ∀ k, 0 ≤ k → k < 36 → 0 ≤ σ 1001 a k ∧ σ 1001 a k ≤ far) (hk : ∀ k, 0 ≤ k → k < 36 → 0 ≤ σ 1002 a k ∧ σ 1002 a k ≤ far) : Ca d k 104 [.ref a] (E T σ) Q = Q (.inl none) (E T (upA σ 1002 a (cp (fun j => min (σ 1002 a j) (σ 1001 a j)) (σ 1002 a) 36))) := by
  have ha3 := ob_lt ha
  have hfar : far = 1000000000 := rfl
  have loop : ∀ (m : Nat) (z : Int), 0 ≤ z → z + m = 36 → Wp d M_X10_keepLess 2 [.ref a, .int (i32 z)] [] (E T (upA σ 1002 a (cp (fun j => min (σ 1002 a j) (σ 1001 a j)) (σ 1002 a) z))) Q = Q (.inl none) (E T (upA σ 1002 a (cp (fun j => min (σ 1002 a j) (σ 1001 a j)) (σ 1002 a) 36))) := by
    intro m
    induction m with
    | zero =>
      intro z h0 h1
      have hz : z = 36 := by omega
      subst hz
      rw [w104_2]
      simp (disch := (first | assumption | omega | exact Nat.le_of_ble_eq_true rfl | rfl)) only [w104_0, w104_1, w104_3, w104_5, w104_8, w104_9, w104_12, w104_13, w104_14, w104_17, w104_18, w104_19, w104_20, w104_23, w104_24, w104_25, w104_28, w104_29, w104_32, w104_35, Ko_n, Ko_v, vX_i, vX_r, vX_l, vX_j, reduceIte, Int.le_refl]
    | succ m ih =>
      intro z h0 h1
      have f1 := hf z h0 (by omega)
      have k1 := hk z h0 (by omega)
      have hz : cp (fun j => min (σ 1002 a j) (σ 1001 a j)) (σ 1002 a) z z = σ 1002 a z := cp_ge (by omega)
      rw [w104_2]
      simp (disch := (first | assumption | omega | exact Nat.le_of_ble_eq_true rfl | rfl)) only [w104_0, w104_1, w104_3, w104_5, w104_8, w104_9, w104_12, w104_13, w104_14, w104_17, w104_18, w104_19, w104_20, w104_23, w104_24, w104_25, w104_28, w104_29, w104_32, w104_35, Ko_n, Ko_v, vX_i, vX_r, vX_l, vX_j, reduceIte, show ¬ (36 : Int) ≤ z by omega, upA_t, upA_s, hz, upA_upA]
      have := cp_fu (f := fun j => min (σ 1002 a j) (σ 1001 a j)) (g := σ 1002 a) h0
      rw [this]
      exact ih (z + 1) (by omega) (by omega)
  rw [n104 _ _ _ _ _ _ ha]
  simp (disch := (first | assumption | omega | exact Nat.le_of_ble_eq_true rfl | rfl)) only [w104_0, w104_1, w104_3, w104_5, w104_8, w104_9, w104_12, w104_13, w104_14, w104_17, w104_18, w104_19, w104_20, w104_23, w104_24, w104_25, w104_28, w104_29, w104_32, w104_35, Ko_n, Ko_v, vX_i, vX_r, vX_l, vX_j, reduceIte]
  have := loop 36 0 (by omega) (by omega)
  rw [cp_0, upA_self] at this
  exact this
