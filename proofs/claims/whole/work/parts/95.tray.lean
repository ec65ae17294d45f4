/-! ===== HedgePark: tray, write, copy, image, restore ===== -/
def hpT (σ : St) : Prop := ∀ j, 0 ≤ j → j < 4 → -1 ≤ σ 1108 0 j ∧ σ 1108 0 j ≤ 3 ∧ 0 ≤ σ 1109 0 j ∧ σ 1109 0 j ≤ 40
/-- a tray's first n numbers anew -/
def trR (g f : Int → Int) (t n : Int) : Int → Int := fun j => if 40 * t ≤ j ∧ j < 40 * t + n then g (j - 40 * t) else f j
theorem trR_0 {g f : Int → Int} {t : Int} : trR g f t 0 = f := by
  funext j
  unfold trR
  rw [if_neg (by omega)]
theorem trR_s {g f : Int → Int} {t n : Int} (h0 : 0 ≤ n) : fu (trR g f t n) (40 * t + n) (g n) = trR g f t (n + 1) := by
  funext j
  unfold trR
  by_cases e : j = 40 * t + n
  · rw [e, fu_s, if_pos (by omega), show 40 * t + n - 40 * t = n by omega]
  · rw [fu_n e]
    by_cases h : 40 * t ≤ j ∧ j < 40 * t + n
    · rw [if_pos h, if_pos (by omega)]
    · rw [if_neg h, if_neg (by omega)]
def tyS (σ : St) (t s m : Int) : St := upA (upA (upA σ 1108 0 (fu (σ 1108 0) t s)) 1109 0 (fu (σ 1109 0) t m)) 1107 0 (trR (fun _ => 0) (σ 1107 0) t 40)
theorem c156 {d : Nat} {k t s m : Int} {T : Tt} {σ : St} {Q : vmO → vmH → Prop} (x0 : -2147483648 ≤ t) (x1 : t < 2147483648) (y0 : -2147483648 ≤ s) (y1 : s < 2147483648) (z0 : -2147483648 ≤ m) (z1 : m < 2147483648)
    (hQ1 : ¬ (0 ≤ t ∧ t < 4) → Q (.inr 0) (E (thr T) σ))
    (hQ2 : 0 ≤ t → t < 4 → ¬ ((0 ≤ s ∧ s ≤ 3) ∧ 0 ≤ m ∧ m ≤ 40) → Q (.inr 1) (E (thr T) σ))
    (hQ3 : 0 ≤ t → t < 4 → 0 ≤ s → s ≤ 3 → 0 ≤ m → m ≤ 40 → Q (.inl none) (E T (tyS σ t s m))) : Ca (d + 10) k 156 [.ref 0, .int (i32 t), .int (i32 s), .int (i32 m)] (E T σ) Q := by
  have h0 := ob_hp
  rw [n156 _ _ _ _ _ _ _ _ _ h0]
  simp (disch := (first | assumption | omega | exact Nat.le_of_ble_eq_true rfl | rfl)) only [w156_0, w156_1, w156_4, w156_5, w156_8, w156_9, w156_10, w156_13, w156_14, w156_17, w156_18, w156_20, w156_23, w156_24, w156_27, w156_28, w156_31, w156_32, w156_35, w156_36, w156_37, w156_38, w156_39, w156_42, w156_43, w156_44, w156_45, w156_46, w156_50, w156_52, w156_55, w156_56, w156_59, w156_61, w156_62, w156_63, w156_65, w156_66, w156_67, w156_68, w156_71, w156_74, Ko_n, Ko_v, vX_i, vX_r, vX_l, vX_j, reduceIte]
  rw [c166 (by omega) x0 x1]
  by_cases hv : 0 ≤ t ∧ t < 4
  · rw [if_pos hv]
    obtain ⟨t0, t1⟩ := hv
    by_cases hd : (0 ≤ s ∧ s ≤ 3) ∧ 0 ≤ m ∧ m ≤ 40
    · have hq := hQ3 t0 t1 hd.1.1 hd.1.2 hd.2.1 hd.2.2
      unfold tyS at hq
      simp (disch := (first | assumption | omega | exact Nat.le_of_ble_eq_true rfl | rfl)) only [w156_0, w156_1, w156_4, w156_5, w156_8, w156_9, w156_10, w156_13, w156_14, w156_17, w156_18, w156_20, w156_23, w156_24, w156_27, w156_28, w156_31, w156_32, w156_35, w156_36, w156_37, w156_38, w156_39, w156_42, w156_43, w156_44, w156_45, w156_46, w156_50, w156_52, w156_55, w156_56, w156_59, w156_61, w156_62, w156_63, w156_65, w156_66, w156_67, w156_68, w156_71, w156_74, Ko_n, Ko_v, vX_i, vX_r, vX_l, vX_j, reduceIte, Nat.reduceAdd, show ¬ s < 0 by omega, show ¬ 3 < s by omega, show ¬ m < 0 by omega, show ¬ 40 < m by omega]
      rw [c169 (by omega) (Or.inr rfl), if_neg (by omega)]
      have loop : ∀ (m' n : Nat), n + m' = 40 → Wp (d + 10) M_X11_tray 48 [.ref 0, .int (i32 t), .int (i32 s), .int (i32 m), .int (i32 n)] [] (E T (upA (upA (upA σ 1108 0 (fu (σ 1108 0) t s)) 1109 0 (fu (σ 1109 0) t m)) 1107 0 (trR (fun _ => 0) (σ 1107 0) t n))) Q := by
        intro m'
        induction m' with
        | zero =>
          intro n hn
          have hn : n = 40 := by omega
          subst hn
          rw [w156_48]
          simp (disch := (first | assumption | omega | exact Nat.le_of_ble_eq_true rfl | rfl)) only [w156_0, w156_1, w156_4, w156_5, w156_8, w156_9, w156_10, w156_13, w156_14, w156_17, w156_18, w156_20, w156_23, w156_24, w156_27, w156_28, w156_31, w156_32, w156_35, w156_36, w156_37, w156_38, w156_39, w156_42, w156_43, w156_44, w156_45, w156_46, w156_50, w156_52, w156_55, w156_56, w156_59, w156_61, w156_62, w156_63, w156_65, w156_66, w156_67, w156_68, w156_71, w156_74, Ko_n, Ko_v, vX_i, vX_r, vX_l, vX_j, reduceIte, Nat.reduceAdd, show (40 : Int) ≤ ((40 : Nat) : Int) by omega]
          exact hq
        | succ m' ih =>
          intro n hn
          have ih' := ih (n + 1) (by omega)
          rw [show ((n + 1 : Nat) : Int) = (n : Int) + 1 by omega, ← trR_s (by omega)] at ih'
          rw [w156_48]
          simp (disch := (first | assumption | omega | exact Nat.le_of_ble_eq_true rfl | rfl)) only [w156_0, w156_1, w156_4, w156_5, w156_8, w156_9, w156_10, w156_13, w156_14, w156_17, w156_18, w156_20, w156_23, w156_24, w156_27, w156_28, w156_31, w156_32, w156_35, w156_36, w156_37, w156_38, w156_39, w156_42, w156_43, w156_44, w156_45, w156_46, w156_50, w156_52, w156_55, w156_56, w156_59, w156_61, w156_62, w156_63, w156_65, w156_66, w156_67, w156_68, w156_71, w156_74, Ko_n, Ko_v, vX_i, vX_r, vX_l, vX_j, reduceIte, Nat.reduceAdd, show ¬ (40 : Int) ≤ (n : Int) by omega, upA_s, upA_upA]
          exact ih'
      simp (disch := (first | assumption | omega | exact Nat.le_of_ble_eq_true rfl | rfl)) only [w156_0, w156_1, w156_4, w156_5, w156_8, w156_9, w156_10, w156_13, w156_14, w156_17, w156_18, w156_20, w156_23, w156_24, w156_27, w156_28, w156_31, w156_32, w156_35, w156_36, w156_37, w156_38, w156_39, w156_42, w156_43, w156_44, w156_45, w156_46, w156_50, w156_52, w156_55, w156_56, w156_59, w156_61, w156_62, w156_63, w156_65, w156_66, w156_67, w156_68, w156_71, w156_74, Ko_n, Ko_v, vX_i, vX_r, vX_l, vX_j, reduceIte, Nat.reduceAdd, upA_t]
      have := loop 40 0 (by omega)
      rw [show ((0 : Nat) : Int) = 0 from rfl, trR_0] at this
      have e : upA (upA (upA σ 1108 0 (fu (σ 1108 0) t s)) 1109 0 (fu (σ 1109 0) t m)) 1107 0 (σ 1107 0) = upA (upA σ 1108 0 (fu (σ 1108 0) t s)) 1109 0 (fu (σ 1109 0) t m) := by
        have e1 : σ 1107 0 = upA (upA σ 1108 0 (fu (σ 1108 0) t s)) 1109 0 (fu (σ 1109 0) t m) 1107 0 := by rw [upA_t (by omega), upA_t (by omega)]
        rw [e1, upA_self]
      rw [e] at this
      exact this
    · have hq := hQ2 t0 t1 hd
      by_cases a1 : s < 0
      · simp (disch := (first | assumption | omega | exact Nat.le_of_ble_eq_true rfl | rfl)) only [w156_0, w156_1, w156_4, w156_5, w156_8, w156_9, w156_10, w156_13, w156_14, w156_17, w156_18, w156_20, w156_23, w156_24, w156_27, w156_28, w156_31, w156_32, w156_35, w156_36, w156_37, w156_38, w156_39, w156_42, w156_43, w156_44, w156_45, w156_46, w156_50, w156_52, w156_55, w156_56, w156_59, w156_61, w156_62, w156_63, w156_65, w156_66, w156_67, w156_68, w156_71, w156_74, Ko_n, Ko_v, vX_i, vX_r, vX_l, vX_j, reduceIte, Nat.reduceAdd, a1]
        rw [c169 (by omega) (Or.inl rfl), if_pos rfl, Ko_x rfl]
        exact hq
      · by_cases a2 : 3 < s
        · simp (disch := (first | assumption | omega | exact Nat.le_of_ble_eq_true rfl | rfl)) only [w156_0, w156_1, w156_4, w156_5, w156_8, w156_9, w156_10, w156_13, w156_14, w156_17, w156_18, w156_20, w156_23, w156_24, w156_27, w156_28, w156_31, w156_32, w156_35, w156_36, w156_37, w156_38, w156_39, w156_42, w156_43, w156_44, w156_45, w156_46, w156_50, w156_52, w156_55, w156_56, w156_59, w156_61, w156_62, w156_63, w156_65, w156_66, w156_67, w156_68, w156_71, w156_74, Ko_n, Ko_v, vX_i, vX_r, vX_l, vX_j, reduceIte, Nat.reduceAdd, a1, a2]
          rw [c169 (by omega) (Or.inl rfl), if_pos rfl, Ko_x rfl]
          exact hq
        · by_cases a3 : m < 0
          · simp (disch := (first | assumption | omega | exact Nat.le_of_ble_eq_true rfl | rfl)) only [w156_0, w156_1, w156_4, w156_5, w156_8, w156_9, w156_10, w156_13, w156_14, w156_17, w156_18, w156_20, w156_23, w156_24, w156_27, w156_28, w156_31, w156_32, w156_35, w156_36, w156_37, w156_38, w156_39, w156_42, w156_43, w156_44, w156_45, w156_46, w156_50, w156_52, w156_55, w156_56, w156_59, w156_61, w156_62, w156_63, w156_65, w156_66, w156_67, w156_68, w156_71, w156_74, Ko_n, Ko_v, vX_i, vX_r, vX_l, vX_j, reduceIte, Nat.reduceAdd, a1, a2, a3]
            rw [c169 (by omega) (Or.inl rfl), if_pos rfl, Ko_x rfl]
            exact hq
          · simp (disch := (first | assumption | omega | exact Nat.le_of_ble_eq_true rfl | rfl)) only [w156_0, w156_1, w156_4, w156_5, w156_8, w156_9, w156_10, w156_13, w156_14, w156_17, w156_18, w156_20, w156_23, w156_24, w156_27, w156_28, w156_31, w156_32, w156_35, w156_36, w156_37, w156_38, w156_39, w156_42, w156_43, w156_44, w156_45, w156_46, w156_50, w156_52, w156_55, w156_56, w156_59, w156_61, w156_62, w156_63, w156_65, w156_66, w156_67, w156_68, w156_71, w156_74, Ko_n, Ko_v, vX_i, vX_r, vX_l, vX_j, reduceIte, Nat.reduceAdd, a1, a2, a3, show 40 < m by omega]
            rw [c169 (by omega) (Or.inl rfl), if_pos rfl, Ko_x rfl]
            exact hq
  · rw [if_neg hv, Ko_x rfl]
    exact hQ1 hv
/-- a number cut to a sort -/
def ctV (s : Int) (v : Int64) : Int64 := if s = 0 then i64 (i32 v.toInt).toInt8.toInt else if s = 1 then i64 (i32 v.toInt).toInt16.toInt else if s = 2 then i64 (i32 v.toInt).toInt else v
theorem c158 {d : Nat} {k s : Int} {v : Int64} {h : vmH} {Q : vmO → vmH → Prop} (hk : 4 ≤ k) (s0 : 0 ≤ s) (s1 : s ≤ 3) : Ca d k 158 [.int (i32 s), .long v] h Q = Q (.inl (some (.long (ctV s v)))) h := by
  rw [n158 _ _ _ _ _ _ hk]
  unfold ctV
  have b1 := Int8.le_toInt (i32 v.toInt).toInt8
  have b2 := Int8.toInt_lt (i32 v.toInt).toInt8
  have b3 := Int16.le_toInt (i32 v.toInt).toInt16
  have b4 := Int16.toInt_lt (i32 v.toInt).toInt16
  have b5 := Int32.le_toInt (i32 v.toInt)
  have b6 := Int32.toInt_lt (i32 v.toInt)
  have hs : s = 0 ∨ s = 1 ∨ s = 2 ∨ s = 3 := by omega
  rcases hs with rfl | rfl | rfl | rfl
  · simp (disch := (first | assumption | omega | exact Nat.le_of_ble_eq_true rfl | rfl)) only [w158_0, w158_1, w158_28, w158_29, w158_30, w158_31, w158_32, w158_33, w158_34, w158_35, w158_36, w158_37, w158_38, w158_39, w158_40, w158_41, w158_42, w158_43, Ko_n, Ko_v, vX_i, vX_r, vX_l, vX_j, reduceIte, vmSwitch, Int.reduceEq]
  · simp (disch := (first | assumption | omega | exact Nat.le_of_ble_eq_true rfl | rfl)) only [w158_0, w158_1, w158_28, w158_29, w158_30, w158_31, w158_32, w158_33, w158_34, w158_35, w158_36, w158_37, w158_38, w158_39, w158_40, w158_41, w158_42, w158_43, Ko_n, Ko_v, vX_i, vX_r, vX_l, vX_j, reduceIte, vmSwitch, Int.reduceEq]
  · simp (disch := (first | assumption | omega | exact Nat.le_of_ble_eq_true rfl | rfl)) only [w158_0, w158_1, w158_28, w158_29, w158_30, w158_31, w158_32, w158_33, w158_34, w158_35, w158_36, w158_37, w158_38, w158_39, w158_40, w158_41, w158_42, w158_43, Ko_n, Ko_v, vX_i, vX_r, vX_l, vX_j, reduceIte, vmSwitch, Int.reduceEq]
    rw [show i32 v.toInt = i32 (i32 v.toInt).toInt from (i32_toInt _).symm]
    rw [w158_40 _ _ _ _ _ _ b5 b6]
    simp (disch := (first | assumption | omega | exact Nat.le_of_ble_eq_true rfl | rfl)) only [w158_0, w158_1, w158_28, w158_29, w158_30, w158_31, w158_32, w158_33, w158_34, w158_35, w158_36, w158_37, w158_38, w158_39, w158_40, w158_41, w158_42, w158_43, Ko_n, Ko_v, vX_i, vX_r, vX_l, vX_j, reduceIte]
    rw [i32_toInt]
  · simp (disch := (first | assumption | omega | exact Nat.le_of_ble_eq_true rfl | rfl)) only [w158_0, w158_1, w158_28, w158_29, w158_30, w158_31, w158_32, w158_33, w158_34, w158_35, w158_36, w158_37, w158_38, w158_39, w158_40, w158_41, w158_42, w158_43, Ko_n, Ko_v, vX_i, vX_r, vX_l, vX_j, reduceIte, vmSwitch, Int.reduceEq]
theorem c157 {d : Nat} {k t p : Int} {v : Int64} {T : Tt} {σ : St} {Q : vmO → vmH → Prop} (hT : hpT σ) (x0 : -2147483648 ≤ t) (x1 : t < 2147483648) (y0 : -2147483648 ≤ p) (y1 : p < 2147483648)
    (hQ1 : ¬ (0 ≤ t ∧ t < 4) → Q (.inr 0) (E (thr T) σ))
    (hQ2 : 0 ≤ t → t < 4 → σ 1108 0 t = -1 → Q (.inr 2) (E (thr T) σ))
    (hQ3 : 0 ≤ t → t < 4 → σ 1108 0 t ≠ -1 → ¬ (0 ≤ p ∧ p < σ 1109 0 t) → Q (.inr 3) (E (thr T) σ))
    (hQ4 : 0 ≤ t → t < 4 → σ 1108 0 t ≠ -1 → 0 ≤ p → p < σ 1109 0 t → Q (.inl (some (.long (ctV (σ 1108 0 t) v)))) (E T (upA σ 1107 0 (fu (σ 1107 0) (40 * t + p) (ctV (σ 1108 0 t) v).toInt)))) : Ca (d + 10) k 157 [.ref 0, .int (i32 t), .int (i32 p), .long v] (E T σ) Q := by
  have h0 := ob_hp
  rw [n157 _ _ _ _ _ _ _ _ _ h0]
  simp (disch := (first | assumption | omega | exact Nat.le_of_ble_eq_true rfl | rfl)) only [w157_0, w157_1, w157_2, w157_5, w157_6, w157_9, w157_10, w157_11, w157_14, w157_15, w157_16, w157_19, w157_27, w157_28, w157_31, w157_32, w157_33, w157_34, w157_37, w157_39, w157_40, w157_43, w157_45, w157_46, w157_47, w157_48, w157_49, w157_51, w157_52, w157_54, Ko_n, Ko_v, vX_i, vX_r, vX_l, vX_j, reduceIte]
  rw [c167 x0 x1 (fun j j0 j1 => ⟨(hT j j0 j1).1, (hT j j0 j1).2.1⟩)]
  by_cases hv : 0 ≤ t ∧ t < 4
  · rw [if_pos hv]
    obtain ⟨t0, t1⟩ := hv
    have ht := hT t t0 t1
    by_cases hs : σ 1108 0 t = -1
    · rw [if_pos hs, Ko_x rfl]
      exact hQ2 t0 t1 hs
    · rw [if_neg hs]
      by_cases hp : 0 ≤ p ∧ p < σ 1109 0 t
      · simp (disch := (first | assumption | omega | exact Nat.le_of_ble_eq_true rfl | rfl)) only [w157_0, w157_1, w157_2, w157_5, w157_6, w157_9, w157_10, w157_11, w157_14, w157_15, w157_16, w157_19, w157_27, w157_28, w157_31, w157_32, w157_33, w157_34, w157_37, w157_39, w157_40, w157_43, w157_45, w157_46, w157_47, w157_48, w157_49, w157_51, w157_52, w157_54, Ko_n, Ko_v, vX_i, vX_r, vX_l, vX_j, reduceIte, Nat.reduceAdd, show ¬ p < 0 by omega, hp.2, c158]
        exact hQ4 t0 t1 hs hp.1 hp.2
      · by_cases a : p < 0
        · simp (disch := (first | assumption | omega | exact Nat.le_of_ble_eq_true rfl | rfl)) only [w157_0, w157_1, w157_2, w157_5, w157_6, w157_9, w157_10, w157_11, w157_14, w157_15, w157_16, w157_19, w157_27, w157_28, w157_31, w157_32, w157_33, w157_34, w157_37, w157_39, w157_40, w157_43, w157_45, w157_46, w157_47, w157_48, w157_49, w157_51, w157_52, w157_54, Ko_n, Ko_v, vX_i, vX_r, vX_l, vX_j, reduceIte, Nat.reduceAdd, a]
          exact hQ3 t0 t1 hs hp
        · simp (disch := (first | assumption | omega | exact Nat.le_of_ble_eq_true rfl | rfl)) only [w157_0, w157_1, w157_2, w157_5, w157_6, w157_9, w157_10, w157_11, w157_14, w157_15, w157_16, w157_19, w157_27, w157_28, w157_31, w157_32, w157_33, w157_34, w157_37, w157_39, w157_40, w157_43, w157_45, w157_46, w157_47, w157_48, w157_49, w157_51, w157_52, w157_54, Ko_n, Ko_v, vX_i, vX_r, vX_l, vX_j, reduceIte, Nat.reduceAdd, a, show ¬ p < σ 1109 0 t by omega]
          exact hQ3 t0 t1 hs hp
  · rw [if_neg hv, Ko_x rfl]
    exact hQ1 hv
theorem c159 {d N : Nat} {k t : Int} {T : Tt} {σ : St} {Q : vmO → vmH → Prop} (hT : hpT σ) (hN : σ 401 3 0 * σ 402 3 0 = (N : Int)) (N1 : N ≤ 36) (htk : tkOk (σ 701 10)) (x0 : -2147483648 ≤ t) (x1 : t < 2147483648)
    (hQ1 : ¬ (0 ≤ t ∧ t < 4) → Q (.inr 0) (E (thr T) σ))
    (hQ2 : 0 ≤ t → t < 4 → σ 1108 0 t = -1 → Q (.inr 2) (E (thr T) σ))
    (hQ3 : 0 ≤ t → t < 4 → σ 1108 0 t ≠ -1 → Q (.inl (some (.int (i32 (min (σ 1109 0 t) N))))) (E T (upA σ 1107 0 (trR (σ 701 10) (σ 1107 0) t (min (σ 1109 0 t) N))))) : Ca (d + 10) k 159 [.ref 0, .int (i32 t)] (E T σ) Q := by
  have h0 := ob_hp; have h2 := ob_st; have h3 := ob_p3; have hn := ob_n10
  rw [n159 _ _ _ _ _ _ _ h0]
  simp (disch := (first | assumption | omega | exact Nat.le_of_ble_eq_true rfl | rfl)) only [w159_0, w159_1, w159_2, w159_5, w159_6, w159_9, w159_10, w159_11, w159_12, w159_15, w159_18, w159_21, w159_24, w159_25, w159_26, w159_28, w159_29, w159_32, w159_33, w159_36, w159_38, w159_39, w159_40, w159_41, w159_42, w159_43, w159_46, w159_49, w159_52, w159_53, w159_54, w159_55, w159_56, w159_59, w159_62, w159_63, Ko_n, Ko_v, vX_i, vX_r, vX_l, vX_j, reduceIte]
  rw [c167 x0 x1 (fun j j0 j1 => ⟨(hT j j0 j1).1, (hT j j0 j1).2.1⟩)]
  by_cases hv : 0 ≤ t ∧ t < 4
  · rw [if_pos hv]
    obtain ⟨t0, t1⟩ := hv
    have ht := hT t t0 t1
    by_cases hs : σ 1108 0 t = -1
    · rw [if_pos hs, Ko_x rfl]
      exact hQ2 t0 t1 hs
    · rw [if_neg hs]
      have hq := hQ3 t0 t1 hs
      simp (disch := (first | assumption | omega | exact Nat.le_of_ble_eq_true rfl | rfl)) only [w159_0, w159_1, w159_2, w159_5, w159_6, w159_9, w159_10, w159_11, w159_12, w159_15, w159_18, w159_21, w159_24, w159_25, w159_26, w159_28, w159_29, w159_32, w159_33, w159_36, w159_38, w159_39, w159_40, w159_41, w159_42, w159_43, w159_46, w159_49, w159_52, w159_53, w159_54, w159_55, w159_56, w159_59, w159_62, w159_63, Ko_n, Ko_v, vX_i, vX_r, vX_l, vX_j, reduceIte, Nat.reduceAdd, c26, hN]
      obtain ⟨M, hM⟩ : ∃ M : Nat, min (σ 1109 0 t) (N : Int) = M := ⟨(min (σ 1109 0 t) (N : Int)).toNat, by omega⟩
      rw [hM] at hq ⊢
      have loop : ∀ (m' n : Nat), n + m' = M → Wp (d + 10) M_X11_copy 27 [.ref 0, .int (i32 t), .int (i32 M), .int (i32 n)] [] (E T (upA σ 1107 0 (trR (σ 701 10) (σ 1107 0) t n))) Q := by
        intro m'
        induction m' with
        | zero =>
          intro n hn2
          have hn2 : n = M := by omega
          subst hn2
          rw [w159_27]
          simp (disch := (first | assumption | omega | exact Nat.le_of_ble_eq_true rfl | rfl)) only [w159_0, w159_1, w159_2, w159_5, w159_6, w159_9, w159_10, w159_11, w159_12, w159_15, w159_18, w159_21, w159_24, w159_25, w159_26, w159_28, w159_29, w159_32, w159_33, w159_36, w159_38, w159_39, w159_40, w159_41, w159_42, w159_43, w159_46, w159_49, w159_52, w159_53, w159_54, w159_55, w159_56, w159_59, w159_62, w159_63, Ko_n, Ko_v, vX_i, vX_r, vX_l, vX_j, reduceIte, Nat.reduceAdd, Int.le_refl]
          exact hq
        | succ m' ih =>
          intro n hn2
          have ih' := ih (n + 1) (by omega)
          have hk := htk n (by omega) (by omega)
          rw [show ((n + 1 : Nat) : Int) = (n : Int) + 1 by omega, ← trR_s (by omega)] at ih'
          rw [w159_27]
          simp (disch := (first | assumption | omega | exact Nat.le_of_ble_eq_true rfl | rfl)) only [w159_0, w159_1, w159_2, w159_5, w159_6, w159_9, w159_10, w159_11, w159_12, w159_15, w159_18, w159_21, w159_24, w159_25, w159_26, w159_28, w159_29, w159_32, w159_33, w159_36, w159_38, w159_39, w159_40, w159_41, w159_42, w159_43, w159_46, w159_49, w159_52, w159_53, w159_54, w159_55, w159_56, w159_59, w159_62, w159_63, Ko_n, Ko_v, vX_i, vX_r, vX_l, vX_j, reduceIte, Nat.reduceAdd, show ¬ (M : Int) ≤ (n : Int) by omega, upA_t, upA_s, upA_upA, i64_i]
          exact ih'
      have := loop M 0 (by omega)
      rw [show ((0 : Nat) : Int) = 0 from rfl, trR_0, upA_self] at this
      exact this
  · rw [if_neg hv, Ko_x rfl]
    exact hQ1 hv
def img (i : Int) : Nat := 190 + 64 * i.toNat
theorem ob_im {i : Int} (h0 : 0 ≤ i) (h1 : i < 3) : ob 8 (img i) := by
  have : i = 0 ∨ i = 1 ∨ i = 2 := by omega
  rcases this with rfl | rfl | rfl <;> rfl
theorem c160 {d : Nat} {k i : Int} {T : Tt} {σ : St} {Q : vmO → vmH → Prop} (l0 : 0 ≤ σ 301 7 0) (l1 : σ 301 7 0 ≤ 900) (x0 : -2147483648 ≤ i) (x1 : i < 2147483648)
    (hQ1 : ¬ (0 ≤ i ∧ i < 3) → Q (.inr 0) (E (thr T) σ))
    (hQ2 : 0 ≤ i → i < 3 → Q (.inl none) (E T (upA (stM σ (img i) 2) 805 (img i) fun _ => 1))) : Ca (d + 10) k 160 [.ref 0, .int (i32 i)] (E T σ) Q := by
  have h0 := ob_hp; have h2 := ob_st
  rw [n160 _ _ _ _ _ _ _ h0]
  simp (disch := (first | assumption | omega | exact Nat.le_of_ble_eq_true rfl | rfl)) only [w160_0, w160_1, w160_4, w160_5, w160_8, w160_9, w160_10, w160_11, w160_14, w160_17, w160_18, w160_21, w160_22, w160_23, w160_24, w160_27, Ko_n, Ko_v, vX_i, vX_r, vX_l, vX_j, reduceIte]
  rw [c168 (by omega) x0 x1]
  by_cases hv : 0 ≤ i ∧ i < 3
  · rw [if_pos hv]
    have hi := ob_im hv.1 hv.2
    simp (disch := (first | assumption | omega | exact Nat.le_of_ble_eq_true rfl | rfl)) only [w160_0, w160_1, w160_4, w160_5, w160_8, w160_9, w160_10, w160_11, w160_14, w160_17, w160_18, w160_21, w160_22, w160_23, w160_24, w160_27, Ko_n, Ko_v, vX_i, vX_r, vX_l, vX_j, reduceIte, Nat.reduceAdd, Nat.zero_add]
    rw [show 190 + 64 * i.toNat = img i from rfl, c86 hi h2 l0 l1]
    simp (disch := (first | assumption | omega | exact Nat.le_of_ble_eq_true rfl | rfl)) only [w160_0, w160_1, w160_4, w160_5, w160_8, w160_9, w160_10, w160_11, w160_14, w160_17, w160_18, w160_21, w160_22, w160_23, w160_24, w160_27, Ko_n, Ko_v, vX_i, vX_r, vX_l, vX_j, reduceIte, Nat.reduceAdd, Nat.zero_add]
    rw [show 190 + 64 * i.toNat = img i from rfl, w160_24 _ _ _ _ _ _ _ _ hi (Or.inr rfl)]
    simp (disch := (first | assumption | omega | exact Nat.le_of_ble_eq_true rfl | rfl)) only [w160_0, w160_1, w160_4, w160_5, w160_8, w160_9, w160_10, w160_11, w160_14, w160_17, w160_18, w160_21, w160_22, w160_23, w160_24, w160_27, Ko_n, Ko_v, vX_i, vX_r, vX_l, vX_j, reduceIte]
    exact hQ2 hv.1 hv.2
  · rw [if_neg hv, Ko_x rfl]
    exact hQ1 hv
theorem c161 {d : Nat} {k i : Int} {T : Tt} {σ : St} {Q : vmO → vmH → Prop} (hm : ∀ i, 0 ≤ i → i < 3 → σ 805 (img i) 0 = 0 ∨ (σ 805 (img i) 0 = 1 ∧ 0 ≤ σ 301 (img i + 5) 0 ∧ σ 301 (img i + 5) 0 ≤ 900)) (x0 : -2147483648 ≤ i) (x1 : i < 2147483648)
    (hQ1 : ¬ (0 ≤ i ∧ i < 3) → Q (.inr 0) (E (thr T) σ))
    (hQ2 : 0 ≤ i → i < 3 → σ 805 (img i) 0 = 0 → Q (.inr 2) (E (thr T) σ))
    (hQ3 : 0 ≤ i → i < 3 → σ 805 (img i) 0 = 1 → Q (.inl none) (E T (stM σ 2 (img i)))) : Ca (d + 10) k 161 [.ref 0, .int (i32 i)] (E T σ) Q := by
  have h0 := ob_hp; have h2 := ob_st
  rw [n161 _ _ _ _ _ _ _ h0]
  simp (disch := (first | assumption | omega | exact Nat.le_of_ble_eq_true rfl | rfl)) only [w161_0, w161_1, w161_4, w161_5, w161_8, w161_9, w161_10, w161_13, w161_16, w161_17, w161_20, w161_21, w161_24, w161_25, w161_26, w161_29, Ko_n, Ko_v, vX_i, vX_r, vX_l, vX_j, reduceIte]
  rw [c168 (by omega) x0 x1]
  by_cases hv : 0 ≤ i ∧ i < 3
  · rw [if_pos hv]
    have hi := ob_im hv.1 hv.2
    simp (disch := (first | assumption | omega | exact Nat.le_of_ble_eq_true rfl | rfl)) only [w161_0, w161_1, w161_4, w161_5, w161_8, w161_9, w161_10, w161_13, w161_16, w161_17, w161_20, w161_21, w161_24, w161_25, w161_26, w161_29, Ko_n, Ko_v, vX_i, vX_r, vX_l, vX_j, reduceIte, Nat.reduceAdd, Nat.zero_add]
    rw [show 190 + 64 * i.toNat = img i from rfl, w161_10 _ _ _ _ _ _ _ hi]
    simp (disch := (first | assumption | omega | exact Nat.le_of_ble_eq_true rfl | rfl)) only [w161_0, w161_1, w161_4, w161_5, w161_8, w161_9, w161_10, w161_13, w161_16, w161_17, w161_20, w161_21, w161_24, w161_25, w161_26, w161_29, Ko_n, Ko_v, vX_i, vX_r, vX_l, vX_j, reduceIte, Nat.reduceAdd]
    rcases hm i hv.1 hv.2 with e | ⟨e, l0, l1⟩
    · rw [c170 (by omega) (Or.inl e), if_pos e, Ko_x rfl]
      exact hQ2 hv.1 hv.2 e
    · rw [c170 (by omega) (Or.inr e), if_neg (by omega)]
      simp (disch := (first | assumption | omega | exact Nat.le_of_ble_eq_true rfl | rfl)) only [w161_0, w161_1, w161_4, w161_5, w161_8, w161_9, w161_10, w161_13, w161_16, w161_17, w161_20, w161_21, w161_24, w161_25, w161_26, w161_29, Ko_n, Ko_v, vX_i, vX_r, vX_l, vX_j, reduceIte, Nat.reduceAdd, Nat.zero_add]
      rw [show 190 + 64 * i.toNat = img i from rfl, c86 h2 hi l0 l1]
      simp (disch := (first | assumption | omega | exact Nat.le_of_ble_eq_true rfl | rfl)) only [w161_0, w161_1, w161_4, w161_5, w161_8, w161_9, w161_10, w161_13, w161_16, w161_17, w161_20, w161_21, w161_24, w161_25, w161_26, w161_29, Ko_n, Ko_v, vX_i, vX_r, vX_l, vX_j, reduceIte]
      exact hQ3 hv.1 hv.2 e
  · rw [if_neg hv, Ko_x rfl]
    exact hQ1 hv
