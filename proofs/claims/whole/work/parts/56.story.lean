/-! ===== Story ===== -/
theorem st_parts : ∀ a, a < 406 → sh a = (2, 8, 0, 0, 0) → sh (a + 1) = (2, 4, 0, 0, 0) ∧ sh (a + 8) = (2, 7, 0, 0, 0) ∧ ∀ i, i < 10 → sh (a + 14 + 5 * i) = (2, 7, 0, 0, 0) := by
  have : (List.range 406).all (fun a => !shq (sh a) (2, 8, 0, 0, 0) || (shq (sh (a + 1)) (2, 4, 0, 0, 0) && (shq (sh (a + 8)) (2, 7, 0, 0, 0) && (List.range 10).all fun i => shq (sh (a + 14 + 5 * i)) (2, 7, 0, 0, 0)))) = true := by decide +kernel
  intro a ha h
  have := List.all_eq_true.mp this a (List.mem_range.mpr ha)
  rw [h, shq_rf] at this
  simp only [Bool.not_true, Bool.false_or, Bool.and_eq_true] at this
  exact ⟨shq_eq this.1, shq_eq this.2.1, fun i hi => shq_eq (List.all_eq_true.mp this.2.2 i (List.mem_range.mpr hi))⟩
theorem ob_pl {a : Nat} (h : ob 8 a) : ob 4 (a + 1) := (st_parts a (ob_lt h) h).1
theorem ob_nw {a : Nat} (h : ob 8 a) : ob 7 (a + 8) := (st_parts a (ob_lt h) h).2.1
theorem ob_ps {a i : Nat} (h : ob 8 a) (hi : i < 10) : ob 7 (a + 14 + 5 * i) := (st_parts a (ob_lt h) h).2.2 i hi
/-- the scene that is remembered at a place of the ring -/
def pst (a : Nat) (z : Int) : Nat := a + 14 + 5 * z.toNat
def sty (σ : St) (a : Nat) : Prop := 0 ≤ σ 803 a 0 ∧ σ 803 a 0 < 10 ∧ 0 ≤ σ 804 a 0 ∧ σ 804 a 0 ≤ 10
theorem scB_t {σ : St} {r o t a : Nat} (h : t < 700 ∨ 706 < t) : scB σ r o t a = σ t a := by
  unfold scB
  rw [upA_t (by omega), upA_t (by omega), upA_t (by omega), upA_t (by omega), upA_t (by omega), upA_t (by omega), upA_t (by omega)]
theorem scB_o {σ : St} {r o t a : Nat} (h : a ≠ r) : scB σ r o t a = σ t a := by
  unfold scB
  rw [upA_o h, upA_o h, upA_o h, upA_o h, upA_o h, upA_o h, upA_o h]
theorem scB_0 {σ : St} {r o : Nat} : scB σ r o 700 r = cp (σ 700 o) (σ 700 r) 36 := by
  unfold scB
  rw [upA_t (by omega), upA_t (by omega), upA_t (by omega), upA_t (by omega), upA_t (by omega), upA_t (by omega), upA_s]
theorem scB_1 {σ : St} {r o : Nat} : scB σ r o 701 r = cp (σ 701 o) (σ 701 r) 36 := by
  unfold scB
  rw [upA_t (by omega), upA_t (by omega), upA_t (by omega), upA_t (by omega), upA_t (by omega), upA_s]
theorem scB_2 {σ : St} {r o : Nat} : scB σ r o 702 r = cp (σ 702 o) (σ 702 r) 5 := by
  unfold scB
  rw [upA_t (by omega), upA_t (by omega), upA_t (by omega), upA_t (by omega), upA_s]
theorem scB_3 {σ : St} {r o : Nat} : scB σ r o 703 r = cp (σ 703 o) (σ 703 r) 5 := by
  unfold scB
  rw [upA_t (by omega), upA_t (by omega), upA_t (by omega), upA_s]
theorem scB_4 {σ : St} {r o : Nat} : scB σ r o 704 r = fun _ => σ 704 o 0 := by
  unfold scB
  rw [upA_t (by omega), upA_t (by omega), upA_s]
theorem scB_5 {σ : St} {r o : Nat} : scB σ r o 705 r = fun _ => σ 705 o 0 := by
  unfold scB
  rw [upA_t (by omega), upA_s]
theorem scB_6 {σ : St} {r o : Nat} : scB σ r o 706 r = fun _ => σ 706 o 0 := by
  unfold scB
  rw [upA_s]
def stR (σ : St) (a : Nat) : St := upA (upA (scB σ (pst a (σ 803 a 0)) (a + 8)) 803 a fun _ => (σ 803 a 0 + 1) % 10) 804 a fun _ => min (σ 804 a 0 + 1) 10
theorem c84 {d : Nat} {k : Int} {a : Nat} {T : Tt} {σ : St} {Q : vmO → vmH → Prop} (ha : ob 8 a) (hs : sty σ a) : Ca (d + 1) k 84 [.ref a] (E T σ) Q = Q (.inl none) (E T (stR σ a)) := by
  have ha3 := ob_lt ha
  have hn := ob_nw ha
  obtain ⟨s1, s2, s3, s4⟩ := hs
  have hp := ob_ps ha (i := (σ 803 a 0).toNat) (by omega)
  have hp3 := ob_lt hp
  rw [n84 _ _ _ _ _ _ ha]
  simp (disch := (first | assumption | omega | exact Nat.le_of_ble_eq_true rfl | rfl)) only [w84_0, w84_1, w84_4, w84_5, w84_8, w84_9, w84_10, w84_13, w84_16, w84_17, w84_18, w84_21, w84_22, w84_23, w84_25, w84_26, w84_29, w84_30, w84_31, w84_34, w84_35, w84_36, w84_38, w84_41, w84_44, Ko_n, Ko_v, vX_i, vX_r, vX_l, vX_j, reduceIte]
  rw [c81 hp hn]
  simp (disch := (first | assumption | omega | exact Nat.le_of_ble_eq_true rfl | rfl)) only [w84_0, w84_1, w84_4, w84_5, w84_8, w84_9, w84_10, w84_13, w84_16, w84_17, w84_18, w84_21, w84_22, w84_23, w84_25, w84_26, w84_29, w84_30, w84_31, w84_34, w84_35, w84_36, w84_38, w84_41, w84_44, Ko_n, Ko_v, vX_i, vX_r, vX_l, vX_j, reduceIte, scB_t, upA_t]
  rfl
def stB (σ : St) (a : Nat) (n : Int) : St := scB (upA (upA σ 803 a fun _ => (σ 803 a 0 - n) % 10) 804 a fun _ => σ 804 a 0 - n) (a + 8) (pst a ((σ 803 a 0 - n) % 10))
theorem c85 {d : Nat} {k n : Int} {a : Nat} {T : Tt} {σ : St} {Q : vmO → vmH → Prop} (ha : ob 8 a) (hs : sty σ a) (n0 : 1 ≤ n) (n1 : n ≤ 10) : Ca (d + 1) k 85 [.ref a, .int (i32 n)] (E T σ) Q = Q (.inl none) (E T (stB σ a n)) := by
  have ha3 := ob_lt ha
  have hn := ob_nw ha
  obtain ⟨s1, s2, s3, s4⟩ := hs
  have e0 := Int.emod_nonneg (σ 803 a 0 - n) (show (10 : Int) ≠ 0 by omega)
  have e1 := Int.emod_lt_of_pos (σ 803 a 0 - n) (show (0 : Int) < 10 by omega)
  have hp := ob_ps ha (i := ((σ 803 a 0 - n) % 10).toNat) (by omega)
  have hp3 := ob_lt hp
  rw [n85 _ _ _ _ _ _ _ ha]
  simp (disch := (first | assumption | omega | exact Nat.le_of_ble_eq_true rfl | rfl)) only [w85_0, w85_1, w85_2, w85_5, w85_6, w85_7, w85_9, w85_12, w85_15, w85_16, w85_17, w85_20, w85_21, w85_22, w85_25, w85_26, w85_29, w85_30, w85_33, w85_34, w85_37, w85_38, w85_41, Ko_n, Ko_v, vX_i, vX_r, vX_l, vX_j, reduceIte, upA_t, upA_s]
  rw [c81 hn hp]
  simp (disch := (first | assumption | omega | exact Nat.le_of_ble_eq_true rfl | rfl)) only [w85_0, w85_1, w85_2, w85_5, w85_6, w85_7, w85_9, w85_12, w85_15, w85_16, w85_17, w85_20, w85_21, w85_22, w85_25, w85_26, w85_29, w85_30, w85_33, w85_34, w85_37, w85_38, w85_41, Ko_n, Ko_v, vX_i, vX_r, vX_l, vX_j, reduceIte]
  rfl
def stC (σ : St) (a : Nat) : St := upA (upA (scC (plC σ (a + 1)) (a + 8)) 803 a fun _ => 0) 804 a fun _ => 0
theorem c83 {d : Nat} {k : Int} {a : Nat} {T : Tt} {σ : St} {Q : vmO → vmH → Prop} (ha : ob 8 a) : Ca (d + 2) k 83 [.ref a] (E T σ) Q = Q (.inl none) (E T (stC σ a)) := by
  have ha3 := ob_lt ha
  have hn := ob_nw ha
  have hp := ob_pl ha
  rw [n83 _ _ _ _ _ _ ha]
  simp (disch := (first | assumption | omega | exact Nat.le_of_ble_eq_true rfl | rfl)) only [w83_0, w83_1, w83_4, w83_7, w83_8, w83_11, w83_14, w83_15, w83_16, w83_19, w83_20, w83_21, w83_24, Ko_n, Ko_v, vX_i, vX_r, vX_l, vX_j, reduceIte]
  rw [c25 hp]
  simp (disch := (first | assumption | omega | exact Nat.le_of_ble_eq_true rfl | rfl)) only [w83_0, w83_1, w83_4, w83_7, w83_8, w83_11, w83_14, w83_15, w83_16, w83_19, w83_20, w83_21, w83_24, Ko_n, Ko_v, vX_i, vX_r, vX_l, vX_j, reduceIte]
  rw [c73 hn]
  simp (disch := (first | assumption | omega | exact Nat.le_of_ble_eq_true rfl | rfl)) only [w83_0, w83_1, w83_4, w83_7, w83_8, w83_11, w83_14, w83_15, w83_16, w83_19, w83_20, w83_21, w83_24, Ko_n, Ko_v, vX_i, vX_r, vX_l, vX_j, reduceIte]
  rfl
/-- the scenes of a ring become as another's -/
def psB (σ : St) (a o : Nat) : Nat → St
  | 0 => σ
  | n + 1 => scB (psB σ a o n) (a + 14 + 5 * n) (o + 14 + 5 * n)
def stM (σ : St) (a o : Nat) : St := upA (upA (psB (scB (plB σ (a + 1) (o + 1)) (a + 8) (o + 8)) a o 10) 803 a fun _ => σ 803 o 0) 804 a fun _ => σ 804 o 0
theorem psB_t {σ : St} {a o t b : Nat} (h : t < 700 ∨ 706 < t) (n : Nat) : psB σ a o n t b = σ t b := by
  induction n with
  | zero => rfl
  | succ n ih => simp only [psB]; rw [scB_t h]; exact ih
theorem plB_t {σ : St} {p o t b : Nat} (h : (t < 300 ∨ 301 < t) ∧ (t < 400 ∨ 413 < t)) : plB σ p o t b = σ t b := by
  unfold plB
  simp (disch := omega) only [upA_t, lwB_t]
theorem c86 {d : Nat} {k : Int} {a o : Nat} {T : Tt} {σ : St} {Q : vmO → vmH → Prop} (ha : ob 8 a) (ho : ob 8 o) (h0 : 0 ≤ σ 301 (o + 5) 0) (h1 : σ 301 (o + 5) 0 ≤ 900) : Ca (d + 2) k 86 [.ref a, .ref o] (E T σ) Q = Q (.inl none) (E T (stM σ a o)) := by
  have ha3 := ob_lt ha
  have ho3 := ob_lt ho
  have hn := ob_nw ha
  have hp := ob_pl ha
  have hn2 := ob_nw ho
  have hp2 := ob_pl ho
  have loop : ∀ (m n : Nat), n + m = 10 → Wp (d + 2) M_X8_becomes 24 [.ref a, .ref o, .int (i32 n)] [] (E T (psB (scB (plB σ (a + 1) (o + 1)) (a + 8) (o + 8)) a o n)) Q = Q (.inl none) (E T (stM σ a o)) := by
    intro m
    induction m with
    | zero =>
      intro n hn
      have hn : n = 10 := by omega
      subst hn
      rw [w86_24]
      simp (disch := (first | assumption | omega | exact Nat.le_of_ble_eq_true rfl | rfl)) only [w86_0, w86_1, w86_4, w86_5, w86_8, w86_11, w86_12, w86_15, w86_16, w86_19, w86_22, w86_23, w86_25, w86_27, w86_30, w86_31, w86_34, w86_35, w86_36, w86_37, w86_40, w86_41, w86_42, w86_45, w86_48, w86_51, w86_52, w86_53, w86_56, w86_59, w86_60, w86_61, w86_64, w86_67, Ko_n, Ko_v, vX_i, vX_r, vX_l, vX_j, reduceIte, show ((10 : Nat) : Int) = 10 from rfl, Int.le_refl, psB_t, scB_t, plB_t, upA_t]
      rfl
    | succ m ih =>
      intro n hn
      have ih' := ih (n + 1) (by omega)
      have q1 := ob_ps ha (i := n) (by omega)
      have q2 := ob_ps ho (i := n) (by omega)
      have q13 := ob_lt q1
      have q23 := ob_lt q2
      rw [w86_24]
      simp (disch := (first | assumption | omega | exact Nat.le_of_ble_eq_true rfl | rfl)) only [w86_0, w86_1, w86_4, w86_5, w86_8, w86_11, w86_12, w86_15, w86_16, w86_19, w86_22, w86_23, w86_25, w86_27, w86_30, w86_31, w86_34, w86_35, w86_36, w86_37, w86_40, w86_41, w86_42, w86_45, w86_48, w86_51, w86_52, w86_53, w86_56, w86_59, w86_60, w86_61, w86_64, w86_67, Ko_n, Ko_v, vX_i, vX_r, vX_l, vX_j, reduceIte, show ¬ (10 : Int) ≤ (n : Int) by omega, show ((n : Int)).toNat = n by omega]
      rw [c81 q1 q2]
      simp (disch := (first | assumption | omega | exact Nat.le_of_ble_eq_true rfl | rfl)) only [w86_0, w86_1, w86_4, w86_5, w86_8, w86_11, w86_12, w86_15, w86_16, w86_19, w86_22, w86_23, w86_25, w86_27, w86_30, w86_31, w86_34, w86_35, w86_36, w86_37, w86_40, w86_41, w86_42, w86_45, w86_48, w86_51, w86_52, w86_53, w86_56, w86_59, w86_60, w86_61, w86_64, w86_67, Ko_n, Ko_v, vX_i, vX_r, vX_l, vX_j, reduceIte]
      exact ih'
  rw [n86 _ _ _ _ _ _ _ ha]
  simp (disch := (first | assumption | omega | exact Nat.le_of_ble_eq_true rfl | rfl)) only [w86_0, w86_1, w86_4, w86_5, w86_8, w86_11, w86_12, w86_15, w86_16, w86_19, w86_22, w86_23, w86_25, w86_27, w86_30, w86_31, w86_34, w86_35, w86_36, w86_37, w86_40, w86_41, w86_42, w86_45, w86_48, w86_51, w86_52, w86_53, w86_56, w86_59, w86_60, w86_61, w86_64, w86_67, Ko_n, Ko_v, vX_i, vX_r, vX_l, vX_j, reduceIte]
  rw [c36 hp hp2 h0 h1]
  simp (disch := (first | assumption | omega | exact Nat.le_of_ble_eq_true rfl | rfl)) only [w86_0, w86_1, w86_4, w86_5, w86_8, w86_11, w86_12, w86_15, w86_16, w86_19, w86_22, w86_23, w86_25, w86_27, w86_30, w86_31, w86_34, w86_35, w86_36, w86_37, w86_40, w86_41, w86_42, w86_45, w86_48, w86_51, w86_52, w86_53, w86_56, w86_59, w86_60, w86_61, w86_64, w86_67, Ko_n, Ko_v, vX_i, vX_r, vX_l, vX_j, reduceIte]
  rw [c81 hn hn2]
  simp (disch := (first | assumption | omega | exact Nat.le_of_ble_eq_true rfl | rfl)) only [w86_0, w86_1, w86_4, w86_5, w86_8, w86_11, w86_12, w86_15, w86_16, w86_19, w86_22, w86_23, w86_25, w86_27, w86_30, w86_31, w86_34, w86_35, w86_36, w86_37, w86_40, w86_41, w86_42, w86_45, w86_48, w86_51, w86_52, w86_53, w86_56, w86_59, w86_60, w86_61, w86_64, w86_67, Ko_n, Ko_v, vX_i, vX_r, vX_l, vX_j, reduceIte]
  exact loop 10 0 (by omega)
